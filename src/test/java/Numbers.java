/** Numbers that lie outside a range: the least int, the one before it, the one behind it, and the greatest int. */
final class Numbers {
    static final int LEAST = Integer.MIN_VALUE;
    static final int GREATEST = Integer.MAX_VALUE;
    static final int LAST_DAY = 99999;
    static final int[] NO_DAYS = beyond(0, LAST_DAY);

    private Numbers() {
    }

    static int[] beyond(int least, int greatest) {
        return new int[] {LEAST, least - 1, greatest + 1, GREATEST};
    }

    static int[] fromTo(int least, int greatest) {
        int[] numbers = new int[greatest - least + 1];
        for (int i = 0; i < numbers.length; i++) {
            numbers[i] = least + i;
        }
        return numbers;
    }
}
