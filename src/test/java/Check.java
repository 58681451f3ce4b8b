import java.util.function.IntPredicate;
import java.util.function.IntUnaryOperator;

/** Compares answers with those that are due, prints each that is not, and ends with exit code 1 if there was one. */
final class Check {
    private int wrong = 0;

    void due(String call, int got, int want) {
        if (got != want) {
            tell(call, String.valueOf(got), String.valueOf(want));
        }
    }

    void due(String call, boolean got, boolean want) {
        if (got != want) {
            tell(call, String.valueOf(got), String.valueOf(want));
        }
    }

    void dueText(String call, String got, String want) {
        if (!got.equals(want)) {
            tell(call, got, want);
        }
    }

    /** One answer for each of some numbers; the # in the call's text stands for the number. */
    void dueEach(String call, int want, IntUnaryOperator got, int... numbers) {
        for (int number : numbers) {
            due(call.replace("#", String.valueOf(number)), got.applyAsInt(number), want);
        }
    }

    void dueEach(String call, boolean want, IntPredicate got, int... numbers) {
        for (int number : numbers) {
            due(call.replace("#", String.valueOf(number)), got.test(number), want);
        }
    }

    /** An ArithmeticException by a throw statement: that of a division by zero would be the machine's own. */
    void dueThrow(String call, Runnable made) {
        String got = "nothing";
        try {
            made.run();
        } catch (RuntimeException thrown) {
            boolean byMachine = "/ by zero".equals(thrown.getMessage());
            got = thrown.getClass().getSimpleName() + (byMachine ? " of the machine" : "");
        }
        dueText(call + " throws", got, "ArithmeticException");
    }

    /** All that slip tells of a slip, from what 0 on. */
    void dueSlip(TransitRows rows, int slip, int... want) {
        for (int what = 0; what < want.length; what++) {
            due("slip(" + slip + ", " + what + ")", rows.slip(slip, what), want[what]);
        }
    }

    /** All that where tells of a copy. */
    void dueWhere(TransitRows rows, int copy, int stands, int home, int slip) {
        due("where(" + copy + ", 0)", rows.where(copy, 0), stands);
        due("where(" + copy + ", 1)", rows.where(copy, 1), home);
        due("where(" + copy + ", 2)", rows.where(copy, 2), slip);
    }

    /** The answers of bin(from, to, 0), bin(from, to, 1) .. and, behind them, that there is no more. */
    void dueBin(TransitRows rows, int from, int to, int... want) {
        for (int i = 0; i < want.length; i++) {
            due("bin(" + from + ", " + to + ", " + i + ")", rows.bin(from, to, i), want[i]);
        }
        due("bin behind the last", rows.bin(from, to, want.length), 0);
    }

    void dueLoaded(TransitRows rows, int load, int... want) {
        for (int i = 0; i < want.length; i++) {
            due("loaded(" + load + ", " + i + ")", rows.loaded(load, i), want[i]);
        }
        due("loaded behind the last", rows.loaded(load, want.length), 0);
    }

    void dueMissing(TransitRows rows, int load, int... want) {
        for (int i = 0; i < want.length; i++) {
            due("missing(" + load + ", " + i + ")", rows.missing(load, i), want[i]);
        }
        due("missing behind the last", rows.missing(load, want.length), 0);
    }

    /** All that is told: pairs of a reason and a slip. */
    void dueTold(TransitRows rows, int... want) {
        for (int i = 0; i < want.length / 2; i++) {
            due("told(" + i + ", 0)", rows.told(i, 0), want[2 * i]);
            due("told(" + i + ", 1)", rows.told(i, 1), want[2 * i + 1]);
        }
        due("told behind the last", rows.told(want.length / 2, 0), TransitRows.NONE);
    }

    void end() {
        if (wrong > 0) {
            System.out.println(wrong + " answers are not as due");
            System.exit(1);
        }
    }

    private void tell(String call, String got, String want) {
        wrong++;
        StackTraceElement[] trace = new Throwable().getStackTrace();
        StackTraceElement caller = trace[0];
        for (StackTraceElement element : trace) {
            if (!element.getClassName().equals("Check")) {
                caller = element;
                break;
            }
        }
        System.out.println(caller.getFileName() + ":" + caller.getLineNumber()
            + ": " + call + " answered " + got + ", due is " + want);
    }
}
