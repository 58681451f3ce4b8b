theorem ad_0 (x : Int32) : x + 0 = x := Int32.add_zero x
