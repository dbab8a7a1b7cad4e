theorem xm1_lt {k : Nat} (h : k < 2147483648) : (-1 : Int32) < nI k := Int32.lt_of_lt_of_le (by decide) (nI_pos' h)
