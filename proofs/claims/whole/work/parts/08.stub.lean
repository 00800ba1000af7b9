theorem chk_all {mid : Nat} (h : mid < NM) : chkM mid = true := sorry
