theorem chk_all {mid : Nat} (h : mid < NM) : chkM mid = true := sorry
theorem thr_0 : ((jx_atoms "RegexTracer" (icX 0) (exN 0) (ixX 0) (bxX 0)).filter vx_no).all inT = true := sorry
theorem thr_1 : ((jx_atoms "RegexTracer" (icX 1) (exN 1) (ixX 1) (bxX 1)).filter vx_no).all inT = true := sorry
theorem thr_2 : ((jx_atoms "RegexTracer" (icX 2) (exN 2) (ixX 2) (bxX 2)).filter vx_no).all inT = true := sorry
theorem thr_3 : ((jx_atoms "RegexTracer" (icX 3) (exN 3) (ixX 3) (bxX 3)).filter vx_no).all inT = true := sorry
theorem thr_4 : ((jx_atoms "RegexTracer" (icX 4) (exN 4) (ixX 4) (bxX 4)).filter vx_no).all inT = true := sorry
