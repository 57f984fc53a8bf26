theorem pure_law (sa : SAT) (h : sa.2.1 ≤ 260) : fL_law sa = some () := sorry
