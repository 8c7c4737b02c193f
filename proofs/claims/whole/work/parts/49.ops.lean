theorem op_plateau (a0 a1 a2 : Int32) (E : mm_E) (g : mm_I) (h : mm_L) (R : Rl g h) : OpI E yX6_plateau wsX6_plateau 3 81 yX7_plateau wsX7_plateau 3 77 [.int a0, .int a1, .int a2] g h := by
  sorry
theorem op_curve (a0 a1 : Int32) (E : mm_E) (g : mm_I) (h : mm_L) (R : Rl g h) : OpI E yX6_curve wsX6_curve 4 102 yX7_curve wsX7_curve 4 111 [.int a0, .int a1] g h := by
  sorry
theorem op_apart (a0 a1 a2 a3 : Int32) (E : mm_E) (g : mm_I) (h : mm_L) (R : Rl g h) : OpI E yX6_apart wsX6_apart 4 102 yX7_apart wsX7_apart 4 111 [.int a0, .int a1, .int a2, .int a3] g h := by
  sorry
theorem op_due (a0 : Int32) (E : mm_E) (g : mm_I) (h : mm_L) (R : Rl g h) : OpI E yX6_due wsX6_due 5 115 yX7_due wsX7_due 4 111 [.int a0] g h := by
  sorry
