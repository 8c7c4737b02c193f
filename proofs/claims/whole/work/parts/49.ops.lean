theorem op_copy (a0 a1 a2 a3 a4 : Int32) (E : mm_E) (g : mm_I) (h : mm_L) (R : Rl g h) : OpI E yX6_copy wsX6_copy 2 85 yX7_copy wsX7_copy 2 42 [.int a0, .int a1, .int a2, .int a3, .int a4] g h := by
  sorry
theorem op_mean (a0 : Int32) (E : mm_E) (g : mm_I) (h : mm_L) (R : Rl g h) : OpI E yX6_mean wsX6_mean 2 43 yX7_mean wsX7_mean 3 63 [.int a0] g h := by
  sorry
theorem op_plateau (a0 a1 a2 : Int32) (E : mm_E) (g : mm_I) (h : mm_L) (R : Rl g h) : OpI E yX6_plateau wsX6_plateau 3 81 yX7_plateau wsX7_plateau 3 77 [.int a0, .int a1, .int a2] g h := by
  sorry
theorem op_curve (a0 a1 : Int32) (E : mm_E) (g : mm_I) (h : mm_L) (R : Rl g h) : OpI E yX6_curve wsX6_curve 4 102 yX7_curve wsX7_curve 4 111 [.int a0, .int a1] g h := by
  sorry
theorem op_apart (a0 a1 a2 a3 : Int32) (E : mm_E) (g : mm_I) (h : mm_L) (R : Rl g h) : OpI E yX6_apart wsX6_apart 4 102 yX7_apart wsX7_apart 4 111 [.int a0, .int a1, .int a2, .int a3] g h := by
  sorry
theorem op_compare (a0 a1 : Int32) (E : mm_E) (g : mm_I) (h : mm_L) (R : Rl g h) : OpI E yX6_compare wsX6_compare 3 81 yX7_compare wsX7_compare 3 77 [.int a0, .int a1] g h := by
  sorry
theorem op_due (a0 : Int32) (E : mm_E) (g : mm_I) (h : mm_L) (R : Rl g h) : OpI E yX6_due wsX6_due 5 115 yX7_due wsX7_due 4 111 [.int a0] g h := by
  sorry
theorem op_digest (E : mm_E) (g : mm_I) (h : mm_L) (R : Rl g h) : OpL E yX6_digest wsX6_digest 4 90 yX7_digest wsX7_digest 3 71 [] g h := by
  sorry
