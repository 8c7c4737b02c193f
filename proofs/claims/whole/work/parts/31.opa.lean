theorem rf_7 (g : mm_I) (w : Nat) : rfM g w 7 = g 7 := rfl
theorem rf_13 (g : mm_I) (w : Nat) : rfM g w 13 = g 13 := rfl
theorem rf_14 (g : mm_I) (w : Nat) : rfM g w 14 = g 14 := rfl
theorem rf_15 (g : mm_I) (w : Nat) : rfM g w 15 = g 15 := rfl
theorem rf_16 (g : mm_I) (w : Nat) : rfM g w 16 = g 16 := rfl
theorem rf_17 (g : mm_I) (w : Nat) : rfM g w 17 = g 17 := rfl
theorem rf_18 (g : mm_I) (w : Nat) : rfM g w 18 = g 18 := rfl
theorem rf_19 (g : mm_I) (w : Nat) : rfM g w 19 = g 19 := rfl
theorem rf_20 (g : mm_I) (w : Nat) : rfM g w 20 = g 20 := rfl
theorem rf_21 (g : mm_I) (w : Nat) : rfM g w 21 = g 21 := rfl
theorem rf_22 (g : mm_I) (w : Nat) : rfM g w 22 = g 22 := rfl
theorem rf_23 (g : mm_I) (w : Nat) : rfM g w 23 = g 23 := rfl
theorem rf_24 (g : mm_I) (w : Nat) : rfM g w 24 = g 24 := rfl
theorem rf_25 (g : mm_I) (w : Nat) : rfM g w 25 = g 25 := rfl
theorem rf_26 (g : mm_I) (w : Nat) : rfM g w 26 = g 26 := rfl
theorem rf_27 (g : mm_I) (w : Nat) : rfM g w 27 = g 27 := rfl
theorem rf_28 (g : mm_I) (w : Nat) : rfM g w 28 = g 28 := rfl
theorem rf_29 (g : mm_I) (w : Nat) : rfM g w 29 = g 29 := rfl
theorem rf_30 (g : mm_I) (w : Nat) : rfM g w 30 = g 30 := rfl
theorem rf_31 (g : mm_I) (w : Nat) : rfM g w 31 = g 31 := rfl
theorem rf_32 (g : mm_I) (w : Nat) : rfM g w 32 = g 32 := rfl
theorem rr_sz {g : mm_I} (R : RR g) : ∀ j, j < 6 → g 9 j = -1 ∨ ∃ n, n ≤ 40 ∧ g 9 j = nI n := fun j hj => (R j hj).1.elim (fun q => Or.inl q.1) (fun ⟨n, hn, q, _⟩ => Or.inr ⟨n, hn, q⟩)
theorem rr_szM {g : mm_I} (R : RR g) : ∀ j, j < 6 → g 14 j < 0 ∨ ∃ n, n ≤ 40 ∧ g 14 j = nI n := fun j hj => (R j hj).1.elim (fun q => Or.inl (by rw [q.2]; decide)) (fun ⟨n, hn, _, q⟩ => Or.inr ⟨n, hn, q⟩)
theorem rr_ms {g : mm_I} (R : RR g) {j : Nat} (hj : j < 6) (h : g 9 j = -1) : g 14 j < 0 := by
  rcases (R j hj).1 with q | ⟨n, hn, q, q2⟩
  · rw [q.2]; decide
  · exfalso
    rw [q] at h
    exact nI_pos (n := n) (by omega) (by rw [h]; decide)
theorem rr_ms' {g : mm_I} (R : RR g) {j : Nat} (hj : j < 6) (h : ¬ g 9 j = -1) : ¬ g 14 j < 0 ∧ g 14 j = g 9 j ∧ ∃ n, n ≤ 40 ∧ g 9 j = nI n := by
  rcases (R j hj).1 with q | ⟨n, hn, q, q2⟩
  · exact absurd q.1 h
  · exact ⟨by rw [q2]; exact nI_pos (by omega), by rw [q, q2], n, hn, q⟩
theorem rl_1 {g g' : mm_I} {h h' : mm_L} (R : Rl g h) (A : ∀ G, G ≠ 1 → Ag G g g') (r : RR g') (r7 : RH h') : Rl g' h' := ⟨r, R.2.1.c (A 2 (by decide)), R.2.2.1.c (A 3 (by decide)), R.2.2.2.1.c (A 4 (by decide)), R.2.2.2.2.1.c (A 5 (by decide)), R.2.2.2.2.2.1.c (A 6 (by decide)), r7⟩
theorem rl_2 {g g' : mm_I} {h h' : mm_L} (R : Rl g h) (A : ∀ G, G ≠ 2 → Ag G g g') (r : RT g') (r7 : RH h') : Rl g' h' := ⟨R.1.c (A 1 (by decide)), r, R.2.2.1.c (A 3 (by decide)), R.2.2.2.1.c (A 4 (by decide)), R.2.2.2.2.1.c (A 5 (by decide)), R.2.2.2.2.2.1.c (A 6 (by decide)), r7⟩
theorem rl_3 {g g' : mm_I} {h h' : mm_L} (R : Rl g h) (A : ∀ G, G ≠ 3 → Ag G g g') (r : RB g') (r7 : RH h') : Rl g' h' := ⟨R.1.c (A 1 (by decide)), R.2.1.c (A 2 (by decide)), r, R.2.2.2.1.c (A 4 (by decide)), R.2.2.2.2.1.c (A 5 (by decide)), R.2.2.2.2.2.1.c (A 6 (by decide)), r7⟩
theorem rl_4 {g g' : mm_I} {h h' : mm_L} (R : Rl g h) (A : ∀ G, G ≠ 4 → Ag G g g') (r : RC g') (r7 : RH h') : Rl g' h' := ⟨R.1.c (A 1 (by decide)), R.2.1.c (A 2 (by decide)), R.2.2.1.c (A 3 (by decide)), r, R.2.2.2.2.1.c (A 5 (by decide)), R.2.2.2.2.2.1.c (A 6 (by decide)), r7⟩
theorem rl_5 {g g' : mm_I} {h h' : mm_L} (R : Rl g h) (A : ∀ G, G ≠ 5 → Ag G g g') (r : RL5 g') (r7 : RH h') : Rl g' h' := ⟨R.1.c (A 1 (by decide)), R.2.1.c (A 2 (by decide)), R.2.2.1.c (A 3 (by decide)), R.2.2.2.1.c (A 4 (by decide)), r, R.2.2.2.2.2.1.c (A 6 (by decide)), r7⟩
theorem rl_h {g : mm_I} {h h' : mm_L} (R : Rl g h) (r7 : RH h') : Rl g h' := ⟨R.1, R.2.1, R.2.2.1, R.2.2.2.1, R.2.2.2.2.1, R.2.2.2.2.2.1, r7⟩
theorem rh_ask {h : mm_L} {x y : Int64} (R : RH h) (e : x = y) : RH (upL (upL h 0 8 x) 7 2 y) := ⟨e, R.2.1, R.2.2⟩
theorem rh_tell {h : mm_L} {u l : Int64} (R : RH h) : RH (tlM (tlC h u l) u l) := ⟨R.1, rfl, rfl⟩
theorem rl_ask {g : mm_I} {h : mm_L} {x y : Int64} (R : Rl g h) (e : x = y) : Rl g (upL (upL h 0 8 x) 7 2 y) := rl_h R (rh_ask R.2.2.2.2.2.2 e)
theorem rl_tell {g : mm_I} {h : mm_L} {u l : Int64} (R : Rl g h) : Rl g (tlM (tlC h u l) u l) := rl_h R (rh_tell R.2.2.2.2.2.2)
theorem rl_lay {g : mm_I} {h : mm_L} (R : Rl g h) {j d : Nat} (hj : j < 6) (hd : d < 40) {v : Int32} (hv : BdI v 100000) : Rl (up2 (up2 g (39 + j) d v) 15 (40 * j + d) v) (upL (upL h 0 8 (g (39 + j) d).toInt64) 7 2 (g 15 (40 * j + d)).toInt64) := by
  refine rl_1 R (fun G hG => (Ag.up (by rw [gr_39 hj]; exact hG.symm)).up' (by show (1 : Nat) ≠ G; exact hG.symm)) (fun j' hj' => ?_) (rh_ask R.2.2.2.2.2.2 (by rw [((R.1 j hj).2 d hd).1]))
  obtain ⟨h1, h2⟩ := R.1 j' hj'
  have n39 : ∀ x, x ≠ 39 + j → x ≠ 15 → up2 (up2 g (39 + j) d v) 15 (40 * j + d) v x = g x := fun x e1 e2 => by rw [up2_n _ _ _ e2, up2_n _ _ _ e1]
  rw [n39 9 (by omega) (by decide), n39 14 (by omega) (by decide)]
  refine ⟨h1, fun i hi => ?_⟩
  obtain ⟨h3, h4⟩ := h2 i hi
  by_cases ej : j' = j
  · subst ej
    rw [up2_n _ _ _ (show 39 + j' ≠ 15 by omega)]
    by_cases ei : i = d
    · subst ei
      rw [up2_ss, up2_ss]
      exact ⟨rfl, hv⟩
    · rw [up2_sn _ _ _ ei, up2_sn _ _ _ (show 40 * j' + i ≠ 40 * j' + d by omega), up2_n _ _ _ (show 15 ≠ 39 + j' by omega)]
      exact ⟨h3, h4⟩
  · rw [n39 (39 + j') (by omega) (by omega), up2_sn _ _ _ (show 40 * j' + i ≠ 40 * j + d by omega), up2_n _ _ _ (show 15 ≠ 39 + j by omega)]
    exact ⟨h3, h4⟩
theorem rl_tear {g : mm_I} {h : mm_L} (R : Rl g h) {j : Nat} (hj : j < 6) : Rl (up2 (up2 g 9 j (-1)) 14 j (-9)) h := by
  refine rl_1 R (fun G hG => (Ag.up (by show (1 : Nat) ≠ G; exact hG.symm)).up' (by show (1 : Nat) ≠ G; exact hG.symm)) (fun j' hj' => ?_) R.2.2.2.2.2.2
  obtain ⟨h1, h2⟩ := R.1 j' hj'
  refine ⟨?_, fun i hi => ?_⟩
  · rw [up2_n _ _ _ (show 9 ≠ 14 by decide), up2_s, up2_s]
    by_cases ej : j' = j
    · subst ej
      rw [pk_us, pk_us]
      exact Or.inl ⟨rfl, rfl⟩
    · rw [pk_un ej, pk_un ej]
      exact h1
  · rw [up2_n _ _ _ (show 39 + j' ≠ 14 by omega), up2_n _ _ _ (show 39 + j' ≠ 9 by omega)]
    exact h2 i hi
theorem rl_row {g : mm_I} {h : mm_L} (R : Rl g h) {j n : Nat} (hj : j < 6) (hn : n ≤ 40) : Rl (mkM (mkC g j (nI n)) j (nI n)) h := by
  have e9 : mkM (mkC g j (nI n)) j (nI n) 9 = upd (g 9) j (nI n) := by
    unfold mkM flM
    rw [if_neg (by decide), up2_n _ _ _ (by decide)]
    unfold mkC
    rw [up2_s]
    unfold fillM
    rw [if_neg (by omega)]
  have e14 : mkM (mkC g j (nI n)) j (nI n) 14 = upd (g 14) j (nI n) := by
    unfold mkM flM
    rw [if_neg (by decide), up2_s]
    unfold mkC
    rw [up2_n _ _ _ (by decide)]
    unfold fillM
    rw [if_neg (by omega)]
  have e15 : ∀ b, mkM (mkC g j (nI n)) j (nI n) 15 b = if 40 * j ≤ b ∧ b < 40 * j + 40 then 0 else g 15 b := fun b => by
    unfold mkM flM
    rw [if_pos rfl, up2_n _ _ _ (by decide)]
    unfold mkC
    rw [up2_n _ _ _ (by decide)]
    unfold fillM
    rw [if_neg (show ¬ 15 = 39 + j by omega)]
  have ex : ∀ x, x ≠ 9 → x ≠ 14 → x ≠ 15 → x ≠ 39 + j → mkM (mkC g j (nI n)) j (nI n) x = g x := fun x a b c d => by
    unfold mkM flM
    rw [if_neg c, up2_n _ _ _ b]
    unfold mkC
    rw [up2_n _ _ _ a]
    unfold fillM
    rw [if_neg d]
  have ej : ∀ b, b < 40 → mkM (mkC g j (nI n)) j (nI n) (39 + j) b = 0 := fun b hb => by
    unfold mkM flM
    rw [if_neg (by omega), up2_n _ _ _ (by omega)]
    unfold mkC
    rw [up2_n _ _ _ (by omega)]
    unfold fillM
    rw [if_pos rfl, if_pos hb]
  refine rl_1 R (fun G hG k i hk => ?_) (fun j' hj' => ?_) R.2.2.2.2.2.2
  · by_cases a9 : k = 9
    · subst a9; exact absurd hk hG.symm
    by_cases a14 : k = 14
    · subst a14; exact absurd hk hG.symm
    by_cases a15 : k = 15
    · subst a15; exact absurd hk hG.symm
    by_cases aj : k = 39 + j
    · subst aj; rw [gr_39 hj] at hk; exact absurd hk hG.symm
    rw [ex k a9 a14 a15 aj]
  · obtain ⟨h1, h2⟩ := R.1 j' hj'
    rw [e9, e14]
    by_cases e : j' = j
    · subst e
      rw [pk_us, pk_us]
      refine ⟨Or.inr ⟨n, hn, rfl, rfl⟩, fun i hi => ?_⟩
      rw [ej i hi, e15, if_pos (by omega)]
      exact ⟨rfl, by unfold BdI; decide⟩
    · rw [pk_un e, pk_un e]
      refine ⟨h1, fun i hi => ?_⟩
      rw [ex (39 + j') (by omega) (by omega) (by omega) (by omega), e15, if_neg (by omega)]
      exact h2 i hi
theorem BdI.w {v : Int32} (h : ¬ v < -100000 ∧ ¬ 100000 < v) : BdI v 100000 := BdI.of h (by decide) (by decide)
theorem BdI.y {v : Int32} (h : ¬ v < -10000 ∧ ¬ 10000 < v) : BdI v 10000 := BdI.of h (by decide) (by decide)
theorem BdI.x {v : Int32} (h : ¬ v < -20 ∧ ¬ 20 < v) : BdI v 20 := BdI.of h (by decide) (by decide)
theorem op_asked (E : mm_E) (g : mm_I) (h : mm_L) (R : Rl g h) : OpL E yX6_asked wsX6_asked 0 0 yX7_asked wsX7_asked 0 0 [] g h := by
  have A := c_X6_asked E g h
  have B := c_X7_asked E g h
  rw [← R.2.2.2.2.2.2.1] at B
  exact ⟨_, _, _, _, _, A, B, R⟩
theorem op_upper (E : mm_E) (g : mm_I) (h : mm_L) (R : Rl g h) : OpL E yX6_upper wsX6_upper 0 0 yX7_upper wsX7_upper 0 0 [] g h := by
  have A := c_X6_upper E g h
  have B := c_X7_upper E g h
  rw [← R.2.2.2.2.2.2.2.1] at B
  exact ⟨_, _, _, _, _, A, B, R⟩
theorem op_lower (E : mm_E) (g : mm_I) (h : mm_L) (R : Rl g h) : OpL E yX6_lower wsX6_lower 0 0 yX7_lower wsX7_lower 0 0 [] g h := by
  have A := c_X6_lower E g h
  have B := c_X7_lower E g h
  rw [← R.2.2.2.2.2.2.2.2] at B
  exact ⟨_, _, _, _, _, A, B, R⟩
theorem op_finding (E : mm_E) (g : mm_I) (h : mm_L) (R : Rl g h) : OpI E yX6_finding wsX6_finding 0 0 yX7_finding wsX7_finding 0 0 [] g h := by
  have A := c_X6_finding E g h
  have B := c_X7_finding E g h
  rw [← R.2.2.2.2.2.1.1] at B
  exact ⟨_, _, _, _, _, A, B, R⟩
theorem op_findings (a0 : Int32) (E : mm_E) (g : mm_I) (h : mm_L) (R : Rl g h) : OpI E yX6_findings wsX6_findings 1 22 yX7_findings wsX7_findings 1 22 [.int a0] g h := by
  by_cases q1 : ¬ a0 < 1 ∧ ¬ 5 < a0
  · obtain ⟨d, hd, ed⟩ := fi_nat q1
    have cd : a0.toNatClampNeg = d := by rw [ed]; exact cl_nI (by omega)
    have A := c_X6_findings E g h a0
    have B := c_X7_findings E g h a0
    simp only [dFi, if_pos q1, cd] at A B
    rw [← R.2.2.2.2.2.1.2 d (by omega)] at B
    exact ⟨_, _, _, _, _, A, B, R⟩
  · have A := c_X6_findings E g h a0
    have B := c_X7_findings E g h a0
    simp only [dFi, if_neg q1] at A B
    exact ⟨_, _, _, _, _, A, B, R⟩
theorem op_row (a0 a1 : Int32) (E : mm_E) (g : mm_I) (h : mm_L) (R : Rl g h) : OpI E yX6_row wsX6_row 2 45 yX7_row wsX7_row 2 42 [.int a0, .int a1] g h := by
  by_cases q1 : ¬ a0 < 0 ∧ ¬ 5 < a0
  · by_cases q2 : a1 ≤ 40
    · by_cases q3 : 0 ≤ a1
      · obtain ⟨j, hj, ej⟩ := to_nat (M := 5) (m := 5) rfl q1
        obtain ⟨n, hn, en⟩ := to_nat (M := 40) (m := 40) rfl ⟨Int32.not_lt.mpr q3, Int32.not_lt.mpr q2⟩
        have cj : a0.toNatClampNeg = j := by rw [ej]; exact cl_nI (by omega)
        have R2 := rl_row R (show j < 6 by omega) hn
        rw [← cj, ← en] at R2
        have A := c_X6_row E g h a0 a1
        have B := c_X7_row E (mkC g a0.toNatClampNeg a1) h a0 a1
        simp only [dRow, if_pos q1, if_pos q2, if_pos q3] at A B
        exact ⟨_, _, _, _, _, A, B, R2⟩
      · have A := c_X6_row E g h a0 a1
        have B := c_X7_row E (rfM g 5) h a0 a1
        simp only [dRow, if_pos q1, if_pos q2, if_neg q3] at A B
        exact ⟨_, _, _, _, _, A, B, rl_refuse 5 (by decide) R⟩
    · have A := c_X6_row E g h a0 a1
      have B := c_X7_row E g h a0 a1
      simp only [dRow, if_pos q1, if_neg q2] at A B
      exact ⟨_, _, _, _, _, A, B, R⟩
  · have A := c_X6_row E g h a0 a1
    have B := c_X7_row E g h a0 a1
    simp only [dRow, if_neg q1] at A B
    exact ⟨_, _, _, _, _, A, B, R⟩
theorem op_lay (a0 a1 a2 : Int32) (E : mm_E) (g : mm_I) (h : mm_L) (R : Rl g h) : OpI E yX6_lay wsX6_lay 2 45 yX7_lay wsX7_lay 3 63 [.int a0, .int a1, .int a2] g h := by
  have rr := R.1
  by_cases q1 : ¬ a0 < 0 ∧ ¬ 5 < a0
  · obtain ⟨j, hj, ej⟩ := to_nat (M := 5) (m := 5) rfl q1
    have cj : a0.toNatClampNeg = j := by rw [ej]; exact cl_nI (by omega)
    by_cases q2 : ¬ a2 < -100000 ∧ ¬ 100000 < a2
    · by_cases q3 : g 9 j = -1
      · have m3 := rr_ms rr (show j < 6 by omega) q3
        have A := c_X6_lay E g h a0 a1 a2 (rr_sz rr)
        have B := c_X7_lay E (rfM g 1) h a0 a1 a2 (rr_szM (g := g) rr)
        simp only [dLay, if_pos q1, cj, if_pos q2, if_pos q3, if_pos m3, rf_14, rf_15] at A B
        exact ⟨_, _, _, _, _, A, B, rl_refuse 1 (by decide) R⟩
      · obtain ⟨m3, e, n, hn, en⟩ := rr_ms' rr (show j < 6 by omega) q3
        by_cases q4 : ¬ a1 < 0 ∧ ¬ g 9 j - 1 < a1
        · have m4 : ¬ a1 < 0 ∧ ¬ g 14 j - 1 < a1 := by rw [e]; exact q4
          obtain ⟨d, hd, ed⟩ := has_nat (n := n) (by omega) (by rw [← en]; exact q4)
          have cd : a1.toNatClampNeg = d := by rw [ed]; exact cl_nI (by omega)
          have e14 : up2 g (39 + j) d a2 14 = g 14 := up2_n _ _ _ (by omega)
          have e15 : up2 g (39 + j) d a2 15 = g 15 := up2_n _ _ _ (by omega)
          have A := c_X6_lay E g h a0 a1 a2 (rr_sz rr)
          have B := c_X7_lay E (up2 g (39 + j) d a2) (upL h 0 8 (g (39 + j) d).toInt64) a0 a1 a2 (by rw [e14]; exact rr_szM rr)
          simp only [dLay, if_pos q1, cj, if_pos q2, if_neg q3, if_neg m3, if_pos q4, if_pos m4, cd, e14, e15] at A B
          exact ⟨_, _, _, _, _, A, B, rl_lay R (by omega) (by omega) (BdI.w q2)⟩
        · have m4 : ¬ (¬ a1 < 0 ∧ ¬ g 14 j - 1 < a1) := by rw [e]; exact q4
          have A := c_X6_lay E g h a0 a1 a2 (rr_sz rr)
          have B := c_X7_lay E (rfM g 2) h a0 a1 a2 (rr_szM (g := g) rr)
          simp only [dLay, if_pos q1, cj, if_pos q2, if_neg q3, if_neg m3, if_neg q4, if_neg m4, rf_14, rf_15] at A B
          exact ⟨_, _, _, _, _, A, B, rl_refuse 2 (by decide) R⟩
    · have A := c_X6_lay E g h a0 a1 a2 (rr_sz rr)
      have B := c_X7_lay E g h a0 a1 a2 (rr_szM (g := g) rr)
      simp only [dLay, if_pos q1, cj, if_neg q2] at A B
      exact ⟨_, _, _, _, _, A, B, R⟩
  · have A := c_X6_lay E g h a0 a1 a2 (rr_sz rr)
    have B := c_X7_lay E g h a0 a1 a2 (rr_szM (g := g) rr)
    simp only [dLay, if_neg q1] at A B
    exact ⟨_, _, _, _, _, A, B, R⟩
theorem op_tear (a0 : Int32) (E : mm_E) (g : mm_I) (h : mm_L) (R : Rl g h) : OpI E yX6_tear wsX6_tear 2 43 yX7_tear wsX7_tear 3 63 [.int a0] g h := by
  have rr := R.1
  by_cases q1 : ¬ a0 < 0 ∧ ¬ 5 < a0
  · obtain ⟨j, hj, ej⟩ := to_nat (M := 5) (m := 5) rfl q1
    have cj : a0.toNatClampNeg = j := by rw [ej]; exact cl_nI (by omega)
    by_cases q3 : g 9 j = -1
    · have m3 := rr_ms rr (show j < 6 by omega) q3
      have A := c_X6_tear E g h a0
      have B := c_X7_tear E (rfM g 1) h a0
      simp only [dTear, if_pos q1, cj, if_pos q3, if_pos m3, rf_14, rf_15] at A B
      exact ⟨_, _, _, _, _, A, B, rl_refuse 1 (by decide) R⟩
    · obtain ⟨m3, e, n, hn, en⟩ := rr_ms' rr (show j < 6 by omega) q3
      have A := c_X6_tear E g h a0
      have B := c_X7_tear E (up2 g 9 j (-1)) h a0
      simp only [dTear, if_pos q1, cj, if_neg q3, if_neg m3, up2_n g j (-1) (show 14 ≠ 9 by decide)] at A B
      exact ⟨_, _, _, _, _, A, B, rl_tear R (by omega)⟩
  · have A := c_X6_tear E g h a0
    have B := c_X7_tear E g h a0
    simp only [dTear, if_neg q1] at A B
    exact ⟨_, _, _, _, _, A, B, R⟩
