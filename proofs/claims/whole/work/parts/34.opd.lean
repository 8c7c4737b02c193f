theorem rl_1z {g g' : mm_I} {h h' : mm_L} (R : Rl g h) (A : ∀ G, G ≠ 1 → G ≠ 0 → Ag G g g') (r : RR g') (r7 : RH h') : Rl g' h' := ⟨r, R.2.1.c (A 2 (by decide) (by decide)), R.2.2.1.c (A 3 (by decide) (by decide)), R.2.2.2.1.c (A 4 (by decide) (by decide)), R.2.2.2.2.1.c (A 5 (by decide) (by decide)), R.2.2.2.2.2.1.c (A 6 (by decide) (by decide)), r7⟩
theorem rl_copy {g : mm_I} {h : mm_L} (R : Rl g h) {p q a b z : Nat} (hp : p < 6) (hq : q < 6) (ha : a + z ≤ 40) (hb : b + z ≤ 40) : Rl (cpMM (cpM g (39 + p) (39 + q) a b z) p a q b z) h := by
  obtain ⟨G1, e1⟩ : ∃ G1, G1 = cpM g (39 + p) (39 + q) a b z := ⟨_, rfl⟩
  have o1 : ∀ k, k ≠ 39 + q → G1 k = g k := fun k hk => by rw [e1]; exact if_neg hk
  have s1 : G1 (39 + q) = va_cpy (g (39 + p)) (g (39 + q)) a b z := by rw [e1]; exact if_pos rfl
  have o2 : ∀ k, k ≠ 15 → k ≠ 16 → cpMM G1 p a q b z k = G1 k := fun k h15 h16 => by
    unfold cpMM putM
    rw [if_neg h15, if_neg h16]
  have s2 : ∀ i, cpMM G1 p a q b z 15 i = if 40 * q + b ≤ i ∧ i < 40 * q + b + z then g 15 (40 * p + a + (i - (40 * q + b))) else g 15 i := fun i => by
    unfold cpMM putM
    rw [if_pos rfl, if_neg (show ¬ 15 = 16 by decide), o1 15 (by omega)]
    rfl
  rw [← e1]
  refine rl_1z R (fun G hG hG0 k j hk => ?_) (fun j hj => ?_) R.2.2.2.2.2.2
  · by_cases h15 : k = 15
    · subst h15; exact absurd hk hG.symm
    by_cases h16 : k = 16
    · subst h16; exact absurd hk hG0.symm
    rw [o2 k h15 h16]
    by_cases hkq : k = 39 + q
    · subst hkq; rw [gr_39 hq] at hk; exact absurd hk hG.symm
    rw [o1 k hkq]
  · obtain ⟨h1, h2⟩ := R.1 j hj
    rw [o2 9 (by decide) (by decide), o1 9 (by omega), o2 14 (by decide) (by decide), o1 14 (by omega)]
    refine ⟨h1, fun i hi => ?_⟩
    rw [o2 (39 + j) (by omega) (by omega), s2]
    by_cases ej : j = q
    · subst ej
      rw [s1]
      unfold va_cpy
      by_cases c : b ≤ i ∧ i < b + z
      · obtain ⟨h3, h4⟩ := (R.1 p hp).2 (a + (i - b)) (by omega)
        rw [if_pos c, if_pos (by omega), h3, show 40 * p + a + (40 * j + i - (40 * j + b)) = 40 * p + (a + (i - b)) by omega, ← h3]
        exact ⟨rfl, h4⟩
      · rw [if_neg c, if_neg (by omega)]
        exact h2 i hi
    · rw [o1 _ (by omega), if_neg (by omega)]
      exact h2 i hi
theorem op_copy (a0 a1 a2 a3 a4 : Int32) (E : mm_E) (g : mm_I) (h : mm_L) (R : Rl g h) : OpI E yX6_copy wsX6_copy 2 85 yX7_copy wsX7_copy 2 42 [.int a0, .int a1, .int a2, .int a3, .int a4] g h := by
  have rr := R.1
  by_cases q1 : ¬ a0 < 0 ∧ ¬ 5 < a0
  · obtain ⟨j, hj, ej⟩ := to_nat (M := 5) (m := 5) rfl q1
    have cj : a0.toNatClampNeg = j := by rw [ej]; exact cl_nI (by omega)
    by_cases q2 : ¬ a2 < 0 ∧ ¬ 5 < a2
    · obtain ⟨k, hk, ek⟩ := to_nat (M := 5) (m := 5) rfl q2
      have ck : a2.toNatClampNeg = k := by rw [ek]; exact cl_nI (by omega)
      by_cases q3 : 0 ≤ a4
      · by_cases q4 : g 9 j = -1
        · have m4 := rr_ms rr (show j < 6 by omega) q4
          have A := c_X6_copy E g h a0 a1 a2 a3 a4 (rr_sz rr)
          have B := c_X7_copy E (rfM g 1) h a0 a1 a2 a3 a4 (rr_szM (g := g) rr)
          simp only [dCopy, if_pos q1, cj, if_pos q2, ck, if_pos q3, if_pos q4, if_pos m4, rf_14, rf_15] at A B
          exact ⟨_, _, _, _, _, A, B, rl_refuse 1 (by decide) R⟩
        · obtain ⟨m4, e, n, hn, en⟩ := rr_ms' rr (show j < 6 by omega) q4
          by_cases q5 : g 9 k = -1
          · have m5 := rr_ms rr (show k < 6 by omega) q5
            have A := c_X6_copy E g h a0 a1 a2 a3 a4 (rr_sz rr)
            have B := c_X7_copy E (rfM g 1) h a0 a1 a2 a3 a4 (rr_szM (g := g) rr)
            simp only [dCopy, if_pos q1, cj, if_pos q2, ck, if_pos q3, if_neg q4, if_neg m4, if_pos q5, if_pos m5, rf_14, rf_15] at A B
            exact ⟨_, _, _, _, _, A, B, rl_refuse 1 (by decide) R⟩
          · obtain ⟨m5, e', n', hn', en'⟩ := rr_ms' rr (show k < 6 by omega) q5
            by_cases q6 : cFit (g 9 j) a1 a4
            · have m6 : cFit (g 14 j) a1 a4 := by rw [e]; exact q6
              by_cases q7 : cFit (g 9 k) a3 a4
              · have m7 : cFit (g 14 k) a3 a4 := by rw [e']; exact q7
                obtain ⟨a, z, ea, ez, haz⟩ := fit_nat hn (by rw [← en]; exact q6)
                obtain ⟨b, z', eb, ez', hbz⟩ := fit_nat hn' (by rw [← en']; exact q7)
                have hz : z' = z := (nI_eq (by omega) (by omega)).mp (ez'.symm.trans ez)
                subst hz
                have ca : a1.toNatClampNeg = a := by rw [ea]; exact cl_nI (by omega)
                have cb : a3.toNatClampNeg = b := by rw [eb]; exact cl_nI (by omega)
                have cz : a4.toNatClampNeg = z' := by rw [ez]; exact cl_nI (by omega)
                have e14 : cpM g (39 + j) (39 + k) a b z' 14 = g 14 := if_neg (by omega)
                have A := c_X6_copy E g h a0 a1 a2 a3 a4 (rr_sz rr)
                have B := c_X7_copy E (cpM g (39 + j) (39 + k) a b z') h a0 a1 a2 a3 a4 (by rw [e14]; exact rr_szM rr)
                simp only [dCopy, e14, ca, cb, cz, if_pos q1, cj, if_pos q2, ck, if_pos q3, if_neg q4, if_neg m4, if_neg q5, if_neg m5, if_pos q6, if_pos m6, if_pos q7, if_pos m7] at A B
                exact ⟨_, _, _, _, _, A, B, rl_copy R (by omega) (by omega) (by omega) (by omega)⟩
              · have m7 : ¬ cFit (g 14 k) a3 a4 := by rw [e']; exact q7
                have A := c_X6_copy E g h a0 a1 a2 a3 a4 (rr_sz rr)
                have B := c_X7_copy E (rfM g 2) h a0 a1 a2 a3 a4 (rr_szM (g := g) rr)
                simp only [dCopy, if_pos q1, cj, if_pos q2, ck, if_pos q3, if_neg q4, if_neg m4, if_neg q5, if_neg m5, if_pos q6, if_pos m6, if_neg q7, if_neg m7, rf_14, rf_15] at A B
                exact ⟨_, _, _, _, _, A, B, rl_refuse 2 (by decide) R⟩
            · have m6 : ¬ cFit (g 14 j) a1 a4 := by rw [e]; exact q6
              have A := c_X6_copy E g h a0 a1 a2 a3 a4 (rr_sz rr)
              have B := c_X7_copy E (rfM g 2) h a0 a1 a2 a3 a4 (rr_szM (g := g) rr)
              simp only [dCopy, if_pos q1, cj, if_pos q2, ck, if_pos q3, if_neg q4, if_neg m4, if_neg q5, if_neg m5, if_neg q6, if_neg m6, rf_14, rf_15] at A B
              exact ⟨_, _, _, _, _, A, B, rl_refuse 2 (by decide) R⟩
      · have A := c_X6_copy E g h a0 a1 a2 a3 a4 (rr_sz rr)
        have B := c_X7_copy E (rfM g 5) h a0 a1 a2 a3 a4 (rr_szM (g := g) rr)
        simp only [dCopy, if_pos q1, cj, if_pos q2, ck, if_neg q3, rf_14, rf_15] at A B
        exact ⟨_, _, _, _, _, A, B, rl_refuse 5 (by decide) R⟩
    · have A := c_X6_copy E g h a0 a1 a2 a3 a4 (rr_sz rr)
      have B := c_X7_copy E g h a0 a1 a2 a3 a4 (rr_szM (g := g) rr)
      simp only [dCopy, if_pos q1, cj, if_neg q2] at A B
      exact ⟨_, _, _, _, _, A, B, R⟩
  · have A := c_X6_copy E g h a0 a1 a2 a3 a4 (rr_sz rr)
    have B := c_X7_copy E g h a0 a1 a2 a3 a4 (rr_szM (g := g) rr)
    simp only [dCopy, if_neg q1] at A B
    exact ⟨_, _, _, _, _, A, B, R⟩
theorem sHeld_cong {f f' : Nat → Int32} : ∀ {n : Nat}, (∀ i, i < n → f i = f' i) → sHeld f n = sHeld f' n
  | 0, _ => rfl
  | n + 1, h => by rw [sHeld, sHeld, sHeld_cong (n := n) (fun i hi => h i (by omega)), h n (by omega)]
theorem sum_eq {f f' : Nat → Int32} {n : Nat} (hn : n ≤ 40) (h : ∀ i, i < n → f i = f' i ∧ BdI (f i) 100000) : ∀ m, m ≤ n → BdI (sSum f 0 m) (100000 * m) ∧ (sSum f 0 m).toInt64 = sSumL f' m
  | 0, _ => ⟨(by decide : (0 : Int32).toInt.natAbs ≤ 0), rfl⟩
  | m + 1, hm => by
    obtain ⟨i1, i2⟩ := sum_eq hn h m (by omega)
    obtain ⟨e, b⟩ := h m (by omega)
    rw [sSum, sSumL, Nat.zero_add, ← e, ← i2]
    by_cases c : f m = -9
    · rw [if_pos c, if_pos c]
      refine ⟨?_, (Int64.add_zero _).symm⟩
      unfold BdI at *
      omega
    · rw [if_neg c, if_neg c]
      refine ⟨?_, ?_⟩
      · have := i1.add b (by omega)
        unfold BdI at *
        omega
      · rw [fa_eq64, toL, addIV i1 b (by omega), addV i1.L b.L (by omega), toL, toL]
theorem div_wide {x y : Int32} {B : Nat} (h : BdI x B) (hB : B < 2 ^ 31) : (x / y).toInt64 = x.toInt64 / y.toInt64 := by
  have n1 : x ≠ Int32.minValue := fun z => by
    unfold BdI at h
    rw [z] at h
    have : Int32.minValue.toInt = -2147483648 := by decide
    omega
  have n2 : x.toInt64 ≠ Int64.minValue := fun z => by
    have h2 := congrArg Int64.toInt z
    rw [toL] at h2
    have : Int64.minValue.toInt = -9223372036854775808 := by decide
    unfold BdI at h
    omega
  rw [fa_eq64, toL, Int32.toInt_div_of_ne_left _ _ n1, Int64.toInt_div_of_ne_left _ _ n2, toL, toL]
theorem op_mean (a0 : Int32) (E : mm_E) (g : mm_I) (h : mm_L) (R : Rl g h) : OpI E yX6_mean wsX6_mean 2 43 yX7_mean wsX7_mean 3 63 [.int a0] g h := by
  have rr := R.1
  by_cases q1 : ¬ a0 < 0 ∧ ¬ 5 < a0
  · obtain ⟨j, hj, ej⟩ := to_nat (M := 5) (m := 5) rfl q1
    have cj : a0.toNatClampNeg = j := by rw [ej]; exact cl_nI (by omega)
    by_cases q3 : g 9 j = -1
    · have m3 := rr_ms rr (show j < 6 by omega) q3
      have A := c_X6_mean E g h a0 (rr_sz rr)
      have B := c_X7_mean E (rfM g 1) h a0 (rr_szM (g := g) rr)
      simp only [dMean, if_pos q1, cj, if_pos q3, if_pos m3, rf_14, rf_15] at A B
      exact ⟨_, _, _, _, _, A, B, rl_refuse 1 (by decide) R⟩
    · obtain ⟨m3, e, n, hn, en⟩ := rr_ms' rr (show j < 6 by omega) q3
      have cn : (g 9 j).toNatClampNeg = n := by rw [en]; exact cl_nI (by omega)
      have cn2 : (g 14 j).toNatClampNeg = n := by rw [e, en]; exact cl_nI (by omega)
      have hh : ∀ i, i < n → g (39 + j) i = g 15 (40 * j + i) := fun i hi => ((R.1 j (by omega)).2 i (by omega)).1
      have he : sHeld (fun q => g 15 (40 * j + q)) n = sHeld (g (39 + j)) n := (sHeld_cong hh).symm
      by_cases q4 : sHeld (g (39 + j)) n = 0
      · have A := c_X6_mean E g h a0 (rr_sz rr)
        have B := c_X7_mean E (rfM g 4) h a0 (rr_szM (g := g) rr)
        simp only [dMean, if_pos q1, cj, if_neg q3, if_neg m3, cn, cn2, he, if_pos q4, rf_14, rf_15] at A B
        exact ⟨_, _, _, _, _, A, B, rl_refuse 4 (by decide) R⟩
      · obtain ⟨s1, s2⟩ := sum_eq (f := g (39 + j)) (f' := fun q => g 15 (40 * j + q)) hn (fun i hi => ⟨hh i hi, ((R.1 j (by omega)).2 i (by omega)).2⟩) n (Nat.le_refl n)
        have hd : (sSum (g (39 + j)) 0 n / nI (sHeld (g (39 + j)) n)).toInt64 = sSumL (fun q => g 15 (40 * j + q)) n / (nI (sHeld (g (39 + j)) n)).toInt64 := by rw [div_wide s1 (by omega), s2]
        have A := c_X6_mean E g h a0 (rr_sz rr)
        have B := c_X7_mean E g (upL h 0 8 (sSum (g (39 + j)) 0 n / nI (sHeld (g (39 + j)) n)).toInt64) a0 (rr_szM (g := g) rr)
        simp only [dMean, if_pos q1, cj, if_neg q3, if_neg m3, cn, cn2, he, if_neg q4] at A B
        exact ⟨_, _, _, _, _, A, B, rl_ask R hd⟩
  · have A := c_X6_mean E g h a0 (rr_sz rr)
    have B := c_X7_mean E g h a0 (rr_szM (g := g) rr)
    simp only [dMean, if_neg q1] at A B
    exact ⟨_, _, _, _, _, A, B, R⟩
theorem cmp_eq {f f' : Nat → Int32} {n d : Nat} (hd : d + 2 ≤ n / 2) (h : ∀ i, i < n → f i = f' i ∧ BdI (f i) 100000) : cpV f' n d = cpU f n d := by
  obtain ⟨e1, b1⟩ := h (d + 1) (by omega)
  obtain ⟨e2, b2⟩ := h (n - 2 - d) (by omega)
  obtain ⟨e3, b3⟩ := h 0 (by omega)
  obtain ⟨e4, b4⟩ := h (n - 1) (by omega)
  unfold cpV cpU
  rw [show n - 1 - (d + 1) = n - 2 - d by omega, Nat.sub_zero, Nat.add_comm 1 d, ← e1, ← e2, ← e3, ← e4]
  rw [fa_eq64, toL, subIV (b1.add b2 (by decide)) (b3.add b4 (by decide)) (by decide), addIV b1 b2 (by decide), addIV b3 b4 (by decide), subV ((b1.L.add b2.L (by decide)).sub b3.L (by decide)) b4.L (by decide), subV (b1.L.add b2.L (by decide)) b3.L (by decide), addV b1.L b2.L (by decide), toL, toL, toL, toL]
  omega
theorem op_compare (a0 a1 : Int32) (E : mm_E) (g : mm_I) (h : mm_L) (R : Rl g h) : OpI E yX6_compare wsX6_compare 3 81 yX7_compare wsX7_compare 3 77 [.int a0, .int a1] g h := by
  have rr := R.1
  by_cases q1 : ¬ a0 < 0 ∧ ¬ 5 < a0
  · obtain ⟨j, hj, ej⟩ := to_nat (M := 5) (m := 5) rfl q1
    have cj : a0.toNatClampNeg = j := by rw [ej]; exact cl_nI (by omega)
    by_cases q3 : g 9 j = -1
    · have m3 := rr_ms rr (show j < 6 by omega) q3
      have A := c_X6_compare E g h a0 a1 (rr_sz rr)
      have B := c_X7_compare E (rfM g 1) h a0 a1 (rr_szM (g := g) rr)
      simp only [dCmp, if_pos q1, cj, if_pos q3, if_pos m3, rf_14, rf_15] at A B
      exact ⟨_, _, _, _, _, A, B, rl_refuse 1 (by decide) R⟩
    · obtain ⟨m3, e, n, hn, en⟩ := rr_ms' rr (show j < 6 by omega) q3
      have cn : (g 9 j).toNatClampNeg = n := by rw [en]; exact cl_nI (by omega)
      have cn2 : (g 14 j).toNatClampNeg = n := by rw [e, en]; exact cl_nI (by omega)
      have hh : ∀ i, i < n → g (39 + j) i = g 15 (40 * j + i) := fun i hi => ((R.1 j (by omega)).2 i (by omega)).1
      have he : sHeld (fun q => g 15 (40 * j + q)) n = sHeld (g (39 + j)) n := (sHeld_cong hh).symm
      by_cases q4 : 4 ≤ n ∧ n % 2 = 0 ∧ sHeld (g (39 + j)) n = n
      · by_cases q5 : ¬ a1 < 0 ∧ ¬ nI (n / 2 - 2) < a1
        · obtain ⟨d, hd, ed⟩ := to_nat (M := n / 2 - 2) (nI_toInt (by omega)) q5
          have cd : a1.toNatClampNeg = d := by rw [ed]; exact cl_nI (by omega)
          have hc := cmp_eq (f := g (39 + j)) (f' := fun q => g 15 (40 * j + q)) (n := n) (d := d) (by omega) (fun i hi => ⟨hh i hi, ((R.1 j (by omega)).2 i (by omega)).2⟩)
          have A := c_X6_compare E g h a0 a1 (rr_sz rr)
          have B := c_X7_compare E g (tlC h (cpU (g (39 + j)) n d) 2) a0 a1 (rr_szM (g := g) rr)
          simp only [dCmp, if_pos q1, cj, if_neg q3, if_neg m3, cn, cn2, he, if_pos q4, if_pos q5, cd, hc] at A B
          exact ⟨_, _, _, _, _, A, B, rl_tell R⟩
        · have A := c_X6_compare E g h a0 a1 (rr_sz rr)
          have B := c_X7_compare E g h a0 a1 (rr_szM (g := g) rr)
          simp only [dCmp, if_pos q1, cj, if_neg q3, if_neg m3, cn, cn2, he, if_pos q4, if_neg q5] at A B
          exact ⟨_, _, _, _, _, A, B, R⟩
      · have A := c_X6_compare E g h a0 a1 (rr_sz rr)
        have B := c_X7_compare E (rfM g 5) h a0 a1 (rr_szM (g := g) rr)
        simp only [dCmp, if_pos q1, cj, if_neg q3, if_neg m3, cn, cn2, he, if_neg q4, rf_14, rf_15] at A B
        exact ⟨_, _, _, _, _, A, B, rl_refuse 5 (by decide) R⟩
  · have A := c_X6_compare E g h a0 a1 (rr_sz rr)
    have B := c_X7_compare E g h a0 a1 (rr_szM (g := g) rr)
    simp only [dCmp, if_neg q1] at A B
    exact ⟨_, _, _, _, _, A, B, R⟩
theorem sDig_cong {f f' : Nat → Int32} {h0 h0' : Int64} (e : h0 = h0') : ∀ {n : Nat}, (∀ i, i < n → f i = f' i) → sDig f h0 n = sDig f' h0' n
  | 0, _ => e
  | n + 1, h => by rw [sDig, sDig, sDig_cong e (n := n) (fun i hi => h i (by omega)), h n (by omega)]
theorem dgB_cong {t t' : Nat → Nat → Int32} {h0 h0' : Int64} (e : h0 = h0') : ∀ {n : Nat}, (∀ b, b < n → ∀ i, i < 5 → t b i = t' b i) → dgB t h0 n = dgB t' h0' n
  | 0, _ => e
  | n + 1, h => by
    rw [dgB, dgB]
    exact sDig_cong (dgB_cong e (n := n) (fun b hb => h b (by omega))) (h n (by omega))
theorem dgC_cong {f f' : Nat → Nat → Int32} {o o' : Nat → Int32} {h0 h0' : Int64} (e : h0 = h0') : ∀ {n : Nat}, (∀ c, c < n → (∀ i, i < 7 → f c i = f' c i) ∧ o c = o' c) → dgC f o h0 n = dgC f' o' h0' n
  | 0, _ => e
  | n + 1, h => by
    rw [dgC, dgC, (h n (by omega)).2, sDig_cong (dgC_cong e (n := n) (fun b hb => h b (by omega))) (h n (by omega)).1]
theorem dgR_cong {v v' : Nat → Int32} {f f' : Nat → Nat → Int32} {h0 h0' : Int64} (e : h0 = h0') : ∀ {n : Nat}, (∀ r, r < n → v r = v' r ∧ ∀ i, i < (v r).toNatClampNeg → f r i = f' r i) → dgR v f h0 n = dgR v' f' h0' n
  | 0, _ => e
  | n + 1, h => by
    rw [dgR, dgR, ← (h n (by omega)).1]
    exact sDig_cong (by rw [dgR_cong e (n := n) (fun b hb => h b (by omega))]) (h n (by omega)).2
theorem fM_eq {g : mm_I} {c k : Nat} (h : RC1 g c) (hk : k < 7) : fM g c k = g (53 + c) k := by
  obtain ⟨⟨f0, f1, f2, f3, f4, f5, f6, f7⟩, f8, _⟩ := h
  unfold fM
  rcases (show k = 0 ∨ k = 1 ∨ k = 2 ∨ k = 3 ∨ k = 4 ∨ k = 5 ∨ k = 6 by omega) with rfl | rfl | rfl | rfl | rfl | rfl | rfl
  · exact f0.symm
  · exact f1.symm
  · exact f2.symm
  · exact f3.symm
  · exact f4.symm
  · show bI (¬ g 31 c = 0) = _
    rw [f5]
    rcases f8 with z | z <;> rw [z] <;> rfl
  · exact f6.symm
theorem in5 {i : Nat} (h : i < 5) : ¬ nI i < 0 ∧ ¬ 4 < nI i := by
  rcases (show i = 0 ∨ i = 1 ∨ i = 2 ∨ i = 3 ∨ i = 4 by omega) with rfl | rfl | rfl | rfl | rfl <;> decide
theorem op_digest (E : mm_E) (g : mm_I) (h : mm_L) (R : Rl g h) : OpL E yX6_digest wsX6_digest 4 90 yX7_digest wsX7_digest 3 71 [] g h := by
  obtain ⟨nb, hnb, b1, b2, b3⟩ := R.2.2.1
  obtain ⟨n, hn, c1, c2, c3, c4⟩ := R.2.2.2.1
  have A := c_X6_digest E g h nb hnb b1 n hn c1 (rr_sz R.1)
  have B := c_X7_digest E g h nb hnb b2 n hn c2 (rr_szM R.1)
  refine ⟨_, _, _, _, _, A, ?_, R⟩
  refine (congrArg (fun r => Cl E yX7_digest wsX7_digest 3 71 [.ref (E.1 7)] g h r g h) ?_).mp B
  symm
  refine dgR_cong (dgC_cong (dgB_cong (sDig_cong rfl (fun i hi => ?_)) (fun b hb i hi => ?_)) (fun c hc => ⟨fun i hi => ?_, ?_⟩)) (fun r hr => ⟨?_, fun i hi => ?_⟩)
  · rw [← tc_eq, if_pos (in5 hi), ← sPres_eq (f := g 9) (fun i hi => rr_iff R.1 hi), ← sSi_cong (rt_sz R.2.1), rc_v c3, b1, b2, c1, c2]
  · unfold dTold dHas
    rw [if_pos ((has_iff (by omega) (by omega)).mpr hb), cl_nI (by omega)]
    dsimp only
    rw [← tl_eq, if_pos (in5 hi), rc_of c3, rc_ov2 c3, rc_L c3 _ _ (Nat.le_refl n), (b3 b (by omega)).1, (b3 b (by omega)).2.1]
  · exact (fM_eq (c3 c hc) hi).symm
  · exact (c3 c hc).1.2.2.2.2.2.2.2
  · by_cases z : g 9 r = -1
    · rw [if_pos (rr_ms R.1 hr z), z]
    · obtain ⟨m, e, _⟩ := rr_ms' R.1 hr z
      rw [if_neg m, e]
  · refine ((R.1 r hr).2 i ?_).1
    rcases rr_sz R.1 r hr with z | ⟨m, hm, z⟩
    · rw [z, show (-1 : Int32).toNatClampNeg = 0 by decide +kernel] at hi
      omega
    · rw [z, cl_nI (by omega)] at hi
      omega
