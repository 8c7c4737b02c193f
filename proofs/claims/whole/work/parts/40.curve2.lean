set_option maxHeartbeats 4000000 in
set_option maxRecDepth 100000 in
theorem c_X6_curveB (E : mm_E) (g : mm_I) (h : mm_L) (t x : Int32) (hst : ∀ t, t < 4 → ∃ n, n ≤ 4 ∧ g 10 t = nI n) (hok : inX x → ∀ j, j < 4 → ¬ (g 10 j).toNatClampNeg = 0 → okT (g (45 + j)) (g 10 j).toNatClampNeg ∧ (wAt (g (45 + j)) (g (49 + j)) x (cLw (g (45 + j)) (g 10 j).toNatClampNeg (g 10 j).toNatClampNeg) (g 10 j).toNatClampNeg (g 10 j).toNatClampNeg).toInt.natAbs < 2 ^ 63) : Ci E yX6_curve wsX6_curve 4 102 [.ref (E.1 0), .int t, .int x] g h (dCurve (fun j => (g 10 j).toNatClampNeg) t x (-1) (-4) (fun _ => 1)) g (dCurve (fun j => (g 10 j).toNatClampNeg) t x h h (fun j => tlC h (wAt (g (45 + j)) (g (49 + j)) x (cLw (g (45 + j)) (g 10 j).toNatClampNeg (g 10 j).toNatClampNeg) (g 10 j).toNatClampNeg (g 10 j).toNatClampNeg) (cLw (g (45 + j)) (g 10 j).toNatClampNeg (g 10 j).toNatClampNeg))) := by
  refine ci_i (bytes := cX6_curve) (maxL := 5) (by decide) rfl (Nat.le_of_ble_eq_true rfl) (fun X cx hR => ?_)
  change Cx E X cX6_curve RX6 wsX6_curve 5 4 102 at cx
  change JJ E X g h 0 [(0, .ref (E.1 0)), (1, .int t), (2, .int x)] []
  have hinX6 : ∀ w ∈ u_ws RX6 TX6 9, w ∈ wsX6_curve := by decide +kernel
  have mf_19 : Cond.fieldLink RX6 19 (TX6 1).1 (TX6 1).2.1 (TX6 1).2.2.1 ∈ wsX6_curve := by decide +kernel
  have mf_47 : Cond.fieldLink RX6 47 (TX6 5).1 (TX6 5).2.1 (TX6 5).2.2.1 ∈ wsX6_curve := by decide +kernel
  refine jr_iload_n cx dX6_curve_0 1 rfl rfl ?_
  refine jr_si [.int t] 1 cx dX6_curve_1 (c_X6_isTable E g h t) gX6_curve_X6_isTable rfl (by decide +kernel) ⟨Nat.le_of_ble_eq_true rfl, Nat.le_of_ble_eq_true rfl⟩ rfl rfl (Nat.le_of_ble_eq_true rfl) ?_
  refine jr_bif_eq (tgt := 16) cx dX6_curve_4 (by decide) (fun c4 => ?_) (fun c4 => ?_)
  · refine jr_iconst (v := (-1)) cx dX6_curve_16 (by decide) ?_
    exact jr_ri (by simp only [dCurve, ite_self, if_neg c4]; try rfl) (by rfl) (by simp only [dCurve, ite_self, if_neg c4]; try rfl) (hR 17 _ dX6_curve_17)
  · obtain ⟨j, hj, rfl⟩ := to_nat (M := 3) rfl c4; have ej : (nI j).toNatClampNeg = j := cl_nI (by omega); obtain ⟨n, hn, hs⟩ := hst j (by omega); have en : (g 10 j).toNatClampNeg = n := by rw [hs]; exact cl_nI (by omega)
    refine jr_iload_n cx dX6_curve_7 2 rfl rfl ?_
    refine jr_bipush (v := 20) cx dX6_curve_8 (by decide) ?_
    refine jr_si [.int x, .int 20] 2 cx dX6_curve_10 (c_X6_isWithin E g h x 20) gX6_curve_X6_isWithin rfl (by decide +kernel) ⟨Nat.le_of_ble_eq_true rfl, Nat.le_of_ble_eq_true rfl⟩ rfl rfl (Nat.le_of_ble_eq_true rfl) ?_
    refine jr_bif_ne (tgt := 18) cx dX6_curve_13 (by decide) (fun c13 => ?_) (fun c13 => ?_)
    · refine jr_aload_n cx dX6_curve_18 0 rfl rfl ?_
      refine jr_get (f := 1) (v := .ref (E.1 2)) cx dX6_curve_19 (by decide) rfl rfl hinX6 (by decide) mf_19 rfl ?_
      refine jr_iload_n cx dX6_curve_22 1 rfl rfl ?_
      refine jr_vi [.int (nI j)] 1 cx dX6_curve_23 (c_X5_sizeOf E g h j (by omega)) (by decide) rfl rfl gX6_curve_X5_sizeOf rfl (by decide +kernel) ⟨Nat.le_of_ble_eq_true rfl, Nat.le_of_ble_eq_true rfl⟩ rfl rfl (Nat.le_of_ble_eq_true rfl) ?_
      refine jr_top hs ?_
      refine jr_if_ne (tgt := 32) cx dX6_curve_26 (by decide) (fun c26 => ?_) (fun c26 => ?_)
      · have n26 : ¬ (n = 0) := fun qq9 => c26 ((nI_eq (a := n) (b := 0) (by omega) (by omega)).mpr qq9)
        obtain ⟨⟨q1, q2, q3⟩, q4⟩ := hok c13 j (by omega) (by rw [en]; exact n26); rw [en] at q1 q2 q3 q4
        refine jr_aload_n cx dX6_curve_32 0 rfl rfl ?_
        refine jr_get (f := 1) (v := .ref (E.1 2)) cx dX6_curve_33 (by decide) rfl rfl hinX6 (by decide) mf_19 rfl ?_
        refine jr_iload_n cx dX6_curve_36 1 rfl rfl ?_
        refine jr_vl [.int (nI j)] 1 cx dX6_curve_37 (c_X5_commonLower E g h j (by omega) n hn hs q1 q2) (by decide) rfl rfl gX6_curve_X5_commonLower rfl (by decide +kernel) ⟨Nat.le_of_ble_eq_true rfl, Nat.le_of_ble_eq_true rfl⟩ rfl rfl (Nat.le_of_ble_eq_true rfl) ?_
        refine jr_lstore_n (L' := [(3, .long (cLw (g (45 + j)) n n)), (0, .ref (E.1 0)), (1, .int (nI j)), (2, .int x)]) cx dX6_curve_40 rfl (by decide) rfl ?_
        refine jr_aload_n cx dX6_curve_41 1 rfl rfl ?_
        refine jr_get (f := 5) (v := .ref (E.1 6)) cx dX6_curve_42 (by decide) rfl rfl hinX6 (by decide) mf_47 rfl ?_
        refine jr_aload_n cx dX6_curve_45 1 rfl rfl ?_
        refine jr_get (f := 1) (v := .ref (E.1 2)) cx dX6_curve_46 (by decide) rfl rfl hinX6 (by decide) mf_19 rfl ?_
        refine jr_iload_n cx dX6_curve_49 2 rfl rfl ?_
        refine jr_iload_n cx dX6_curve_50 3 rfl rfl ?_
        refine jr_lload_n cx dX6_curve_51 0 rfl rfl ?_
        refine jr_vl [.int (nI j), .int x, .long (cLw (g (45 + j)) n n)] 3 cx dX6_curve_52 (c_X5_worthAt E g h j (by omega) n hn hs x (cLw (g (45 + j)) n n)) (by decide) rfl rfl gX6_curve_X5_worthAt rfl (by decide +kernel) ⟨Nat.le_of_ble_eq_true rfl, Nat.le_of_ble_eq_true rfl⟩ rfl rfl (Nat.le_of_ble_eq_true rfl) ?_
        refine jr_lload_n cx dX6_curve_55 0 rfl rfl ?_
        refine jr_vv [.long (wAt (g (45 + j)) (g (49 + j)) x (cLw (g (45 + j)) n n) n n), .long (cLw (g (45 + j)) n n)] 2 cx dX6_curve_56 (c_X2_tell E g h (wAt (g (45 + j)) (g (49 + j)) x (cLw (g (45 + j)) n n) n n) (cLw (g (45 + j)) n n) q4 (q1 n (Nat.le_refl n)) q3) (by decide) rfl rfl gX6_curve_X2_tell rfl (by decide +kernel) ⟨Nat.le_of_ble_eq_true rfl, Nat.le_of_ble_eq_true rfl⟩ rfl rfl (Nat.le_of_ble_eq_true rfl) ?_
        refine jr_iconst (v := 1) cx dX6_curve_59 (by decide) ?_
        exact jr_ri (by simp only [dCurve, ite_self, en, if_pos c4, if_pos c13, ej]; rw [if_neg n26]; try rfl) (by rfl) (by simp only [dCurve, ite_self, en, if_pos c4, if_pos c13, ej]; rw [if_neg n26]; try rfl) (hR 60 _ dX6_curve_60)
      · have n26 : n = 0 := (nI_eq (a := n) (b := 0) (by omega) (by omega)).mp c26
        refine jr_bipush (v := (-4)) cx dX6_curve_29 (by decide) ?_
        exact jr_ri (by simp only [dCurve, ite_self, en, if_pos c4, if_pos c13, ej]; rw [if_pos n26]; try rfl) (by rfl) (by simp only [dCurve, ite_self, en, if_pos c4, if_pos c13, ej]; rw [if_pos n26]; try rfl) (hR 31 _ dX6_curve_31)
    · refine jr_iconst (v := (-1)) cx dX6_curve_16 (by decide) ?_
      exact jr_ri (by simp only [dCurve, ite_self, en, if_pos c4, if_neg c13, ej]; try rfl) (by rfl) (by simp only [dCurve, ite_self, en, if_pos c4, if_neg c13, ej]; try rfl) (hR 17 _ dX6_curve_17)
set_option maxHeartbeats 4000000 in
set_option maxRecDepth 100000 in
theorem c_X7_curveB (E : mm_E) (g : mm_I) (h : mm_L) (t x : Int32) (hst : ∀ t, t < 4 → ∃ n, n ≤ 4 ∧ g 17 t = nI n) (hok : inX x → ∀ j, j < 4 → ¬ (g 17 j).toNatClampNeg = 0 → okC (fun q => g 18 (4 * j + q)) (fun q => g 19 (4 * j + q)) x 1 (g 17 j).toNatClampNeg (0, 1) ∧ (acS (fun q => g 18 (4 * j + q)) (fun q => g 19 (4 * j + q)) x 1 (g 17 j).toNatClampNeg (0, 1) (g 17 j).toNatClampNeg).1.toInt.natAbs < 2 ^ 63 ∧ (acS (fun q => g 18 (4 * j + q)) (fun q => g 19 (4 * j + q)) x 1 (g 17 j).toNatClampNeg (0, 1) (g 17 j).toNatClampNeg).2.toInt.natAbs < 2 ^ 63 ∧ ¬ (acS (fun q => g 18 (4 * j + q)) (fun q => g 19 (4 * j + q)) x 1 (g 17 j).toNatClampNeg (0, 1) (g 17 j).toNatClampNeg).2 = 0) : Ci E yX7_curve wsX7_curve 4 111 [.ref (E.1 7), .int t, .int x] g h (dCurve (fun j => (g 17 j).toNatClampNeg) t x (-1) (-4) (fun _ => 1)) g (dCurve (fun j => (g 17 j).toNatClampNeg) t x h h (fun j => tlM (stH h (acS (fun q => g 18 (4 * j + q)) (fun q => g 19 (4 * j + q)) x 1 (g 17 j).toNatClampNeg (0, 1) (g 17 j).toNatClampNeg).1 (acS (fun q => g 18 (4 * j + q)) (fun q => g 19 (4 * j + q)) x 1 (g 17 j).toNatClampNeg (0, 1) (g 17 j).toNatClampNeg).2) (acS (fun q => g 18 (4 * j + q)) (fun q => g 19 (4 * j + q)) x 1 (g 17 j).toNatClampNeg (0, 1) (g 17 j).toNatClampNeg).1 (acS (fun q => g 18 (4 * j + q)) (fun q => g 19 (4 * j + q)) x 1 (g 17 j).toNatClampNeg (0, 1) (g 17 j).toNatClampNeg).2)) := by
  refine ci_i (bytes := cX7_curve) (maxL := 3) (by decide) rfl (Nat.le_of_ble_eq_true rfl) (fun X cx hR => ?_)
  change Cx E X cX7_curve RX7 wsX7_curve 3 4 111 at cx
  change JJ E X g h 0 [(0, .ref (E.1 7)), (1, .int t), (2, .int x)] []
  have hinX7 : ∀ w ∈ u_ws RX7 TX7 30, w ∈ wsX7_curve := by decide +kernel
  have mf_26 : Cond.fieldLink RX7 26 (TX7 8).1 (TX7 8).2.1 (TX7 8).2.2.1 ∈ wsX7_curve := by decide +kernel
  have mf_127 : Cond.fieldLink RX7 127 (TX7 11).1 (TX7 11).2.1 (TX7 11).2.2.1 ∈ wsX7_curve := by decide +kernel
  have mf_124 : Cond.fieldLink RX7 124 (TX7 12).1 (TX7 12).2.1 (TX7 12).2.2.1 ∈ wsX7_curve := by decide +kernel
  refine jr_iload_n cx dX7_curve_0 1 rfl rfl ?_
  refine jr_si [.int t] 1 cx dX7_curve_1 (c_X7_isTable E g h t) gX7_curve_X7_isTable rfl (by decide +kernel) ⟨Nat.le_of_ble_eq_true rfl, Nat.le_of_ble_eq_true rfl⟩ rfl rfl (Nat.le_of_ble_eq_true rfl) ?_
  refine jr_bif_eq (tgt := 14) cx dX7_curve_4 (by decide) (fun c4 => ?_) (fun c4 => ?_)
  · refine jr_iconst (v := (-1)) cx dX7_curve_14 (by decide) ?_
    exact jr_ri (by simp only [dCurve, ite_self, if_neg c4]; try rfl) (by rfl) (by simp only [dCurve, ite_self, if_neg c4]; try rfl) (hR 15 _ dX7_curve_15)
  · obtain ⟨j, hj, rfl⟩ := to_nat (M := 3) rfl c4; have ej : (nI j).toNatClampNeg = j := cl_nI (by omega); obtain ⟨n, hn, hs⟩ := hst j (by omega); have en : (g 17 j).toNatClampNeg = n := by rw [hs]; exact cl_nI (by omega)
    refine jr_iload_n cx dX7_curve_7 2 rfl rfl ?_
    refine jr_si [.int x] 1 cx dX7_curve_8 (c_X7_isX E g h x) gX7_curve_X7_isX rfl (by decide +kernel) ⟨Nat.le_of_ble_eq_true rfl, Nat.le_of_ble_eq_true rfl⟩ rfl rfl (Nat.le_of_ble_eq_true rfl) ?_
    refine jr_bif_ne (tgt := 16) cx dX7_curve_11 (by decide) (fun c11 => ?_) (fun c11 => ?_)
    · refine jr_aload_n cx dX7_curve_16 0 rfl rfl ?_
      refine jr_get (f := 8) (v := .ref (E.1 17)) cx dX7_curve_17 (by decide) rfl rfl hinX7 (by decide) mf_26 rfl ?_
      refine jr_iload_n cx dX7_curve_20 1 rfl rfl ?_
      refine jr_iald cx dX7_curve_21 (Or.inl ⟨by decide, by decide⟩) j rfl (show _ < 4 by omega) ?_
      refine jr_top hs ?_
      refine jr_if_ne (tgt := 28) cx dX7_curve_22 (by decide) (fun c22 => ?_) (fun c22 => ?_)
      · have n22 : ¬ (n = 0) := fun qq9 => c22 ((nI_eq (a := n) (b := 0) (by omega) (by omega)).mpr qq9)
        obtain ⟨q1, q2, q3, q4⟩ := hok c11 j (by omega) (by rw [en]; exact n22); rw [en] at q1 q2 q3 q4
        refine jr_aload_n cx dX7_curve_28 0 rfl rfl ?_
        refine jr_lconst (v := 0) cx dX7_curve_29 (by decide) ?_
        refine jr_put_X7_11 cx dX7_curve_30 hinX7 mf_127 ?_
        refine jr_aload_n cx dX7_curve_33 0 rfl rfl ?_
        refine jr_lconst (v := 1) cx dX7_curve_34 (by decide) ?_
        refine jr_put_X7_12 cx dX7_curve_35 hinX7 mf_124 ?_
        refine jr_aload_n cx dX7_curve_38 0 rfl rfl ?_
        refine jr_iload_n cx dX7_curve_39 1 rfl rfl ?_
        refine jr_iload_n cx dX7_curve_40 2 rfl rfl ?_
        refine jr_iconst (v := 1) cx dX7_curve_41 (by decide) ?_
        refine jr_vv [.int (nI j), .int x, .int 1] 3 cx dX7_curve_42 (c_X7_addCurve E g (upL (upL h 7 11 0) 7 12 1) j (by omega) x 1 n hn hs q1) (by decide) rfl rfl gX7_curve_X7_addCurve rfl (by decide +kernel) ⟨Nat.le_of_ble_eq_true rfl, Nat.le_of_ble_eq_true rfl⟩ rfl rfl (Nat.le_of_ble_eq_true rfl) ?_
        refine jr_aload_n cx dX7_curve_45 0 rfl rfl ?_
        refine jr_aload_n cx dX7_curve_46 0 rfl rfl ?_
        refine jr_get (f := 11) (v := .long ((stH h (acS (fun q => g 18 (4 * j + q)) (fun q => g 19 (4 * j + q)) x 1 n (0, 1) n).1 (acS (fun q => g 18 (4 * j + q)) (fun q => g 19 (4 * j + q)) x 1 n (0, 1) n).2) 7 11)) cx dX7_curve_47 (by decide) rfl rfl hinX7 (by decide) mf_127 rfl ?_
        refine jr_topl (stH_1 _ _ _) ?_
        refine jr_aload_n cx dX7_curve_50 0 rfl rfl ?_
        refine jr_get (f := 12) (v := .long ((stH h (acS (fun q => g 18 (4 * j + q)) (fun q => g 19 (4 * j + q)) x 1 n (0, 1) n).1 (acS (fun q => g 18 (4 * j + q)) (fun q => g 19 (4 * j + q)) x 1 n (0, 1) n).2) 7 12)) cx dX7_curve_51 (by decide) rfl rfl hinX7 (by decide) mf_124 rfl ?_
        refine jr_topl (stH_2 _ _ _) ?_
        refine jr_iconst (v := 1) cx dX7_curve_54 (by decide) ?_
        refine jr_vi [.long ((acS (fun q => g 18 (4 * j + q)) (fun q => g 19 (4 * j + q)) x 1 n (0, 1) n).1), .long ((acS (fun q => g 18 (4 * j + q)) (fun q => g 19 (4 * j + q)) x 1 n (0, 1) n).2), .int 1] 3 cx dX7_curve_55 (c_X7_tell E g (stH h (acS (fun q => g 18 (4 * j + q)) (fun q => g 19 (4 * j + q)) x 1 n (0, 1) n).1 (acS (fun q => g 18 (4 * j + q)) (fun q => g 19 (4 * j + q)) x 1 n (0, 1) n).2) ((acS (fun q => g 18 (4 * j + q)) (fun q => g 19 (4 * j + q)) x 1 n (0, 1) n).1) ((acS (fun q => g 18 (4 * j + q)) (fun q => g 19 (4 * j + q)) x 1 n (0, 1) n).2) 1 q2 q3 q4) (by decide) rfl rfl gX7_curve_X7_tell rfl (by decide +kernel) ⟨Nat.le_of_ble_eq_true rfl, Nat.le_of_ble_eq_true rfl⟩ rfl rfl (Nat.le_of_ble_eq_true rfl) ?_
        exact jr_ri (by simp only [dCurve, ite_self, en, if_pos c4, if_pos c11, ej]; all_goals rw [if_neg n22]; try rfl) (by rfl) (by simp only [dCurve, ite_self, en, if_pos c4, if_pos c11, ej]; all_goals rw [if_neg n22]; try rfl) (hR 58 _ dX7_curve_58)
      · have n22 : n = 0 := (nI_eq (a := n) (b := 0) (by omega) (by omega)).mp c22
        refine jr_bipush (v := (-4)) cx dX7_curve_25 (by decide) ?_
        exact jr_ri (by simp only [dCurve, ite_self, en, if_pos c4, if_pos c11, ej]; all_goals rw [if_pos n22]; try rfl) (by rfl) (by simp only [dCurve, ite_self, en, if_pos c4, if_pos c11, ej]; all_goals rw [if_pos n22]; try rfl) (hR 27 _ dX7_curve_27)
    · refine jr_iconst (v := (-1)) cx dX7_curve_14 (by decide) ?_
      exact jr_ri (by simp only [dCurve, ite_self, en, if_pos c4, if_neg c11, ej]; try rfl) (by rfl) (by simp only [dCurve, ite_self, en, if_pos c4, if_neg c11, ej]; try rfl) (hR 15 _ dX7_curve_15)
theorem pW_cong {f f' : Nat → Int32} {l : Nat} {x : Int32} : ∀ {n : Nat}, (∀ k, k < n → f k = f' k) → pW f l x n = pW f' l x n
  | 0, _ => rfl
  | n + 1, h => by rw [pW, pW, pW_cong (n := n) (fun k hk => h k (by omega)), h n (by omega)]
theorem uW_cong {f f' : Nat → Int32} {l : Nat} {x : Int32} {u : Int64} : ∀ {n : Nat}, (∀ k, k < n → f k = f' k) → uW f l x u n = uW f' l x u n
  | 0, _ => rfl
  | n + 1, h => by rw [uW, uW, uW_cong (n := n) (fun k hk => h k (by omega)), h n (by omega)]
theorem acT_cong {f f' y y' : Nat → Int32} {x tm : Int32} {n i : Nat} (hi : i < n) (h : ∀ k, k < n → f k = f' k ∧ y k = y' k) : acT f y x tm n i = acT f' y' x tm n i ∧ pW f i (f i) n = pW f' i (f' i) n := by
  have hf : ∀ k, k < n → f k = f' k := fun k hk => (h k hk).1
  have e : pW f i (f i) n = pW f' i (f' i) n := by rw [pW_cong hf, hf i hi]
  refine ⟨?_, e⟩
  unfold acT
  rw [e, uW_cong hf, (h i hi).2]
theorem acS_cong {f f' y y' : Nat → Int32} {x tm : Int32} {n : Nat} {s0 : Int64 × Int64} (h : ∀ k, k < n → f k = f' k ∧ y k = y' k) : ∀ i, i ≤ n → acS f y x tm n s0 i = acS f' y' x tm n s0 i
  | 0, _ => rfl
  | i + 1, hi => by
    obtain ⟨e1, e2⟩ := acT_cong (x := x) (tm := tm) (show i < n by omega) h
    rw [acS, acS, acS_cong h i (by omega), e1, e2]
theorem okC_cong {f f' y y' : Nat → Int32} {x tm : Int32} {n : Nat} {s0 : Int64 × Int64} (h : ∀ k, k < n → f k = f' k ∧ y k = y' k) (k : okC f y x tm n s0) : okC f' y' x tm n s0 := fun i hi => by
  obtain ⟨e1, e2⟩ := acT_cong (x := x) (tm := tm) hi h
  have := k i hi
  rw [acS_cong h i (by omega), e1, e2] at this
  exact this
theorem okT_of {f : Nat → Int32} {n a : Nat} (h4 : n ≤ 4) (hf : ∀ k, k < n → BdI (f k) 20) (K : tabOk f n a) : okT f n ∧ ∃ A : Nat, (cLw f n n).toInt = (A : Int) ∧ 0 < A ∧ A ∣ 6 * a ∧ A < 2 ^ 31 ∧ ∀ k, k < n → pZ f k (f k).toInt n ≠ 0 ∧ (pZ f k (f k).toInt n).natAbs ∣ A := by
  obtain ⟨a0, a1, a2, a3⟩ := K
  have hc := cLw_v h4 hf (by omega) (by omega) a2
  have hlt : ∀ i, i ≤ n → (cLw f n i).toInt.natAbs < 2 ^ 31 := fun i hi => by
    obtain ⟨A, h1, h2, h3, _⟩ := hc i hi
    have := Nat.le_of_dvd (by omega) h3
    rw [h1, Int.natAbs_natCast]
    omega
  obtain ⟨A, h1, h2, h3, h5⟩ := hc n (Nat.le_refl n)
  have hA := hlt n (Nat.le_refl n)
  rw [h1, Int.natAbs_natCast] at hA
  refine ⟨⟨fun i hi => by have := hlt i hi; omega, fun i hi => ?_, fun z => ?_⟩, A, h1, h2, h3, hA, fun k hk => ⟨(a2 k hk).1, h5 k hk⟩⟩
  · rw [pW_v (hf i hi) h4 hf]
    have b := pZ_bd (l := i) (x := (f i).toInt) (hf i hi) hf
    have h40 : 40 ^ n ≤ 2560000 := Nat.le_trans (Nat.pow_le_pow_right (by decide) h4) (by decide)
    omega
  · rw [z] at h1
    have : (0 : Int64).toInt = 0 := rfl
    omega
theorem inv_end {S : Nat} {T : Int} {p : Int64 × Int64} (hS0 : 0 < S) (hS : S < 2 ^ 63) (I : Inv S T p) (hT : T.natAbs < 2 ^ 63) : p.1.toInt.natAbs < 2 ^ 63 ∧ p.2.toInt.natAbs < 2 ^ 63 ∧ ¬ p.2 = 0 := by
  obtain ⟨i1, i2, i3⟩ := I
  obtain ⟨A, hA⟩ : ∃ A : Nat, p.2.toInt = (A : Int) := ⟨p.2.toInt.toNat, by omega⟩
  rw [hA] at i1 i2 i3
  have hle := Nat.le_of_dvd hS0 (Int.natCast_dvd_natCast.mp i2)
  have := bd_of hle hS0 i3
  refine ⟨by omega, by rw [hA, Int.natAbs_natCast]; omega, fun z => ?_⟩
  rw [z] at hA
  have : (0 : Int64).toInt = 0 := rfl
  omega
theorem inv_0 {S : Nat} : Inv (S : Int) 0 (0, 1) := by
  refine ⟨by show (0 : Int) < 1; decide, ?_, ?_⟩
  · show (1 : Int) ∣ _
    exact Int.one_dvd _
  · show (0 : Int) * _ = 1 * 0
    rw [Int.zero_mul, Int.mul_zero]
theorem cur_all {f f' y y' : Nat → Int32} {n : Nat} {x : Int32} (h1 : 1 ≤ n) (h4 : n ≤ 4) (hx : BdI x 20) (hf : ∀ k, k < n → BdI (f k) 20 ∧ BdI (y k) 10000) (hne : ∀ i, i < n → ∀ k, k < i → ¬ f k = f i) (hff : ∀ k, k < n → f k = f' k ∧ y k = y' k) : (okT f n ∧ (wAt f y x (cLw f n n) n n).toInt.natAbs < 2 ^ 63) ∧ (okC f' y' x 1 n (0, 1) ∧ (acS f' y' x 1 n (0, 1) n).1.toInt.natAbs < 2 ^ 63 ∧ (acS f' y' x 1 n (0, 1) n).2.toInt.natAbs < 2 ^ 63 ∧ ¬ (acS f' y' x 1 n (0, 1) n).2 = 0) ∧ wAt f y x (cLw f n n) n n / tlG (wAt f y x (cLw f n n) n n) (cLw f n n) = (acS f' y' x 1 n (0, 1) n).1 / tlG (acS f' y' x 1 n (0, 1) n).1 (acS f' y' x 1 n (0, 1) n).2 ∧ cLw f n n / tlG (wAt f y x (cLw f n n) n n) (cLw f n n) = (acS f' y' x 1 n (0, 1) n).2 / tlG (acS f' y' x 1 n (0, 1) n).1 (acS f' y' x 1 n (0, 1) n).2 := by
  have hf1 : ∀ k, k < n → BdI (f k) 20 := fun k hk => (hf k hk).1
  have hy1 : ∀ k, k < n → BdI (y k) 10000 := fun k hk => (hf k hk).2
  obtain ⟨a, K⟩ := tab_all h1 h4 hf1 hne
  obtain ⟨hT, A, e1, e2, e3, e4, e5⟩ := okT_of h4 hf1 K
  obtain ⟨a0, a1, a2, a3⟩ := K
  have hx' : x.toInt.natAbs ≤ 20 := hx
  have hw := ww_mono f x.toInt (Nat.le_of_dvd (by omega) e3) n n
  have hw2 := a3 x.toInt hx'
  have hv := wAt_v h4 hx hf1 hy1 e1 (by omega) e5 (by omega) n (Nat.le_refl n)
  have hb := tt_bd (x := x.toInt) hy1 e5 n (Nat.le_refl n)
  obtain ⟨k1, k2⟩ := acS_v (tm := 1) (T0 := 0) h4 hx hf1 hy1 (Or.inl rfl) e2 (by omega) e5 inv_0 (by show (0 : Int).natAbs + _ < _; show 0 + _ < _; omega)
  have k3 := k2 n (Nat.le_refl n)
  rw [show (1 : Int32).toInt = 1 from rfl, Int.one_mul, Int.zero_add] at k3
  have hTb : (tt f y x.toInt A n n).natAbs < 2 ^ 63 := by omega
  have hw0 : (wAt f y x (cLw f n n) n n).toInt.natAbs < 2 ^ 63 := by rw [hv]; exact hTb
  obtain ⟨r1, r2, r3⟩ := inv_end e2 (by omega) k3 hTb
  refine ⟨⟨hT, hw0⟩, ⟨okC_cong hff k1, ?_⟩, ?_⟩
  · rw [← acS_cong hff n (Nat.le_refl n)]
    exact ⟨r1, r2, r3⟩
  · rw [← acS_cong hff n (Nat.le_refl n)]
    refine red_eq (by rw [e1]; omega) k3.1 hw0 r1 (by rw [e1, Int.natAbs_natCast]; omega) r2 ?_
    rw [hv, e1, k3.2.2, Int.mul_comm]
theorem cu_hok {g : mm_I} (R : RT g) {x : Int32} (hx : inX x) : ∀ j, j < 4 → ¬ (g 10 j).toNatClampNeg = 0 → okT (g (45 + j)) (g 10 j).toNatClampNeg ∧ (wAt (g (45 + j)) (g (49 + j)) x (cLw (g (45 + j)) (g 10 j).toNatClampNeg (g 10 j).toNatClampNeg) (g 10 j).toNatClampNeg (g 10 j).toNatClampNeg).toInt.natAbs < 2 ^ 63 := by
  intro j hj h0
  obtain ⟨n, hn, e1, e2, e3, e4, e5⟩ := R j hj
  have cn : (g 10 j).toNatClampNeg = n := by rw [e1]; exact cl_nI (by omega)
  rw [cn] at h0 ⊢
  exact (cur_all (f' := fun q => g 18 (4 * j + q)) (y' := fun q => g 19 (4 * j + q)) (by omega) hn (BdI.x hx) e4 e5 (fun k hk => e3 k (by omega))).1
theorem cu_hokM {g : mm_I} (R : RT g) {x : Int32} (hx : inX x) : ∀ j, j < 4 → ¬ (g 17 j).toNatClampNeg = 0 → okC (fun q => g 18 (4 * j + q)) (fun q => g 19 (4 * j + q)) x 1 (g 17 j).toNatClampNeg (0, 1) ∧ (acS (fun q => g 18 (4 * j + q)) (fun q => g 19 (4 * j + q)) x 1 (g 17 j).toNatClampNeg (0, 1) (g 17 j).toNatClampNeg).1.toInt.natAbs < 2 ^ 63 ∧ (acS (fun q => g 18 (4 * j + q)) (fun q => g 19 (4 * j + q)) x 1 (g 17 j).toNatClampNeg (0, 1) (g 17 j).toNatClampNeg).2.toInt.natAbs < 2 ^ 63 ∧ ¬ (acS (fun q => g 18 (4 * j + q)) (fun q => g 19 (4 * j + q)) x 1 (g 17 j).toNatClampNeg (0, 1) (g 17 j).toNatClampNeg).2 = 0 := by
  intro j hj h0
  obtain ⟨n, hn, e1, e2, e3, e4, e5⟩ := R j hj
  have cn : (g 17 j).toNatClampNeg = n := by rw [e2]; exact cl_nI (by omega)
  rw [cn] at h0 ⊢
  exact (cur_all (f' := fun q => g 18 (4 * j + q)) (y' := fun q => g 19 (4 * j + q)) (by omega) hn (BdI.x hx) e4 e5 (fun k hk => e3 k (by omega))).2.1
theorem op_curve (a0 a1 : Int32) (E : mm_E) (g : mm_I) (h : mm_L) (R : Rl g h) : OpI E yX6_curve wsX6_curve 4 102 yX7_curve wsX7_curve 4 111 [.int a0, .int a1] g h := by
  by_cases q1 : ¬ a0 < 0 ∧ ¬ 3 < a0
  · obtain ⟨j, hj, ej⟩ := to_nat (M := 3) (m := 3) rfl q1
    have cj : a0.toNatClampNeg = j := by rw [ej]; exact cl_nI (by omega)
    obtain ⟨n, hn, e1, e2, e3, e4, e5⟩ := R.2.1 j (by omega)
    have cn : (g 10 j).toNatClampNeg = n := by rw [e1]; exact cl_nI (by omega)
    have cn2 : (g 17 j).toNatClampNeg = n := by rw [e2]; exact cl_nI (by omega)
    by_cases q2 : inX a1
    · by_cases q3 : n = 0
      · have A := c_X6_curveB E g h a0 a1 (rt_st R.2.1) (fun hx => cu_hok R.2.1 hx)
        have B := c_X7_curveB E g h a0 a1 (rt_stM R.2.1) (fun hx => cu_hokM R.2.1 hx)
        simp only [dCurve, if_pos q1, cj, cn, cn2, if_pos q2, if_pos q3] at A B
        exact ⟨_, _, _, _, _, A, B, R⟩
      · have A := c_X6_curveB E g h a0 a1 (rt_st R.2.1) (fun hx => cu_hok R.2.1 hx)
        have B := c_X7_curveB E g (tlC h (wAt (g (45 + j)) (g (49 + j)) a1 (cLw (g (45 + j)) n n) n n) (cLw (g (45 + j)) n n)) a0 a1 (rt_stM R.2.1) (fun hx => cu_hokM R.2.1 hx)
        simp only [dCurve, if_pos q1, cj, cn, cn2, if_pos q2, if_neg q3] at A B
        exact ⟨_, _, _, _, _, A, B, rl_tell2 R (cur_all (by omega) hn (BdI.x q2) e4 e5 (fun k hk => e3 k (by omega))).2.2⟩
    · have A := c_X6_curveB E g h a0 a1 (rt_st R.2.1) (fun hx => cu_hok R.2.1 hx)
      have B := c_X7_curveB E g h a0 a1 (rt_stM R.2.1) (fun hx => cu_hokM R.2.1 hx)
      simp only [dCurve, if_pos q1, cj, cn, cn2, if_neg q2] at A B
      exact ⟨_, _, _, _, _, A, B, R⟩
  · have A := c_X6_curveB E g h a0 a1 (rt_st R.2.1) (fun hx => cu_hok R.2.1 hx)
    have B := c_X7_curveB E g h a0 a1 (rt_stM R.2.1) (fun hx => cu_hokM R.2.1 hx)
    simp only [dCurve, if_neg q1] at A B
    exact ⟨_, _, _, _, _, A, B, R⟩
