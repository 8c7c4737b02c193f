set_option maxHeartbeats 4000000 in
set_option maxRecDepth 100000 in
theorem c_X7_curve (E : mm_E) (g : mm_I) (h : mm_L) (t x : Int32) (hst : ∀ t, t < 4 → ∃ n, n ≤ 4 ∧ g 17 t = nI n) (hok : ∀ j, j < 4 → ¬ (g 17 j).toNatClampNeg = 0 → okC (fun q => g 18 (4 * j + q)) (fun q => g 19 (4 * j + q)) x 1 (g 17 j).toNatClampNeg (0, 1) ∧ (acS (fun q => g 18 (4 * j + q)) (fun q => g 19 (4 * j + q)) x 1 (g 17 j).toNatClampNeg (0, 1) (g 17 j).toNatClampNeg).1.toInt.natAbs < 2 ^ 63 ∧ (acS (fun q => g 18 (4 * j + q)) (fun q => g 19 (4 * j + q)) x 1 (g 17 j).toNatClampNeg (0, 1) (g 17 j).toNatClampNeg).2.toInt.natAbs < 2 ^ 63 ∧ ¬ (acS (fun q => g 18 (4 * j + q)) (fun q => g 19 (4 * j + q)) x 1 (g 17 j).toNatClampNeg (0, 1) (g 17 j).toNatClampNeg).2 = 0) : Ci E yX7_curve wsX7_curve 4 111 [.ref (E.1 7), .int t, .int x] g h (dCurve (fun j => (g 17 j).toNatClampNeg) t x (-1) (-4) (fun _ => 1)) g (dCurve (fun j => (g 17 j).toNatClampNeg) t x h h (fun j => tlM (stH h (acS (fun q => g 18 (4 * j + q)) (fun q => g 19 (4 * j + q)) x 1 (g 17 j).toNatClampNeg (0, 1) (g 17 j).toNatClampNeg).1 (acS (fun q => g 18 (4 * j + q)) (fun q => g 19 (4 * j + q)) x 1 (g 17 j).toNatClampNeg (0, 1) (g 17 j).toNatClampNeg).2) (acS (fun q => g 18 (4 * j + q)) (fun q => g 19 (4 * j + q)) x 1 (g 17 j).toNatClampNeg (0, 1) (g 17 j).toNatClampNeg).1 (acS (fun q => g 18 (4 * j + q)) (fun q => g 19 (4 * j + q)) x 1 (g 17 j).toNatClampNeg (0, 1) (g 17 j).toNatClampNeg).2)) := by
  refine ci_i (bytes := cX7_curve) (maxL := 3) (by decide) rfl (Nat.le_of_ble_eq_true rfl) (fun X cx hR => ?_)
  change Cx E X cX7_curve RX7 wsX7_curve 3 4 111 at cx
  change JJ E X g h 0 [(0, .ref (E.1 7)), (1, .int t), (2, .int x)] []
  have hinX7 : ∀ w ∈ u_ws RX7 TX7 30, w ∈ wsX7_curve := by decide +kernel
  have mf_26 : Cond.fieldLink RX7 26 (TX7 8).1 (TX7 8).2.1 (TX7 8).2.2.1 ∈ wsX7_curve := by decide +kernel
  have mf_127 : Cond.fieldLink RX7 127 (TX7 11).1 (TX7 11).2.1 (TX7 11).2.2.1 ∈ wsX7_curve := by decide +kernel
  have mf_124 : Cond.fieldLink RX7 124 (TX7 12).1 (TX7 12).2.1 (TX7 12).2.2.1 ∈ wsX7_curve := by decide +kernel
  refine jr_iload_n cx dX7_curve_0 1 rfl rfl ?_
  refine jr_si [.int t] 1 cx dX7_curve_1 (c_X7_isTable E g h t) gX7_curve_X7_isTable rfl (by decide +kernel) ⟨Nat.le_of_ble_eq_true rfl, Nat.le_of_ble_eq_true rfl⟩ rfl rfl (Nat.le_of_ble_eq_true rfl) ?_
  refine jr_bif_eq (tgt := 14) cx dX7_curve_4 (by decide) (fun c4 => ?_) (fun c4 => ?_)
  · refine jr_iconst (v := (-1)) cx dX7_curve_14 (by decide) ?_
    exact jr_ri (by simp only [dCurve, ite_self, if_neg c4]; try rfl) (by rfl) (by simp only [dCurve, ite_self, if_neg c4]; try rfl) (hR 15 _ dX7_curve_15)
  · obtain ⟨j, hj, rfl⟩ := to_nat (M := 3) rfl c4; have ej : (nI j).toNatClampNeg = j := cl_nI (by omega); obtain ⟨n, hn, hs⟩ := hst j (by omega); have en : (g 17 j).toNatClampNeg = n := by rw [hs]; exact cl_nI (by omega)
    refine jr_iload_n cx dX7_curve_7 2 rfl rfl ?_
    refine jr_si [.int x] 1 cx dX7_curve_8 (c_X7_isX E g h x) gX7_curve_X7_isX rfl (by decide +kernel) ⟨Nat.le_of_ble_eq_true rfl, Nat.le_of_ble_eq_true rfl⟩ rfl rfl (Nat.le_of_ble_eq_true rfl) ?_
    refine jr_bif_ne (tgt := 16) cx dX7_curve_11 (by decide) (fun c11 => ?_) (fun c11 => ?_)
    · refine jr_aload_n cx dX7_curve_16 0 rfl rfl ?_
      refine jr_get (f := 8) (v := .ref (E.1 17)) cx dX7_curve_17 (by decide) rfl rfl hinX7 (by decide) mf_26 rfl ?_
      refine jr_iload_n cx dX7_curve_20 1 rfl rfl ?_
      refine jr_iald cx dX7_curve_21 (Or.inl ⟨by decide, by decide⟩) j rfl (show _ < 4 by omega) ?_
      refine jr_top hs ?_
      refine jr_if_ne (tgt := 28) cx dX7_curve_22 (by decide) (fun c22 => ?_) (fun c22 => ?_)
      · have n22 : ¬ (n = 0) := fun qq9 => c22 ((nI_eq (a := n) (b := 0) (by omega) (by omega)).mpr qq9)
        obtain ⟨q1, q2, q3, q4⟩ := hok j (by omega) (by rw [en]; exact n22); rw [en] at q1 q2 q3 q4
        refine jr_aload_n cx dX7_curve_28 0 rfl rfl ?_
        refine jr_lconst (v := 0) cx dX7_curve_29 (by decide) ?_
        refine jr_put_X7_11 cx dX7_curve_30 hinX7 mf_127 ?_
        refine jr_aload_n cx dX7_curve_33 0 rfl rfl ?_
        refine jr_lconst (v := 1) cx dX7_curve_34 (by decide) ?_
        refine jr_put_X7_12 cx dX7_curve_35 hinX7 mf_124 ?_
        refine jr_aload_n cx dX7_curve_38 0 rfl rfl ?_
        refine jr_iload_n cx dX7_curve_39 1 rfl rfl ?_
        refine jr_iload_n cx dX7_curve_40 2 rfl rfl ?_
        refine jr_iconst (v := 1) cx dX7_curve_41 (by decide) ?_
        refine jr_vv [.int (nI j), .int x, .int 1] 3 cx dX7_curve_42 (c_X7_addCurve E g (upL (upL h 7 11 0) 7 12 1) j (by omega) x 1 n hn hs q1) (by decide) rfl rfl gX7_curve_X7_addCurve rfl (by decide +kernel) ⟨Nat.le_of_ble_eq_true rfl, Nat.le_of_ble_eq_true rfl⟩ rfl rfl (Nat.le_of_ble_eq_true rfl) ?_
        refine jr_aload_n cx dX7_curve_45 0 rfl rfl ?_
        refine jr_aload_n cx dX7_curve_46 0 rfl rfl ?_
        refine jr_get (f := 11) (v := .long ((stH h (acS (fun q => g 18 (4 * j + q)) (fun q => g 19 (4 * j + q)) x 1 n (0, 1) n).1 (acS (fun q => g 18 (4 * j + q)) (fun q => g 19 (4 * j + q)) x 1 n (0, 1) n).2) 7 11)) cx dX7_curve_47 (by decide) rfl rfl hinX7 (by decide) mf_127 rfl ?_
        refine jr_topl (stH_1 _ _ _) ?_
        refine jr_aload_n cx dX7_curve_50 0 rfl rfl ?_
        refine jr_get (f := 12) (v := .long ((stH h (acS (fun q => g 18 (4 * j + q)) (fun q => g 19 (4 * j + q)) x 1 n (0, 1) n).1 (acS (fun q => g 18 (4 * j + q)) (fun q => g 19 (4 * j + q)) x 1 n (0, 1) n).2) 7 12)) cx dX7_curve_51 (by decide) rfl rfl hinX7 (by decide) mf_124 rfl ?_
        refine jr_topl (stH_2 _ _ _) ?_
        refine jr_iconst (v := 1) cx dX7_curve_54 (by decide) ?_
        refine jr_vi [.long ((acS (fun q => g 18 (4 * j + q)) (fun q => g 19 (4 * j + q)) x 1 n (0, 1) n).1), .long ((acS (fun q => g 18 (4 * j + q)) (fun q => g 19 (4 * j + q)) x 1 n (0, 1) n).2), .int 1] 3 cx dX7_curve_55 (c_X7_tell E g (stH h (acS (fun q => g 18 (4 * j + q)) (fun q => g 19 (4 * j + q)) x 1 n (0, 1) n).1 (acS (fun q => g 18 (4 * j + q)) (fun q => g 19 (4 * j + q)) x 1 n (0, 1) n).2) ((acS (fun q => g 18 (4 * j + q)) (fun q => g 19 (4 * j + q)) x 1 n (0, 1) n).1) ((acS (fun q => g 18 (4 * j + q)) (fun q => g 19 (4 * j + q)) x 1 n (0, 1) n).2) 1 q2 q3 q4) (by decide) rfl rfl gX7_curve_X7_tell rfl (by decide +kernel) ⟨Nat.le_of_ble_eq_true rfl, Nat.le_of_ble_eq_true rfl⟩ rfl rfl (Nat.le_of_ble_eq_true rfl) ?_
        exact jr_ri (by simp only [dCurve, ite_self, en, if_pos c4, if_pos c11, ej]; all_goals rw [if_neg n22]; try rfl) (by rfl) (by simp only [dCurve, ite_self, en, if_pos c4, if_pos c11, ej]; all_goals rw [if_neg n22]; try rfl) (hR 58 _ dX7_curve_58)
      · have n22 : n = 0 := (nI_eq (a := n) (b := 0) (by omega) (by omega)).mp c22
        refine jr_bipush (v := (-4)) cx dX7_curve_25 (by decide) ?_
        exact jr_ri (by simp only [dCurve, ite_self, en, if_pos c4, if_pos c11, ej]; all_goals rw [if_pos n22]; try rfl) (by rfl) (by simp only [dCurve, ite_self, en, if_pos c4, if_pos c11, ej]; all_goals rw [if_pos n22]; try rfl) (hR 27 _ dX7_curve_27)
    · refine jr_iconst (v := (-1)) cx dX7_curve_14 (by decide) ?_
      exact jr_ri (by simp only [dCurve, ite_self, en, if_pos c4, if_neg c11, ej]; try rfl) (by rfl) (by simp only [dCurve, ite_self, en, if_pos c4, if_neg c11, ej]; try rfl) (hR 15 _ dX7_curve_15)
abbrev bel (z : Bool) (p q r s : Nat) : Prop := if z = true then r * q < p * s else p * s < r * q
theorem bl_1 {p q r s : Nat} (hq : 0 < q) (hs : 0 < s) (h : p / q < r / s) : p * s < r * q := by
  have h1 := Nat.div_add_mod p q
  have h2 := Nat.mod_lt p hq
  have h3 := Nat.div_add_mod r s
  have h4 : q * (p / q + 1) ≤ q * (r / s) := Nat.mul_le_mul_left q h
  have h5 : p < q * (r / s) := by rw [Nat.mul_add] at h4; omega
  have h6 : p * s < q * (r / s) * s := Nat.mul_lt_mul_of_pos_right h5 hs
  have h7 : q * (r / s) * s ≤ r * q := by
    rw [Nat.mul_assoc, Nat.mul_comm (r / s) s, Nat.mul_comm r q]
    exact Nat.mul_le_mul_left q (by omega)
  omega
theorem bl_2 {p q r s : Nat} (h : p / q = r / s) : p * s < r * q ↔ (p % q) * s < (r % s) * q := by
  have h1 := Nat.div_add_mod p q
  have h3 := Nat.div_add_mod r s
  have e1 : p * s = q * (p / q) * s + p % q * s := by rw [← Nat.add_mul, h1]
  have e2 : r * q = s * (r / s) * q + r % s * q := by rw [← Nat.add_mul, h3]
  have e3 : q * (p / q) * s = s * (r / s) * q := by rw [h, Nat.mul_comm q, Nat.mul_comm s, Nat.mul_assoc, Nat.mul_assoc, Nat.mul_comm q s]
  omega
theorem bl_n {p q r s : Nat} {z : Bool} (h : p / q = r / s) : bel z p q r s ↔ bel (!z) q (p % q) s (r % s) := by
  have h2 := bl_2 h
  have h3 := bl_2 h.symm
  unfold bel
  cases z
  · simp only [Bool.not_false, if_true, Bool.false_eq_true, if_false]
    rw [h2, Nat.mul_comm (p % q), Nat.mul_comm (r % s)]
  · simp only [Bool.not_true, if_true, Bool.false_eq_true, if_false]
    rw [h3, Nat.mul_comm (p % q), Nat.mul_comm (r % s)]
theorem lN_ne {q : Nat} (h : 0 < q) (hq : q < 2 ^ 63) : ¬ lN q = 0 := fun z => by have := (gc_0 hq).mp z; omega
theorem bel_f {p q r s : Nat} {T : Prop} (h : bel false p q r s ↔ T) : p * s < r * q ↔ T := by simpa [bel] using h
theorem bel_t {p q r s : Nat} {T : Prop} (h : bel true p q r s ↔ T) : r * q < p * s ↔ T := by simpa [bel] using h
set_option maxHeartbeats 4000000 in
set_option maxRecDepth 100000 in
theorem c_X7_isBelow (E : mm_E) (g : mm_I) (h : mm_L) (A B C D : Nat) (ha : A < 2 ^ 63) (hb : B < 2 ^ 63) (hc : C < 2 ^ 63) (hd : D < 2 ^ 63) (hb0 : 0 < B) (hd0 : 0 < D) : Ci E yX7_isBelow wsX7_isBelow 0 0 [.long (lN A), .long (lN B), .long (lN C), .long (lN D)] g h (bI (A * D < C * B)) g h := by
  refine ci_z (bytes := cX7_isBelow) (maxL := 21) (by decide) rfl (Nat.le_of_ble_eq_true rfl) (bI_01 _) (fun X cx hR => ?_)
  change Cx E X cX7_isBelow RX7 wsX7_isBelow 21 0 0 at cx
  change JJ E X g h 0 [(0, .long (lN A)), (2, .long (lN B)), (4, .long (lN C)), (6, .long (lN D))] []
  refine jr_lload_n cx dX7_isBelow_0 0 rfl rfl ?_
  refine jr_lstore (L' := [(8, .long (lN A)), (0, .long (lN A)), (2, .long (lN B)), (4, .long (lN C)), (6, .long (lN D))]) cx dX7_isBelow_1 (by decide) rfl ?_
  refine jr_lload_n cx dX7_isBelow_3 2 rfl rfl ?_
  refine jr_lstore (L' := [(10, .long (lN B)), (8, .long (lN A)), (0, .long (lN A)), (2, .long (lN B)), (4, .long (lN C)), (6, .long (lN D))]) cx dX7_isBelow_4 (by decide) rfl ?_
  refine jr_lload cx dX7_isBelow_6 4 rfl ?_
  refine jr_lstore (L' := [(12, .long (lN C)), (10, .long (lN B)), (8, .long (lN A)), (0, .long (lN A)), (2, .long (lN B)), (4, .long (lN C)), (6, .long (lN D))]) cx dX7_isBelow_8 (by decide) rfl ?_
  refine jr_lload cx dX7_isBelow_10 6 rfl ?_
  refine jr_lstore (L' := [(14, .long (lN D)), (12, .long (lN C)), (10, .long (lN B)), (8, .long (lN A)), (0, .long (lN A)), (2, .long (lN B)), (4, .long (lN C)), (6, .long (lN D))]) cx dX7_isBelow_12 (by decide) rfl ?_
  refine jr_iconst (v := 0) cx dX7_isBelow_14 (by decide) ?_
  refine jr_istore (L' := [(16, .int 0), (14, .long (lN D)), (12, .long (lN C)), (10, .long (lN B)), (8, .long (lN A)), (0, .long (lN A)), (2, .long (lN B)), (4, .long (lN C)), (6, .long (lN D))]) cx dX7_isBelow_15 (by decide) rfl ?_
  have key1 : ∀ (fu1 : Nat) (p q r s : Nat) (z : Bool), q + 1 ≤ fu1 → (p < 2 ^ 63) → (q < 2 ^ 63) → (r < 2 ^ 63) → (s < 2 ^ 63) → (0 < q) → (0 < s) → (bel z p q r s ↔ A * D < C * B) → JJ E X g h 17 [(8, .long (lN p)), (10, .long (lN q)), (12, .long (lN r)), (14, .long (lN s)), (16, .int (bI (z = true)))] [] := by
    intro fu1
    induction fu1 with
    | zero => intro p q r s z hfu1 hp1 hq1 hr1 hs1 hq hs hi; exfalso; omega
    | succ fu1 ih1 =>
      intro p q r s z hfu1 hp1 hq1 hr1 hs1 hq hs hi
      refine jr_lload cx dX7_isBelow_17 0 rfl ?_
      have hd1 := Nat.div_le_self p q; have hd2 := Nat.div_le_self r s; have hd3 := Nat.mod_lt p hq; have hd4 := Nat.mod_lt r hs
      rcases z with _ | _
      · refine jr_loc (lc_n (lc_n (lc_n (lc_n (lc_i (show bI (false = true) = 0 by decide) rfl))))) ?_
        refine jr_lload cx dX7_isBelow_19 1 rfl ?_
        refine jr_ldiv cx dX7_isBelow_21 (lN_ne (by omega) (by omega)) ?_
        refine jr_topl (pk_lDiv (a := p) (b := q) (by omega) (by omega) (by omega)) ?_
        refine jr_lload cx dX7_isBelow_22 2 rfl ?_
        refine jr_lload cx dX7_isBelow_24 3 rfl ?_
        refine jr_ldiv cx dX7_isBelow_26 (lN_ne (by omega) (by omega)) ?_
        refine jr_topl (pk_lDiv (a := r) (b := s) (by omega) (by omega) (by omega)) ?_
        refine jr_lcmp cx dX7_isBelow_27 ?_
        refine jr_lif_ne (tgt := 96) cx dX7_isBelow_28 (by decide) (fun c28 => ?_) (fun c28 => ?_)
        · have n28 : ¬ p / q = r / s := fun e => c28 (by rw [e])
          refine jr_lload cx dX7_isBelow_96 0 rfl ?_
          refine jr_lload cx dX7_isBelow_98 1 rfl ?_
          refine jr_ldiv cx dX7_isBelow_100 (lN_ne (by omega) (by omega)) ?_
          refine jr_topl (pk_lDiv (a := p) (b := q) (by omega) (by omega) (by omega)) ?_
          refine jr_lload cx dX7_isBelow_101 2 rfl ?_
          refine jr_lload cx dX7_isBelow_103 3 rfl ?_
          refine jr_ldiv cx dX7_isBelow_105 (lN_ne (by omega) (by omega)) ?_
          refine jr_topl (pk_lDiv (a := r) (b := s) (by omega) (by omega) (by omega)) ?_
          refine jr_lcmp cx dX7_isBelow_106 ?_
          refine jr_lif_eq (tgt := 140) cx dX7_isBelow_107 (by decide) (fun c107 => ?_) (fun c107 => ?_)
          · exact absurd c107 c28
          · refine jr_lload cx dX7_isBelow_110 0 rfl ?_
            refine jr_lload cx dX7_isBelow_112 1 rfl ?_
            refine jr_ldiv cx dX7_isBelow_114 (lN_ne (by omega) (by omega)) ?_
            refine jr_topl (pk_lDiv (a := p) (b := q) (by omega) (by omega) (by omega)) ?_
            refine jr_lload cx dX7_isBelow_115 2 rfl ?_
            refine jr_lload cx dX7_isBelow_117 3 rfl ?_
            refine jr_ldiv cx dX7_isBelow_119 (lN_ne (by omega) (by omega)) ?_
            refine jr_topl (pk_lDiv (a := r) (b := s) (by omega) (by omega) (by omega)) ?_
            refine jr_lcmp cx dX7_isBelow_120 ?_
            refine jr_lif_ge (tgt := 128) cx dX7_isBelow_121 (by decide) (fun c121 => ?_) (fun c121 => ?_)
            · have n121 : r / s ≤ p / q := (pk_lLE (by omega) (by omega)).mp c121
              refine jr_iconst (v := 0) cx dX7_isBelow_128 (by decide) ?_
              refine jr_iload cx dX7_isBelow_129 4 rfl ?_
              refine jr_icmp_eq (tgt := 138) cx dX7_isBelow_131 (by decide) (fun c131 => ?_) (fun c131 => absurd c131 (by decide))
              refine jr_iconst (v := 0) cx dX7_isBelow_138 (by decide) ?_
              exact jr_ri (by exact (bI_f (fun e => by have e2 := bl_1 hs hq (show r / s < p / q by omega); have e3 := ((bel_f hi)).mpr e; omega)).symm) (by rfl) (by rfl) (hR 139 _ dX7_isBelow_139)
            · have n121 : ¬ r / s ≤ p / q := fun e => c121 ((pk_lLE (by omega) (by omega)).mpr e)
              refine jr_iconst (v := 1) cx dX7_isBelow_124 (by decide) ?_
              refine jr_goto (tgt := 129) cx dX7_isBelow_125 (by decide) ?_
              refine jr_iload cx dX7_isBelow_129 4 rfl ?_
              refine jr_icmp_eq (tgt := 138) cx dX7_isBelow_131 (by decide) (fun c131 => absurd c131 (by decide)) (fun c131 => ?_)
              refine jr_iconst (v := 1) cx dX7_isBelow_134 (by decide) ?_
              refine jr_goto (tgt := 139) cx dX7_isBelow_135 (by decide) ?_
              exact jr_ri (by exact (bI_t (((bel_f hi)).mp (bl_1 hq hs (by omega)))).symm) (by rfl) (by rfl) (hR 139 _ dX7_isBelow_139)
        · have n28 : p / q = r / s := (pk_lEQ (by omega) (by omega)).mp c28
          refine jr_lload cx dX7_isBelow_31 0 rfl ?_
          refine jr_lload cx dX7_isBelow_33 1 rfl ?_
          refine jr_lrem cx dX7_isBelow_35 (lN_ne (by omega) (by omega)) ?_
          refine jr_topl (pk_lRem (a := p) (b := q) (by omega) (by omega) (by omega)) ?_
          refine jr_lconst (v := 0) cx dX7_isBelow_36 (by decide) ?_
          refine jr_lcmp cx dX7_isBelow_37 ?_
          refine jr_lif_eq (tgt := 96) cx dX7_isBelow_38 (by decide) (fun c38 => ?_) (fun c38 => ?_)
          · have n38 : p % q = 0 := (gc_0 (by omega)).mp c38
            refine jr_lload cx dX7_isBelow_96 0 rfl ?_
            refine jr_lload cx dX7_isBelow_98 1 rfl ?_
            refine jr_ldiv cx dX7_isBelow_100 (lN_ne (by omega) (by omega)) ?_
            refine jr_topl (pk_lDiv (a := p) (b := q) (by omega) (by omega) (by omega)) ?_
            refine jr_lload cx dX7_isBelow_101 2 rfl ?_
            refine jr_lload cx dX7_isBelow_103 3 rfl ?_
            refine jr_ldiv cx dX7_isBelow_105 (lN_ne (by omega) (by omega)) ?_
            refine jr_topl (pk_lDiv (a := r) (b := s) (by omega) (by omega) (by omega)) ?_
            refine jr_lcmp cx dX7_isBelow_106 ?_
            refine jr_lif_eq (tgt := 140) cx dX7_isBelow_107 (by decide) (fun c107 => ?_) (fun c107 => ?_)
            · refine jr_lload cx dX7_isBelow_140 0 rfl ?_
              refine jr_lload cx dX7_isBelow_142 1 rfl ?_
              refine jr_lrem cx dX7_isBelow_144 (lN_ne (by omega) (by omega)) ?_
              refine jr_topl (pk_lRem (a := p) (b := q) (by omega) (by omega) (by omega)) ?_
              refine jr_lconst (v := 0) cx dX7_isBelow_145 (by decide) ?_
              refine jr_lcmp cx dX7_isBelow_146 ?_
              refine jr_lif_eq (tgt := 154) cx dX7_isBelow_147 (by decide) (fun c147 => ?_) (fun c147 => ?_)
              · refine jr_iconst (v := 0) cx dX7_isBelow_154 (by decide) ?_
                refine jr_istore (L' := [(17, .int 0), (8, .long (lN p)), (10, .long (lN q)), (12, .long (lN r)), (14, .long (lN s)), (16, .int 0)]) cx dX7_isBelow_155 (by decide) rfl ?_
                refine jr_lload cx dX7_isBelow_157 3 rfl ?_
                refine jr_lload cx dX7_isBelow_159 4 rfl ?_
                refine jr_lrem cx dX7_isBelow_161 (lN_ne (by omega) (by omega)) ?_
                refine jr_topl (pk_lRem (a := r) (b := s) (by omega) (by omega) (by omega)) ?_
                refine jr_lconst (v := 0) cx dX7_isBelow_162 (by decide) ?_
                refine jr_lcmp cx dX7_isBelow_163 ?_
                refine jr_lif_eq (tgt := 171) cx dX7_isBelow_164 (by decide) (fun c164 => ?_) (fun c164 => ?_)
                · have n164 : r % s = 0 := (gc_0 (by omega)).mp c164
                  refine jr_iconst (v := 0) cx dX7_isBelow_171 (by decide) ?_
                  refine jr_istore (L' := [(18, .int 0), (17, .int 0), (8, .long (lN p)), (10, .long (lN q)), (12, .long (lN r)), (14, .long (lN s)), (16, .int 0)]) cx dX7_isBelow_172 (by decide) rfl ?_
                  refine jr_iload cx dX7_isBelow_174 1 rfl ?_
                  refine jr_iload cx dX7_isBelow_176 0 rfl ?_
                  refine jr_icmp_eq (tgt := 192) cx dX7_isBelow_178 (by decide) (fun c178 => ?_) (fun c178 => absurd c178 (by decide))
                  refine jr_iconst (v := 0) cx dX7_isBelow_192 (by decide) ?_
                  exact jr_ri (by exact (bI_f (fun e => by have e2 := (bl_2 n28).mp (((bel_f hi)).mpr e); rw [n38, n164, Nat.zero_mul, Nat.zero_mul] at e2; omega)).symm) (by rfl) (by rfl) (hR 193 _ dX7_isBelow_193)
                · have n164 : ¬ r % s = 0 := fun e => c164 ((gc_0 (by omega)).mpr e)
                  refine jr_iconst (v := 1) cx dX7_isBelow_167 (by decide) ?_
                  refine jr_goto (tgt := 172) cx dX7_isBelow_168 (by decide) ?_
                  refine jr_istore (L' := [(18, .int 1), (17, .int 0), (8, .long (lN p)), (10, .long (lN q)), (12, .long (lN r)), (14, .long (lN s)), (16, .int 0)]) cx dX7_isBelow_172 (by decide) rfl ?_
                  refine jr_iload cx dX7_isBelow_174 1 rfl ?_
                  refine jr_iload cx dX7_isBelow_176 0 rfl ?_
                  refine jr_icmp_eq (tgt := 192) cx dX7_isBelow_178 (by decide) (fun c178 => absurd c178 (by decide)) (fun c178 => ?_)
                  refine jr_iload cx dX7_isBelow_181 0 rfl ?_
                  refine jr_iload cx dX7_isBelow_183 6 rfl ?_
                  refine jr_icmp_eq (tgt := 192) cx dX7_isBelow_185 (by decide) (fun c185 => absurd c185 (by decide)) (fun c185 => ?_)
                  refine jr_iconst (v := 1) cx dX7_isBelow_188 (by decide) ?_
                  refine jr_goto (tgt := 193) cx dX7_isBelow_189 (by decide) ?_
                  exact jr_ri (by exact (bI_t (((bel_f hi)).mp ((bl_2 n28).mpr (by rw [n38, Nat.zero_mul]; exact Nat.mul_pos (by omega) hq)))).symm) (by rfl) (by rfl) (hR 193 _ dX7_isBelow_193)
              · exact absurd c38 c147
            · exact absurd c28 c107
          · have n38 : ¬ p % q = 0 := fun e => c38 ((gc_0 (by omega)).mpr e)
            refine jr_lload cx dX7_isBelow_41 2 rfl ?_
            refine jr_lload cx dX7_isBelow_43 3 rfl ?_
            refine jr_lrem cx dX7_isBelow_45 (lN_ne (by omega) (by omega)) ?_
            refine jr_topl (pk_lRem (a := r) (b := s) (by omega) (by omega) (by omega)) ?_
            refine jr_lconst (v := 0) cx dX7_isBelow_46 (by decide) ?_
            refine jr_lcmp cx dX7_isBelow_47 ?_
            refine jr_lif_eq (tgt := 96) cx dX7_isBelow_48 (by decide) (fun c48 => ?_) (fun c48 => ?_)
            · have n48 : r % s = 0 := (gc_0 (by omega)).mp c48
              refine jr_lload cx dX7_isBelow_96 0 rfl ?_
              refine jr_lload cx dX7_isBelow_98 1 rfl ?_
              refine jr_ldiv cx dX7_isBelow_100 (lN_ne (by omega) (by omega)) ?_
              refine jr_topl (pk_lDiv (a := p) (b := q) (by omega) (by omega) (by omega)) ?_
              refine jr_lload cx dX7_isBelow_101 2 rfl ?_
              refine jr_lload cx dX7_isBelow_103 3 rfl ?_
              refine jr_ldiv cx dX7_isBelow_105 (lN_ne (by omega) (by omega)) ?_
              refine jr_topl (pk_lDiv (a := r) (b := s) (by omega) (by omega) (by omega)) ?_
              refine jr_lcmp cx dX7_isBelow_106 ?_
              refine jr_lif_eq (tgt := 140) cx dX7_isBelow_107 (by decide) (fun c107 => ?_) (fun c107 => ?_)
              · refine jr_lload cx dX7_isBelow_140 0 rfl ?_
                refine jr_lload cx dX7_isBelow_142 1 rfl ?_
                refine jr_lrem cx dX7_isBelow_144 (lN_ne (by omega) (by omega)) ?_
                refine jr_topl (pk_lRem (a := p) (b := q) (by omega) (by omega) (by omega)) ?_
                refine jr_lconst (v := 0) cx dX7_isBelow_145 (by decide) ?_
                refine jr_lcmp cx dX7_isBelow_146 ?_
                refine jr_lif_eq (tgt := 154) cx dX7_isBelow_147 (by decide) (fun c147 => ?_) (fun c147 => ?_)
                · exact absurd c147 c38
                · refine jr_iconst (v := 1) cx dX7_isBelow_150 (by decide) ?_
                  refine jr_goto (tgt := 155) cx dX7_isBelow_151 (by decide) ?_
                  refine jr_istore (L' := [(17, .int 1), (8, .long (lN p)), (10, .long (lN q)), (12, .long (lN r)), (14, .long (lN s)), (16, .int 0)]) cx dX7_isBelow_155 (by decide) rfl ?_
                  refine jr_lload cx dX7_isBelow_157 3 rfl ?_
                  refine jr_lload cx dX7_isBelow_159 4 rfl ?_
                  refine jr_lrem cx dX7_isBelow_161 (lN_ne (by omega) (by omega)) ?_
                  refine jr_topl (pk_lRem (a := r) (b := s) (by omega) (by omega) (by omega)) ?_
                  refine jr_lconst (v := 0) cx dX7_isBelow_162 (by decide) ?_
                  refine jr_lcmp cx dX7_isBelow_163 ?_
                  refine jr_lif_eq (tgt := 171) cx dX7_isBelow_164 (by decide) (fun c164 => ?_) (fun c164 => ?_)
                  · have n164 : r % s = 0 := (gc_0 (by omega)).mp c164
                    refine jr_iconst (v := 0) cx dX7_isBelow_171 (by decide) ?_
                    refine jr_istore (L' := [(18, .int 0), (17, .int 1), (8, .long (lN p)), (10, .long (lN q)), (12, .long (lN r)), (14, .long (lN s)), (16, .int 0)]) cx dX7_isBelow_172 (by decide) rfl ?_
                    refine jr_iload cx dX7_isBelow_174 1 rfl ?_
                    refine jr_iload cx dX7_isBelow_176 0 rfl ?_
                    refine jr_icmp_eq (tgt := 192) cx dX7_isBelow_178 (by decide) (fun c178 => absurd c178 (by decide)) (fun c178 => ?_)
                    refine jr_iload cx dX7_isBelow_181 0 rfl ?_
                    refine jr_iload cx dX7_isBelow_183 6 rfl ?_
                    refine jr_icmp_eq (tgt := 192) cx dX7_isBelow_185 (by decide) (fun c185 => ?_) (fun c185 => absurd c185 (by decide))
                    refine jr_iconst (v := 0) cx dX7_isBelow_192 (by decide) ?_
                    exact jr_ri (by exact (bI_f (fun e => by have e2 := (bl_2 n28).mp (((bel_f hi)).mpr e); rw [n48, Nat.zero_mul] at e2; omega)).symm) (by rfl) (by rfl) (hR 193 _ dX7_isBelow_193)
                  · have n164 : ¬ r % s = 0 := fun e => c164 ((gc_0 (by omega)).mpr e)
                    exact absurd c48 c164
              · exact absurd c28 c107
            · have n48 : ¬ r % s = 0 := fun e => c48 ((gc_0 (by omega)).mpr e)
              refine jr_lload cx dX7_isBelow_51 0 rfl ?_
              refine jr_lload cx dX7_isBelow_53 1 rfl ?_
              refine jr_lrem cx dX7_isBelow_55 (lN_ne (by omega) (by omega)) ?_
              refine jr_topl (pk_lRem (a := p) (b := q) (by omega) (by omega) (by omega)) ?_
              refine jr_lstore (L' := [(17, .long (lN (p % q))), (8, .long (lN p)), (10, .long (lN q)), (12, .long (lN r)), (14, .long (lN s)), (16, .int 0)]) cx dX7_isBelow_56 (by decide) rfl ?_
              refine jr_lload cx dX7_isBelow_58 3 rfl ?_
              refine jr_lload cx dX7_isBelow_60 4 rfl ?_
              refine jr_lrem cx dX7_isBelow_62 (lN_ne (by omega) (by omega)) ?_
              refine jr_topl (pk_lRem (a := r) (b := s) (by omega) (by omega) (by omega)) ?_
              refine jr_lstore (L' := [(19, .long (lN (r % s))), (17, .long (lN (p % q))), (8, .long (lN p)), (10, .long (lN q)), (12, .long (lN r)), (14, .long (lN s)), (16, .int 0)]) cx dX7_isBelow_63 (by decide) rfl ?_
              refine jr_lload cx dX7_isBelow_65 3 rfl ?_
              refine jr_lstore (L' := [(8, .long (lN q)), (19, .long (lN (r % s))), (17, .long (lN (p % q))), (10, .long (lN q)), (12, .long (lN r)), (14, .long (lN s)), (16, .int 0)]) cx dX7_isBelow_67 (by decide) rfl ?_
              refine jr_lload cx dX7_isBelow_69 2 rfl ?_
              refine jr_lstore (L' := [(10, .long (lN (p % q))), (8, .long (lN q)), (19, .long (lN (r % s))), (17, .long (lN (p % q))), (12, .long (lN r)), (14, .long (lN s)), (16, .int 0)]) cx dX7_isBelow_71 (by decide) rfl ?_
              refine jr_lload cx dX7_isBelow_73 5 rfl ?_
              refine jr_lstore (L' := [(12, .long (lN s)), (10, .long (lN (p % q))), (8, .long (lN q)), (19, .long (lN (r % s))), (17, .long (lN (p % q))), (14, .long (lN s)), (16, .int 0)]) cx dX7_isBelow_75 (by decide) rfl ?_
              refine jr_lload cx dX7_isBelow_77 3 rfl ?_
              refine jr_lstore (L' := [(14, .long (lN (r % s))), (12, .long (lN s)), (10, .long (lN (p % q))), (8, .long (lN q)), (19, .long (lN (r % s))), (17, .long (lN (p % q))), (16, .int 0)]) cx dX7_isBelow_79 (by decide) rfl ?_
              refine jr_iload cx dX7_isBelow_81 6 rfl ?_
              refine jr_if_ne (tgt := 90) cx dX7_isBelow_83 (by decide) (fun c83 => absurd c83 (by decide)) (fun c83 => ?_)
              refine jr_iconst (v := 1) cx dX7_isBelow_86 (by decide) ?_
              refine jr_goto (tgt := 91) cx dX7_isBelow_87 (by decide) ?_
              refine jr_istore (L' := [(16, .int 1), (14, .long (lN (r % s))), (12, .long (lN s)), (10, .long (lN (p % q))), (8, .long (lN q)), (19, .long (lN (r % s))), (17, .long (lN (p % q)))]) cx dX7_isBelow_91 (by decide) rfl ?_
              refine jr_goto (tgt := 17) cx dX7_isBelow_93 (by decide) ?_
              refine jr_pick (L' := [(8, .long (lN q)), (10, .long (lN (p % q))), (12, .long (lN s)), (14, .long (lN (r % s))), (16, .int 1)]) [4, 3, 2, 1, 0] rfl ?_
              have e16 : (1 : Int32) = (bI (true = true)) := by rfl
              refine jr_loc (lc_n (lc_n (lc_n (lc_n (lc_i e16 rfl))))) ?_
              exact ih1 q (p % q) s (r % s) true (by omega) hq1 (by omega) hs1 (by omega) (by omega) (by omega) ((bl_n n28).symm.trans hi)
      · refine jr_loc (lc_n (lc_n (lc_n (lc_n (lc_i (show bI (true = true) = 1 by decide) rfl))))) ?_
        refine jr_lload cx dX7_isBelow_19 1 rfl ?_
        refine jr_ldiv cx dX7_isBelow_21 (lN_ne (by omega) (by omega)) ?_
        refine jr_topl (pk_lDiv (a := p) (b := q) (by omega) (by omega) (by omega)) ?_
        refine jr_lload cx dX7_isBelow_22 2 rfl ?_
        refine jr_lload cx dX7_isBelow_24 3 rfl ?_
        refine jr_ldiv cx dX7_isBelow_26 (lN_ne (by omega) (by omega)) ?_
        refine jr_topl (pk_lDiv (a := r) (b := s) (by omega) (by omega) (by omega)) ?_
        refine jr_lcmp cx dX7_isBelow_27 ?_
        refine jr_lif_ne (tgt := 96) cx dX7_isBelow_28 (by decide) (fun c28 => ?_) (fun c28 => ?_)
        · have n28 : ¬ p / q = r / s := fun e => c28 (by rw [e])
          refine jr_lload cx dX7_isBelow_96 0 rfl ?_
          refine jr_lload cx dX7_isBelow_98 1 rfl ?_
          refine jr_ldiv cx dX7_isBelow_100 (lN_ne (by omega) (by omega)) ?_
          refine jr_topl (pk_lDiv (a := p) (b := q) (by omega) (by omega) (by omega)) ?_
          refine jr_lload cx dX7_isBelow_101 2 rfl ?_
          refine jr_lload cx dX7_isBelow_103 3 rfl ?_
          refine jr_ldiv cx dX7_isBelow_105 (lN_ne (by omega) (by omega)) ?_
          refine jr_topl (pk_lDiv (a := r) (b := s) (by omega) (by omega) (by omega)) ?_
          refine jr_lcmp cx dX7_isBelow_106 ?_
          refine jr_lif_eq (tgt := 140) cx dX7_isBelow_107 (by decide) (fun c107 => ?_) (fun c107 => ?_)
          · exact absurd c107 c28
          · refine jr_lload cx dX7_isBelow_110 0 rfl ?_
            refine jr_lload cx dX7_isBelow_112 1 rfl ?_
            refine jr_ldiv cx dX7_isBelow_114 (lN_ne (by omega) (by omega)) ?_
            refine jr_topl (pk_lDiv (a := p) (b := q) (by omega) (by omega) (by omega)) ?_
            refine jr_lload cx dX7_isBelow_115 2 rfl ?_
            refine jr_lload cx dX7_isBelow_117 3 rfl ?_
            refine jr_ldiv cx dX7_isBelow_119 (lN_ne (by omega) (by omega)) ?_
            refine jr_topl (pk_lDiv (a := r) (b := s) (by omega) (by omega) (by omega)) ?_
            refine jr_lcmp cx dX7_isBelow_120 ?_
            refine jr_lif_ge (tgt := 128) cx dX7_isBelow_121 (by decide) (fun c121 => ?_) (fun c121 => ?_)
            · have n121 : r / s ≤ p / q := (pk_lLE (by omega) (by omega)).mp c121
              refine jr_iconst (v := 0) cx dX7_isBelow_128 (by decide) ?_
              refine jr_iload cx dX7_isBelow_129 4 rfl ?_
              refine jr_icmp_eq (tgt := 138) cx dX7_isBelow_131 (by decide) (fun c131 => absurd c131 (by decide)) (fun c131 => ?_)
              refine jr_iconst (v := 1) cx dX7_isBelow_134 (by decide) ?_
              refine jr_goto (tgt := 139) cx dX7_isBelow_135 (by decide) ?_
              exact jr_ri (by exact (bI_t (((bel_t hi)).mp (bl_1 hs hq (show r / s < p / q by omega)))).symm) (by rfl) (by rfl) (hR 139 _ dX7_isBelow_139)
            · have n121 : ¬ r / s ≤ p / q := fun e => c121 ((pk_lLE (by omega) (by omega)).mpr e)
              refine jr_iconst (v := 1) cx dX7_isBelow_124 (by decide) ?_
              refine jr_goto (tgt := 129) cx dX7_isBelow_125 (by decide) ?_
              refine jr_iload cx dX7_isBelow_129 4 rfl ?_
              refine jr_icmp_eq (tgt := 138) cx dX7_isBelow_131 (by decide) (fun c131 => ?_) (fun c131 => absurd c131 (by decide))
              refine jr_iconst (v := 0) cx dX7_isBelow_138 (by decide) ?_
              exact jr_ri (by exact (bI_f (fun e => by have e2 := bl_1 hq hs (show p / q < r / s by omega); have e3 := ((bel_t hi)).mpr e; omega)).symm) (by rfl) (by rfl) (hR 139 _ dX7_isBelow_139)
        · have n28 : p / q = r / s := (pk_lEQ (by omega) (by omega)).mp c28
          refine jr_lload cx dX7_isBelow_31 0 rfl ?_
          refine jr_lload cx dX7_isBelow_33 1 rfl ?_
          refine jr_lrem cx dX7_isBelow_35 (lN_ne (by omega) (by omega)) ?_
          refine jr_topl (pk_lRem (a := p) (b := q) (by omega) (by omega) (by omega)) ?_
          refine jr_lconst (v := 0) cx dX7_isBelow_36 (by decide) ?_
          refine jr_lcmp cx dX7_isBelow_37 ?_
          refine jr_lif_eq (tgt := 96) cx dX7_isBelow_38 (by decide) (fun c38 => ?_) (fun c38 => ?_)
          · have n38 : p % q = 0 := (gc_0 (by omega)).mp c38
            refine jr_lload cx dX7_isBelow_96 0 rfl ?_
            refine jr_lload cx dX7_isBelow_98 1 rfl ?_
            refine jr_ldiv cx dX7_isBelow_100 (lN_ne (by omega) (by omega)) ?_
            refine jr_topl (pk_lDiv (a := p) (b := q) (by omega) (by omega) (by omega)) ?_
            refine jr_lload cx dX7_isBelow_101 2 rfl ?_
            refine jr_lload cx dX7_isBelow_103 3 rfl ?_
            refine jr_ldiv cx dX7_isBelow_105 (lN_ne (by omega) (by omega)) ?_
            refine jr_topl (pk_lDiv (a := r) (b := s) (by omega) (by omega) (by omega)) ?_
            refine jr_lcmp cx dX7_isBelow_106 ?_
            refine jr_lif_eq (tgt := 140) cx dX7_isBelow_107 (by decide) (fun c107 => ?_) (fun c107 => ?_)
            · refine jr_lload cx dX7_isBelow_140 0 rfl ?_
              refine jr_lload cx dX7_isBelow_142 1 rfl ?_
              refine jr_lrem cx dX7_isBelow_144 (lN_ne (by omega) (by omega)) ?_
              refine jr_topl (pk_lRem (a := p) (b := q) (by omega) (by omega) (by omega)) ?_
              refine jr_lconst (v := 0) cx dX7_isBelow_145 (by decide) ?_
              refine jr_lcmp cx dX7_isBelow_146 ?_
              refine jr_lif_eq (tgt := 154) cx dX7_isBelow_147 (by decide) (fun c147 => ?_) (fun c147 => ?_)
              · refine jr_iconst (v := 0) cx dX7_isBelow_154 (by decide) ?_
                refine jr_istore (L' := [(17, .int 0), (8, .long (lN p)), (10, .long (lN q)), (12, .long (lN r)), (14, .long (lN s)), (16, .int 1)]) cx dX7_isBelow_155 (by decide) rfl ?_
                refine jr_lload cx dX7_isBelow_157 3 rfl ?_
                refine jr_lload cx dX7_isBelow_159 4 rfl ?_
                refine jr_lrem cx dX7_isBelow_161 (lN_ne (by omega) (by omega)) ?_
                refine jr_topl (pk_lRem (a := r) (b := s) (by omega) (by omega) (by omega)) ?_
                refine jr_lconst (v := 0) cx dX7_isBelow_162 (by decide) ?_
                refine jr_lcmp cx dX7_isBelow_163 ?_
                refine jr_lif_eq (tgt := 171) cx dX7_isBelow_164 (by decide) (fun c164 => ?_) (fun c164 => ?_)
                · have n164 : r % s = 0 := (gc_0 (by omega)).mp c164
                  refine jr_iconst (v := 0) cx dX7_isBelow_171 (by decide) ?_
                  refine jr_istore (L' := [(18, .int 0), (17, .int 0), (8, .long (lN p)), (10, .long (lN q)), (12, .long (lN r)), (14, .long (lN s)), (16, .int 1)]) cx dX7_isBelow_172 (by decide) rfl ?_
                  refine jr_iload cx dX7_isBelow_174 1 rfl ?_
                  refine jr_iload cx dX7_isBelow_176 0 rfl ?_
                  refine jr_icmp_eq (tgt := 192) cx dX7_isBelow_178 (by decide) (fun c178 => ?_) (fun c178 => absurd c178 (by decide))
                  refine jr_iconst (v := 0) cx dX7_isBelow_192 (by decide) ?_
                  exact jr_ri (by exact (bI_f (fun e => by have e2 := (bl_2 n28.symm).mp (((bel_t hi)).mpr e); rw [n38, Nat.zero_mul] at e2; omega)).symm) (by rfl) (by rfl) (hR 193 _ dX7_isBelow_193)
                · have n164 : ¬ r % s = 0 := fun e => c164 ((gc_0 (by omega)).mpr e)
                  refine jr_iconst (v := 1) cx dX7_isBelow_167 (by decide) ?_
                  refine jr_goto (tgt := 172) cx dX7_isBelow_168 (by decide) ?_
                  refine jr_istore (L' := [(18, .int 1), (17, .int 0), (8, .long (lN p)), (10, .long (lN q)), (12, .long (lN r)), (14, .long (lN s)), (16, .int 1)]) cx dX7_isBelow_172 (by decide) rfl ?_
                  refine jr_iload cx dX7_isBelow_174 1 rfl ?_
                  refine jr_iload cx dX7_isBelow_176 0 rfl ?_
                  refine jr_icmp_eq (tgt := 192) cx dX7_isBelow_178 (by decide) (fun c178 => absurd c178 (by decide)) (fun c178 => ?_)
                  refine jr_iload cx dX7_isBelow_181 0 rfl ?_
                  refine jr_iload cx dX7_isBelow_183 6 rfl ?_
                  refine jr_icmp_eq (tgt := 192) cx dX7_isBelow_185 (by decide) (fun c185 => ?_) (fun c185 => absurd c185 (by decide))
                  refine jr_iconst (v := 0) cx dX7_isBelow_192 (by decide) ?_
                  exact jr_ri (by exact (bI_f (fun e => by have e2 := (bl_2 n28.symm).mp (((bel_t hi)).mpr e); rw [n38, Nat.zero_mul] at e2; omega)).symm) (by rfl) (by rfl) (hR 193 _ dX7_isBelow_193)
              · exact absurd c38 c147
            · exact absurd c28 c107
          · have n38 : ¬ p % q = 0 := fun e => c38 ((gc_0 (by omega)).mpr e)
            refine jr_lload cx dX7_isBelow_41 2 rfl ?_
            refine jr_lload cx dX7_isBelow_43 3 rfl ?_
            refine jr_lrem cx dX7_isBelow_45 (lN_ne (by omega) (by omega)) ?_
            refine jr_topl (pk_lRem (a := r) (b := s) (by omega) (by omega) (by omega)) ?_
            refine jr_lconst (v := 0) cx dX7_isBelow_46 (by decide) ?_
            refine jr_lcmp cx dX7_isBelow_47 ?_
            refine jr_lif_eq (tgt := 96) cx dX7_isBelow_48 (by decide) (fun c48 => ?_) (fun c48 => ?_)
            · have n48 : r % s = 0 := (gc_0 (by omega)).mp c48
              refine jr_lload cx dX7_isBelow_96 0 rfl ?_
              refine jr_lload cx dX7_isBelow_98 1 rfl ?_
              refine jr_ldiv cx dX7_isBelow_100 (lN_ne (by omega) (by omega)) ?_
              refine jr_topl (pk_lDiv (a := p) (b := q) (by omega) (by omega) (by omega)) ?_
              refine jr_lload cx dX7_isBelow_101 2 rfl ?_
              refine jr_lload cx dX7_isBelow_103 3 rfl ?_
              refine jr_ldiv cx dX7_isBelow_105 (lN_ne (by omega) (by omega)) ?_
              refine jr_topl (pk_lDiv (a := r) (b := s) (by omega) (by omega) (by omega)) ?_
              refine jr_lcmp cx dX7_isBelow_106 ?_
              refine jr_lif_eq (tgt := 140) cx dX7_isBelow_107 (by decide) (fun c107 => ?_) (fun c107 => ?_)
              · refine jr_lload cx dX7_isBelow_140 0 rfl ?_
                refine jr_lload cx dX7_isBelow_142 1 rfl ?_
                refine jr_lrem cx dX7_isBelow_144 (lN_ne (by omega) (by omega)) ?_
                refine jr_topl (pk_lRem (a := p) (b := q) (by omega) (by omega) (by omega)) ?_
                refine jr_lconst (v := 0) cx dX7_isBelow_145 (by decide) ?_
                refine jr_lcmp cx dX7_isBelow_146 ?_
                refine jr_lif_eq (tgt := 154) cx dX7_isBelow_147 (by decide) (fun c147 => ?_) (fun c147 => ?_)
                · exact absurd c147 c38
                · refine jr_iconst (v := 1) cx dX7_isBelow_150 (by decide) ?_
                  refine jr_goto (tgt := 155) cx dX7_isBelow_151 (by decide) ?_
                  refine jr_istore (L' := [(17, .int 1), (8, .long (lN p)), (10, .long (lN q)), (12, .long (lN r)), (14, .long (lN s)), (16, .int 1)]) cx dX7_isBelow_155 (by decide) rfl ?_
                  refine jr_lload cx dX7_isBelow_157 3 rfl ?_
                  refine jr_lload cx dX7_isBelow_159 4 rfl ?_
                  refine jr_lrem cx dX7_isBelow_161 (lN_ne (by omega) (by omega)) ?_
                  refine jr_topl (pk_lRem (a := r) (b := s) (by omega) (by omega) (by omega)) ?_
                  refine jr_lconst (v := 0) cx dX7_isBelow_162 (by decide) ?_
                  refine jr_lcmp cx dX7_isBelow_163 ?_
                  refine jr_lif_eq (tgt := 171) cx dX7_isBelow_164 (by decide) (fun c164 => ?_) (fun c164 => ?_)
                  · have n164 : r % s = 0 := (gc_0 (by omega)).mp c164
                    refine jr_iconst (v := 0) cx dX7_isBelow_171 (by decide) ?_
                    refine jr_istore (L' := [(18, .int 0), (17, .int 1), (8, .long (lN p)), (10, .long (lN q)), (12, .long (lN r)), (14, .long (lN s)), (16, .int 1)]) cx dX7_isBelow_172 (by decide) rfl ?_
                    refine jr_iload cx dX7_isBelow_174 1 rfl ?_
                    refine jr_iload cx dX7_isBelow_176 0 rfl ?_
                    refine jr_icmp_eq (tgt := 192) cx dX7_isBelow_178 (by decide) (fun c178 => absurd c178 (by decide)) (fun c178 => ?_)
                    refine jr_iload cx dX7_isBelow_181 0 rfl ?_
                    refine jr_iload cx dX7_isBelow_183 6 rfl ?_
                    refine jr_icmp_eq (tgt := 192) cx dX7_isBelow_185 (by decide) (fun c185 => absurd c185 (by decide)) (fun c185 => ?_)
                    refine jr_iconst (v := 1) cx dX7_isBelow_188 (by decide) ?_
                    refine jr_goto (tgt := 193) cx dX7_isBelow_189 (by decide) ?_
                    exact jr_ri (by exact (bI_t (((bel_t hi)).mp ((bl_2 n28.symm).mpr (by rw [n48, Nat.zero_mul]; exact Nat.mul_pos (by omega) hs)))).symm) (by rfl) (by rfl) (hR 193 _ dX7_isBelow_193)
                  · have n164 : ¬ r % s = 0 := fun e => c164 ((gc_0 (by omega)).mpr e)
                    exact absurd c48 c164
              · exact absurd c28 c107
            · have n48 : ¬ r % s = 0 := fun e => c48 ((gc_0 (by omega)).mpr e)
              refine jr_lload cx dX7_isBelow_51 0 rfl ?_
              refine jr_lload cx dX7_isBelow_53 1 rfl ?_
              refine jr_lrem cx dX7_isBelow_55 (lN_ne (by omega) (by omega)) ?_
              refine jr_topl (pk_lRem (a := p) (b := q) (by omega) (by omega) (by omega)) ?_
              refine jr_lstore (L' := [(17, .long (lN (p % q))), (8, .long (lN p)), (10, .long (lN q)), (12, .long (lN r)), (14, .long (lN s)), (16, .int 1)]) cx dX7_isBelow_56 (by decide) rfl ?_
              refine jr_lload cx dX7_isBelow_58 3 rfl ?_
              refine jr_lload cx dX7_isBelow_60 4 rfl ?_
              refine jr_lrem cx dX7_isBelow_62 (lN_ne (by omega) (by omega)) ?_
              refine jr_topl (pk_lRem (a := r) (b := s) (by omega) (by omega) (by omega)) ?_
              refine jr_lstore (L' := [(19, .long (lN (r % s))), (17, .long (lN (p % q))), (8, .long (lN p)), (10, .long (lN q)), (12, .long (lN r)), (14, .long (lN s)), (16, .int 1)]) cx dX7_isBelow_63 (by decide) rfl ?_
              refine jr_lload cx dX7_isBelow_65 3 rfl ?_
              refine jr_lstore (L' := [(8, .long (lN q)), (19, .long (lN (r % s))), (17, .long (lN (p % q))), (10, .long (lN q)), (12, .long (lN r)), (14, .long (lN s)), (16, .int 1)]) cx dX7_isBelow_67 (by decide) rfl ?_
              refine jr_lload cx dX7_isBelow_69 2 rfl ?_
              refine jr_lstore (L' := [(10, .long (lN (p % q))), (8, .long (lN q)), (19, .long (lN (r % s))), (17, .long (lN (p % q))), (12, .long (lN r)), (14, .long (lN s)), (16, .int 1)]) cx dX7_isBelow_71 (by decide) rfl ?_
              refine jr_lload cx dX7_isBelow_73 5 rfl ?_
              refine jr_lstore (L' := [(12, .long (lN s)), (10, .long (lN (p % q))), (8, .long (lN q)), (19, .long (lN (r % s))), (17, .long (lN (p % q))), (14, .long (lN s)), (16, .int 1)]) cx dX7_isBelow_75 (by decide) rfl ?_
              refine jr_lload cx dX7_isBelow_77 3 rfl ?_
              refine jr_lstore (L' := [(14, .long (lN (r % s))), (12, .long (lN s)), (10, .long (lN (p % q))), (8, .long (lN q)), (19, .long (lN (r % s))), (17, .long (lN (p % q))), (16, .int 1)]) cx dX7_isBelow_79 (by decide) rfl ?_
              refine jr_iload cx dX7_isBelow_81 6 rfl ?_
              refine jr_if_ne (tgt := 90) cx dX7_isBelow_83 (by decide) (fun c83 => ?_) (fun c83 => absurd c83 (by decide))
              refine jr_iconst (v := 0) cx dX7_isBelow_90 (by decide) ?_
              refine jr_istore (L' := [(16, .int 0), (14, .long (lN (r % s))), (12, .long (lN s)), (10, .long (lN (p % q))), (8, .long (lN q)), (19, .long (lN (r % s))), (17, .long (lN (p % q)))]) cx dX7_isBelow_91 (by decide) rfl ?_
              refine jr_goto (tgt := 17) cx dX7_isBelow_93 (by decide) ?_
              refine jr_pick (L' := [(8, .long (lN q)), (10, .long (lN (p % q))), (12, .long (lN s)), (14, .long (lN (r % s))), (16, .int 0)]) [4, 3, 2, 1, 0] rfl ?_
              have e16 : (0 : Int32) = (bI (false = true)) := by rfl
              refine jr_loc (lc_n (lc_n (lc_n (lc_n (lc_i e16 rfl))))) ?_
              exact ih1 q (p % q) s (r % s) false (by omega) hq1 (by omega) hs1 (by omega) (by omega) (by omega) ((bl_n n28).symm.trans hi)
  refine jr_pick (L' := [(8, .long (lN A)), (10, .long (lN B)), (12, .long (lN C)), (14, .long (lN D)), (16, .int 0)]) [4, 3, 2, 1, 0] rfl ?_
  have e16 : (0 : Int32) = (bI (false = true)) := by rfl
  refine jr_loc (lc_n (lc_n (lc_n (lc_n (lc_i e16 rfl))))) ?_
  exact key1 (B + 1) A B C D false (by omega) ha hb hc hd hb0 hd0 (by simp [bel])
