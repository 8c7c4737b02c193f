theorem lN_abs {a : Int64} (h : 0 ≤ a.toInt) : lN a.toInt.natAbs = a := by
  have := fb_rngL a
  rw [fa_eq64, pk_lT (by omega)]; omega
theorem c_X7_isBelowL (E : mm_E) (g : mm_I) (h : mm_L) (a b c d : Int64) (ha : 0 ≤ a.toInt) (hb : 0 < b.toInt) (hc : 0 ≤ c.toInt) (hd : 0 < d.toInt) : Ci E yX7_isBelow wsX7_isBelow 0 0 [.long a, .long b, .long c, .long d] g h (bI (a.toInt.natAbs * d.toInt.natAbs < c.toInt.natAbs * b.toInt.natAbs)) g h := by
  have r1 := fb_rngL a
  have r2 := fb_rngL b
  have r3 := fb_rngL c
  have r4 := fb_rngL d
  have := c_X7_isBelow E g h a.toInt.natAbs b.toInt.natAbs c.toInt.natAbs d.toInt.natAbs (by omega) (by omega) (by omega) (by omega) (by omega) (by omega)
  rw [lN_abs ha, lN_abs (Int.le_of_lt hb), lN_abs hc, lN_abs (Int.le_of_lt hd)] at this
  exact this
abbrev apT : Type := Int64 × Int64 × Int32
def s2M (f1 y1 f2 y2 : Nat → Int32) (n1 n2 : Nat) (x : Int32) : Int64 × Int64 := acS f2 y2 x (-1) n2 (acS f1 y1 x 1 n1 (0, 1) n1) n2
def amS (G : Int32 → Int64 × Int64) : Nat → Nat → apT → apT
  | 0, _, s => s
  | k + 1, t, s => amS G k (t + 1) (if s.1 < 0 ∨ s.1.toInt.natAbs * (G (nI t - 20)).2.toInt.natAbs < (abL (G (nI t - 20)).1).toInt.natAbs * s.2.1.toInt.natAbs then (abL (G (nI t - 20)).1, (G (nI t - 20)).2, nI t - 20) else s)
def amR (f1 y1 f2 y2 : Nat → Int32) (n1 n2 : Nat) (a b : Int32) : apT := amS (s2M f1 y1 f2 y2 n1 n2) (tnat b + 1 - tnat a) (tnat a) (-1, 1, a)
def okM (f1 y1 f2 y2 : Nat → Int32) (n1 n2 : Nat) (x : Int32) : Prop := okC f1 y1 x 1 n1 (0, 1) ∧ okC f2 y2 x (-1) n2 (acS f1 y1 x 1 n1 (0, 1) n1) ∧ (s2M f1 y1 f2 y2 n1 n2 x).1.toInt.natAbs < 2 ^ 63 ∧ 0 < (s2M f1 y1 f2 y2 n1 n2 x).2.toInt
theorem abL_nn {a : Int64} (h : a.toInt.natAbs < 2 ^ 63) : 0 ≤ (abL a).toInt ∧ (abL a).toInt.natAbs < 2 ^ 63 := by
  rw [abL_lN h, pk_lT h]; omega
theorem sIdx {a b t : Nat} (h : a ≤ t) (hb : t ≤ b) : t = b ∨ t + 1 ≤ b := by omega
set_option maxHeartbeats 4000000 in
set_option maxRecDepth 100000 in
theorem c_X7_apart (E : mm_E) (g : mm_I) (h : mm_L) (t u a b : Int32) (hst : ∀ t, t < 4 → ∃ n, n ≤ 4 ∧ g 17 t = nI n) (hok : ∀ j k, j < 4 → k < 4 → ¬ (g 17 j).toNatClampNeg = 0 → ¬ (g 17 k).toNatClampNeg = 0 → ∀ t, t ≤ 40 → okM (fun q => g 18 (4 * j + q)) (fun q => g 19 (4 * j + q)) (fun q => g 18 (4 * k + q)) (fun q => g 19 (4 * k + q)) (g 17 j).toNatClampNeg (g 17 k).toNatClampNeg (nI t - 20)) : Ci E yX7_apart wsX7_apart 4 111 [.ref (E.1 7), .int t, .int u, .int a, .int b] g h (dApart (fun j => (g 17 j).toNatClampNeg) t u a b (-1) (-4) (fun j k => 100 + (amR (fun q => g 18 (4 * j + q)) (fun q => g 19 (4 * j + q)) (fun q => g 18 (4 * k + q)) (fun q => g 19 (4 * k + q)) (g 17 j).toNatClampNeg (g 17 k).toNatClampNeg a b).2.2)) g (dApart (fun j => (g 17 j).toNatClampNeg) t u a b h h (fun j k => tlM (stH h (s2M (fun q => g 18 (4 * j + q)) (fun q => g 19 (4 * j + q)) (fun q => g 18 (4 * k + q)) (fun q => g 19 (4 * k + q)) (g 17 j).toNatClampNeg (g 17 k).toNatClampNeg b).1 (s2M (fun q => g 18 (4 * j + q)) (fun q => g 19 (4 * j + q)) (fun q => g 18 (4 * k + q)) (fun q => g 19 (4 * k + q)) (g 17 j).toNatClampNeg (g 17 k).toNatClampNeg b).2) (amR (fun q => g 18 (4 * j + q)) (fun q => g 19 (4 * j + q)) (fun q => g 18 (4 * k + q)) (fun q => g 19 (4 * k + q)) (g 17 j).toNatClampNeg (g 17 k).toNatClampNeg a b).1 (amR (fun q => g 18 (4 * j + q)) (fun q => g 19 (4 * j + q)) (fun q => g 18 (4 * k + q)) (fun q => g 19 (4 * k + q)) (g 17 j).toNatClampNeg (g 17 k).toNatClampNeg a b).2.1)) := by
  refine ci_i (bytes := cX7_apart) (maxL := 11) (by decide) rfl (Nat.le_of_ble_eq_true rfl) (fun X cx hR => ?_)
  change Cx E X cX7_apart RX7 wsX7_apart 11 4 111 at cx
  change JJ E X g h 0 [(0, .ref (E.1 7)), (1, .int t), (2, .int u), (3, .int a), (4, .int b)] []
  have hinX7 : ∀ w ∈ u_ws RX7 TX7 30, w ∈ wsX7_apart := by decide +kernel
  have mf_26 : Cond.fieldLink RX7 26 (TX7 8).1 (TX7 8).2.1 (TX7 8).2.2.1 ∈ wsX7_apart := by decide +kernel
  have mc_138 : Cond.constantLong RX7 138 (-1) ∈ wsX7_apart := by decide +kernel
  have mf_127 : Cond.fieldLink RX7 127 (TX7 11).1 (TX7 11).2.1 (TX7 11).2.2.1 ∈ wsX7_apart := by decide +kernel
  have mf_124 : Cond.fieldLink RX7 124 (TX7 12).1 (TX7 12).2.1 (TX7 12).2.2.1 ∈ wsX7_apart := by decide +kernel
  refine jr_iload_n cx dX7_apart_0 1 rfl rfl ?_
  refine jr_si [.int t] 1 cx dX7_apart_1 (c_X7_isTable E g h t) gX7_apart_X7_isTable rfl (by decide +kernel) ⟨Nat.le_of_ble_eq_true rfl, Nat.le_of_ble_eq_true rfl⟩ rfl rfl (Nat.le_of_ble_eq_true rfl) ?_
  refine jr_bif_eq (tgt := 35) cx dX7_apart_4 (by decide) (fun c4 => ?_) (fun c4 => ?_)
  · refine jr_iconst (v := (-1)) cx dX7_apart_35 (by decide) ?_
    exact jr_ri (by simp only [dApart, ite_self, if_neg c4]; try rfl) (by rfl) (by simp only [dApart, ite_self, if_neg c4]; try rfl) (hR 36 _ dX7_apart_36)
  · obtain ⟨j, hj, rfl⟩ := to_nat (M := 3) rfl c4; have ej : (nI j).toNatClampNeg = j := cl_nI (by omega); obtain ⟨n, hn, hs⟩ := hst j (by omega); have en : (g 17 j).toNatClampNeg = n := by rw [hs]; exact cl_nI (by omega)
    refine jr_iload_n cx dX7_apart_7 2 rfl rfl ?_
    refine jr_si [.int u] 1 cx dX7_apart_8 (c_X7_isTable E g h u) gX7_apart_X7_isTable rfl (by decide +kernel) ⟨Nat.le_of_ble_eq_true rfl, Nat.le_of_ble_eq_true rfl⟩ rfl rfl (Nat.le_of_ble_eq_true rfl) ?_
    refine jr_bif_eq (tgt := 35) cx dX7_apart_11 (by decide) (fun c11 => ?_) (fun c11 => ?_)
    · refine jr_iconst (v := (-1)) cx dX7_apart_35 (by decide) ?_
      exact jr_ri (by simp only [dApart, ite_self, en, if_pos c4, if_neg c11, ej]; try rfl) (by rfl) (by simp only [dApart, ite_self, en, if_pos c4, if_neg c11, ej]; try rfl) (hR 36 _ dX7_apart_36)
    · obtain ⟨k, hk, rfl⟩ := to_nat (M := 3) rfl c11; have ek : (nI k).toNatClampNeg = k := cl_nI (by omega); obtain ⟨m, hm, hs2⟩ := hst k (by omega); have em : (g 17 k).toNatClampNeg = m := by rw [hs2]; exact cl_nI (by omega)
      refine jr_iload_n cx dX7_apart_14 3 rfl rfl ?_
      refine jr_si [.int a] 1 cx dX7_apart_15 (c_X7_isX E g h a) gX7_apart_X7_isX rfl (by decide +kernel) ⟨Nat.le_of_ble_eq_true rfl, Nat.le_of_ble_eq_true rfl⟩ rfl rfl (Nat.le_of_ble_eq_true rfl) ?_
      refine jr_bif_eq (tgt := 35) cx dX7_apart_18 (by decide) (fun c18 => ?_) (fun c18 => ?_)
      · refine jr_iconst (v := (-1)) cx dX7_apart_35 (by decide) ?_
        exact jr_ri (by simp only [dApart, ite_self, en, em, if_pos c4, if_pos c11, if_neg c18, ej, ek]; try rfl) (by rfl) (by simp only [dApart, ite_self, en, em, if_pos c4, if_pos c11, if_neg c18, ej, ek]; try rfl) (hR 36 _ dX7_apart_36)
      · obtain ⟨a, ha, rfl⟩ := tw_pos c18; have ea : tnat (nI a - 20) = a := tnat_tw (by omega)
        refine jr_iload cx dX7_apart_21 4 rfl ?_
        refine jr_si [.int b] 1 cx dX7_apart_23 (c_X7_isX E g h b) gX7_apart_X7_isX rfl (by decide +kernel) ⟨Nat.le_of_ble_eq_true rfl, Nat.le_of_ble_eq_true rfl⟩ rfl rfl (Nat.le_of_ble_eq_true rfl) ?_
        refine jr_bif_eq (tgt := 35) cx dX7_apart_26 (by decide) (fun c26 => ?_) (fun c26 => ?_)
        · refine jr_iconst (v := (-1)) cx dX7_apart_35 (by decide) ?_
          exact jr_ri (by simp only [dApart, ite_self, en, em, if_pos c4, if_pos c11, if_pos c18, if_neg c26, ej, ek]; try rfl) (by rfl) (by simp only [dApart, ite_self, en, em, if_pos c4, if_pos c11, if_pos c18, if_neg c26, ej, ek]; try rfl) (hR 36 _ dX7_apart_36)
        · obtain ⟨b, hb, rfl⟩ := tw_pos c26; have eb : tnat (nI b - 20) = b := tnat_tw (by omega)
          refine jr_iload_n cx dX7_apart_29 3 rfl rfl ?_
          refine jr_iload cx dX7_apart_30 4 rfl ?_
          refine jr_icmp_le (tgt := 37) cx dX7_apart_32 (by decide) (fun c32 => ?_) (fun c32 => ?_)
          · have n32 : a ≤ b := (tw_le (by omega) (by omega)).mp c32
            refine jr_aload_n cx dX7_apart_37 0 rfl rfl ?_
            refine jr_get (f := 8) (v := .ref (E.1 17)) cx dX7_apart_38 (by decide) rfl rfl hinX7 (by decide) mf_26 rfl ?_
            refine jr_iload_n cx dX7_apart_41 1 rfl rfl ?_
            refine jr_iald cx dX7_apart_42 (Or.inl ⟨by decide, by decide⟩) j rfl (show _ < 4 by omega) ?_
            refine jr_top hs ?_
            refine jr_if_eq (tgt := 55) cx dX7_apart_43 (by decide) (fun c43 => ?_) (fun c43 => ?_)
            · have n43 : n = 0 := (nI_eq (a := n) (b := 0) (by omega) (by omega)).mp c43
              refine jr_bipush (v := (-4)) cx dX7_apart_55 (by decide) ?_
              exact jr_ri (by simp only [dApart, ite_self, en, em, if_pos c4, if_pos c11, if_pos c18, if_pos c26, if_pos c32, ej, ek]; all_goals rw [if_pos n43]; try rfl) (by rfl) (by simp only [dApart, ite_self, en, em, if_pos c4, if_pos c11, if_pos c18, if_pos c26, if_pos c32, ej, ek]; all_goals rw [if_pos n43]; try rfl) (hR 57 _ dX7_apart_57)
            · have n43 : ¬ (n = 0) := fun qq9 => c43 ((nI_eq (a := n) (b := 0) (by omega) (by omega)).mpr qq9)
              refine jr_aload_n cx dX7_apart_46 0 rfl rfl ?_
              refine jr_get (f := 8) (v := .ref (E.1 17)) cx dX7_apart_47 (by decide) rfl rfl hinX7 (by decide) mf_26 rfl ?_
              refine jr_iload_n cx dX7_apart_50 2 rfl rfl ?_
              refine jr_iald cx dX7_apart_51 (Or.inl ⟨by decide, by decide⟩) k rfl (show _ < 4 by omega) ?_
              refine jr_top hs2 ?_
              refine jr_if_ne (tgt := 58) cx dX7_apart_52 (by decide) (fun c52 => ?_) (fun c52 => ?_)
              · have n52 : ¬ (m = 0) := fun qq9 => c52 ((nI_eq (a := m) (b := 0) (by omega) (by omega)).mpr qq9)
                have hok := hok j k (by omega) (by omega) (by rw [en]; exact n43) (by rw [em]; exact n52); rw [en, em] at hok
                refine jr_iload_n cx dX7_apart_58 3 rfl rfl ?_
                refine jr_istore (L' := [(5, .int (nI a - 20)), (0, .ref (E.1 7)), (1, .int (nI j)), (2, .int (nI k)), (3, .int (nI a - 20)), (4, .int (nI b - 20))]) cx dX7_apart_59 (by decide) rfl ?_
                refine jr_ldc2 cx dX7_apart_61 mc_138 ?_
                refine jr_lstore (L' := [(6, .long (-1)), (5, .int (nI a - 20)), (0, .ref (E.1 7)), (1, .int (nI j)), (2, .int (nI k)), (3, .int (nI a - 20)), (4, .int (nI b - 20))]) cx dX7_apart_64 (by decide) rfl ?_
                refine jr_lconst (v := 1) cx dX7_apart_66 (by decide) ?_
                refine jr_lstore (L' := [(8, .long 1), (6, .long (-1)), (5, .int (nI a - 20)), (0, .ref (E.1 7)), (1, .int (nI j)), (2, .int (nI k)), (3, .int (nI a - 20)), (4, .int (nI b - 20))]) cx dX7_apart_67 (by decide) rfl ?_
                refine jr_iload_n cx dX7_apart_69 6 rfl rfl ?_
                refine jr_istore (L' := [(10, .int (nI a - 20)), (8, .long 1), (6, .long (-1)), (5, .int (nI a - 20)), (0, .ref (E.1 7)), (1, .int (nI j)), (2, .int (nI k)), (3, .int (nI a - 20)), (4, .int (nI b - 20))]) cx dX7_apart_70 (by decide) rfl ?_
                obtain ⟨T, hT⟩ : ∃ T, T = amS (s2M (fun q => g 18 (4 * j + q)) (fun q => g 19 (4 * j + q)) (fun q => g 18 (4 * k + q)) (fun q => g 19 (4 * k + q)) n m) (b + 1 - a) a (-1, 1, nI a - 20) := ⟨_, rfl⟩
                have key1 : ∀ (fu1 : Nat) (t : Nat) (s : apT) (u v : Int64), b + 2 ≤ t + fu1 → (t ≤ b + 1) → (amS (s2M (fun q => g 18 (4 * j + q)) (fun q => g 19 (4 * j + q)) (fun q => g 18 (4 * k + q)) (fun q => g 19 (4 * k + q)) n m) (b + 1 - t) t s = T) → (s.1 < 0 ∨ 0 ≤ s.1.toInt) → (0 < s.2.1.toInt) → (t ≤ a ∨ (u = (s2M (fun q => g 18 (4 * j + q)) (fun q => g 19 (4 * j + q)) (fun q => g 18 (4 * k + q)) (fun q => g 19 (4 * k + q)) n m (nI (t - 1) - 20)).1 ∧ v = (s2M (fun q => g 18 (4 * j + q)) (fun q => g 19 (4 * j + q)) (fun q => g 18 (4 * k + q)) (fun q => g 19 (4 * k + q)) n m (nI (t - 1) - 20)).2)) → (t ≤ a ∨ 0 ≤ s.1.toInt) → JJ E X g (stH h u v) 72 [(0, .ref (E.1 7)), (1, .int (nI j)), (2, .int (nI k)), (4, .int (nI b - 20)), (5, .int s.2.2), (6, .long s.1), (8, .long s.2.1), (10, .int (nI t - 20))] [] := by
                  intro fu1
                  induction fu1 with
                  | zero => intro t s u v hfu1 h1 h2 h4 h5 h6 h7; exfalso; omega
                  | succ fu1 ih1 =>
                    intro t s u v hfu1 h1 h2 h4 h5 h6 h7
                    refine jr_iload cx dX7_apart_72 7 rfl ?_
                    refine jr_iload cx dX7_apart_74 3 rfl ?_
                    refine jr_icmp_gt (tgt := 158) cx dX7_apart_76 (by decide) (fun c76 => ?_) (fun c76 => ?_)
                    · have n76 : b < t := (tw_lt (by omega) (by omega)).mp c76
                      have sT : s = T := by rw [← h2, show b + 1 - t = 0 by omega]; rfl
                      have pT : amR (fun q => g 18 (4 * j + q)) (fun q => g 19 (4 * j + q)) (fun q => g 18 (4 * k + q)) (fun q => g 19 (4 * k + q)) n m (nI a - 20) (nI b - 20) = s := by unfold amR; rw [ea, eb, sT, hT]
                      have tb : t - 1 = b := by omega
                      have uv : u = (s2M (fun q => g 18 (4 * j + q)) (fun q => g 19 (4 * j + q)) (fun q => g 18 (4 * k + q)) (fun q => g 19 (4 * k + q)) n m (nI b - 20)).1 ∧ v = (s2M (fun q => g 18 (4 * j + q)) (fun q => g 19 (4 * j + q)) (fun q => g 18 (4 * k + q)) (fun q => g 19 (4 * k + q)) n m (nI b - 20)).2 := by rw [← tb]; exact h6.resolve_left (by omega)
                      obtain ⟨eu, ev⟩ := uv
                      have s0 : 0 ≤ s.1.toInt := h4.resolve_left (by intro e; rw [fa_lt64] at e; exact absurd h7 (by intro e2; rcases e2 with e2 | e2; omega; exact absurd e2 (by rw [show (0 : Int64).toInt = 0 from rfl] at e; omega)))
                      refine jr_aload_n cx dX7_apart_158 0 rfl rfl ?_
                      refine jr_lload cx dX7_apart_159 5 rfl ?_
                      refine jr_lload cx dX7_apart_161 6 rfl ?_
                      refine jr_bipush (v := 100) cx dX7_apart_163 (by decide) ?_
                      refine jr_iload cx dX7_apart_165 4 rfl ?_
                      refine jr_iadd cx dX7_apart_167 ?_
                      refine jr_vi [.long s.1, .long s.2.1, .int (100 + s.2.2)] 3 cx dX7_apart_168 (c_X7_tell E g (stH h u v) s.1 s.2.1 (100 + s.2.2) (by have := fb_rngL s.1; omega) (by have := fb_rngL s.2.1; omega) (fun e => by rw [e] at h5; exact absurd h5 (by decide))) (by decide) rfl rfl gX7_apart_X7_tell rfl (by decide +kernel) ⟨Nat.le_of_ble_eq_true rfl, Nat.le_of_ble_eq_true rfl⟩ rfl rfl (Nat.le_of_ble_eq_true rfl) ?_
                      exact jr_ri (by simp only [dApart, ite_self, en, em, if_pos c4, if_pos c11, if_pos c18, if_pos c26, if_pos c32, ej, ek]; all_goals rw [if_neg n43]; all_goals rw [if_neg n52]; all_goals try rw [pT]; all_goals try rw [← eu, ← ev]; try rfl) (by rfl) (by simp only [dApart, ite_self, en, em, if_pos c4, if_pos c11, if_pos c18, if_pos c26, if_pos c32, ej, ek]; all_goals rw [if_neg n43]; all_goals rw [if_neg n52]; all_goals try rw [pT]; all_goals try rw [← eu, ← ev]; try rfl) (hR 171 _ dX7_apart_171)
                    · have n76 : t ≤ b := by have := mt (tw_lt (s := b) (t := t) (by omega) (by omega)).mpr c76; omega
                      obtain ⟨o1, o2, o3, o4⟩ := hok t (by omega)
                      refine jr_aload_n cx dX7_apart_79 0 rfl rfl ?_
                      refine jr_lconst (v := 0) cx dX7_apart_80 (by decide) ?_
                      refine jr_put_X7_11 cx dX7_apart_81 hinX7 mf_127 ?_
                      refine jr_aload_n cx dX7_apart_84 0 rfl rfl ?_
                      refine jr_lconst (v := 1) cx dX7_apart_85 (by decide) ?_
                      refine jr_put_X7_12 cx dX7_apart_86 hinX7 mf_124 ?_
                      refine jr_aload_n cx dX7_apart_89 0 rfl rfl ?_
                      refine jr_iload_n cx dX7_apart_90 1 rfl rfl ?_
                      refine jr_iload cx dX7_apart_91 7 rfl ?_
                      refine jr_iconst (v := 1) cx dX7_apart_93 (by decide) ?_
                      refine jr_vv [.int (nI j), .int (nI t - 20), .int 1] 3 cx dX7_apart_94 (c_X7_addCurve E g (upL (upL (stH h u v) 7 11 0) 7 12 1) j (by omega) (nI t - 20) 1 n hn hs o1) (by decide) rfl rfl gX7_apart_X7_addCurve rfl (by decide +kernel) ⟨Nat.le_of_ble_eq_true rfl, Nat.le_of_ble_eq_true rfl⟩ rfl rfl (Nat.le_of_ble_eq_true rfl) ?_
                      refine jr_aload_n cx dX7_apart_97 0 rfl rfl ?_
                      refine jr_iload_n cx dX7_apart_98 2 rfl rfl ?_
                      refine jr_iload cx dX7_apart_99 7 rfl ?_
                      refine jr_iconst (v := (-1)) cx dX7_apart_101 (by decide) ?_
                      refine jr_vv [.int (nI k), .int (nI t - 20), .int (-1)] 3 cx dX7_apart_102 (c_X7_addCurve E g (stH h (acS (fun q => g 18 (4 * j + q)) (fun q => g 19 (4 * j + q)) (nI t - 20) 1 n (0, 1) n).1 (acS (fun q => g 18 (4 * j + q)) (fun q => g 19 (4 * j + q)) (nI t - 20) 1 n (0, 1) n).2) k (by omega) (nI t - 20) (-1) m hm hs2 (show okC _ _ _ _ _ _ from o2)) (by decide) rfl rfl gX7_apart_X7_addCurve rfl (by decide +kernel) ⟨Nat.le_of_ble_eq_true rfl, Nat.le_of_ble_eq_true rfl⟩ rfl rfl (Nat.le_of_ble_eq_true rfl) ?_
                      refine jr_lload cx dX7_apart_105 5 rfl ?_
                      refine jr_lconst (v := 0) cx dX7_apart_107 (by decide) ?_
                      refine jr_lcmp cx dX7_apart_108 ?_
                      refine jr_lif_lt (tgt := 133) cx dX7_apart_109 (by decide) (fun c109 => ?_) (fun c109 => ?_)
                      · refine jr_iload cx dX7_apart_133 7 rfl ?_
                        refine jr_istore (L' := [(5, .int (nI t - 20)), (0, .ref (E.1 7)), (1, .int (nI j)), (2, .int (nI k)), (4, .int (nI b - 20)), (6, .long s.1), (8, .long s.2.1), (10, .int (nI t - 20))]) cx dX7_apart_135 (by decide) rfl ?_
                        refine jr_aload_n cx dX7_apart_137 1 rfl rfl ?_
                        refine jr_get (f := 11) (v := .long ((stH h (s2M (fun q => g 18 (4 * j + q)) (fun q => g 19 (4 * j + q)) (fun q => g 18 (4 * k + q)) (fun q => g 19 (4 * k + q)) n m (nI t - 20)).1 (s2M (fun q => g 18 (4 * j + q)) (fun q => g 19 (4 * j + q)) (fun q => g 18 (4 * k + q)) (fun q => g 19 (4 * k + q)) n m (nI t - 20)).2) 7 11)) cx dX7_apart_138 (by decide) rfl rfl hinX7 (by decide) mf_127 rfl ?_
                        refine jr_topl (stH_1 _ _ _) ?_
                        refine jr_sl [.long ((s2M (fun q => g 18 (4 * j + q)) (fun q => g 19 (4 * j + q)) (fun q => g 18 (4 * k + q)) (fun q => g 19 (4 * k + q)) n m (nI t - 20)).1)] 1 cx dX7_apart_141 (c_X7_size E g (stH h (s2M (fun q => g 18 (4 * j + q)) (fun q => g 19 (4 * j + q)) (fun q => g 18 (4 * k + q)) (fun q => g 19 (4 * k + q)) n m (nI t - 20)).1 (s2M (fun q => g 18 (4 * j + q)) (fun q => g 19 (4 * j + q)) (fun q => g 18 (4 * k + q)) (fun q => g 19 (4 * k + q)) n m (nI t - 20)).2) ((s2M (fun q => g 18 (4 * j + q)) (fun q => g 19 (4 * j + q)) (fun q => g 18 (4 * k + q)) (fun q => g 19 (4 * k + q)) n m (nI t - 20)).1)) gX7_apart_X7_size rfl (by decide +kernel) ⟨Nat.le_of_ble_eq_true rfl, Nat.le_of_ble_eq_true rfl⟩ rfl rfl (Nat.le_of_ble_eq_true rfl) ?_
                        refine jr_lstore (L' := [(6, .long (abL ((s2M (fun q => g 18 (4 * j + q)) (fun q => g 19 (4 * j + q)) (fun q => g 18 (4 * k + q)) (fun q => g 19 (4 * k + q)) n m (nI t - 20)).1))), (5, .int (nI t - 20)), (0, .ref (E.1 7)), (1, .int (nI j)), (2, .int (nI k)), (4, .int (nI b - 20)), (8, .long s.2.1), (10, .int (nI t - 20))]) cx dX7_apart_144 (by decide) rfl ?_
                        refine jr_aload_n cx dX7_apart_146 2 rfl rfl ?_
                        refine jr_get (f := 12) (v := .long ((stH h (s2M (fun q => g 18 (4 * j + q)) (fun q => g 19 (4 * j + q)) (fun q => g 18 (4 * k + q)) (fun q => g 19 (4 * k + q)) n m (nI t - 20)).1 (s2M (fun q => g 18 (4 * j + q)) (fun q => g 19 (4 * j + q)) (fun q => g 18 (4 * k + q)) (fun q => g 19 (4 * k + q)) n m (nI t - 20)).2) 7 12)) cx dX7_apart_147 (by decide) rfl rfl hinX7 (by decide) mf_124 rfl ?_
                        refine jr_topl (stH_2 _ _ _) ?_
                        refine jr_lstore (L' := [(8, .long ((s2M (fun q => g 18 (4 * j + q)) (fun q => g 19 (4 * j + q)) (fun q => g 18 (4 * k + q)) (fun q => g 19 (4 * k + q)) n m (nI t - 20)).2)), (6, .long (abL ((s2M (fun q => g 18 (4 * j + q)) (fun q => g 19 (4 * j + q)) (fun q => g 18 (4 * k + q)) (fun q => g 19 (4 * k + q)) n m (nI t - 20)).1))), (5, .int (nI t - 20)), (0, .ref (E.1 7)), (1, .int (nI j)), (2, .int (nI k)), (4, .int (nI b - 20)), (10, .int (nI t - 20))]) cx dX7_apart_150 (by decide) rfl ?_
                        refine jr_iinc (n := 7) (v := (nI t - 20) + 1) (L' := [(10, .int ((nI t - 20) + 1)), (8, .long ((s2M (fun q => g 18 (4 * j + q)) (fun q => g 19 (4 * j + q)) (fun q => g 18 (4 * k + q)) (fun q => g 19 (4 * k + q)) n m (nI t - 20)).2)), (6, .long (abL ((s2M (fun q => g 18 (4 * j + q)) (fun q => g 19 (4 * j + q)) (fun q => g 18 (4 * k + q)) (fun q => g 19 (4 * k + q)) n m (nI t - 20)).1))), (5, .int (nI t - 20)), (0, .ref (E.1 7)), (1, .int (nI j)), (2, .int (nI k)), (4, .int (nI b - 20))]) cx dX7_apart_152 rfl rfl (by decide) rfl ?_
                        refine jr_goto (tgt := 72) cx dX7_apart_155 (by decide) ?_
                        refine jr_pick (L' := [(0, .ref (E.1 7)), (1, .int (nI j)), (2, .int (nI k)), (4, .int (nI b - 20)), (5, .int (nI t - 20)), (6, .long (abL ((s2M (fun q => g 18 (4 * j + q)) (fun q => g 19 (4 * j + q)) (fun q => g 18 (4 * k + q)) (fun q => g 19 (4 * k + q)) n m (nI t - 20)).1))), (8, .long ((s2M (fun q => g 18 (4 * j + q)) (fun q => g 19 (4 * j + q)) (fun q => g 18 (4 * k + q)) (fun q => g 19 (4 * k + q)) n m (nI t - 20)).2)), (10, .int ((nI t - 20) + 1))]) [4, 5, 6, 7, 3, 2, 1, 0] rfl ?_
                        have e5 : (nI t - 20 : Int32) = (((abL (s2M (fun q => g 18 (4 * j + q)) (fun q => g 19 (4 * j + q)) (fun q => g 18 (4 * k + q)) (fun q => g 19 (4 * k + q)) n m (nI t - 20)).1, (s2M (fun q => g 18 (4 * j + q)) (fun q => g 19 (4 * j + q)) (fun q => g 18 (4 * k + q)) (fun q => g 19 (4 * k + q)) n m (nI t - 20)).2, (nI t - 20)) : apT).2.2) := by rfl
                        have e6 : (abL ((s2M (fun q => g 18 (4 * j + q)) (fun q => g 19 (4 * j + q)) (fun q => g 18 (4 * k + q)) (fun q => g 19 (4 * k + q)) n m (nI t - 20)).1) : Int64) = (((abL (s2M (fun q => g 18 (4 * j + q)) (fun q => g 19 (4 * j + q)) (fun q => g 18 (4 * k + q)) (fun q => g 19 (4 * k + q)) n m (nI t - 20)).1, (s2M (fun q => g 18 (4 * j + q)) (fun q => g 19 (4 * j + q)) (fun q => g 18 (4 * k + q)) (fun q => g 19 (4 * k + q)) n m (nI t - 20)).2, (nI t - 20)) : apT).1) := by rfl
                        have e8 : ((s2M (fun q => g 18 (4 * j + q)) (fun q => g 19 (4 * j + q)) (fun q => g 18 (4 * k + q)) (fun q => g 19 (4 * k + q)) n m (nI t - 20)).2 : Int64) = (((abL (s2M (fun q => g 18 (4 * j + q)) (fun q => g 19 (4 * j + q)) (fun q => g 18 (4 * k + q)) (fun q => g 19 (4 * k + q)) n m (nI t - 20)).1, (s2M (fun q => g 18 (4 * j + q)) (fun q => g 19 (4 * j + q)) (fun q => g 18 (4 * k + q)) (fun q => g 19 (4 * k + q)) n m (nI t - 20)).2, (nI t - 20)) : apT).2.1) := by rfl
                        have e10 : ((nI t - 20) + 1 : Int32) = (nI (t + 1) - 20) := by exact tw_1 (by omega)
                        refine jr_loc (lc_n (lc_n (lc_n (lc_n (lc_i e5 (lc_l e6 (lc_l e8 (lc_i e10 rfl)))))))) ?_
                        refine jr_mem (g' := g) (h' := stH h ((s2M (fun q => g 18 (4 * j + q)) (fun q => g 19 (4 * j + q)) (fun q => g 18 (4 * k + q)) (fun q => g 19 (4 * k + q)) n m (nI t - 20)).1) ((s2M (fun q => g 18 (4 * j + q)) (fun q => g 19 (4 * j + q)) (fun q => g 18 (4 * k + q)) (fun q => g 19 (4 * k + q)) n m (nI t - 20)).2)) (by rfl) (by rfl) ?_
                        exact ih1 (t + 1) ((abL (s2M (fun q => g 18 (4 * j + q)) (fun q => g 19 (4 * j + q)) (fun q => g 18 (4 * k + q)) (fun q => g 19 (4 * k + q)) n m (nI t - 20)).1, (s2M (fun q => g 18 (4 * j + q)) (fun q => g 19 (4 * j + q)) (fun q => g 18 (4 * k + q)) (fun q => g 19 (4 * k + q)) n m (nI t - 20)).2, (nI t - 20)) : apT) ((s2M (fun q => g 18 (4 * j + q)) (fun q => g 19 (4 * j + q)) (fun q => g 18 (4 * k + q)) (fun q => g 19 (4 * k + q)) n m (nI t - 20)).1) ((s2M (fun q => g 18 (4 * j + q)) (fun q => g 19 (4 * j + q)) (fun q => g 18 (4 * k + q)) (fun q => g 19 (4 * k + q)) n m (nI t - 20)).2) (by omega) (by omega) (by rw [← h2, show b + 1 - t = (b + 1 - (t + 1)) + 1 by omega, amS, if_pos (Or.inl c109)]) (Or.inr (abL_nn o3).1) o4 (Or.inr (by rw [Nat.add_sub_cancel]; exact ⟨rfl, rfl⟩)) (Or.inr (abL_nn o3).1)
                      · refine jr_lload cx dX7_apart_112 5 rfl ?_
                        refine jr_lload cx dX7_apart_114 6 rfl ?_
                        refine jr_aload_n cx dX7_apart_116 0 rfl rfl ?_
                        refine jr_get (f := 11) (v := .long ((stH h (s2M (fun q => g 18 (4 * j + q)) (fun q => g 19 (4 * j + q)) (fun q => g 18 (4 * k + q)) (fun q => g 19 (4 * k + q)) n m (nI t - 20)).1 (s2M (fun q => g 18 (4 * j + q)) (fun q => g 19 (4 * j + q)) (fun q => g 18 (4 * k + q)) (fun q => g 19 (4 * k + q)) n m (nI t - 20)).2) 7 11)) cx dX7_apart_117 (by decide) rfl rfl hinX7 (by decide) mf_127 rfl ?_
                        refine jr_topl (stH_1 _ _ _) ?_
                        refine jr_sl [.long ((s2M (fun q => g 18 (4 * j + q)) (fun q => g 19 (4 * j + q)) (fun q => g 18 (4 * k + q)) (fun q => g 19 (4 * k + q)) n m (nI t - 20)).1)] 1 cx dX7_apart_120 (c_X7_size E g (stH h (s2M (fun q => g 18 (4 * j + q)) (fun q => g 19 (4 * j + q)) (fun q => g 18 (4 * k + q)) (fun q => g 19 (4 * k + q)) n m (nI t - 20)).1 (s2M (fun q => g 18 (4 * j + q)) (fun q => g 19 (4 * j + q)) (fun q => g 18 (4 * k + q)) (fun q => g 19 (4 * k + q)) n m (nI t - 20)).2) ((s2M (fun q => g 18 (4 * j + q)) (fun q => g 19 (4 * j + q)) (fun q => g 18 (4 * k + q)) (fun q => g 19 (4 * k + q)) n m (nI t - 20)).1)) gX7_apart_X7_size rfl (by decide +kernel) ⟨Nat.le_of_ble_eq_true rfl, Nat.le_of_ble_eq_true rfl⟩ rfl rfl (Nat.le_of_ble_eq_true rfl) ?_
                        refine jr_aload_n cx dX7_apart_123 0 rfl rfl ?_
                        refine jr_get (f := 12) (v := .long ((stH h (s2M (fun q => g 18 (4 * j + q)) (fun q => g 19 (4 * j + q)) (fun q => g 18 (4 * k + q)) (fun q => g 19 (4 * k + q)) n m (nI t - 20)).1 (s2M (fun q => g 18 (4 * j + q)) (fun q => g 19 (4 * j + q)) (fun q => g 18 (4 * k + q)) (fun q => g 19 (4 * k + q)) n m (nI t - 20)).2) 7 12)) cx dX7_apart_124 (by decide) rfl rfl hinX7 (by decide) mf_124 rfl ?_
                        refine jr_topl (stH_2 _ _ _) ?_
                        refine jr_si [.long s.1, .long s.2.1, .long (abL ((s2M (fun q => g 18 (4 * j + q)) (fun q => g 19 (4 * j + q)) (fun q => g 18 (4 * k + q)) (fun q => g 19 (4 * k + q)) n m (nI t - 20)).1)), .long ((s2M (fun q => g 18 (4 * j + q)) (fun q => g 19 (4 * j + q)) (fun q => g 18 (4 * k + q)) (fun q => g 19 (4 * k + q)) n m (nI t - 20)).2)] 4 cx dX7_apart_127 (c_X7_isBelowL E g (stH h (s2M (fun q => g 18 (4 * j + q)) (fun q => g 19 (4 * j + q)) (fun q => g 18 (4 * k + q)) (fun q => g 19 (4 * k + q)) n m (nI t - 20)).1 (s2M (fun q => g 18 (4 * j + q)) (fun q => g 19 (4 * j + q)) (fun q => g 18 (4 * k + q)) (fun q => g 19 (4 * k + q)) n m (nI t - 20)).2) s.1 s.2.1 (abL ((s2M (fun q => g 18 (4 * j + q)) (fun q => g 19 (4 * j + q)) (fun q => g 18 (4 * k + q)) (fun q => g 19 (4 * k + q)) n m (nI t - 20)).1)) ((s2M (fun q => g 18 (4 * j + q)) (fun q => g 19 (4 * j + q)) (fun q => g 18 (4 * k + q)) (fun q => g 19 (4 * k + q)) n m (nI t - 20)).2) (h4.resolve_left c109) h5 (abL_nn o3).1 o4) gX7_apart_X7_isBelow rfl (by decide +kernel) ⟨Nat.le_of_ble_eq_true rfl, Nat.le_of_ble_eq_true rfl⟩ rfl rfl (Nat.le_of_ble_eq_true rfl) ?_
                        refine jr_bif_eq (tgt := 152) cx dX7_apart_130 (by decide) (fun c130 => ?_) (fun c130 => ?_)
                        · refine jr_iinc (n := 7) (v := (nI t - 20) + 1) (L' := [(10, .int ((nI t - 20) + 1)), (0, .ref (E.1 7)), (1, .int (nI j)), (2, .int (nI k)), (4, .int (nI b - 20)), (5, .int s.2.2), (6, .long s.1), (8, .long s.2.1)]) cx dX7_apart_152 rfl rfl (by decide) rfl ?_
                          refine jr_goto (tgt := 72) cx dX7_apart_155 (by decide) ?_
                          refine jr_pick (L' := [(0, .ref (E.1 7)), (1, .int (nI j)), (2, .int (nI k)), (4, .int (nI b - 20)), (5, .int s.2.2), (6, .long s.1), (8, .long s.2.1), (10, .int ((nI t - 20) + 1))]) [1, 2, 3, 4, 5, 6, 7, 0] rfl ?_
                          have e10 : ((nI t - 20) + 1 : Int32) = (nI (t + 1) - 20) := by exact tw_1 (by omega)
                          refine jr_loc (lc_n (lc_n (lc_n (lc_n (lc_n (lc_n (lc_n (lc_i e10 rfl)))))))) ?_
                          refine jr_mem (g' := g) (h' := stH h ((s2M (fun q => g 18 (4 * j + q)) (fun q => g 19 (4 * j + q)) (fun q => g 18 (4 * k + q)) (fun q => g 19 (4 * k + q)) n m (nI t - 20)).1) ((s2M (fun q => g 18 (4 * j + q)) (fun q => g 19 (4 * j + q)) (fun q => g 18 (4 * k + q)) (fun q => g 19 (4 * k + q)) n m (nI t - 20)).2)) (by rfl) (by rfl) ?_
                          exact ih1 (t + 1) s ((s2M (fun q => g 18 (4 * j + q)) (fun q => g 19 (4 * j + q)) (fun q => g 18 (4 * k + q)) (fun q => g 19 (4 * k + q)) n m (nI t - 20)).1) ((s2M (fun q => g 18 (4 * j + q)) (fun q => g 19 (4 * j + q)) (fun q => g 18 (4 * k + q)) (fun q => g 19 (4 * k + q)) n m (nI t - 20)).2) (by omega) (by omega) (by rw [← h2, show b + 1 - t = (b + 1 - (t + 1)) + 1 by omega, amS, if_neg (fun e => e.elim c109 c130)]) h4 h5 (Or.inr (by rw [Nat.add_sub_cancel]; exact ⟨rfl, rfl⟩)) (Or.inr (h4.resolve_left c109))
                        · refine jr_iload cx dX7_apart_133 7 rfl ?_
                          refine jr_istore (L' := [(5, .int (nI t - 20)), (0, .ref (E.1 7)), (1, .int (nI j)), (2, .int (nI k)), (4, .int (nI b - 20)), (6, .long s.1), (8, .long s.2.1), (10, .int (nI t - 20))]) cx dX7_apart_135 (by decide) rfl ?_
                          refine jr_aload_n cx dX7_apart_137 1 rfl rfl ?_
                          refine jr_get (f := 11) (v := .long ((stH h (s2M (fun q => g 18 (4 * j + q)) (fun q => g 19 (4 * j + q)) (fun q => g 18 (4 * k + q)) (fun q => g 19 (4 * k + q)) n m (nI t - 20)).1 (s2M (fun q => g 18 (4 * j + q)) (fun q => g 19 (4 * j + q)) (fun q => g 18 (4 * k + q)) (fun q => g 19 (4 * k + q)) n m (nI t - 20)).2) 7 11)) cx dX7_apart_138 (by decide) rfl rfl hinX7 (by decide) mf_127 rfl ?_
                          refine jr_topl (stH_1 _ _ _) ?_
                          refine jr_sl [.long ((s2M (fun q => g 18 (4 * j + q)) (fun q => g 19 (4 * j + q)) (fun q => g 18 (4 * k + q)) (fun q => g 19 (4 * k + q)) n m (nI t - 20)).1)] 1 cx dX7_apart_141 (c_X7_size E g (stH h (s2M (fun q => g 18 (4 * j + q)) (fun q => g 19 (4 * j + q)) (fun q => g 18 (4 * k + q)) (fun q => g 19 (4 * k + q)) n m (nI t - 20)).1 (s2M (fun q => g 18 (4 * j + q)) (fun q => g 19 (4 * j + q)) (fun q => g 18 (4 * k + q)) (fun q => g 19 (4 * k + q)) n m (nI t - 20)).2) ((s2M (fun q => g 18 (4 * j + q)) (fun q => g 19 (4 * j + q)) (fun q => g 18 (4 * k + q)) (fun q => g 19 (4 * k + q)) n m (nI t - 20)).1)) gX7_apart_X7_size rfl (by decide +kernel) ⟨Nat.le_of_ble_eq_true rfl, Nat.le_of_ble_eq_true rfl⟩ rfl rfl (Nat.le_of_ble_eq_true rfl) ?_
                          refine jr_lstore (L' := [(6, .long (abL ((s2M (fun q => g 18 (4 * j + q)) (fun q => g 19 (4 * j + q)) (fun q => g 18 (4 * k + q)) (fun q => g 19 (4 * k + q)) n m (nI t - 20)).1))), (5, .int (nI t - 20)), (0, .ref (E.1 7)), (1, .int (nI j)), (2, .int (nI k)), (4, .int (nI b - 20)), (8, .long s.2.1), (10, .int (nI t - 20))]) cx dX7_apart_144 (by decide) rfl ?_
                          refine jr_aload_n cx dX7_apart_146 2 rfl rfl ?_
                          refine jr_get (f := 12) (v := .long ((stH h (s2M (fun q => g 18 (4 * j + q)) (fun q => g 19 (4 * j + q)) (fun q => g 18 (4 * k + q)) (fun q => g 19 (4 * k + q)) n m (nI t - 20)).1 (s2M (fun q => g 18 (4 * j + q)) (fun q => g 19 (4 * j + q)) (fun q => g 18 (4 * k + q)) (fun q => g 19 (4 * k + q)) n m (nI t - 20)).2) 7 12)) cx dX7_apart_147 (by decide) rfl rfl hinX7 (by decide) mf_124 rfl ?_
                          refine jr_topl (stH_2 _ _ _) ?_
                          refine jr_lstore (L' := [(8, .long ((s2M (fun q => g 18 (4 * j + q)) (fun q => g 19 (4 * j + q)) (fun q => g 18 (4 * k + q)) (fun q => g 19 (4 * k + q)) n m (nI t - 20)).2)), (6, .long (abL ((s2M (fun q => g 18 (4 * j + q)) (fun q => g 19 (4 * j + q)) (fun q => g 18 (4 * k + q)) (fun q => g 19 (4 * k + q)) n m (nI t - 20)).1))), (5, .int (nI t - 20)), (0, .ref (E.1 7)), (1, .int (nI j)), (2, .int (nI k)), (4, .int (nI b - 20)), (10, .int (nI t - 20))]) cx dX7_apart_150 (by decide) rfl ?_
                          refine jr_iinc (n := 7) (v := (nI t - 20) + 1) (L' := [(10, .int ((nI t - 20) + 1)), (8, .long ((s2M (fun q => g 18 (4 * j + q)) (fun q => g 19 (4 * j + q)) (fun q => g 18 (4 * k + q)) (fun q => g 19 (4 * k + q)) n m (nI t - 20)).2)), (6, .long (abL ((s2M (fun q => g 18 (4 * j + q)) (fun q => g 19 (4 * j + q)) (fun q => g 18 (4 * k + q)) (fun q => g 19 (4 * k + q)) n m (nI t - 20)).1))), (5, .int (nI t - 20)), (0, .ref (E.1 7)), (1, .int (nI j)), (2, .int (nI k)), (4, .int (nI b - 20))]) cx dX7_apart_152 rfl rfl (by decide) rfl ?_
                          refine jr_goto (tgt := 72) cx dX7_apart_155 (by decide) ?_
                          refine jr_pick (L' := [(0, .ref (E.1 7)), (1, .int (nI j)), (2, .int (nI k)), (4, .int (nI b - 20)), (5, .int (nI t - 20)), (6, .long (abL ((s2M (fun q => g 18 (4 * j + q)) (fun q => g 19 (4 * j + q)) (fun q => g 18 (4 * k + q)) (fun q => g 19 (4 * k + q)) n m (nI t - 20)).1))), (8, .long ((s2M (fun q => g 18 (4 * j + q)) (fun q => g 19 (4 * j + q)) (fun q => g 18 (4 * k + q)) (fun q => g 19 (4 * k + q)) n m (nI t - 20)).2)), (10, .int ((nI t - 20) + 1))]) [4, 5, 6, 7, 3, 2, 1, 0] rfl ?_
                          have e5 : (nI t - 20 : Int32) = (((abL (s2M (fun q => g 18 (4 * j + q)) (fun q => g 19 (4 * j + q)) (fun q => g 18 (4 * k + q)) (fun q => g 19 (4 * k + q)) n m (nI t - 20)).1, (s2M (fun q => g 18 (4 * j + q)) (fun q => g 19 (4 * j + q)) (fun q => g 18 (4 * k + q)) (fun q => g 19 (4 * k + q)) n m (nI t - 20)).2, (nI t - 20)) : apT).2.2) := by rfl
                          have e6 : (abL ((s2M (fun q => g 18 (4 * j + q)) (fun q => g 19 (4 * j + q)) (fun q => g 18 (4 * k + q)) (fun q => g 19 (4 * k + q)) n m (nI t - 20)).1) : Int64) = (((abL (s2M (fun q => g 18 (4 * j + q)) (fun q => g 19 (4 * j + q)) (fun q => g 18 (4 * k + q)) (fun q => g 19 (4 * k + q)) n m (nI t - 20)).1, (s2M (fun q => g 18 (4 * j + q)) (fun q => g 19 (4 * j + q)) (fun q => g 18 (4 * k + q)) (fun q => g 19 (4 * k + q)) n m (nI t - 20)).2, (nI t - 20)) : apT).1) := by rfl
                          have e8 : ((s2M (fun q => g 18 (4 * j + q)) (fun q => g 19 (4 * j + q)) (fun q => g 18 (4 * k + q)) (fun q => g 19 (4 * k + q)) n m (nI t - 20)).2 : Int64) = (((abL (s2M (fun q => g 18 (4 * j + q)) (fun q => g 19 (4 * j + q)) (fun q => g 18 (4 * k + q)) (fun q => g 19 (4 * k + q)) n m (nI t - 20)).1, (s2M (fun q => g 18 (4 * j + q)) (fun q => g 19 (4 * j + q)) (fun q => g 18 (4 * k + q)) (fun q => g 19 (4 * k + q)) n m (nI t - 20)).2, (nI t - 20)) : apT).2.1) := by rfl
                          have e10 : ((nI t - 20) + 1 : Int32) = (nI (t + 1) - 20) := by exact tw_1 (by omega)
                          refine jr_loc (lc_n (lc_n (lc_n (lc_n (lc_i e5 (lc_l e6 (lc_l e8 (lc_i e10 rfl)))))))) ?_
                          refine jr_mem (g' := g) (h' := stH h ((s2M (fun q => g 18 (4 * j + q)) (fun q => g 19 (4 * j + q)) (fun q => g 18 (4 * k + q)) (fun q => g 19 (4 * k + q)) n m (nI t - 20)).1) ((s2M (fun q => g 18 (4 * j + q)) (fun q => g 19 (4 * j + q)) (fun q => g 18 (4 * k + q)) (fun q => g 19 (4 * k + q)) n m (nI t - 20)).2)) (by rfl) (by rfl) ?_
                          exact ih1 (t + 1) ((abL (s2M (fun q => g 18 (4 * j + q)) (fun q => g 19 (4 * j + q)) (fun q => g 18 (4 * k + q)) (fun q => g 19 (4 * k + q)) n m (nI t - 20)).1, (s2M (fun q => g 18 (4 * j + q)) (fun q => g 19 (4 * j + q)) (fun q => g 18 (4 * k + q)) (fun q => g 19 (4 * k + q)) n m (nI t - 20)).2, (nI t - 20)) : apT) ((s2M (fun q => g 18 (4 * j + q)) (fun q => g 19 (4 * j + q)) (fun q => g 18 (4 * k + q)) (fun q => g 19 (4 * k + q)) n m (nI t - 20)).1) ((s2M (fun q => g 18 (4 * j + q)) (fun q => g 19 (4 * j + q)) (fun q => g 18 (4 * k + q)) (fun q => g 19 (4 * k + q)) n m (nI t - 20)).2) (by omega) (by omega) (by rw [← h2, show b + 1 - t = (b + 1 - (t + 1)) + 1 by omega, amS, if_pos (Or.inr c130)]) (Or.inr (abL_nn o3).1) o4 (Or.inr (by rw [Nat.add_sub_cancel]; exact ⟨rfl, rfl⟩)) (Or.inr (abL_nn o3).1)
                refine jr_pick (L' := [(0, .ref (E.1 7)), (1, .int (nI j)), (2, .int (nI k)), (4, .int (nI b - 20)), (5, .int (nI a - 20)), (6, .long (-1)), (8, .long 1), (10, .int (nI a - 20))]) [4, 5, 6, 8, 3, 2, 1, 0] rfl ?_
                have e5 : (nI a - 20 : Int32) = (((-1, 1, nI a - 20) : apT).2.2) := by rfl
                have e6 : ((-1) : Int64) = (((-1, 1, nI a - 20) : apT).1) := by rfl
                have e8 : (1 : Int64) = (((-1, 1, nI a - 20) : apT).2.1) := by rfl
                refine jr_loc (lc_n (lc_n (lc_n (lc_n (lc_i e5 (lc_l e6 (lc_l e8 (lc_n rfl)))))))) ?_
                refine jr_mem (g' := g) (h' := stH h (h 7 11) (h 7 12)) (by rfl) (by exact (stH_id h).symm) ?_
                exact key1 (b + 2) a ((-1, 1, nI a - 20) : apT) (h 7 11) (h 7 12) (by omega) (by omega) hT.symm (Or.inl (show (-1 : Int64) < 0 by decide)) (show (0 : Int) < (1 : Int64).toInt by decide) (Or.inl (Nat.le_refl a)) (Or.inl (Nat.le_refl a))
              · have n52 : m = 0 := (nI_eq (a := m) (b := 0) (by omega) (by omega)).mp c52
                refine jr_bipush (v := (-4)) cx dX7_apart_55 (by decide) ?_
                exact jr_ri (by simp only [dApart, ite_self, en, em, if_pos c4, if_pos c11, if_pos c18, if_pos c26, if_pos c32, ej, ek]; all_goals rw [if_neg n43]; all_goals rw [if_pos n52]; try rfl) (by rfl) (by simp only [dApart, ite_self, en, em, if_pos c4, if_pos c11, if_pos c18, if_pos c26, if_pos c32, ej, ek]; all_goals rw [if_neg n43]; all_goals rw [if_pos n52]; try rfl) (hR 57 _ dX7_apart_57)
          · refine jr_iconst (v := (-1)) cx dX7_apart_35 (by decide) ?_
            exact jr_ri (by simp only [dApart, ite_self, en, em, if_pos c4, if_pos c11, if_pos c18, if_pos c26, if_neg c32, ej, ek]; try rfl) (by rfl) (by simp only [dApart, ite_self, en, em, if_pos c4, if_pos c11, if_pos c18, if_pos c26, if_neg c32, ej, ek]; try rfl) (hR 36 _ dX7_apart_36)
