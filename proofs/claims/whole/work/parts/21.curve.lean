theorem tw_pos {x : Int32} (h : ¬ x < -20 ∧ ¬ 20 < x) : ∃ t : Nat, t ≤ 40 ∧ x = nI t - 20 := by
  have a := Int32.not_lt.mp h.1
  have b := Int32.not_lt.mp h.2
  rw [fa_le] at a b
  have a1 : (-20 : Int32).toInt = -20 := rfl
  have b1 : (20 : Int32).toInt = 20 := rfl
  rw [a1] at a; rw [b1] at b
  refine ⟨(x.toInt + 20).toNat, by omega, ?_⟩
  have hx : BdI x 20 := by unfold BdI; omega
  have hn : BdI (nI (x.toInt + 20).toNat) 40 := by unfold BdI; rw [nI_toInt (by omega)]; omega
  rw [fa_eq, subIV hn (show (20 : Int32).toInt.natAbs ≤ 20 by decide) (by decide), nI_toInt (by omega), b1]
  omega
theorem tw_int {t : Nat} (h : t ≤ 100) : (nI t - 20).toInt = (t : Int) - 20 := by
  have hn : BdI (nI t) 100 := by unfold BdI; rw [nI_toInt (by omega)]; omega
  rw [subIV hn (show (20 : Int32).toInt.natAbs ≤ 20 by decide) (by decide), nI_toInt (by omega)]
  rfl
theorem tw_lt {s t : Nat} (hs : s ≤ 100) (ht : t ≤ 100) : nI s - 20 < nI t - 20 ↔ s < t := by
  rw [fa_lt, tw_int hs, tw_int ht]; omega
theorem tw_le {s t : Nat} (hs : s ≤ 100) (ht : t ≤ 100) : nI s - 20 ≤ nI t - 20 ↔ s ≤ t := by
  rw [fa_le, tw_int hs, tw_int ht]; omega
theorem tw_1 {t : Nat} (h : t ≤ 99) : nI t - 20 + 1 = nI (t + 1) - 20 := by
  have e : BdI (nI t - 20) 120 := by unfold BdI; rw [tw_int (by omega)]; omega
  rw [fa_eq, tw_int (by omega), fb_addI (by rw [tw_int (by omega)]; have : (1 : Int32).toInt = 1 := rfl; omega) (by rw [tw_int (by omega)]; have : (1 : Int32).toInt = 1 := rfl; omega), tw_int (by omega)]
  have : (1 : Int32).toInt = 1 := rfl
  omega
def dCurve {α : Type} (sz : Nat → Nat) (t x : Int32) (bad state : α) (ok : Nat → α) : α := if ¬ t < 0 ∧ ¬ 3 < t then (if inX x then (if sz t.toNatClampNeg = 0 then state else ok t.toNatClampNeg) else bad) else bad
def okT (f : Nat → Int32) (n : Nat) : Prop := (∀ i, i ≤ n → (cLw f n i).toInt.natAbs < 2 ^ 63) ∧ (∀ i, i < n → (pW f i (f i) n).toInt.natAbs < 2 ^ 63) ∧ ¬ cLw f n n = 0
set_option maxHeartbeats 4000000 in
set_option maxRecDepth 100000 in
theorem c_X6_curve (E : mm_E) (g : mm_I) (h : mm_L) (t x : Int32) (hst : ∀ t, t < 4 → ∃ n, n ≤ 4 ∧ g 10 t = nI n) (hok : ∀ j, j < 4 → ¬ (g 10 j).toNatClampNeg = 0 → okT (g (45 + j)) (g 10 j).toNatClampNeg ∧ (wAt (g (45 + j)) (g (49 + j)) x (cLw (g (45 + j)) (g 10 j).toNatClampNeg (g 10 j).toNatClampNeg) (g 10 j).toNatClampNeg (g 10 j).toNatClampNeg).toInt.natAbs < 2 ^ 63) : Ci E yX6_curve wsX6_curve 4 102 [.ref (E.1 0), .int t, .int x] g h (dCurve (fun j => (g 10 j).toNatClampNeg) t x (-1) (-4) (fun _ => 1)) g (dCurve (fun j => (g 10 j).toNatClampNeg) t x h h (fun j => tlC h (wAt (g (45 + j)) (g (49 + j)) x (cLw (g (45 + j)) (g 10 j).toNatClampNeg (g 10 j).toNatClampNeg) (g 10 j).toNatClampNeg (g 10 j).toNatClampNeg) (cLw (g (45 + j)) (g 10 j).toNatClampNeg (g 10 j).toNatClampNeg))) := by
  refine ci_i (bytes := cX6_curve) (maxL := 5) (by decide) rfl (Nat.le_of_ble_eq_true rfl) (fun X cx hR => ?_)
  change Cx E X cX6_curve RX6 wsX6_curve 5 4 102 at cx
  change JJ E X g h 0 [(0, .ref (E.1 0)), (1, .int t), (2, .int x)] []
  have hinX6 : ∀ w ∈ u_ws RX6 TX6 9, w ∈ wsX6_curve := by decide +kernel
  have mf_19 : Cond.fieldLink RX6 19 (TX6 1).1 (TX6 1).2.1 (TX6 1).2.2.1 ∈ wsX6_curve := by decide +kernel
  have mf_47 : Cond.fieldLink RX6 47 (TX6 5).1 (TX6 5).2.1 (TX6 5).2.2.1 ∈ wsX6_curve := by decide +kernel
  refine jr_iload_n cx dX6_curve_0 1 rfl rfl ?_
  refine jr_si [.int t] 1 cx dX6_curve_1 (c_X6_isTable E g h t) gX6_curve_X6_isTable rfl (by decide +kernel) ⟨Nat.le_of_ble_eq_true rfl, Nat.le_of_ble_eq_true rfl⟩ rfl rfl (Nat.le_of_ble_eq_true rfl) ?_
  refine jr_bif_eq (tgt := 16) cx dX6_curve_4 (by decide) (fun c4 => ?_) (fun c4 => ?_)
  · refine jr_iconst (v := (-1)) cx dX6_curve_16 (by decide) ?_
    exact jr_ri (by simp only [dCurve, ite_self, if_neg c4]; try rfl) (by rfl) (by simp only [dCurve, ite_self, if_neg c4]; try rfl) (hR 17 _ dX6_curve_17)
  · obtain ⟨j, hj, rfl⟩ := to_nat (M := 3) rfl c4; have ej : (nI j).toNatClampNeg = j := cl_nI (by omega); obtain ⟨n, hn, hs⟩ := hst j (by omega); have en : (g 10 j).toNatClampNeg = n := by rw [hs]; exact cl_nI (by omega)
    refine jr_iload_n cx dX6_curve_7 2 rfl rfl ?_
    refine jr_bipush (v := 20) cx dX6_curve_8 (by decide) ?_
    refine jr_si [.int x, .int 20] 2 cx dX6_curve_10 (c_X6_isWithin E g h x 20) gX6_curve_X6_isWithin rfl (by decide +kernel) ⟨Nat.le_of_ble_eq_true rfl, Nat.le_of_ble_eq_true rfl⟩ rfl rfl (Nat.le_of_ble_eq_true rfl) ?_
    refine jr_bif_ne (tgt := 18) cx dX6_curve_13 (by decide) (fun c13 => ?_) (fun c13 => ?_)
    · refine jr_aload_n cx dX6_curve_18 0 rfl rfl ?_
      refine jr_get (f := 1) (v := .ref (E.1 2)) cx dX6_curve_19 (by decide) rfl rfl hinX6 (by decide) mf_19 rfl ?_
      refine jr_iload_n cx dX6_curve_22 1 rfl rfl ?_
      refine jr_vi [.int (nI j)] 1 cx dX6_curve_23 (c_X5_sizeOf E g h j (by omega)) (by decide) rfl rfl gX6_curve_X5_sizeOf rfl (by decide +kernel) ⟨Nat.le_of_ble_eq_true rfl, Nat.le_of_ble_eq_true rfl⟩ rfl rfl (Nat.le_of_ble_eq_true rfl) ?_
      refine jr_top hs ?_
      refine jr_if_ne (tgt := 32) cx dX6_curve_26 (by decide) (fun c26 => ?_) (fun c26 => ?_)
      · have n26 : ¬ (n = 0) := fun qq9 => c26 ((nI_eq (a := n) (b := 0) (by omega) (by omega)).mpr qq9)
        obtain ⟨⟨q1, q2, q3⟩, q4⟩ := hok j (by omega) (by rw [en]; exact n26); rw [en] at q1 q2 q3 q4
        refine jr_aload_n cx dX6_curve_32 0 rfl rfl ?_
        refine jr_get (f := 1) (v := .ref (E.1 2)) cx dX6_curve_33 (by decide) rfl rfl hinX6 (by decide) mf_19 rfl ?_
        refine jr_iload_n cx dX6_curve_36 1 rfl rfl ?_
        refine jr_vl [.int (nI j)] 1 cx dX6_curve_37 (c_X5_commonLower E g h j (by omega) n hn hs q1 q2) (by decide) rfl rfl gX6_curve_X5_commonLower rfl (by decide +kernel) ⟨Nat.le_of_ble_eq_true rfl, Nat.le_of_ble_eq_true rfl⟩ rfl rfl (Nat.le_of_ble_eq_true rfl) ?_
        refine jr_lstore_n (L' := [(3, .long (cLw (g (45 + j)) n n)), (0, .ref (E.1 0)), (1, .int (nI j)), (2, .int x)]) cx dX6_curve_40 rfl (by decide) rfl ?_
        refine jr_aload_n cx dX6_curve_41 1 rfl rfl ?_
        refine jr_get (f := 5) (v := .ref (E.1 6)) cx dX6_curve_42 (by decide) rfl rfl hinX6 (by decide) mf_47 rfl ?_
        refine jr_aload_n cx dX6_curve_45 1 rfl rfl ?_
        refine jr_get (f := 1) (v := .ref (E.1 2)) cx dX6_curve_46 (by decide) rfl rfl hinX6 (by decide) mf_19 rfl ?_
        refine jr_iload_n cx dX6_curve_49 2 rfl rfl ?_
        refine jr_iload_n cx dX6_curve_50 3 rfl rfl ?_
        refine jr_lload_n cx dX6_curve_51 0 rfl rfl ?_
        refine jr_vl [.int (nI j), .int x, .long (cLw (g (45 + j)) n n)] 3 cx dX6_curve_52 (c_X5_worthAt E g h j (by omega) n hn hs x (cLw (g (45 + j)) n n)) (by decide) rfl rfl gX6_curve_X5_worthAt rfl (by decide +kernel) ⟨Nat.le_of_ble_eq_true rfl, Nat.le_of_ble_eq_true rfl⟩ rfl rfl (Nat.le_of_ble_eq_true rfl) ?_
        refine jr_lload_n cx dX6_curve_55 0 rfl rfl ?_
        refine jr_vv [.long (wAt (g (45 + j)) (g (49 + j)) x (cLw (g (45 + j)) n n) n n), .long (cLw (g (45 + j)) n n)] 2 cx dX6_curve_56 (c_X2_tell E g h (wAt (g (45 + j)) (g (49 + j)) x (cLw (g (45 + j)) n n) n n) (cLw (g (45 + j)) n n) q4 (q1 n (Nat.le_refl n)) q3) (by decide) rfl rfl gX6_curve_X2_tell rfl (by decide +kernel) ⟨Nat.le_of_ble_eq_true rfl, Nat.le_of_ble_eq_true rfl⟩ rfl rfl (Nat.le_of_ble_eq_true rfl) ?_
        refine jr_iconst (v := 1) cx dX6_curve_59 (by decide) ?_
        exact jr_ri (by simp only [dCurve, ite_self, en, if_pos c4, if_pos c13, ej]; rw [if_neg n26]; try rfl) (by rfl) (by simp only [dCurve, ite_self, en, if_pos c4, if_pos c13, ej]; rw [if_neg n26]; try rfl) (hR 60 _ dX6_curve_60)
      · have n26 : n = 0 := (nI_eq (a := n) (b := 0) (by omega) (by omega)).mp c26
        refine jr_bipush (v := (-4)) cx dX6_curve_29 (by decide) ?_
        exact jr_ri (by simp only [dCurve, ite_self, en, if_pos c4, if_pos c13, ej]; rw [if_pos n26]; try rfl) (by rfl) (by simp only [dCurve, ite_self, en, if_pos c4, if_pos c13, ej]; rw [if_pos n26]; try rfl) (hR 31 _ dX6_curve_31)
    · refine jr_iconst (v := (-1)) cx dX6_curve_16 (by decide) ?_
      exact jr_ri (by simp only [dCurve, ite_self, en, if_pos c4, if_neg c13, ej]; try rfl) (by rfl) (by simp only [dCurve, ite_self, en, if_pos c4, if_neg c13, ej]; try rfl) (hR 17 _ dX6_curve_17)
def dApart {α : Type} (sz : Nat → Nat) (t u a b : Int32) (bad state : α) (ok : Nat → Nat → α) : α := if ¬ t < 0 ∧ ¬ 3 < t then (if ¬ u < 0 ∧ ¬ 3 < u then (if inX a then (if inX b then (if a ≤ b then (if sz t.toNatClampNeg = 0 then state else if sz u.toNatClampNeg = 0 then state else ok t.toNatClampNeg u.toNatClampNeg) else bad) else bad) else bad) else bad) else bad
def apS (gap : Int32 → Int64) : Nat → Nat → (Int64 × Int32) → (Int64 × Int32)
  | 0, _, s => s
  | k + 1, t, s => apS gap k (t + 1) (if gap (nI t - 20) ≤ s.1 then s else (gap (nI t - 20), nI t - 20))
def tnat (x : Int32) : Nat := (x.toInt + 20).toNat
theorem tnat_tw {t : Nat} (h : t ≤ 100) : tnat (nI t - 20) = t := by unfold tnat; rw [tw_int h]; omega
def gpA (f1 y1 f2 y2 : Nat → Int32) (n1 n2 : Nat) (sh : Int64) (x : Int32) : Int64 := abL (wAt f1 y1 x sh n1 n1 - wAt f2 y2 x sh n2 n2)
def shA (f1 f2 : Nat → Int32) (n1 n2 : Nat) : Int64 := lcmL (cLw f1 n1 n1) (cLw f2 n2 n2)
def apR (f1 y1 f2 y2 : Nat → Int32) (n1 n2 : Nat) (a b : Int32) : Int64 × Int32 := apS (gpA f1 y1 f2 y2 n1 n2 (shA f1 f2 n1 n2)) (tnat b + 1 - tnat a) (tnat a) (-1, a)
set_option maxHeartbeats 4000000 in
set_option maxRecDepth 100000 in
theorem c_X6_apart (E : mm_E) (g : mm_I) (h : mm_L) (t u a b : Int32) (hst : ∀ t, t < 4 → ∃ n, n ≤ 4 ∧ g 10 t = nI n) (hok : ∀ j k, j < 4 → k < 4 → ¬ (g 10 j).toNatClampNeg = 0 → ¬ (g 10 k).toNatClampNeg = 0 → okT (g (45 + j)) (g 10 j).toNatClampNeg ∧ okT (g (45 + k)) (g 10 k).toNatClampNeg ∧ (apR (g (45 + j)) (g (49 + j)) (g (45 + k)) (g (49 + k)) (g 10 j).toNatClampNeg (g 10 k).toNatClampNeg a b).1.toInt.natAbs < 2 ^ 63 ∧ (shA (g (45 + j)) (g (45 + k)) (g 10 j).toNatClampNeg (g 10 k).toNatClampNeg).toInt.natAbs < 2 ^ 63 ∧ ¬ shA (g (45 + j)) (g (45 + k)) (g 10 j).toNatClampNeg (g 10 k).toNatClampNeg = 0) : Ci E yX6_apart wsX6_apart 4 102 [.ref (E.1 0), .int t, .int u, .int a, .int b] g h (dApart (fun j => (g 10 j).toNatClampNeg) t u a b (-1) (-4) (fun j k => (apR (g (45 + j)) (g (49 + j)) (g (45 + k)) (g (49 + k)) (g 10 j).toNatClampNeg (g 10 k).toNatClampNeg a b).2 + 100)) g (dApart (fun j => (g 10 j).toNatClampNeg) t u a b h h (fun j k => tlC h (apR (g (45 + j)) (g (49 + j)) (g (45 + k)) (g (49 + k)) (g 10 j).toNatClampNeg (g 10 k).toNatClampNeg a b).1 (shA (g (45 + j)) (g (45 + k)) (g 10 j).toNatClampNeg (g 10 k).toNatClampNeg))) := by
  refine ci_i (bytes := cX6_apart) (maxL := 13) (by decide) rfl (Nat.le_of_ble_eq_true rfl) (fun X cx hR => ?_)
  change Cx E X cX6_apart RX6 wsX6_apart 13 4 102 at cx
  change JJ E X g h 0 [(0, .ref (E.1 0)), (1, .int t), (2, .int u), (3, .int a), (4, .int b)] []
  have hinX6 : ∀ w ∈ u_ws RX6 TX6 9, w ∈ wsX6_apart := by decide +kernel
  have mf_19 : Cond.fieldLink RX6 19 (TX6 1).1 (TX6 1).2.1 (TX6 1).2.2.1 ∈ wsX6_apart := by decide +kernel
  have mc_151 : Cond.constantLong RX6 151 (-1) ∈ wsX6_apart := by decide +kernel
  have mf_47 : Cond.fieldLink RX6 47 (TX6 5).1 (TX6 5).2.1 (TX6 5).2.2.1 ∈ wsX6_apart := by decide +kernel
  have ml_mabs_long : Cond.methodLink RX6 153 Lib.MathLoose.abs_long.x ∈ wsX6_apart := by decide +kernel
  have mst_mabs_long : Cond.static Lib.MathLoose.abs_long.x ∈ wsX6_apart := by decide +kernel
  have mi_math : Cond.initialized "java/lang/Math" ∈ wsX6_apart := by decide +kernel
  have mco_mabs_long : Cond.code Lib.MathLoose.abs_long.x Lib.MathLoose.abs_long.code 2 (some .long) ∈ wsX6_apart := by first | decide +kernel | (unfold wsX6_apart; simp)
  refine jr_iload_n cx dX6_apart_0 1 rfl rfl ?_
  refine jr_si [.int t] 1 cx dX6_apart_1 (c_X6_isTable E g h t) gX6_apart_X6_isTable rfl (by decide +kernel) ⟨Nat.le_of_ble_eq_true rfl, Nat.le_of_ble_eq_true rfl⟩ rfl rfl (Nat.le_of_ble_eq_true rfl) ?_
  refine jr_bif_eq (tgt := 39) cx dX6_apart_4 (by decide) (fun c4 => ?_) (fun c4 => ?_)
  · refine jr_iconst (v := (-1)) cx dX6_apart_39 (by decide) ?_
    exact jr_ri (by simp only [dApart, ite_self, if_neg c4]; try rfl) (by rfl) (by simp only [dApart, ite_self, if_neg c4]; try rfl) (hR 40 _ dX6_apart_40)
  · obtain ⟨j, hj, rfl⟩ := to_nat (M := 3) rfl c4; have ej : (nI j).toNatClampNeg = j := cl_nI (by omega); obtain ⟨n, hn, hs⟩ := hst j (by omega); have en : (g 10 j).toNatClampNeg = n := by rw [hs]; exact cl_nI (by omega)
    refine jr_iload_n cx dX6_apart_7 2 rfl rfl ?_
    refine jr_si [.int u] 1 cx dX6_apart_8 (c_X6_isTable E g h u) gX6_apart_X6_isTable rfl (by decide +kernel) ⟨Nat.le_of_ble_eq_true rfl, Nat.le_of_ble_eq_true rfl⟩ rfl rfl (Nat.le_of_ble_eq_true rfl) ?_
    refine jr_bif_eq (tgt := 39) cx dX6_apart_11 (by decide) (fun c11 => ?_) (fun c11 => ?_)
    · refine jr_iconst (v := (-1)) cx dX6_apart_39 (by decide) ?_
      exact jr_ri (by simp only [dApart, ite_self, en, if_pos c4, if_neg c11, ej]; try rfl) (by rfl) (by simp only [dApart, ite_self, en, if_pos c4, if_neg c11, ej]; try rfl) (hR 40 _ dX6_apart_40)
    · obtain ⟨k, hk, rfl⟩ := to_nat (M := 3) rfl c11; have ek : (nI k).toNatClampNeg = k := cl_nI (by omega); obtain ⟨m, hm, hs2⟩ := hst k (by omega); have em : (g 10 k).toNatClampNeg = m := by rw [hs2]; exact cl_nI (by omega)
      refine jr_iload_n cx dX6_apart_14 3 rfl rfl ?_
      refine jr_bipush (v := 20) cx dX6_apart_15 (by decide) ?_
      refine jr_si [.int a, .int 20] 2 cx dX6_apart_17 (c_X6_isWithin E g h a 20) gX6_apart_X6_isWithin rfl (by decide +kernel) ⟨Nat.le_of_ble_eq_true rfl, Nat.le_of_ble_eq_true rfl⟩ rfl rfl (Nat.le_of_ble_eq_true rfl) ?_
      refine jr_bif_eq (tgt := 39) cx dX6_apart_20 (by decide) (fun c20 => ?_) (fun c20 => ?_)
      · refine jr_iconst (v := (-1)) cx dX6_apart_39 (by decide) ?_
        exact jr_ri (by simp only [dApart, ite_self, en, em, if_pos c4, if_pos c11, if_neg c20, ej, ek]; try rfl) (by rfl) (by simp only [dApart, ite_self, en, em, if_pos c4, if_pos c11, if_neg c20, ej, ek]; try rfl) (hR 40 _ dX6_apart_40)
      · obtain ⟨a, ha, rfl⟩ := tw_pos c20; have ea : tnat (nI a - 20) = a := tnat_tw (by omega)
        refine jr_iload cx dX6_apart_23 4 rfl ?_
        refine jr_bipush (v := 20) cx dX6_apart_25 (by decide) ?_
        refine jr_si [.int b, .int 20] 2 cx dX6_apart_27 (c_X6_isWithin E g h b 20) gX6_apart_X6_isWithin rfl (by decide +kernel) ⟨Nat.le_of_ble_eq_true rfl, Nat.le_of_ble_eq_true rfl⟩ rfl rfl (Nat.le_of_ble_eq_true rfl) ?_
        refine jr_bif_eq (tgt := 39) cx dX6_apart_30 (by decide) (fun c30 => ?_) (fun c30 => ?_)
        · refine jr_iconst (v := (-1)) cx dX6_apart_39 (by decide) ?_
          exact jr_ri (by simp only [dApart, ite_self, en, em, if_pos c4, if_pos c11, if_pos c20, if_neg c30, ej, ek]; try rfl) (by rfl) (by simp only [dApart, ite_self, en, em, if_pos c4, if_pos c11, if_pos c20, if_neg c30, ej, ek]; try rfl) (hR 40 _ dX6_apart_40)
        · obtain ⟨b, hb, rfl⟩ := tw_pos c30; have eb : tnat (nI b - 20) = b := tnat_tw (by omega)
          refine jr_iload_n cx dX6_apart_33 3 rfl rfl ?_
          refine jr_iload cx dX6_apart_34 4 rfl ?_
          refine jr_icmp_le (tgt := 41) cx dX6_apart_36 (by decide) (fun c36 => ?_) (fun c36 => ?_)
          · have n36 : a ≤ b := (tw_le (by omega) (by omega)).mp c36
            refine jr_aload_n cx dX6_apart_41 0 rfl rfl ?_
            refine jr_get (f := 1) (v := .ref (E.1 2)) cx dX6_apart_42 (by decide) rfl rfl hinX6 (by decide) mf_19 rfl ?_
            refine jr_iload_n cx dX6_apart_45 1 rfl rfl ?_
            refine jr_vi [.int (nI j)] 1 cx dX6_apart_46 (c_X5_sizeOf E g h j (by omega)) (by decide) rfl rfl gX6_apart_X5_sizeOf rfl (by decide +kernel) ⟨Nat.le_of_ble_eq_true rfl, Nat.le_of_ble_eq_true rfl⟩ rfl rfl (Nat.le_of_ble_eq_true rfl) ?_
            refine jr_top hs ?_
            refine jr_if_eq (tgt := 63) cx dX6_apart_49 (by decide) (fun c49 => ?_) (fun c49 => ?_)
            · have n49 : n = 0 := (nI_eq (a := n) (b := 0) (by omega) (by omega)).mp c49
              refine jr_bipush (v := (-4)) cx dX6_apart_63 (by decide) ?_
              exact jr_ri (by simp only [dApart, ite_self, en, em, if_pos c4, if_pos c11, if_pos c20, if_pos c30, if_pos c36, ej, ek]; all_goals rw [if_pos n49]; try rfl) (by rfl) (by simp only [dApart, ite_self, en, em, if_pos c4, if_pos c11, if_pos c20, if_pos c30, if_pos c36, ej, ek]; all_goals rw [if_pos n49]; try rfl) (hR 65 _ dX6_apart_65)
            · have n49 : ¬ (n = 0) := fun qq9 => c49 ((nI_eq (a := n) (b := 0) (by omega) (by omega)).mpr qq9)
              refine jr_aload_n cx dX6_apart_52 0 rfl rfl ?_
              refine jr_get (f := 1) (v := .ref (E.1 2)) cx dX6_apart_53 (by decide) rfl rfl hinX6 (by decide) mf_19 rfl ?_
              refine jr_iload_n cx dX6_apart_56 2 rfl rfl ?_
              refine jr_vi [.int (nI k)] 1 cx dX6_apart_57 (c_X5_sizeOf E g h k (by omega)) (by decide) rfl rfl gX6_apart_X5_sizeOf rfl (by decide +kernel) ⟨Nat.le_of_ble_eq_true rfl, Nat.le_of_ble_eq_true rfl⟩ rfl rfl (Nat.le_of_ble_eq_true rfl) ?_
              refine jr_top hs2 ?_
              refine jr_if_ne (tgt := 66) cx dX6_apart_60 (by decide) (fun c60 => ?_) (fun c60 => ?_)
              · have n60 : ¬ (m = 0) := fun qq9 => c60 ((nI_eq (a := m) (b := 0) (by omega) (by omega)).mpr qq9)
                obtain ⟨⟨q1, q2, q3⟩, ⟨r1, r2, r3⟩, q4, q5, q6⟩ := hok j k (by omega) (by omega) (by rw [en]; exact n49) (by rw [em]; exact n60); rw [en] at q1 q2 q3; rw [em] at r1 r2 r3; rw [en, em] at q4 q5 q6
                refine jr_aload_n cx dX6_apart_66 0 rfl rfl ?_
                refine jr_get (f := 1) (v := .ref (E.1 2)) cx dX6_apart_67 (by decide) rfl rfl hinX6 (by decide) mf_19 rfl ?_
                refine jr_iload_n cx dX6_apart_70 1 rfl rfl ?_
                refine jr_vl [.int (nI j)] 1 cx dX6_apart_71 (c_X5_commonLower E g h j (by omega) n hn hs q1 q2) (by decide) rfl rfl gX6_apart_X5_commonLower rfl (by decide +kernel) ⟨Nat.le_of_ble_eq_true rfl, Nat.le_of_ble_eq_true rfl⟩ rfl rfl (Nat.le_of_ble_eq_true rfl) ?_
                refine jr_aload_n cx dX6_apart_74 0 rfl rfl ?_
                refine jr_get (f := 1) (v := .ref (E.1 2)) cx dX6_apart_75 (by decide) rfl rfl hinX6 (by decide) mf_19 rfl ?_
                refine jr_iload_n cx dX6_apart_78 2 rfl rfl ?_
                refine jr_vl [.int (nI k)] 1 cx dX6_apart_79 (c_X5_commonLower E g h k (by omega) m hm hs2 r1 r2) (by decide) rfl rfl gX6_apart_X5_commonLower rfl (by decide +kernel) ⟨Nat.le_of_ble_eq_true rfl, Nat.le_of_ble_eq_true rfl⟩ rfl rfl (Nat.le_of_ble_eq_true rfl) ?_
                refine jr_sl [.long (cLw (g (45 + j)) n n), .long (cLw (g (45 + k)) m m)] 2 cx dX6_apart_82 (c_X6_leastMultiple E g h (cLw (g (45 + j)) n n) (cLw (g (45 + k)) m m) (q1 n (Nat.le_refl n)) (r1 m (Nat.le_refl m))) gX6_apart_X6_leastMultiple rfl (by decide +kernel) ⟨Nat.le_of_ble_eq_true rfl, Nat.le_of_ble_eq_true rfl⟩ rfl rfl (Nat.le_of_ble_eq_true rfl) ?_
                refine jr_topl (show _ = shA (g (45 + j)) (g (45 + k)) n m from rfl) ?_
                refine jr_lstore (L' := [(5, .long (shA (g (45 + j)) (g (45 + k)) n m)), (0, .ref (E.1 0)), (1, .int (nI j)), (2, .int (nI k)), (3, .int (nI a - 20)), (4, .int (nI b - 20))]) cx dX6_apart_85 (by decide) rfl ?_
                refine jr_iload_n cx dX6_apart_87 4 rfl rfl ?_
                refine jr_istore (L' := [(7, .int (nI a - 20)), (5, .long (shA (g (45 + j)) (g (45 + k)) n m)), (0, .ref (E.1 0)), (1, .int (nI j)), (2, .int (nI k)), (3, .int (nI a - 20)), (4, .int (nI b - 20))]) cx dX6_apart_88 (by decide) rfl ?_
                refine jr_ldc2 cx dX6_apart_90 mc_151 ?_
                refine jr_lstore (L' := [(8, .long (-1)), (7, .int (nI a - 20)), (5, .long (shA (g (45 + j)) (g (45 + k)) n m)), (0, .ref (E.1 0)), (1, .int (nI j)), (2, .int (nI k)), (3, .int (nI a - 20)), (4, .int (nI b - 20))]) cx dX6_apart_93 (by decide) rfl ?_
                refine jr_iload_n cx dX6_apart_95 6 rfl rfl ?_
                refine jr_istore (L' := [(10, .int (nI a - 20)), (8, .long (-1)), (7, .int (nI a - 20)), (5, .long (shA (g (45 + j)) (g (45 + k)) n m)), (0, .ref (E.1 0)), (1, .int (nI j)), (2, .int (nI k)), (3, .int (nI a - 20)), (4, .int (nI b - 20))]) cx dX6_apart_96 (by decide) rfl ?_
                obtain ⟨T, hT⟩ : ∃ T, T = apS (gpA (g (45 + j)) (g (49 + j)) (g (45 + k)) (g (49 + k)) n m (shA (g (45 + j)) (g (45 + k)) n m)) (b + 1 - a) a (-1, nI a - 20) := ⟨_, rfl⟩
                have key1 : ∀ (fu1 : Nat) (t : Nat) (s : Int64 × Int32), b + 2 ≤ t + fu1 → (t ≤ b + 1) → (apS (gpA (g (45 + j)) (g (49 + j)) (g (45 + k)) (g (49 + k)) n m (shA (g (45 + j)) (g (45 + k)) n m)) (b + 1 - t) t s = T) → JJ E X g h 98 [(0, .ref (E.1 0)), (1, .int (nI j)), (2, .int (nI k)), (4, .int (nI b - 20)), (5, .long (shA (g (45 + j)) (g (45 + k)) n m)), (7, .int s.2), (8, .long s.1), (10, .int (nI t - 20))] [] := by
                  intro fu1
                  induction fu1 with
                  | zero => intro t s hfu1 h1 h2; exfalso; omega
                  | succ fu1 ih1 =>
                    intro t s hfu1 h1 h2
                    refine jr_iload cx dX6_apart_98 7 rfl ?_
                    refine jr_iload cx dX6_apart_100 3 rfl ?_
                    refine jr_icmp_gt (tgt := 157) cx dX6_apart_102 (by decide) (fun c102 => ?_) (fun c102 => ?_)
                    · have n102 : b < t := (tw_lt (by omega) (by omega)).mp c102
                      have sT : s = T := by rw [← h2, show b + 1 - t = 0 by omega]; rfl
                      have pT : apR (g (45 + j)) (g (49 + j)) (g (45 + k)) (g (49 + k)) n m (nI a - 20) (nI b - 20) = s := by unfold apR; rw [ea, eb, sT, hT]
                      rw [pT] at q4
                      refine jr_aload_n cx dX6_apart_157 0 rfl rfl ?_
                      refine jr_get (f := 5) (v := .ref (E.1 6)) cx dX6_apart_158 (by decide) rfl rfl hinX6 (by decide) mf_47 rfl ?_
                      refine jr_lload cx dX6_apart_161 6 rfl ?_
                      refine jr_lload cx dX6_apart_163 4 rfl ?_
                      refine jr_vv [.long s.1, .long (shA (g (45 + j)) (g (45 + k)) n m)] 2 cx dX6_apart_165 (c_X2_tell E g h s.1 (shA (g (45 + j)) (g (45 + k)) n m) q4 q5 q6) (by decide) rfl rfl gX6_apart_X2_tell rfl (by decide +kernel) ⟨Nat.le_of_ble_eq_true rfl, Nat.le_of_ble_eq_true rfl⟩ rfl rfl (Nat.le_of_ble_eq_true rfl) ?_
                      refine jr_iload cx dX6_apart_168 5 rfl ?_
                      refine jr_bipush (v := 100) cx dX6_apart_170 (by decide) ?_
                      refine jr_iadd cx dX6_apart_172 ?_
                      exact jr_ri (by simp only [dApart, ite_self, en, em, if_pos c4, if_pos c11, if_pos c20, if_pos c30, if_pos c36, ej, ek]; all_goals rw [if_neg n49]; all_goals rw [if_neg n60]; all_goals try rw [pT]; try rfl) (by rfl) (by simp only [dApart, ite_self, en, em, if_pos c4, if_pos c11, if_pos c20, if_pos c30, if_pos c36, ej, ek]; all_goals rw [if_neg n49]; all_goals rw [if_neg n60]; all_goals try rw [pT]; try rfl) (hR 173 _ dX6_apart_173)
                    · have n102 : t ≤ b := by have := mt (tw_lt (s := b) (t := t) (by omega) (by omega)).mpr c102; omega
                      refine jr_aload_n cx dX6_apart_105 0 rfl rfl ?_
                      refine jr_get (f := 1) (v := .ref (E.1 2)) cx dX6_apart_106 (by decide) rfl rfl hinX6 (by decide) mf_19 rfl ?_
                      refine jr_iload_n cx dX6_apart_109 1 rfl rfl ?_
                      refine jr_iload cx dX6_apart_110 7 rfl ?_
                      refine jr_lload cx dX6_apart_112 4 rfl ?_
                      refine jr_vl [.int (nI j), .int (nI t - 20), .long (shA (g (45 + j)) (g (45 + k)) n m)] 3 cx dX6_apart_114 (c_X5_worthAt E g h j (by omega) n hn hs (nI t - 20) (shA (g (45 + j)) (g (45 + k)) n m)) (by decide) rfl rfl gX6_apart_X5_worthAt rfl (by decide +kernel) ⟨Nat.le_of_ble_eq_true rfl, Nat.le_of_ble_eq_true rfl⟩ rfl rfl (Nat.le_of_ble_eq_true rfl) ?_
                      refine jr_aload_n cx dX6_apart_117 0 rfl rfl ?_
                      refine jr_get (f := 1) (v := .ref (E.1 2)) cx dX6_apart_118 (by decide) rfl rfl hinX6 (by decide) mf_19 rfl ?_
                      refine jr_iload_n cx dX6_apart_121 2 rfl rfl ?_
                      refine jr_iload cx dX6_apart_122 7 rfl ?_
                      refine jr_lload cx dX6_apart_124 4 rfl ?_
                      refine jr_vl [.int (nI k), .int (nI t - 20), .long (shA (g (45 + j)) (g (45 + k)) n m)] 3 cx dX6_apart_126 (c_X5_worthAt E g h k (by omega) m hm hs2 (nI t - 20) (shA (g (45 + j)) (g (45 + k)) n m)) (by decide) rfl rfl gX6_apart_X5_worthAt rfl (by decide +kernel) ⟨Nat.le_of_ble_eq_true rfl, Nat.le_of_ble_eq_true rfl⟩ rfl rfl (Nat.le_of_ble_eq_true rfl) ?_
                      refine jr_lsub cx dX6_apart_129 ?_
                      refine jr_mabs_long cx dX6_apart_130 ml_mabs_long mst_mabs_long mi_math mco_mabs_long (by decide) (Nat.le_of_ble_eq_true rfl) ?_
                      refine jr_topl (absL_abL _) ?_
                      refine jr_lstore (L' := [(11, .long (gpA (g (45 + j)) (g (49 + j)) (g (45 + k)) (g (49 + k)) n m (shA (g (45 + j)) (g (45 + k)) n m) (nI t - 20))), (0, .ref (E.1 0)), (1, .int (nI j)), (2, .int (nI k)), (4, .int (nI b - 20)), (5, .long (shA (g (45 + j)) (g (45 + k)) n m)), (7, .int s.2), (8, .long s.1), (10, .int (nI t - 20))]) cx dX6_apart_133 (by decide) rfl ?_
                      refine jr_lload cx dX6_apart_135 0 rfl ?_
                      refine jr_lload cx dX6_apart_137 7 rfl ?_
                      refine jr_lcmp cx dX6_apart_139 ?_
                      refine jr_lif_le (tgt := 151) cx dX6_apart_140 (by decide) (fun c140 => ?_) (fun c140 => ?_)
                      · refine jr_iinc (n := 8) (v := (nI t - 20) + 1) (L' := [(10, .int ((nI t - 20) + 1)), (11, .long (gpA (g (45 + j)) (g (49 + j)) (g (45 + k)) (g (49 + k)) n m (shA (g (45 + j)) (g (45 + k)) n m) (nI t - 20))), (0, .ref (E.1 0)), (1, .int (nI j)), (2, .int (nI k)), (4, .int (nI b - 20)), (5, .long (shA (g (45 + j)) (g (45 + k)) n m)), (7, .int s.2), (8, .long s.1)]) cx dX6_apart_151 rfl rfl (by decide) rfl ?_
                        refine jr_goto (tgt := 98) cx dX6_apart_154 (by decide) ?_
                        refine jr_pick (L' := [(0, .ref (E.1 0)), (1, .int (nI j)), (2, .int (nI k)), (4, .int (nI b - 20)), (5, .long (shA (g (45 + j)) (g (45 + k)) n m)), (7, .int s.2), (8, .long s.1), (10, .int ((nI t - 20) + 1))]) [2, 3, 4, 5, 6, 7, 8, 0] rfl ?_
                        have e10 : ((nI t - 20) + 1 : Int32) = (nI (t + 1) - 20) := by exact tw_1 (by omega)
                        refine jr_loc (lc_n (lc_n (lc_n (lc_n (lc_n (lc_n (lc_n (lc_i e10 rfl)))))))) ?_
                        exact ih1 (t + 1) s (by omega) (by omega) (by rw [← h2, show b + 1 - t = (b + 1 - (t + 1)) + 1 by omega, apS, if_pos c140])
                      · refine jr_lload cx dX6_apart_143 0 rfl ?_
                        refine jr_lstore (L' := [(8, .long (gpA (g (45 + j)) (g (49 + j)) (g (45 + k)) (g (49 + k)) n m (shA (g (45 + j)) (g (45 + k)) n m) (nI t - 20))), (11, .long (gpA (g (45 + j)) (g (49 + j)) (g (45 + k)) (g (49 + k)) n m (shA (g (45 + j)) (g (45 + k)) n m) (nI t - 20))), (0, .ref (E.1 0)), (1, .int (nI j)), (2, .int (nI k)), (4, .int (nI b - 20)), (5, .long (shA (g (45 + j)) (g (45 + k)) n m)), (7, .int s.2), (10, .int (nI t - 20))]) cx dX6_apart_145 (by decide) rfl ?_
                        refine jr_iload cx dX6_apart_147 8 rfl ?_
                        refine jr_istore (L' := [(7, .int (nI t - 20)), (8, .long (gpA (g (45 + j)) (g (49 + j)) (g (45 + k)) (g (49 + k)) n m (shA (g (45 + j)) (g (45 + k)) n m) (nI t - 20))), (11, .long (gpA (g (45 + j)) (g (49 + j)) (g (45 + k)) (g (49 + k)) n m (shA (g (45 + j)) (g (45 + k)) n m) (nI t - 20))), (0, .ref (E.1 0)), (1, .int (nI j)), (2, .int (nI k)), (4, .int (nI b - 20)), (5, .long (shA (g (45 + j)) (g (45 + k)) n m)), (10, .int (nI t - 20))]) cx dX6_apart_149 (by decide) rfl ?_
                        refine jr_iinc (n := 8) (v := (nI t - 20) + 1) (L' := [(10, .int ((nI t - 20) + 1)), (7, .int (nI t - 20)), (8, .long (gpA (g (45 + j)) (g (49 + j)) (g (45 + k)) (g (49 + k)) n m (shA (g (45 + j)) (g (45 + k)) n m) (nI t - 20))), (11, .long (gpA (g (45 + j)) (g (49 + j)) (g (45 + k)) (g (49 + k)) n m (shA (g (45 + j)) (g (45 + k)) n m) (nI t - 20))), (0, .ref (E.1 0)), (1, .int (nI j)), (2, .int (nI k)), (4, .int (nI b - 20)), (5, .long (shA (g (45 + j)) (g (45 + k)) n m))]) cx dX6_apart_151 rfl rfl (by decide) rfl ?_
                        refine jr_goto (tgt := 98) cx dX6_apart_154 (by decide) ?_
                        refine jr_pick (L' := [(0, .ref (E.1 0)), (1, .int (nI j)), (2, .int (nI k)), (4, .int (nI b - 20)), (5, .long (shA (g (45 + j)) (g (45 + k)) n m)), (7, .int (nI t - 20)), (8, .long (gpA (g (45 + j)) (g (49 + j)) (g (45 + k)) (g (49 + k)) n m (shA (g (45 + j)) (g (45 + k)) n m) (nI t - 20))), (10, .int ((nI t - 20) + 1))]) [4, 5, 6, 7, 8, 1, 2, 0] rfl ?_
                        have e7 : (nI t - 20 : Int32) = (((gpA (g (45 + j)) (g (49 + j)) (g (45 + k)) (g (49 + k)) n m (shA (g (45 + j)) (g (45 + k)) n m) (nI t - 20), nI t - 20) : Int64 × Int32).2) := by rfl
                        have e8 : (gpA (g (45 + j)) (g (49 + j)) (g (45 + k)) (g (49 + k)) n m (shA (g (45 + j)) (g (45 + k)) n m) (nI t - 20) : Int64) = (((gpA (g (45 + j)) (g (49 + j)) (g (45 + k)) (g (49 + k)) n m (shA (g (45 + j)) (g (45 + k)) n m) (nI t - 20), nI t - 20) : Int64 × Int32).1) := by rfl
                        have e10 : ((nI t - 20) + 1 : Int32) = (nI (t + 1) - 20) := by exact tw_1 (by omega)
                        refine jr_loc (lc_n (lc_n (lc_n (lc_n (lc_n (lc_i e7 (lc_l e8 (lc_i e10 rfl)))))))) ?_
                        exact ih1 (t + 1) ((gpA (g (45 + j)) (g (49 + j)) (g (45 + k)) (g (49 + k)) n m (shA (g (45 + j)) (g (45 + k)) n m) (nI t - 20), nI t - 20) : Int64 × Int32) (by omega) (by omega) (by rw [← h2, show b + 1 - t = (b + 1 - (t + 1)) + 1 by omega, apS, if_neg c140])
                refine jr_pick (L' := [(0, .ref (E.1 0)), (1, .int (nI j)), (2, .int (nI k)), (4, .int (nI b - 20)), (5, .long (shA (g (45 + j)) (g (45 + k)) n m)), (7, .int (nI a - 20)), (8, .long (-1)), (10, .int (nI a - 20))]) [4, 5, 6, 8, 3, 2, 1, 0] rfl ?_
                have e7 : (nI a - 20 : Int32) = (((-1, nI a - 20) : Int64 × Int32).2) := by rfl
                have e8 : ((-1) : Int64) = (((-1, nI a - 20) : Int64 × Int32).1) := by rfl
                refine jr_loc (lc_n (lc_n (lc_n (lc_n (lc_n (lc_i e7 (lc_l e8 (lc_n rfl)))))))) ?_
                exact key1 (b + 2) a ((-1, nI a - 20) : Int64 × Int32) (by omega) (by omega) hT.symm
              · have n60 : m = 0 := (nI_eq (a := m) (b := 0) (by omega) (by omega)).mp c60
                refine jr_bipush (v := (-4)) cx dX6_apart_63 (by decide) ?_
                exact jr_ri (by simp only [dApart, ite_self, en, em, if_pos c4, if_pos c11, if_pos c20, if_pos c30, if_pos c36, ej, ek]; all_goals rw [if_neg n49]; all_goals rw [if_pos n60]; try rfl) (by rfl) (by simp only [dApart, ite_self, en, em, if_pos c4, if_pos c11, if_pos c20, if_pos c30, if_pos c36, ej, ek]; all_goals rw [if_neg n49]; all_goals rw [if_pos n60]; try rfl) (hR 65 _ dX6_apart_65)
          · refine jr_iconst (v := (-1)) cx dX6_apart_39 (by decide) ?_
            exact jr_ri (by simp only [dApart, ite_self, en, em, if_pos c4, if_pos c11, if_pos c20, if_pos c30, if_neg c36, ej, ek]; try rfl) (by rfl) (by simp only [dApart, ite_self, en, em, if_pos c4, if_pos c11, if_pos c20, if_pos c30, if_neg c36, ej, ek]; try rfl) (hR 40 _ dX6_apart_40)
def stH (h : mm_L) (a b : Int64) : mm_L := upL (upL h 7 11 a) 7 12 b
theorem stH_st (h : mm_L) (a b c d : Int64) : upL (upL (stH h a b) 7 11 c) 7 12 d = stH h c d := by
  funext x y; unfold stH upL
  by_cases e1 : x = 7 ∧ y = 12
  · simp [e1]
  · by_cases e2 : x = 7 ∧ y = 11
    · simp [e2]
    · simp [e1, e2]
theorem stH_id (h : mm_L) : stH h (h 7 11) (h 7 12) = h := by
  funext x y; unfold stH upL
  by_cases e1 : x = 7 ∧ y = 12
  · simp [e1]
  · by_cases e2 : x = 7 ∧ y = 11
    · simp [e2]
    · simp [e1, e2]
theorem stH_1 (h : mm_L) (a b : Int64) : stH h a b 7 11 = a := by simp [stH, upL]
theorem stH_2 (h : mm_L) (a b : Int64) : stH h a b 7 12 = b := by simp [stH, upL]
def adU (su sl up lo : Int64) : Int64 := su * (lo / gcdL sl lo) + up * (sl / gcdL sl lo)
def adL (sl lo : Int64) : Int64 := sl / gcdL sl lo * lo
def adR (su sl up lo : Int64) : Int64 × Int64 := (adU su sl up lo / gcdL (adU su sl up lo) (adL sl lo), adL sl lo / gcdL (adU su sl up lo) (adL sl lo))
def okA (su sl up lo : Int64) : Prop := sl.toInt.natAbs < 2 ^ 63 ∧ lo.toInt.natAbs < 2 ^ 63 ∧ ¬ lo = 0 ∧ (adU su sl up lo).toInt.natAbs < 2 ^ 63 ∧ (adL sl lo).toInt.natAbs < 2 ^ 63 ∧ ¬ adL sl lo = 0
set_option maxHeartbeats 4000000 in
set_option maxRecDepth 100000 in
theorem c_X7_add (E : mm_E) (g : mm_I) (h : mm_L) (up lo : Int64) (hk : okA (h 7 11) (h 7 12) up lo) : Cv E yX7_add wsX7_add 2 50 [.ref (E.1 7), .long up, .long lo] g h g (stH h (adR (h 7 11) (h 7 12) up lo).1 (adR (h 7 11) (h 7 12) up lo).2) := by
  refine ci_v (bytes := cX7_add) (maxL := 13) (by decide) rfl (Nat.le_of_ble_eq_true rfl) (fun X cx hR => ?_)
  change Cx E X cX7_add RX7 wsX7_add 13 2 50 at cx
  change JJ E X g h 0 [(0, .ref (E.1 7)), (1, .long up), (3, .long lo)] []
  have hinX7 : ∀ w ∈ u_ws RX7 TX7 30, w ∈ wsX7_add := by decide +kernel
  have mf_124 : Cond.fieldLink RX7 124 (TX7 12).1 (TX7 12).2.1 (TX7 12).2.2.1 ∈ wsX7_add := by decide +kernel
  have mf_127 : Cond.fieldLink RX7 127 (TX7 11).1 (TX7 11).2.1 (TX7 11).2.2.1 ∈ wsX7_add := by decide +kernel
  obtain ⟨k1, k2, k3, k4, k5, k6⟩ := hk
  refine jr_aload_n cx dX7_add_0 0 rfl rfl ?_
  refine jr_get (f := 12) (v := .long (h 7 12)) cx dX7_add_1 (by decide) rfl rfl hinX7 (by decide) mf_124 rfl ?_
  refine jr_lload_n cx dX7_add_4 2 rfl rfl ?_
  refine jr_sl [.long (h 7 12), .long lo] 2 cx dX7_add_5 (c_X7_divisor E g h (h 7 12) lo k1 k2) gX7_add_X7_divisor rfl (by decide +kernel) ⟨Nat.le_of_ble_eq_true rfl, Nat.le_of_ble_eq_true rfl⟩ rfl rfl (Nat.le_of_ble_eq_true rfl) ?_
  refine jr_lstore (L' := [(5, .long (gcdL (h 7 12) lo)), (0, .ref (E.1 7)), (1, .long up), (3, .long lo)]) cx dX7_add_8 (by decide) rfl ?_
  refine jr_aload_n cx dX7_add_10 1 rfl rfl ?_
  refine jr_get (f := 11) (v := .long (h 7 11)) cx dX7_add_11 (by decide) rfl rfl hinX7 (by decide) mf_127 rfl ?_
  refine jr_lload_n cx dX7_add_14 3 rfl rfl ?_
  refine jr_lload cx dX7_add_15 0 rfl ?_
  refine jr_ldiv cx dX7_add_17 (gcdL_ne k1 k2 k3) ?_
  refine jr_lmul cx dX7_add_18 ?_
  refine jr_lload_n cx dX7_add_19 2 rfl rfl ?_
  refine jr_aload_n cx dX7_add_20 1 rfl rfl ?_
  refine jr_get (f := 12) (v := .long (h 7 12)) cx dX7_add_21 (by decide) rfl rfl hinX7 (by decide) mf_124 rfl ?_
  refine jr_lload cx dX7_add_24 0 rfl ?_
  refine jr_ldiv cx dX7_add_26 (gcdL_ne k1 k2 k3) ?_
  refine jr_lmul cx dX7_add_27 ?_
  refine jr_ladd cx dX7_add_28 ?_
  refine jr_topl (show _ = adU (h 7 11) (h 7 12) up lo from rfl) ?_
  refine jr_lstore (L' := [(7, .long (adU (h 7 11) (h 7 12) up lo)), (5, .long (gcdL (h 7 12) lo)), (0, .ref (E.1 7)), (1, .long up), (3, .long lo)]) cx dX7_add_29 (by decide) rfl ?_
  refine jr_aload_n cx dX7_add_31 2 rfl rfl ?_
  refine jr_get (f := 12) (v := .long (h 7 12)) cx dX7_add_32 (by decide) rfl rfl hinX7 (by decide) mf_124 rfl ?_
  refine jr_lload cx dX7_add_35 1 rfl ?_
  refine jr_ldiv cx dX7_add_37 (gcdL_ne k1 k2 k3) ?_
  refine jr_lload_n cx dX7_add_38 4 rfl rfl ?_
  refine jr_lmul cx dX7_add_39 ?_
  refine jr_topl (show _ = adL (h 7 12) lo from rfl) ?_
  refine jr_lstore (L' := [(9, .long (adL (h 7 12) lo)), (7, .long (adU (h 7 11) (h 7 12) up lo)), (5, .long (gcdL (h 7 12) lo)), (0, .ref (E.1 7)), (1, .long up), (3, .long lo)]) cx dX7_add_40 (by decide) rfl ?_
  refine jr_lload cx dX7_add_42 1 rfl ?_
  refine jr_lload cx dX7_add_44 0 rfl ?_
  refine jr_sl [.long (adU (h 7 11) (h 7 12) up lo), .long (adL (h 7 12) lo)] 2 cx dX7_add_46 (c_X7_divisor E g h (adU (h 7 11) (h 7 12) up lo) (adL (h 7 12) lo) k4 k5) gX7_add_X7_divisor rfl (by decide +kernel) ⟨Nat.le_of_ble_eq_true rfl, Nat.le_of_ble_eq_true rfl⟩ rfl rfl (Nat.le_of_ble_eq_true rfl) ?_
  refine jr_lstore (L' := [(11, .long (gcdL (adU (h 7 11) (h 7 12) up lo) (adL (h 7 12) lo))), (9, .long (adL (h 7 12) lo)), (7, .long (adU (h 7 11) (h 7 12) up lo)), (5, .long (gcdL (h 7 12) lo)), (0, .ref (E.1 7)), (1, .long up), (3, .long lo)]) cx dX7_add_49 (by decide) rfl ?_
  refine jr_aload_n cx dX7_add_51 4 rfl rfl ?_
  refine jr_lload cx dX7_add_52 2 rfl ?_
  refine jr_lload cx dX7_add_54 0 rfl ?_
  refine jr_ldiv cx dX7_add_56 (gcdL_ne k4 k5 k6) ?_
  refine jr_put_X7_11 cx dX7_add_57 hinX7 mf_127 ?_
  refine jr_aload_n cx dX7_add_60 4 rfl rfl ?_
  refine jr_lload cx dX7_add_61 1 rfl ?_
  refine jr_lload cx dX7_add_63 0 rfl ?_
  refine jr_ldiv cx dX7_add_65 (gcdL_ne k4 k5 k6) ?_
  refine jr_put_X7_12 cx dX7_add_66 hinX7 mf_124 ?_
  exact jr_rv (by rfl) (by rfl) (hR 69 _ dX7_add_69)
def uW (f : Nat → Int32) (l : Nat) (x : Int32) (u0 : Int64) : Nat → Int64
  | 0 => u0
  | n + 1 => if n = l then uW f l x u0 n else uW f l x u0 n * (x - f n).toInt64
def sgU (lo up : Int64) : Int64 := if 0 ≤ lo then up else -up
def acT (f y : Nat → Int32) (x tm : Int32) (n i : Nat) : Int64 := sgU (pW f i (f i) n) (uW f i x (tm.toInt64 * (y i).toInt64) n)
def acS (f y : Nat → Int32) (x tm : Int32) (n : Nat) (s0 : Int64 × Int64) : Nat → Int64 × Int64
  | 0 => s0
  | i + 1 => adR (acS f y x tm n s0 i).1 (acS f y x tm n s0 i).2 (acT f y x tm n i) (abL (pW f i (f i) n))
def okC (f y : Nat → Int32) (x tm : Int32) (n : Nat) (s0 : Int64 × Int64) : Prop := ∀ i, i < n → okA (acS f y x tm n s0 i).1 (acS f y x tm n s0 i).2 (acT f y x tm n i) (abL (pW f i (f i) n))
set_option maxHeartbeats 4000000 in
set_option maxRecDepth 100000 in
theorem c_X7_addCurve (E : mm_E) (g : mm_I) (h : mm_L) (t : Nat) (ht : t < 4) (x tm : Int32) (n : Nat) (hn : n ≤ 4) (hs : g 17 t = nI n) (hok : okC (fun q => g 18 (4 * t + q)) (fun q => g 19 (4 * t + q)) x tm n (h 7 11, h 7 12)) : Cv E yX7_addCurve wsX7_addCurve 3 82 [.ref (E.1 7), .int (nI t), .int x, .int tm] g h g (stH h (acS (fun q => g 18 (4 * t + q)) (fun q => g 19 (4 * t + q)) x tm n (h 7 11, h 7 12) n).1 (acS (fun q => g 18 (4 * t + q)) (fun q => g 19 (4 * t + q)) x tm n (h 7 11, h 7 12) n).2) := by
  refine ci_v (bytes := cX7_addCurve) (maxL := 10) (by decide) rfl (Nat.le_of_ble_eq_true rfl) (fun X cx hR => ?_)
  change Cx E X cX7_addCurve RX7 wsX7_addCurve 10 3 82 at cx
  change JJ E X g h 0 [(0, .ref (E.1 7)), (1, .int (nI t)), (2, .int x), (3, .int tm)] []
  have hinX7 : ∀ w ∈ u_ws RX7 TX7 30, w ∈ wsX7_addCurve := by decide +kernel
  have mf_26 : Cond.fieldLink RX7 26 (TX7 8).1 (TX7 8).2.1 (TX7 8).2.2.1 ∈ wsX7_addCurve := by decide +kernel
  have mf_32 : Cond.fieldLink RX7 32 (TX7 10).1 (TX7 10).2.1 (TX7 10).2.2.1 ∈ wsX7_addCurve := by decide +kernel
  have mf_29 : Cond.fieldLink RX7 29 (TX7 9).1 (TX7 9).2.1 (TX7 9).2.2.1 ∈ wsX7_addCurve := by decide +kernel
  refine jr_iconst (v := 0) cx dX7_addCurve_0 (by decide) ?_
  refine jr_istore (L' := [(4, .int 0), (0, .ref (E.1 7)), (1, .int (nI t)), (2, .int x), (3, .int tm)]) cx dX7_addCurve_1 (by decide) rfl ?_
  have key1 : ∀ (fu1 : Nat) (i : Nat), n + 1 ≤ i + fu1 → (i ≤ n) → JJ E X g (stH h (acS (fun q => g 18 (4 * t + q)) (fun q => g 19 (4 * t + q)) x tm n (h 7 11, h 7 12) i).1 (acS (fun q => g 18 (4 * t + q)) (fun q => g 19 (4 * t + q)) x tm n (h 7 11, h 7 12) i).2) 3 [(0, .ref (E.1 7)), (1, .int (nI t)), (2, .int x), (3, .int tm), (4, .int (nI i))] [] := by
    intro fu1
    induction fu1 with
    | zero => intro i hfu1 h1; exfalso; omega
    | succ fu1 ih1 =>
      intro i hfu1 h1
      refine jr_iload cx dX7_addCurve_3 4 rfl ?_
      refine jr_aload_n cx dX7_addCurve_5 0 rfl rfl ?_
      refine jr_get (f := 8) (v := .ref (E.1 17)) cx dX7_addCurve_6 (by decide) rfl rfl hinX7 (by decide) mf_26 rfl ?_
      refine jr_iload_n cx dX7_addCurve_9 1 rfl rfl ?_
      refine jr_iald cx dX7_addCurve_10 (Or.inl ⟨by decide, by decide⟩) t rfl (show _ < 4 by omega) ?_
      refine jr_top hs ?_
      refine jr_icmp_ge (tgt := 139) cx dX7_addCurve_11 (by decide) (fun c11 => ?_) (fun c11 => ?_)
      · have n11 : n ≤ i := (nI_leI (a := n) (b := i) (by omega) (by omega)).mp c11
        exact jr_rv (by rfl) (by rw [show i = n by omega]) (hR 139 _ dX7_addCurve_139)
      · have n11 : ¬ (n ≤ i) := fun qq9 => c11 ((nI_leI (a := n) (b := i) (by omega) (by omega)).mpr qq9)
        refine jr_iload_n cx dX7_addCurve_14 3 rfl rfl ?_
        refine jr_i2l cx dX7_addCurve_15 ?_
        refine jr_aload_n cx dX7_addCurve_16 0 rfl rfl ?_
        refine jr_get (f := 10) (v := .ref (E.1 19)) cx dX7_addCurve_17 (by decide) rfl rfl hinX7 (by decide) mf_32 rfl ?_
        refine jr_iconst (v := 4) cx dX7_addCurve_20 (by decide) ?_
        refine jr_iload_n cx dX7_addCurve_21 1 rfl rfl ?_
        refine jr_imul cx dX7_addCurve_22 ?_
        refine jr_top (show (4 : Int32) * (nI t) = nI (4 * t) from pk_mul 4 t) ?_
        refine jr_iload cx dX7_addCurve_23 4 rfl ?_
        refine jr_iadd cx dX7_addCurve_25 ?_
        refine jr_top (show (nI (4 * t) : Int32) + (nI i) = nI ((4 * t) + i) from nI_add (4 * t) i) ?_
        refine jr_iald cx dX7_addCurve_26 (Or.inl ⟨by decide, by decide⟩) ((4 * t) + i) rfl (show _ < 16 by omega) ?_
        refine jr_i2l cx dX7_addCurve_27 ?_
        refine jr_lmul cx dX7_addCurve_28 ?_
        refine jr_lstore (L' := [(5, .long ((Int32.toInt64 tm) * (Int32.toInt64 (g 19 ((4 * t) + i))))), (0, .ref (E.1 7)), (1, .int (nI t)), (2, .int x), (3, .int tm), (4, .int (nI i))]) cx dX7_addCurve_29 (by decide) rfl ?_
        refine jr_lconst (v := 1) cx dX7_addCurve_31 (by decide) ?_
        refine jr_lstore (L' := [(7, .long 1), (5, .long ((Int32.toInt64 tm) * (Int32.toInt64 (g 19 ((4 * t) + i))))), (0, .ref (E.1 7)), (1, .int (nI t)), (2, .int x), (3, .int tm), (4, .int (nI i))]) cx dX7_addCurve_32 (by decide) rfl ?_
        refine jr_iconst (v := 0) cx dX7_addCurve_34 (by decide) ?_
        refine jr_istore (L' := [(9, .int 0), (7, .long 1), (5, .long ((Int32.toInt64 tm) * (Int32.toInt64 (g 19 ((4 * t) + i))))), (0, .ref (E.1 7)), (1, .int (nI t)), (2, .int x), (3, .int tm), (4, .int (nI i))]) cx dX7_addCurve_35 (by decide) rfl ?_
        have key2 : ∀ (fu2 : Nat) (k : Nat), n + 1 ≤ k + fu2 → (k ≤ n) → JJ E X g (stH h (acS (fun q => g 18 (4 * t + q)) (fun q => g 19 (4 * t + q)) x tm n (h 7 11, h 7 12) i).1 (acS (fun q => g 18 (4 * t + q)) (fun q => g 19 (4 * t + q)) x tm n (h 7 11, h 7 12) i).2) 37 [(0, .ref (E.1 7)), (1, .int (nI t)), (2, .int x), (3, .int tm), (4, .int (nI i)), (5, .long (uW (fun q => g 18 (4 * t + q)) i x (Int32.toInt64 tm * Int32.toInt64 (g 19 (4 * t + i))) k)), (7, .long (pW (fun q => g 18 (4 * t + q)) i (g 18 (4 * t + i)) k)), (9, .int (nI k))] [] := by
          intro fu2
          induction fu2 with
          | zero => intro k hfu2 h2; exfalso; omega
          | succ fu2 ih2 =>
            intro k hfu2 h2
            refine jr_iload cx dX7_addCurve_37 7 rfl ?_
            refine jr_aload_n cx dX7_addCurve_39 0 rfl rfl ?_
            refine jr_get (f := 8) (v := .ref (E.1 17)) cx dX7_addCurve_40 (by decide) rfl rfl hinX7 (by decide) mf_26 rfl ?_
            refine jr_iload_n cx dX7_addCurve_43 1 rfl rfl ?_
            refine jr_iald cx dX7_addCurve_44 (Or.inl ⟨by decide, by decide⟩) t rfl (show _ < 4 by omega) ?_
            refine jr_top hs ?_
            refine jr_icmp_ge (tgt := 109) cx dX7_addCurve_45 (by decide) (fun c45 => ?_) (fun c45 => ?_)
            · have n45 : n ≤ k := (nI_leI (a := n) (b := k) (by omega) (by omega)).mp c45
              refine jr_aload_n cx dX7_addCurve_109 0 rfl rfl ?_
              refine jr_lload cx dX7_addCurve_110 6 rfl ?_
              refine jr_lconst (v := 0) cx dX7_addCurve_112 (by decide) ?_
              refine jr_lcmp cx dX7_addCurve_113 ?_
              refine jr_lif_ge (tgt := 123) cx dX7_addCurve_114 (by decide) (fun c114 => ?_) (fun c114 => ?_)
              · refine jr_lload cx dX7_addCurve_123 5 rfl ?_
                refine jr_topl (show _ = acT (fun q => g 18 (4 * t + q)) (fun q => g 19 (4 * t + q)) x tm n i by unfold acT sgU; rw [show n = k by omega]; first | rw [if_pos (show 0 ≤ pW (fun q => g 18 (4 * t + q)) i (g 18 (4 * t + i)) k from c114)] | rw [if_neg (show ¬ 0 ≤ pW (fun q => g 18 (4 * t + q)) i (g 18 (4 * t + i)) k from c114)]) ?_
                refine jr_lload cx dX7_addCurve_125 6 rfl ?_
                refine jr_sl [.long (pW (fun q => g 18 (4 * t + q)) i (g 18 (4 * t + i)) k)] 1 cx dX7_addCurve_127 (c_X7_size E g (stH h (acS (fun q => g 18 (4 * t + q)) (fun q => g 19 (4 * t + q)) x tm n (h 7 11, h 7 12) i).1 (acS (fun q => g 18 (4 * t + q)) (fun q => g 19 (4 * t + q)) x tm n (h 7 11, h 7 12) i).2) (pW (fun q => g 18 (4 * t + q)) i (g 18 (4 * t + i)) k)) gX7_addCurve_X7_size rfl (by decide +kernel) ⟨Nat.le_of_ble_eq_true rfl, Nat.le_of_ble_eq_true rfl⟩ rfl rfl (Nat.le_of_ble_eq_true rfl) ?_
                refine jr_topl (show _ = abL (pW (fun q => g 18 (4 * t + q)) i ((fun q => g 18 (4 * t + q)) i) n) by rw [show n = k by omega]) ?_
                refine jr_vv [.long (acT (fun q => g 18 (4 * t + q)) (fun q => g 19 (4 * t + q)) x tm n i), .long (abL (pW (fun q => g 18 (4 * t + q)) i ((fun q => g 18 (4 * t + q)) i) n))] 2 cx dX7_addCurve_130 (c_X7_add E g (stH h (acS (fun q => g 18 (4 * t + q)) (fun q => g 19 (4 * t + q)) x tm n (h 7 11, h 7 12) i).1 (acS (fun q => g 18 (4 * t + q)) (fun q => g 19 (4 * t + q)) x tm n (h 7 11, h 7 12) i).2) (acT (fun q => g 18 (4 * t + q)) (fun q => g 19 (4 * t + q)) x tm n i) (abL (pW (fun q => g 18 (4 * t + q)) i ((fun q => g 18 (4 * t + q)) i) n)) (by rw [stH_1, stH_2]; exact hok i (by omega))) (by decide) rfl rfl gX7_addCurve_X7_add rfl (by decide +kernel) ⟨Nat.le_of_ble_eq_true rfl, Nat.le_of_ble_eq_true rfl⟩ rfl rfl (Nat.le_of_ble_eq_true rfl) ?_
                refine jr_iinc (n := 4) (v := nI (i + 1)) (L' := [(4, .int (nI (i + 1))), (0, .ref (E.1 7)), (1, .int (nI t)), (2, .int x), (3, .int tm), (5, .long (uW (fun q => g 18 (4 * t + q)) i x (Int32.toInt64 tm * Int32.toInt64 (g 19 (4 * t + i))) k)), (7, .long (pW (fun q => g 18 (4 * t + q)) i (g 18 (4 * t + i)) k)), (9, .int (nI k))]) cx dX7_addCurve_133 rfl (nI_1 _) (by decide) rfl ?_
                refine jr_goto (tgt := 3) cx dX7_addCurve_136 (by decide) ?_
                refine jr_pick (L' := [(0, .ref (E.1 7)), (1, .int (nI t)), (2, .int x), (3, .int tm), (4, .int (nI (i + 1)))]) [1, 2, 3, 4, 0] rfl ?_
                exact ih1 (i + 1) (by omega) (by omega)
              · refine jr_lload cx dX7_addCurve_117 5 rfl ?_
                refine jr_lneg cx dX7_addCurve_119 ?_
                refine jr_goto (tgt := 125) cx dX7_addCurve_120 (by decide) ?_
                refine jr_topl (show _ = acT (fun q => g 18 (4 * t + q)) (fun q => g 19 (4 * t + q)) x tm n i by unfold acT sgU; rw [show n = k by omega]; first | rw [if_pos (show 0 ≤ pW (fun q => g 18 (4 * t + q)) i (g 18 (4 * t + i)) k from c114)] | rw [if_neg (show ¬ 0 ≤ pW (fun q => g 18 (4 * t + q)) i (g 18 (4 * t + i)) k from c114)]) ?_
                refine jr_lload cx dX7_addCurve_125 6 rfl ?_
                refine jr_sl [.long (pW (fun q => g 18 (4 * t + q)) i (g 18 (4 * t + i)) k)] 1 cx dX7_addCurve_127 (c_X7_size E g (stH h (acS (fun q => g 18 (4 * t + q)) (fun q => g 19 (4 * t + q)) x tm n (h 7 11, h 7 12) i).1 (acS (fun q => g 18 (4 * t + q)) (fun q => g 19 (4 * t + q)) x tm n (h 7 11, h 7 12) i).2) (pW (fun q => g 18 (4 * t + q)) i (g 18 (4 * t + i)) k)) gX7_addCurve_X7_size rfl (by decide +kernel) ⟨Nat.le_of_ble_eq_true rfl, Nat.le_of_ble_eq_true rfl⟩ rfl rfl (Nat.le_of_ble_eq_true rfl) ?_
                refine jr_topl (show _ = abL (pW (fun q => g 18 (4 * t + q)) i ((fun q => g 18 (4 * t + q)) i) n) by rw [show n = k by omega]) ?_
                refine jr_vv [.long (acT (fun q => g 18 (4 * t + q)) (fun q => g 19 (4 * t + q)) x tm n i), .long (abL (pW (fun q => g 18 (4 * t + q)) i ((fun q => g 18 (4 * t + q)) i) n))] 2 cx dX7_addCurve_130 (c_X7_add E g (stH h (acS (fun q => g 18 (4 * t + q)) (fun q => g 19 (4 * t + q)) x tm n (h 7 11, h 7 12) i).1 (acS (fun q => g 18 (4 * t + q)) (fun q => g 19 (4 * t + q)) x tm n (h 7 11, h 7 12) i).2) (acT (fun q => g 18 (4 * t + q)) (fun q => g 19 (4 * t + q)) x tm n i) (abL (pW (fun q => g 18 (4 * t + q)) i ((fun q => g 18 (4 * t + q)) i) n)) (by rw [stH_1, stH_2]; exact hok i (by omega))) (by decide) rfl rfl gX7_addCurve_X7_add rfl (by decide +kernel) ⟨Nat.le_of_ble_eq_true rfl, Nat.le_of_ble_eq_true rfl⟩ rfl rfl (Nat.le_of_ble_eq_true rfl) ?_
                refine jr_iinc (n := 4) (v := nI (i + 1)) (L' := [(4, .int (nI (i + 1))), (0, .ref (E.1 7)), (1, .int (nI t)), (2, .int x), (3, .int tm), (5, .long (uW (fun q => g 18 (4 * t + q)) i x (Int32.toInt64 tm * Int32.toInt64 (g 19 (4 * t + i))) k)), (7, .long (pW (fun q => g 18 (4 * t + q)) i (g 18 (4 * t + i)) k)), (9, .int (nI k))]) cx dX7_addCurve_133 rfl (nI_1 _) (by decide) rfl ?_
                refine jr_goto (tgt := 3) cx dX7_addCurve_136 (by decide) ?_
                refine jr_pick (L' := [(0, .ref (E.1 7)), (1, .int (nI t)), (2, .int x), (3, .int tm), (4, .int (nI (i + 1)))]) [1, 2, 3, 4, 0] rfl ?_
                exact ih1 (i + 1) (by omega) (by omega)
            · have n45 : ¬ (n ≤ k) := fun qq9 => c45 ((nI_leI (a := n) (b := k) (by omega) (by omega)).mpr qq9)
              refine jr_iload cx dX7_addCurve_48 7 rfl ?_
              refine jr_iload cx dX7_addCurve_50 4 rfl ?_
              refine jr_icmp_eq (tgt := 103) cx dX7_addCurve_52 (by decide) (fun c52 => ?_) (fun c52 => ?_)
              · have n52 : k = i := (nI_eq (a := k) (b := i) (by omega) (by omega)).mp c52
                refine jr_iinc (n := 7) (v := nI (k + 1)) (L' := [(9, .int (nI (k + 1))), (0, .ref (E.1 7)), (1, .int (nI t)), (2, .int x), (3, .int tm), (4, .int (nI i)), (5, .long (uW (fun q => g 18 (4 * t + q)) i x (Int32.toInt64 tm * Int32.toInt64 (g 19 (4 * t + i))) k)), (7, .long (pW (fun q => g 18 (4 * t + q)) i (g 18 (4 * t + i)) k))]) cx dX7_addCurve_103 rfl (nI_1 _) (by decide) rfl ?_
                refine jr_goto (tgt := 37) cx dX7_addCurve_106 (by decide) ?_
                refine jr_pick (L' := [(0, .ref (E.1 7)), (1, .int (nI t)), (2, .int x), (3, .int tm), (4, .int (nI i)), (5, .long (uW (fun q => g 18 (4 * t + q)) i x (Int32.toInt64 tm * Int32.toInt64 (g 19 (4 * t + i))) k)), (7, .long (pW (fun q => g 18 (4 * t + q)) i (g 18 (4 * t + i)) k)), (9, .int (nI (k + 1)))]) [1, 2, 3, 4, 5, 6, 7, 0] rfl ?_
                have e5 : (uW (fun q => g 18 (4 * t + q)) i x (Int32.toInt64 tm * Int32.toInt64 (g 19 (4 * t + i))) k : Int64) = (uW (fun q => g 18 (4 * t + q)) i x (Int32.toInt64 tm * Int32.toInt64 (g 19 (4 * t + i))) (k + 1)) := by simp only [uW, if_neg c11, if_neg n11, if_neg c45, if_neg n45, if_pos c52, if_pos n52]
                have e7 : (pW (fun q => g 18 (4 * t + q)) i (g 18 (4 * t + i)) k : Int64) = (pW (fun q => g 18 (4 * t + q)) i (g 18 (4 * t + i)) (k + 1)) := by simp only [pW, if_neg c11, if_neg n11, if_neg c45, if_neg n45, if_pos c52, if_pos n52]
                refine jr_loc (lc_n (lc_n (lc_n (lc_n (lc_n (lc_l e5 (lc_l e7 (lc_n rfl)))))))) ?_
                exact ih2 (k + 1) (by omega) (by omega)
              · have n52 : ¬ (k = i) := fun qq9 => c52 ((nI_eq (a := k) (b := i) (by omega) (by omega)).mpr qq9)
                refine jr_lload cx dX7_addCurve_55 5 rfl ?_
                refine jr_iload_n cx dX7_addCurve_57 2 rfl rfl ?_
                refine jr_aload_n cx dX7_addCurve_58 0 rfl rfl ?_
                refine jr_get (f := 9) (v := .ref (E.1 18)) cx dX7_addCurve_59 (by decide) rfl rfl hinX7 (by decide) mf_29 rfl ?_
                refine jr_iconst (v := 4) cx dX7_addCurve_62 (by decide) ?_
                refine jr_iload_n cx dX7_addCurve_63 1 rfl rfl ?_
                refine jr_imul cx dX7_addCurve_64 ?_
                refine jr_top (show (4 : Int32) * (nI t) = nI (4 * t) from pk_mul 4 t) ?_
                refine jr_iload cx dX7_addCurve_65 7 rfl ?_
                refine jr_iadd cx dX7_addCurve_67 ?_
                refine jr_top (show (nI (4 * t) : Int32) + (nI k) = nI ((4 * t) + k) from nI_add (4 * t) k) ?_
                refine jr_iald cx dX7_addCurve_68 (Or.inl ⟨by decide, by decide⟩) ((4 * t) + k) rfl (show _ < 16 by omega) ?_
                refine jr_isub cx dX7_addCurve_69 ?_
                refine jr_i2l cx dX7_addCurve_70 ?_
                refine jr_lmul cx dX7_addCurve_71 ?_
                refine jr_lstore (L' := [(5, .long ((uW (fun q => g 18 (4 * t + q)) i x (Int32.toInt64 tm * Int32.toInt64 (g 19 (4 * t + i))) k) * (Int32.toInt64 (x - (g 18 ((4 * t) + k)))))), (0, .ref (E.1 7)), (1, .int (nI t)), (2, .int x), (3, .int tm), (4, .int (nI i)), (7, .long (pW (fun q => g 18 (4 * t + q)) i (g 18 (4 * t + i)) k)), (9, .int (nI k))]) cx dX7_addCurve_72 (by decide) rfl ?_
                refine jr_lload cx dX7_addCurve_74 6 rfl ?_
                refine jr_aload_n cx dX7_addCurve_76 1 rfl rfl ?_
                refine jr_get (f := 9) (v := .ref (E.1 18)) cx dX7_addCurve_77 (by decide) rfl rfl hinX7 (by decide) mf_29 rfl ?_
                refine jr_iconst (v := 4) cx dX7_addCurve_80 (by decide) ?_
                refine jr_iload_n cx dX7_addCurve_81 2 rfl rfl ?_
                refine jr_imul cx dX7_addCurve_82 ?_
                refine jr_top (show (4 : Int32) * (nI t) = nI (4 * t) from pk_mul 4 t) ?_
                refine jr_iload cx dX7_addCurve_83 5 rfl ?_
                refine jr_iadd cx dX7_addCurve_85 ?_
                refine jr_top (show (nI (4 * t) : Int32) + (nI i) = nI ((4 * t) + i) from nI_add (4 * t) i) ?_
                refine jr_iald cx dX7_addCurve_86 (Or.inl ⟨by decide, by decide⟩) ((4 * t) + i) rfl (show _ < 16 by omega) ?_
                refine jr_aload_n cx dX7_addCurve_87 1 rfl rfl ?_
                refine jr_get (f := 9) (v := .ref (E.1 18)) cx dX7_addCurve_88 (by decide) rfl rfl hinX7 (by decide) mf_29 rfl ?_
                refine jr_iconst (v := 4) cx dX7_addCurve_91 (by decide) ?_
                refine jr_iload_n cx dX7_addCurve_92 2 rfl rfl ?_
                refine jr_imul cx dX7_addCurve_93 ?_
                refine jr_top (show (4 : Int32) * (nI t) = nI (4 * t) from pk_mul 4 t) ?_
                refine jr_iload cx dX7_addCurve_94 7 rfl ?_
                refine jr_iadd cx dX7_addCurve_96 ?_
                refine jr_top (show (nI (4 * t) : Int32) + (nI k) = nI ((4 * t) + k) from nI_add (4 * t) k) ?_
                refine jr_iald cx dX7_addCurve_97 (Or.inl ⟨by decide, by decide⟩) ((4 * t) + k) rfl (show _ < 16 by omega) ?_
                refine jr_isub cx dX7_addCurve_98 ?_
                refine jr_i2l cx dX7_addCurve_99 ?_
                refine jr_lmul cx dX7_addCurve_100 ?_
                refine jr_lstore (L' := [(7, .long ((pW (fun q => g 18 (4 * t + q)) i (g 18 (4 * t + i)) k) * (Int32.toInt64 ((g 18 ((4 * t) + i)) - (g 18 ((4 * t) + k)))))), (5, .long ((uW (fun q => g 18 (4 * t + q)) i x (Int32.toInt64 tm * Int32.toInt64 (g 19 (4 * t + i))) k) * (Int32.toInt64 (x - (g 18 ((4 * t) + k)))))), (0, .ref (E.1 7)), (1, .int (nI t)), (2, .int x), (3, .int tm), (4, .int (nI i)), (9, .int (nI k))]) cx dX7_addCurve_101 (by decide) rfl ?_
                refine jr_iinc (n := 7) (v := nI (k + 1)) (L' := [(9, .int (nI (k + 1))), (7, .long ((pW (fun q => g 18 (4 * t + q)) i (g 18 (4 * t + i)) k) * (Int32.toInt64 ((g 18 ((4 * t) + i)) - (g 18 ((4 * t) + k)))))), (5, .long ((uW (fun q => g 18 (4 * t + q)) i x (Int32.toInt64 tm * Int32.toInt64 (g 19 (4 * t + i))) k) * (Int32.toInt64 (x - (g 18 ((4 * t) + k)))))), (0, .ref (E.1 7)), (1, .int (nI t)), (2, .int x), (3, .int tm), (4, .int (nI i))]) cx dX7_addCurve_103 rfl (nI_1 _) (by decide) rfl ?_
                refine jr_goto (tgt := 37) cx dX7_addCurve_106 (by decide) ?_
                refine jr_pick (L' := [(0, .ref (E.1 7)), (1, .int (nI t)), (2, .int x), (3, .int tm), (4, .int (nI i)), (5, .long ((uW (fun q => g 18 (4 * t + q)) i x (Int32.toInt64 tm * Int32.toInt64 (g 19 (4 * t + i))) k) * (Int32.toInt64 (x - (g 18 ((4 * t) + k)))))), (7, .long ((pW (fun q => g 18 (4 * t + q)) i (g 18 (4 * t + i)) k) * (Int32.toInt64 ((g 18 ((4 * t) + i)) - (g 18 ((4 * t) + k)))))), (9, .int (nI (k + 1)))]) [3, 4, 5, 6, 7, 2, 1, 0] rfl ?_
                have e5 : ((uW (fun q => g 18 (4 * t + q)) i x (Int32.toInt64 tm * Int32.toInt64 (g 19 (4 * t + i))) k) * (Int32.toInt64 (x - (g 18 ((4 * t) + k)))) : Int64) = (uW (fun q => g 18 (4 * t + q)) i x (Int32.toInt64 tm * Int32.toInt64 (g 19 (4 * t + i))) (k + 1)) := by simp only [uW, if_neg c11, if_neg n11, if_neg c45, if_neg n45, if_neg c52, if_neg n52]
                have e7 : ((pW (fun q => g 18 (4 * t + q)) i (g 18 (4 * t + i)) k) * (Int32.toInt64 ((g 18 ((4 * t) + i)) - (g 18 ((4 * t) + k)))) : Int64) = (pW (fun q => g 18 (4 * t + q)) i (g 18 (4 * t + i)) (k + 1)) := by simp only [pW, if_neg c11, if_neg n11, if_neg c45, if_neg n45, if_neg c52, if_neg n52]
                refine jr_loc (lc_n (lc_n (lc_n (lc_n (lc_n (lc_l e5 (lc_l e7 (lc_n rfl)))))))) ?_
                exact ih2 (k + 1) (by omega) (by omega)
        refine jr_pick (L' := [(0, .ref (E.1 7)), (1, .int (nI t)), (2, .int x), (3, .int tm), (4, .int (nI i)), (5, .long ((Int32.toInt64 tm) * (Int32.toInt64 (g 19 ((4 * t) + i))))), (7, .long 1), (9, .int 0)]) [3, 4, 5, 6, 7, 2, 1, 0] rfl ?_
        have e5 : ((Int32.toInt64 tm) * (Int32.toInt64 (g 19 ((4 * t) + i))) : Int64) = (uW (fun q => g 18 (4 * t + q)) i x (Int32.toInt64 tm * Int32.toInt64 (g 19 (4 * t + i))) 0) := by rfl
        have e7 : (1 : Int64) = (pW (fun q => g 18 (4 * t + q)) i (g 18 (4 * t + i)) 0) := by rfl
        have e9 : (0 : Int32) = (nI 0) := by rfl
        refine jr_loc (lc_n (lc_n (lc_n (lc_n (lc_n (lc_l e5 (lc_l e7 (lc_i e9 rfl)))))))) ?_
        exact key2 (n + 1) 0 (by omega) (by omega)
  refine jr_pick (L' := [(0, .ref (E.1 7)), (1, .int (nI t)), (2, .int x), (3, .int tm), (4, .int 0)]) [1, 2, 3, 4, 0] rfl ?_
  have e4 : (0 : Int32) = (nI 0) := by rfl
  refine jr_loc (lc_n (lc_n (lc_n (lc_n (lc_i e4 rfl))))) ?_
  refine jr_mem (g' := g) (h' := stH h (acS (fun q => g 18 (4 * t + q)) (fun q => g 19 (4 * t + q)) x tm n (h 7 11, h 7 12) 0).1 (acS (fun q => g 18 (4 * t + q)) (fun q => g 19 (4 * t + q)) x tm n (h 7 11, h 7 12) 0).2) (by rfl) (by exact (stH_id h).symm) ?_
  exact key1 (n + 1) 0 (by omega) (by omega)
