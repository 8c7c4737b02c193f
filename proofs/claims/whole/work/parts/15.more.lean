def Bd (x : Int64) (B : Nat) : Prop := x.toInt.natAbs ≤ B
def BdI (x : Int32) (B : Nat) : Prop := x.toInt.natAbs ≤ B
theorem Bd.lt {x : Int64} {B : Nat} (h : Bd x B) (hb : B < 2 ^ 63) : x.toInt.natAbs < 2 ^ 63 := by unfold Bd at h; omega
theorem toL (x : Int32) : x.toInt64.toInt = x.toInt := Int32.toInt_toInt64 x
theorem BdI.L {x : Int32} {B : Nat} (h : BdI x B) : Bd x.toInt64 B := by unfold Bd; rw [toL]; exact h
theorem mulV {x y : Int64} {A B : Nat} (hx : Bd x A) (hy : Bd y B) (h : A * B < 2 ^ 63) : (x * y).toInt = x.toInt * y.toInt := by
  unfold Bd at hx hy
  have h1 : (x.toInt * y.toInt).natAbs ≤ A * B := by rw [Int.natAbs_mul]; exact Nat.mul_le_mul hx hy
  exact fb_mulL (by omega) (by omega)
theorem Bd.mul {x y : Int64} {A B : Nat} (hx : Bd x A) (hy : Bd y B) (h : A * B < 2 ^ 63) : Bd (x * y) (A * B) := by
  have h2 := mulV hx hy h
  unfold Bd at *
  rw [h2, Int.natAbs_mul]; exact Nat.mul_le_mul hx hy
theorem addV {x y : Int64} {A B : Nat} (hx : Bd x A) (hy : Bd y B) (h : A + B < 2 ^ 63) : (x + y).toInt = x.toInt + y.toInt := by
  unfold Bd at hx hy
  exact fb_addL (by omega) (by omega)
theorem Bd.add {x y : Int64} {A B : Nat} (hx : Bd x A) (hy : Bd y B) (h : A + B < 2 ^ 63) : Bd (x + y) (A + B) := by
  have h2 := addV hx hy h
  unfold Bd at *
  rw [h2]; omega
theorem subV {x y : Int64} {A B : Nat} (hx : Bd x A) (hy : Bd y B) (h : A + B < 2 ^ 63) : (x - y).toInt = x.toInt - y.toInt := by
  unfold Bd at hx hy
  exact fb_subL (by omega) (by omega)
theorem Bd.sub {x y : Int64} {A B : Nat} (hx : Bd x A) (hy : Bd y B) (h : A + B < 2 ^ 63) : Bd (x - y) (A + B) := by
  have h2 := subV hx hy h
  unfold Bd at *
  rw [h2]; omega
theorem subIV {x y : Int32} {A B : Nat} (hx : BdI x A) (hy : BdI y B) (h : A + B < 2 ^ 31) : (x - y).toInt = x.toInt - y.toInt := by
  unfold BdI at hx hy
  exact fb_subI (by omega) (by omega)
theorem BdI.sub {x y : Int32} {A B : Nat} (hx : BdI x A) (hy : BdI y B) (h : A + B < 2 ^ 31) : BdI (x - y) (A + B) := by
  have h2 := subIV hx hy h
  unfold BdI at *
  rw [h2]; omega
theorem mulIV {x y : Int32} {A B : Nat} (hx : BdI x A) (hy : BdI y B) (h : A * B < 2 ^ 31) : (x * y).toInt = x.toInt * y.toInt := by
  unfold BdI at hx hy
  have h1 : (x.toInt * y.toInt).natAbs ≤ A * B := by rw [Int.natAbs_mul]; exact Nat.mul_le_mul hx hy
  exact fb_mulI (by omega) (by omega)
theorem BdI.mul {x y : Int32} {A B : Nat} (hx : BdI x A) (hy : BdI y B) (h : A * B < 2 ^ 31) : BdI (x * y) (A * B) := by
  have h2 := mulIV hx hy h
  unfold BdI at *
  rw [h2, Int.natAbs_mul]; exact Nat.mul_le_mul hx hy
theorem BdI.of {v lo hi : Int32} {B : Nat} (h : ¬ v < lo ∧ ¬ hi < v) (h1 : -(B : Int) ≤ lo.toInt) (h2 : hi.toInt ≤ B) : BdI v B := by
  have a := Int32.not_lt.mp h.1
  have b := Int32.not_lt.mp h.2
  rw [fa_le] at a b
  unfold BdI; omega
theorem Bd.lit (x : Int64) {B : Nat} (h : x.toInt.natAbs ≤ B) : Bd x B := h
abbrev inW (v : Int32) : Prop := ¬ v < -100000 ∧ ¬ 100000 < v
def stU (a n t s : Int32) : Int64 := a.toInt64 * 100000 + 16 * n.toInt64 * (t - s).toInt64
theorem stU_bd {a n t s : Int32} (h1 : inW a) (h2 : ¬ n < 0 ∧ ¬ 1000 < n) (h3 : inW t) (h4 : inW s) : (stU a n t s).toInt.natAbs < 2 ^ 63 := by
  have b1 : BdI a 100000 := BdI.of h1 (by decide) (by decide)
  have b2 : BdI n 1000 := BdI.of h2 (by decide) (by decide)
  have b3 : BdI t 100000 := BdI.of h3 (by decide) (by decide)
  have b4 : BdI s 100000 := BdI.of h4 (by decide) (by decide)
  have c1 := b1.L.mul (Bd.lit 100000 (B := 100000) (by decide)) (by decide)
  have c2 := ((Bd.lit 16 (B := 16) (by decide)).mul b2.L (by decide)).mul (b3.sub b4 (by decide)).L (by decide)
  exact (c1.add c2 (by decide)).lt (by decide)
def dStem {α : Type} (nb : Nat) (kd : Nat → Int32) (b a n t s : Int32) (bad unlike ok : α) : α := if ¬ b < 0 ∧ ¬ nI nb - 1 < b then (if inW a then (if ¬ n < 0 ∧ ¬ 1000 < n then (if inW t then (if inW s then (if kd b.toNatClampNeg = 1 ∨ kd b.toNatClampNeg = 3 ∧ (1 : Int32) = 2 then ok else unlike) else bad) else bad) else bad) else bad) else bad
set_option maxHeartbeats 4000000 in
set_option maxRecDepth 100000 in
theorem c_X6_stem (E : mm_E) (g : mm_I) (h : mm_L) (b a n t s : Int32) (nb : Nat) (hnb : nb ≤ 16) (hsb : g 3 2 = nI nb) : Ci E yX6_stem wsX6_stem 3 81 [.ref (E.1 0), .int b, .int a, .int n, .int t, .int s] g h (dStem nb (g 11) b a n t s (-1) (-3) 1) (dStem nb (g 11) b a n t s g (rfM g 3) g) (dStem nb (g 11) b a n t s h h (tlC h (stU a n t s) 100000)) := by
  refine ci_i (bytes := cX6_stem) (maxL := 6) (by decide) rfl (Nat.le_of_ble_eq_true rfl) (fun X cx hR => ?_)
  change Cx E X cX6_stem RX6 wsX6_stem 6 3 81 at cx
  change JJ E X g h 0 [(0, .ref (E.1 0)), (1, .int b), (2, .int a), (3, .int n), (4, .int t), (5, .int s)] []
  have hinX6 : ∀ w ∈ u_ws RX6 TX6 9, w ∈ wsX6_stem := by decide +kernel
  have mf_26 : Cond.fieldLink RX6 26 (TX6 2).1 (TX6 2).2.1 (TX6 2).2.2.1 ∈ wsX6_stem := by decide +kernel
  have mc_75 : Cond.constant RX6 75 100000 ∈ wsX6_stem := by decide +kernel
  have mf_47 : Cond.fieldLink RX6 47 (TX6 5).1 (TX6 5).2.1 (TX6 5).2.2.1 ∈ wsX6_stem := by decide +kernel
  have mc_187 : Cond.constantLong RX6 187 100000 ∈ wsX6_stem := by decide +kernel
  have mc_189 : Cond.constantLong RX6 189 16 ∈ wsX6_stem := by decide +kernel
  refine jr_aload_n cx dX6_stem_0 0 rfl rfl ?_
  refine jr_get (f := 2) (v := .ref (E.1 3)) cx dX6_stem_1 (by decide) rfl rfl hinX6 (by decide) mf_26 rfl ?_
  refine jr_iload_n cx dX6_stem_4 1 rfl rfl ?_
  refine jr_vi [.int b] 1 cx dX6_stem_5 (c_X0_has E g h b nb hnb hsb) (by decide) rfl rfl gX6_stem_X0_has rfl (by decide +kernel) ⟨Nat.le_of_ble_eq_true rfl, Nat.le_of_ble_eq_true rfl⟩ rfl rfl (Nat.le_of_ble_eq_true rfl) ?_
  refine jr_bif_eq (tgt := 51) cx dX6_stem_8 (by decide) (fun c8 => ?_) (fun c8 => ?_)
  · refine jr_iconst (v := (-1)) cx dX6_stem_51 (by decide) ?_
    exact jr_ri (by simp only [dStem, ite_self, if_neg c8]) (by simp only [dStem, ite_self, if_neg c8]) (by simp only [dStem, ite_self, if_neg c8]; try rfl) (hR 52 _ dX6_stem_52)
  · obtain ⟨d, hd, rfl⟩ := has_nat (by omega) c8; have ed : (nI d).toNatClampNeg = d := cl_nI (by omega)
    refine jr_iload_n cx dX6_stem_11 2 rfl rfl ?_
    refine jr_ldc cx dX6_stem_12 mc_75 ?_
    refine jr_si [.int a, .int 100000] 2 cx dX6_stem_14 (c_X6_isWithin E g h a 100000) gX6_stem_X6_isWithin rfl (by decide +kernel) ⟨Nat.le_of_ble_eq_true rfl, Nat.le_of_ble_eq_true rfl⟩ rfl rfl (Nat.le_of_ble_eq_true rfl) ?_
    refine jr_bif_eq (tgt := 51) cx dX6_stem_17 (by decide) (fun c17 => ?_) (fun c17 => ?_)
    · refine jr_iconst (v := (-1)) cx dX6_stem_51 (by decide) ?_
      exact jr_ri (by simp only [dStem, ite_self, if_pos c8, if_neg c17, ed]) (by simp only [dStem, ite_self, if_pos c8, if_neg c17, ed]) (by simp only [dStem, ite_self, if_pos c8, if_neg c17, ed]; try rfl) (hR 52 _ dX6_stem_52)
    · refine jr_iload_n cx dX6_stem_20 3 rfl rfl ?_
      refine jr_iconst (v := 0) cx dX6_stem_21 (by decide) ?_
      refine jr_sipush (v := 1000) cx dX6_stem_22 (by decide) ?_
      refine jr_si [.int n, .int 0, .int 1000] 3 cx dX6_stem_25 (c_X6_isBetween E g h n 0 1000) gX6_stem_X6_isBetween rfl (by decide +kernel) ⟨Nat.le_of_ble_eq_true rfl, Nat.le_of_ble_eq_true rfl⟩ rfl rfl (Nat.le_of_ble_eq_true rfl) ?_
      refine jr_bif_eq (tgt := 51) cx dX6_stem_28 (by decide) (fun c28 => ?_) (fun c28 => ?_)
      · refine jr_iconst (v := (-1)) cx dX6_stem_51 (by decide) ?_
        exact jr_ri (by simp only [dStem, ite_self, if_pos c8, if_pos c17, if_neg c28, ed]) (by simp only [dStem, ite_self, if_pos c8, if_pos c17, if_neg c28, ed]) (by simp only [dStem, ite_self, if_pos c8, if_pos c17, if_neg c28, ed]; try rfl) (hR 52 _ dX6_stem_52)
      · refine jr_iload cx dX6_stem_31 4 rfl ?_
        refine jr_ldc cx dX6_stem_33 mc_75 ?_
        refine jr_si [.int t, .int 100000] 2 cx dX6_stem_35 (c_X6_isWithin E g h t 100000) gX6_stem_X6_isWithin rfl (by decide +kernel) ⟨Nat.le_of_ble_eq_true rfl, Nat.le_of_ble_eq_true rfl⟩ rfl rfl (Nat.le_of_ble_eq_true rfl) ?_
        refine jr_bif_eq (tgt := 51) cx dX6_stem_38 (by decide) (fun c38 => ?_) (fun c38 => ?_)
        · refine jr_iconst (v := (-1)) cx dX6_stem_51 (by decide) ?_
          exact jr_ri (by simp only [dStem, ite_self, if_pos c8, if_pos c17, if_pos c28, if_neg c38, ed]) (by simp only [dStem, ite_self, if_pos c8, if_pos c17, if_pos c28, if_neg c38, ed]) (by simp only [dStem, ite_self, if_pos c8, if_pos c17, if_pos c28, if_neg c38, ed]; try rfl) (hR 52 _ dX6_stem_52)
        · refine jr_iload cx dX6_stem_41 5 rfl ?_
          refine jr_ldc cx dX6_stem_43 mc_75 ?_
          refine jr_si [.int s, .int 100000] 2 cx dX6_stem_45 (c_X6_isWithin E g h s 100000) gX6_stem_X6_isWithin rfl (by decide +kernel) ⟨Nat.le_of_ble_eq_true rfl, Nat.le_of_ble_eq_true rfl⟩ rfl rfl (Nat.le_of_ble_eq_true rfl) ?_
          refine jr_bif_ne (tgt := 53) cx dX6_stem_48 (by decide) (fun c48 => ?_) (fun c48 => ?_)
          · refine jr_aload_n cx dX6_stem_53 0 rfl rfl ?_
            refine jr_get (f := 2) (v := .ref (E.1 3)) cx dX6_stem_54 (by decide) rfl rfl hinX6 (by decide) mf_26 rfl ?_
            refine jr_iload_n cx dX6_stem_57 1 rfl rfl ?_
            refine jr_iconst (v := 1) cx dX6_stem_58 (by decide) ?_
            refine jr_vi [.int (nI d), .int 1] 2 cx dX6_stem_59 (c_X0_isOf E g h d (by omega) 1) (by decide) rfl rfl gX6_stem_X0_isOf rfl (by decide +kernel) ⟨Nat.le_of_ble_eq_true rfl, Nat.le_of_ble_eq_true rfl⟩ rfl rfl (Nat.le_of_ble_eq_true rfl) ?_
            refine jr_bif_ne (tgt := 71) cx dX6_stem_62 (by decide) (fun c62 => ?_) (fun c62 => ?_)
            · refine jr_aload_n cx dX6_stem_71 0 rfl rfl ?_
              refine jr_get (f := 5) (v := .ref (E.1 6)) cx dX6_stem_72 (by decide) rfl rfl hinX6 (by decide) mf_47 rfl ?_
              refine jr_iload_n cx dX6_stem_75 2 rfl rfl ?_
              refine jr_i2l cx dX6_stem_76 ?_
              refine jr_ldc2 cx dX6_stem_77 mc_187 ?_
              refine jr_lmul cx dX6_stem_80 ?_
              refine jr_ldc2 cx dX6_stem_81 mc_189 ?_
              refine jr_iload_n cx dX6_stem_84 3 rfl rfl ?_
              refine jr_i2l cx dX6_stem_85 ?_
              refine jr_lmul cx dX6_stem_86 ?_
              refine jr_iload cx dX6_stem_87 4 rfl ?_
              refine jr_iload cx dX6_stem_89 5 rfl ?_
              refine jr_isub cx dX6_stem_91 ?_
              refine jr_i2l cx dX6_stem_92 ?_
              refine jr_lmul cx dX6_stem_93 ?_
              refine jr_ladd cx dX6_stem_94 ?_
              refine jr_ldc2 cx dX6_stem_95 mc_187 ?_
              refine jr_vv [.long (((Int32.toInt64 a) * 100000) + ((16 * (Int32.toInt64 n)) * (Int32.toInt64 (t - s)))), .long 100000] 2 cx dX6_stem_98 (c_X2_tell E g h (((Int32.toInt64 a) * 100000) + ((16 * (Int32.toInt64 n)) * (Int32.toInt64 (t - s)))) 100000 (stU_bd c17 c28 c38 c48) (by decide) (by decide)) (by decide) rfl rfl gX6_stem_X2_tell rfl (by decide +kernel) ⟨Nat.le_of_ble_eq_true rfl, Nat.le_of_ble_eq_true rfl⟩ rfl rfl (Nat.le_of_ble_eq_true rfl) ?_
              refine jr_iconst (v := 1) cx dX6_stem_101 (by decide) ?_
              exact jr_ri (by simp only [dStem, ite_self, if_pos c8, if_pos c17, if_pos c28, if_pos c38, if_pos c48, if_pos c62, ed]) (by simp only [dStem, ite_self, if_pos c8, if_pos c17, if_pos c28, if_pos c38, if_pos c48, if_pos c62, ed]) (by simp only [dStem, ite_self, if_pos c8, if_pos c17, if_pos c28, if_pos c38, if_pos c48, if_pos c62, ed]; try rfl) (hR 102 _ dX6_stem_102)
            · refine jr_aload_n cx dX6_stem_65 0 rfl rfl ?_
              refine jr_iconst (v := 3) cx dX6_stem_66 (by decide) ?_
              refine jr_vi [.int 3] 1 cx dX6_stem_67 (c_X6_refuse E g h 3 (by decide) (by decide)) (by decide) rfl rfl gX6_stem_X6_refuse rfl (by decide +kernel) ⟨Nat.le_of_ble_eq_true rfl, Nat.le_of_ble_eq_true rfl⟩ rfl rfl (Nat.le_of_ble_eq_true rfl) ?_
              exact jr_ri (by simp only [dStem, ite_self, if_pos c8, if_pos c17, if_pos c28, if_pos c38, if_pos c48, if_neg c62, ed]) (by simp only [dStem, ite_self, if_pos c8, if_pos c17, if_pos c28, if_pos c38, if_pos c48, if_neg c62, ed]) (by simp only [dStem, ite_self, if_pos c8, if_pos c17, if_pos c28, if_pos c38, if_pos c48, if_neg c62, ed]; try rfl) (hR 70 _ dX6_stem_70)
          · refine jr_iconst (v := (-1)) cx dX6_stem_51 (by decide) ?_
            exact jr_ri (by simp only [dStem, ite_self, if_pos c8, if_pos c17, if_pos c28, if_pos c38, if_neg c48, ed]) (by simp only [dStem, ite_self, if_pos c8, if_pos c17, if_pos c28, if_pos c38, if_neg c48, ed]) (by simp only [dStem, ite_self, if_pos c8, if_pos c17, if_pos c28, if_pos c38, if_neg c48, ed]; try rfl) (hR 52 _ dX6_stem_52)
set_option maxHeartbeats 4000000 in
set_option maxRecDepth 100000 in
theorem c_X7_stem (E : mm_E) (g : mm_I) (h : mm_L) (b a n t s : Int32) (nb : Nat) (hnb : nb ≤ 16) (hsb : g 7 13 = nI nb) : Ci E yX7_stem wsX7_stem 3 77 [.ref (E.1 7), .int b, .int a, .int n, .int t, .int s] g h (dStem nb (g 20) b a n t s (-1) (-3) 1) (dStem nb (g 20) b a n t s g (mtM g 3) g) (dStem nb (g 20) b a n t s h h (tlM h (stU a n t s) 100000)) := by
  refine ci_i (bytes := cX7_stem) (maxL := 6) (by decide) rfl (Nat.le_of_ble_eq_true rfl) (fun X cx hR => ?_)
  change Cx E X cX7_stem RX7 wsX7_stem 6 3 77 at cx
  change JJ E X g h 0 [(0, .ref (E.1 7)), (1, .int b), (2, .int a), (3, .int n), (4, .int t), (5, .int s)] []
  have mc_105 : Cond.constant RX7 105 (-100000) ∈ wsX7_stem := by decide +kernel
  have mc_106 : Cond.constant RX7 106 100000 ∈ wsX7_stem := by decide +kernel
  have mc_171 : Cond.constantLong RX7 171 100000 ∈ wsX7_stem := by decide +kernel
  have mc_173 : Cond.constantLong RX7 173 16 ∈ wsX7_stem := by decide +kernel
  refine jr_aload_n cx dX7_stem_0 0 rfl rfl ?_
  refine jr_iload_n cx dX7_stem_1 1 rfl rfl ?_
  refine jr_vi [.int b] 1 cx dX7_stem_2 (c_X7_isBulb E g h b nb hnb hsb) (by decide) rfl rfl gX7_stem_X7_isBulb rfl (by decide +kernel) ⟨Nat.le_of_ble_eq_true rfl, Nat.le_of_ble_eq_true rfl⟩ rfl rfl (Nat.le_of_ble_eq_true rfl) ?_
  refine jr_bif_eq (tgt := 54) cx dX7_stem_5 (by decide) (fun c5 => ?_) (fun c5 => ?_)
  · refine jr_iconst (v := (-1)) cx dX7_stem_54 (by decide) ?_
    exact jr_ri (by simp only [dStem, ite_self, if_neg c5]) (by simp only [dStem, ite_self, if_neg c5]) (by simp only [dStem, ite_self, if_neg c5]; try rfl) (hR 55 _ dX7_stem_55)
  · obtain ⟨d, hd, rfl⟩ := has_nat (by omega) c5; have ed : (nI d).toNatClampNeg = d := cl_nI (by omega)
    refine jr_iload_n cx dX7_stem_8 2 rfl rfl ?_
    refine jr_ldc cx dX7_stem_9 mc_105 ?_
    refine jr_ldc cx dX7_stem_11 mc_106 ?_
    refine jr_si [.int a, .int (-100000), .int 100000] 3 cx dX7_stem_13 (c_X7_in E g h a (-100000) 100000) gX7_stem_X7_in rfl (by decide +kernel) ⟨Nat.le_of_ble_eq_true rfl, Nat.le_of_ble_eq_true rfl⟩ rfl rfl (Nat.le_of_ble_eq_true rfl) ?_
    refine jr_bif_eq (tgt := 54) cx dX7_stem_16 (by decide) (fun c16 => ?_) (fun c16 => ?_)
    · refine jr_iconst (v := (-1)) cx dX7_stem_54 (by decide) ?_
      exact jr_ri (by simp only [dStem, ite_self, if_pos c5, if_neg c16, ed]) (by simp only [dStem, ite_self, if_pos c5, if_neg c16, ed]) (by simp only [dStem, ite_self, if_pos c5, if_neg c16, ed]; try rfl) (hR 55 _ dX7_stem_55)
    · refine jr_iload_n cx dX7_stem_19 3 rfl rfl ?_
      refine jr_iconst (v := 0) cx dX7_stem_20 (by decide) ?_
      refine jr_sipush (v := 1000) cx dX7_stem_21 (by decide) ?_
      refine jr_si [.int n, .int 0, .int 1000] 3 cx dX7_stem_24 (c_X7_in E g h n 0 1000) gX7_stem_X7_in rfl (by decide +kernel) ⟨Nat.le_of_ble_eq_true rfl, Nat.le_of_ble_eq_true rfl⟩ rfl rfl (Nat.le_of_ble_eq_true rfl) ?_
      refine jr_bif_eq (tgt := 54) cx dX7_stem_27 (by decide) (fun c27 => ?_) (fun c27 => ?_)
      · refine jr_iconst (v := (-1)) cx dX7_stem_54 (by decide) ?_
        exact jr_ri (by simp only [dStem, ite_self, if_pos c5, if_pos c16, if_neg c27, ed]) (by simp only [dStem, ite_self, if_pos c5, if_pos c16, if_neg c27, ed]) (by simp only [dStem, ite_self, if_pos c5, if_pos c16, if_neg c27, ed]; try rfl) (hR 55 _ dX7_stem_55)
      · refine jr_iload cx dX7_stem_30 4 rfl ?_
        refine jr_ldc cx dX7_stem_32 mc_105 ?_
        refine jr_ldc cx dX7_stem_34 mc_106 ?_
        refine jr_si [.int t, .int (-100000), .int 100000] 3 cx dX7_stem_36 (c_X7_in E g h t (-100000) 100000) gX7_stem_X7_in rfl (by decide +kernel) ⟨Nat.le_of_ble_eq_true rfl, Nat.le_of_ble_eq_true rfl⟩ rfl rfl (Nat.le_of_ble_eq_true rfl) ?_
        refine jr_bif_eq (tgt := 54) cx dX7_stem_39 (by decide) (fun c39 => ?_) (fun c39 => ?_)
        · refine jr_iconst (v := (-1)) cx dX7_stem_54 (by decide) ?_
          exact jr_ri (by simp only [dStem, ite_self, if_pos c5, if_pos c16, if_pos c27, if_neg c39, ed]) (by simp only [dStem, ite_self, if_pos c5, if_pos c16, if_pos c27, if_neg c39, ed]) (by simp only [dStem, ite_self, if_pos c5, if_pos c16, if_pos c27, if_neg c39, ed]; try rfl) (hR 55 _ dX7_stem_55)
        · refine jr_iload cx dX7_stem_42 5 rfl ?_
          refine jr_ldc cx dX7_stem_44 mc_105 ?_
          refine jr_ldc cx dX7_stem_46 mc_106 ?_
          refine jr_si [.int s, .int (-100000), .int 100000] 3 cx dX7_stem_48 (c_X7_in E g h s (-100000) 100000) gX7_stem_X7_in rfl (by decide +kernel) ⟨Nat.le_of_ble_eq_true rfl, Nat.le_of_ble_eq_true rfl⟩ rfl rfl (Nat.le_of_ble_eq_true rfl) ?_
          refine jr_bif_ne (tgt := 56) cx dX7_stem_51 (by decide) (fun c51 => ?_) (fun c51 => ?_)
          · refine jr_aload_n cx dX7_stem_56 0 rfl rfl ?_
            refine jr_iload_n cx dX7_stem_57 1 rfl rfl ?_
            refine jr_iconst (v := 1) cx dX7_stem_58 (by decide) ?_
            refine jr_vi [.int (nI d), .int 1] 2 cx dX7_stem_59 (c_X7_is E g h d (by omega) 1) (by decide) rfl rfl gX7_stem_X7_is rfl (by decide +kernel) ⟨Nat.le_of_ble_eq_true rfl, Nat.le_of_ble_eq_true rfl⟩ rfl rfl (Nat.le_of_ble_eq_true rfl) ?_
            refine jr_bif_ne (tgt := 71) cx dX7_stem_62 (by decide) (fun c62 => ?_) (fun c62 => ?_)
            · refine jr_aload_n cx dX7_stem_71 0 rfl rfl ?_
              refine jr_ldc2 cx dX7_stem_72 mc_171 ?_
              refine jr_iload_n cx dX7_stem_75 2 rfl rfl ?_
              refine jr_i2l cx dX7_stem_76 ?_
              refine jr_lmul cx dX7_stem_77 ?_
              refine jr_topl (Int64.mul_comm _ _) ?_
              refine jr_ldc2 cx dX7_stem_78 mc_173 ?_
              refine jr_iload_n cx dX7_stem_81 3 rfl rfl ?_
              refine jr_i2l cx dX7_stem_82 ?_
              refine jr_lmul cx dX7_stem_83 ?_
              refine jr_iload cx dX7_stem_84 4 rfl ?_
              refine jr_iload cx dX7_stem_86 5 rfl ?_
              refine jr_isub cx dX7_stem_88 ?_
              refine jr_i2l cx dX7_stem_89 ?_
              refine jr_lmul cx dX7_stem_90 ?_
              refine jr_ladd cx dX7_stem_91 ?_
              refine jr_ldc2 cx dX7_stem_92 mc_171 ?_
              refine jr_iconst (v := 1) cx dX7_stem_95 (by decide) ?_
              refine jr_vi [.long ((Int32.toInt64 a * 100000) + ((16 * (Int32.toInt64 n)) * (Int32.toInt64 (t - s)))), .long 100000, .int 1] 3 cx dX7_stem_96 (c_X7_tell E g h ((Int32.toInt64 a * 100000) + ((16 * (Int32.toInt64 n)) * (Int32.toInt64 (t - s)))) 100000 1 (stU_bd c16 c27 c39 c51) (by decide) (by decide)) (by decide) rfl rfl gX7_stem_X7_tell rfl (by decide +kernel) ⟨Nat.le_of_ble_eq_true rfl, Nat.le_of_ble_eq_true rfl⟩ rfl rfl (Nat.le_of_ble_eq_true rfl) ?_
              exact jr_ri (by simp only [dStem, ite_self, if_pos c5, if_pos c16, if_pos c27, if_pos c39, if_pos c51, if_pos c62, ed]) (by simp only [dStem, ite_self, if_pos c5, if_pos c16, if_pos c27, if_pos c39, if_pos c51, if_pos c62, ed]) (by simp only [dStem, ite_self, if_pos c5, if_pos c16, if_pos c27, if_pos c39, if_pos c51, if_pos c62, ed]; try rfl) (hR 99 _ dX7_stem_99)
            · refine jr_aload_n cx dX7_stem_65 0 rfl rfl ?_
              refine jr_iconst (v := 3) cx dX7_stem_66 (by decide) ?_
              refine jr_vi [.int 3] 1 cx dX7_stem_67 (c_X7_meets E g h 3 (by decide)) (by decide) rfl rfl gX7_stem_X7_meets rfl (by decide +kernel) ⟨Nat.le_of_ble_eq_true rfl, Nat.le_of_ble_eq_true rfl⟩ rfl rfl (Nat.le_of_ble_eq_true rfl) ?_
              exact jr_ri (by simp only [dStem, ite_self, if_pos c5, if_pos c16, if_pos c27, if_pos c39, if_pos c51, if_neg c62, ed]) (by simp only [dStem, ite_self, if_pos c5, if_pos c16, if_pos c27, if_pos c39, if_pos c51, if_neg c62, ed]) (by simp only [dStem, ite_self, if_pos c5, if_pos c16, if_pos c27, if_pos c39, if_pos c51, if_neg c62, ed]; try rfl) (hR 70 _ dX7_stem_70)
          · refine jr_iconst (v := (-1)) cx dX7_stem_54 (by decide) ?_
            exact jr_ri (by simp only [dStem, ite_self, if_pos c5, if_pos c16, if_pos c27, if_pos c39, if_neg c51, ed]) (by simp only [dStem, ite_self, if_pos c5, if_pos c16, if_pos c27, if_pos c39, if_neg c51, ed]) (by simp only [dStem, ite_self, if_pos c5, if_pos c16, if_pos c27, if_pos c39, if_neg c51, ed]; try rfl) (hR 55 _ dX7_stem_55)
def cuU (a i b j : Int32) : Int64 := a.toInt64 * (j.toInt64 * j.toInt64) - b.toInt64 * (i.toInt64 * i.toInt64)
def cuL (i j : Int32) : Int64 := j.toInt64 * j.toInt64 - i.toInt64 * i.toInt64
theorem cu_bd {a i b j : Int32} (h1 : inW a) (h2 : inW b) (h3 : ¬ i < 1 ∧ ¬ 100 < i) (h4 : ¬ j < 1 ∧ ¬ 100 < j) : (cuU a i b j).toInt.natAbs < 2 ^ 63 ∧ (cuL i j).toInt.natAbs < 2 ^ 63 ∧ (cuL i j).toInt = j.toInt * j.toInt - i.toInt * i.toInt ∧ (j * j - i * i).toInt64 = cuL i j := by
  have b1 : BdI a 100000 := BdI.of h1 (by decide) (by decide)
  have b2 : BdI b 100000 := BdI.of h2 (by decide) (by decide)
  have b3 : BdI i 100 := BdI.of h3 (by decide) (by decide)
  have b4 : BdI j 100 := BdI.of h4 (by decide) (by decide)
  have c3 := b3.L.mul b3.L (by decide)
  have c4 := b4.L.mul b4.L (by decide)
  have v : (cuL i j).toInt = j.toInt * j.toInt - i.toInt * i.toInt := by
    unfold cuL
    rw [subV c4 c3 (by decide), mulV b4.L b4.L (by decide), mulV b3.L b3.L (by decide), toL, toL]
  refine ⟨((b1.L.mul c4 (by decide)).sub (b2.L.mul c3 (by decide)) (by decide)).lt (by decide), (c4.sub c3 (by decide)).lt (by decide), v, ?_⟩
  rw [fa_eq64, toL, v, subIV (b4.mul b4 (by decide)) (b3.mul b3 (by decide)) (by decide), mulIV b4 b4 (by decide), mulIV b3 b3 (by decide)]
theorem cu_ne {a i b j : Int32} (h1 : inW a) (h2 : inW b) (h3 : ¬ i < 1 ∧ ¬ 100 < i) (h4 : ¬ j < 1 ∧ ¬ 100 < j) (h : ¬ i = j) : ¬ cuL i j = 0 := by
  intro q
  have v := (cu_bd h1 h2 h3 h4).2.2.1
  rw [q] at v
  have v2 : j.toInt * j.toInt - i.toInt * i.toInt = 0 := v.symm
  have a1 := Int32.not_lt.mp h3.1
  have a2 := Int32.not_lt.mp h4.1
  rw [fa_le] at a1 a2
  have a3 : (1 : Int32).toInt = 1 := rfl
  rw [a3] at a1 a2
  apply h
  rw [fa_eq]
  rcases Int.lt_trichotomy i.toInt j.toInt with z | z | z
  · have := Int.mul_lt_mul z (Int.le_of_lt z) (by omega) (by omega)
    omega
  · exact z
  · have := Int.mul_lt_mul z (Int.le_of_lt z) (by omega) (by omega)
    omega
def dCur {α : Type} (nb : Nat) (kd : Nat → Int32) (b a i c j : Int32) (bad unlike nought ok : α) : α := if ¬ b < 0 ∧ ¬ nI nb - 1 < b then (if inW a then (if inW c then (if ¬ i < 1 ∧ ¬ 100 < i then (if ¬ j < 1 ∧ ¬ 100 < j then (if kd b.toNatClampNeg = 2 ∨ kd b.toNatClampNeg = 3 then (if i = j then nought else ok) else unlike) else bad) else bad) else bad) else bad) else bad
set_option maxHeartbeats 4000000 in
set_option maxRecDepth 100000 in
theorem c_X6_currents (E : mm_E) (g : mm_I) (h : mm_L) (b a i c j : Int32) (nb : Nat) (hnb : nb ≤ 16) (hsb : g 3 2 = nI nb) : Ci E yX6_currents wsX6_currents 3 81 [.ref (E.1 0), .int b, .int a, .int i, .int c, .int j] g h (dCur nb (g 11) b a i c j (-1) (-3) (-3) 1) (dCur nb (g 11) b a i c j g (rfM g 3) (rfM g 4) g) (dCur nb (g 11) b a i c j h h h (tlC h (cuU a i c j) (cuL i j))) := by
  refine ci_i (bytes := cX6_currents) (maxL := 10) (by decide) rfl (Nat.le_of_ble_eq_true rfl) (fun X cx hR => ?_)
  change Cx E X cX6_currents RX6 wsX6_currents 10 3 81 at cx
  change JJ E X g h 0 [(0, .ref (E.1 0)), (1, .int b), (2, .int a), (3, .int i), (4, .int c), (5, .int j)] []
  have hinX6 : ∀ w ∈ u_ws RX6 TX6 9, w ∈ wsX6_currents := by decide +kernel
  have mf_26 : Cond.fieldLink RX6 26 (TX6 2).1 (TX6 2).2.1 (TX6 2).2.2.1 ∈ wsX6_currents := by decide +kernel
  have mc_75 : Cond.constant RX6 75 100000 ∈ wsX6_currents := by decide +kernel
  have mf_47 : Cond.fieldLink RX6 47 (TX6 5).1 (TX6 5).2.1 (TX6 5).2.2.1 ∈ wsX6_currents := by decide +kernel
  refine jr_aload_n cx dX6_currents_0 0 rfl rfl ?_
  refine jr_get (f := 2) (v := .ref (E.1 3)) cx dX6_currents_1 (by decide) rfl rfl hinX6 (by decide) mf_26 rfl ?_
  refine jr_iload_n cx dX6_currents_4 1 rfl rfl ?_
  refine jr_vi [.int b] 1 cx dX6_currents_5 (c_X0_has E g h b nb hnb hsb) (by decide) rfl rfl gX6_currents_X0_has rfl (by decide +kernel) ⟨Nat.le_of_ble_eq_true rfl, Nat.le_of_ble_eq_true rfl⟩ rfl rfl (Nat.le_of_ble_eq_true rfl) ?_
  refine jr_bif_eq (tgt := 51) cx dX6_currents_8 (by decide) (fun c8 => ?_) (fun c8 => ?_)
  · refine jr_iconst (v := (-1)) cx dX6_currents_51 (by decide) ?_
    exact jr_ri (by simp only [dCur, ite_self, if_neg c8]; try rfl) (by simp only [dCur, ite_self, if_neg c8]; try rfl) (by simp only [dCur, ite_self, if_neg c8]; try rfl) (hR 52 _ dX6_currents_52)
  · obtain ⟨d, hd, rfl⟩ := has_nat (by omega) c8; have ed : (nI d).toNatClampNeg = d := cl_nI (by omega)
    refine jr_iload_n cx dX6_currents_11 2 rfl rfl ?_
    refine jr_ldc cx dX6_currents_12 mc_75 ?_
    refine jr_si [.int a, .int 100000] 2 cx dX6_currents_14 (c_X6_isWithin E g h a 100000) gX6_currents_X6_isWithin rfl (by decide +kernel) ⟨Nat.le_of_ble_eq_true rfl, Nat.le_of_ble_eq_true rfl⟩ rfl rfl (Nat.le_of_ble_eq_true rfl) ?_
    refine jr_bif_eq (tgt := 51) cx dX6_currents_17 (by decide) (fun c17 => ?_) (fun c17 => ?_)
    · refine jr_iconst (v := (-1)) cx dX6_currents_51 (by decide) ?_
      exact jr_ri (by simp only [dCur, ite_self, if_pos c8, if_neg c17, ed]; try rfl) (by simp only [dCur, ite_self, if_pos c8, if_neg c17, ed]; try rfl) (by simp only [dCur, ite_self, if_pos c8, if_neg c17, ed]; try rfl) (hR 52 _ dX6_currents_52)
    · refine jr_iload cx dX6_currents_20 4 rfl ?_
      refine jr_ldc cx dX6_currents_22 mc_75 ?_
      refine jr_si [.int c, .int 100000] 2 cx dX6_currents_24 (c_X6_isWithin E g h c 100000) gX6_currents_X6_isWithin rfl (by decide +kernel) ⟨Nat.le_of_ble_eq_true rfl, Nat.le_of_ble_eq_true rfl⟩ rfl rfl (Nat.le_of_ble_eq_true rfl) ?_
      refine jr_bif_eq (tgt := 51) cx dX6_currents_27 (by decide) (fun c27 => ?_) (fun c27 => ?_)
      · refine jr_iconst (v := (-1)) cx dX6_currents_51 (by decide) ?_
        exact jr_ri (by simp only [dCur, ite_self, if_pos c8, if_pos c17, if_neg c27, ed]; try rfl) (by simp only [dCur, ite_self, if_pos c8, if_pos c17, if_neg c27, ed]; try rfl) (by simp only [dCur, ite_self, if_pos c8, if_pos c17, if_neg c27, ed]; try rfl) (hR 52 _ dX6_currents_52)
      · refine jr_iload_n cx dX6_currents_30 3 rfl rfl ?_
        refine jr_iconst (v := 1) cx dX6_currents_31 (by decide) ?_
        refine jr_bipush (v := 100) cx dX6_currents_32 (by decide) ?_
        refine jr_si [.int i, .int 1, .int 100] 3 cx dX6_currents_34 (c_X6_isBetween E g h i 1 100) gX6_currents_X6_isBetween rfl (by decide +kernel) ⟨Nat.le_of_ble_eq_true rfl, Nat.le_of_ble_eq_true rfl⟩ rfl rfl (Nat.le_of_ble_eq_true rfl) ?_
        refine jr_bif_eq (tgt := 51) cx dX6_currents_37 (by decide) (fun c37 => ?_) (fun c37 => ?_)
        · refine jr_iconst (v := (-1)) cx dX6_currents_51 (by decide) ?_
          exact jr_ri (by simp only [dCur, ite_self, if_pos c8, if_pos c17, if_pos c27, if_neg c37, ed]; try rfl) (by simp only [dCur, ite_self, if_pos c8, if_pos c17, if_pos c27, if_neg c37, ed]; try rfl) (by simp only [dCur, ite_self, if_pos c8, if_pos c17, if_pos c27, if_neg c37, ed]; try rfl) (hR 52 _ dX6_currents_52)
        · refine jr_iload cx dX6_currents_40 5 rfl ?_
          refine jr_iconst (v := 1) cx dX6_currents_42 (by decide) ?_
          refine jr_bipush (v := 100) cx dX6_currents_43 (by decide) ?_
          refine jr_si [.int j, .int 1, .int 100] 3 cx dX6_currents_45 (c_X6_isBetween E g h j 1 100) gX6_currents_X6_isBetween rfl (by decide +kernel) ⟨Nat.le_of_ble_eq_true rfl, Nat.le_of_ble_eq_true rfl⟩ rfl rfl (Nat.le_of_ble_eq_true rfl) ?_
          refine jr_bif_ne (tgt := 53) cx dX6_currents_48 (by decide) (fun c48 => ?_) (fun c48 => ?_)
          · refine jr_aload_n cx dX6_currents_53 0 rfl rfl ?_
            refine jr_get (f := 2) (v := .ref (E.1 3)) cx dX6_currents_54 (by decide) rfl rfl hinX6 (by decide) mf_26 rfl ?_
            refine jr_iload_n cx dX6_currents_57 1 rfl rfl ?_
            refine jr_iconst (v := 2) cx dX6_currents_58 (by decide) ?_
            refine jr_vi [.int (nI d), .int 2] 2 cx dX6_currents_59 (c_X0_isOf E g h d (by omega) 2) (by decide) rfl rfl gX6_currents_X0_isOf rfl (by decide +kernel) ⟨Nat.le_of_ble_eq_true rfl, Nat.le_of_ble_eq_true rfl⟩ rfl rfl (Nat.le_of_ble_eq_true rfl) ?_
            refine jr_bif_ne (tgt := 71) cx dX6_currents_62 (by decide) (fun c62 => ?_) (fun c62 => ?_)
            · have p62 : g 11 d = 2 ∨ g 11 d = 3 := c62.imp id (fun q => q.1)
              refine jr_iload_n cx dX6_currents_71 3 rfl rfl ?_
              refine jr_iload cx dX6_currents_72 5 rfl ?_
              refine jr_icmp_ne (tgt := 83) cx dX6_currents_74 (by decide) (fun c74 => ?_) (fun c74 => ?_)
              · refine jr_iload_n cx dX6_currents_83 3 rfl rfl ?_
                refine jr_i2l cx dX6_currents_84 ?_
                refine jr_iload_n cx dX6_currents_85 3 rfl rfl ?_
                refine jr_i2l cx dX6_currents_86 ?_
                refine jr_lmul cx dX6_currents_87 ?_
                refine jr_lstore (L' := [(6, .long ((Int32.toInt64 i) * (Int32.toInt64 i))), (0, .ref (E.1 0)), (1, .int (nI d)), (2, .int a), (3, .int i), (4, .int c), (5, .int j)]) cx dX6_currents_88 (by decide) rfl ?_
                refine jr_iload cx dX6_currents_90 6 rfl ?_
                refine jr_i2l cx dX6_currents_92 ?_
                refine jr_iload cx dX6_currents_93 6 rfl ?_
                refine jr_i2l cx dX6_currents_95 ?_
                refine jr_lmul cx dX6_currents_96 ?_
                refine jr_lstore (L' := [(8, .long ((Int32.toInt64 j) * (Int32.toInt64 j))), (6, .long ((Int32.toInt64 i) * (Int32.toInt64 i))), (0, .ref (E.1 0)), (1, .int (nI d)), (2, .int a), (3, .int i), (4, .int c), (5, .int j)]) cx dX6_currents_97 (by decide) rfl ?_
                refine jr_aload_n cx dX6_currents_99 2 rfl rfl ?_
                refine jr_get (f := 5) (v := .ref (E.1 6)) cx dX6_currents_100 (by decide) rfl rfl hinX6 (by decide) mf_47 rfl ?_
                refine jr_iload_n cx dX6_currents_103 4 rfl rfl ?_
                refine jr_i2l cx dX6_currents_104 ?_
                refine jr_lload cx dX6_currents_105 0 rfl ?_
                refine jr_lmul cx dX6_currents_107 ?_
                refine jr_iload cx dX6_currents_108 6 rfl ?_
                refine jr_i2l cx dX6_currents_110 ?_
                refine jr_lload cx dX6_currents_111 1 rfl ?_
                refine jr_lmul cx dX6_currents_113 ?_
                refine jr_lsub cx dX6_currents_114 ?_
                refine jr_lload cx dX6_currents_115 0 rfl ?_
                refine jr_lload cx dX6_currents_117 1 rfl ?_
                refine jr_lsub cx dX6_currents_119 ?_
                refine jr_vv [.long (((Int32.toInt64 a) * ((Int32.toInt64 j) * (Int32.toInt64 j))) - ((Int32.toInt64 c) * ((Int32.toInt64 i) * (Int32.toInt64 i)))), .long (((Int32.toInt64 j) * (Int32.toInt64 j)) - ((Int32.toInt64 i) * (Int32.toInt64 i)))] 2 cx dX6_currents_120 (c_X2_tell E g h (((Int32.toInt64 a) * ((Int32.toInt64 j) * (Int32.toInt64 j))) - ((Int32.toInt64 c) * ((Int32.toInt64 i) * (Int32.toInt64 i)))) (((Int32.toInt64 j) * (Int32.toInt64 j)) - ((Int32.toInt64 i) * (Int32.toInt64 i))) (cu_bd c17 c27 c37 c48).1 (cu_bd c17 c27 c37 c48).2.1 (cu_ne c17 c27 c37 c48 c74)) (by decide) rfl rfl gX6_currents_X2_tell rfl (by decide +kernel) ⟨Nat.le_of_ble_eq_true rfl, Nat.le_of_ble_eq_true rfl⟩ rfl rfl (Nat.le_of_ble_eq_true rfl) ?_
                refine jr_iconst (v := 1) cx dX6_currents_123 (by decide) ?_
                exact jr_ri (by simp only [dCur, ite_self, if_pos c8, if_pos c17, if_pos c27, if_pos c37, if_pos c48, if_pos p62, if_neg c74, ed]; try rfl) (by simp only [dCur, ite_self, if_pos c8, if_pos c17, if_pos c27, if_pos c37, if_pos c48, if_pos p62, if_neg c74, ed]; try rfl) (by simp only [dCur, ite_self, if_pos c8, if_pos c17, if_pos c27, if_pos c37, if_pos c48, if_pos p62, if_neg c74, ed]; try rfl) (hR 124 _ dX6_currents_124)
              · refine jr_aload_n cx dX6_currents_77 0 rfl rfl ?_
                refine jr_iconst (v := 4) cx dX6_currents_78 (by decide) ?_
                refine jr_vi [.int 4] 1 cx dX6_currents_79 (c_X6_refuse E g h 4 (by decide) (by decide)) (by decide) rfl rfl gX6_currents_X6_refuse rfl (by decide +kernel) ⟨Nat.le_of_ble_eq_true rfl, Nat.le_of_ble_eq_true rfl⟩ rfl rfl (Nat.le_of_ble_eq_true rfl) ?_
                exact jr_ri (by simp only [dCur, ite_self, if_pos c8, if_pos c17, if_pos c27, if_pos c37, if_pos c48, if_pos p62, if_pos c74, ed]; try rfl) (by simp only [dCur, ite_self, if_pos c8, if_pos c17, if_pos c27, if_pos c37, if_pos c48, if_pos p62, if_pos c74, ed]; try rfl) (by simp only [dCur, ite_self, if_pos c8, if_pos c17, if_pos c27, if_pos c37, if_pos c48, if_pos p62, if_pos c74, ed]; try rfl) (hR 82 _ dX6_currents_82)
            · have p62 : ¬ (g 11 d = 2 ∨ g 11 d = 3) := fun q => c62 (q.imp id (fun q => ⟨q, rfl⟩))
              refine jr_aload_n cx dX6_currents_65 0 rfl rfl ?_
              refine jr_iconst (v := 3) cx dX6_currents_66 (by decide) ?_
              refine jr_vi [.int 3] 1 cx dX6_currents_67 (c_X6_refuse E g h 3 (by decide) (by decide)) (by decide) rfl rfl gX6_currents_X6_refuse rfl (by decide +kernel) ⟨Nat.le_of_ble_eq_true rfl, Nat.le_of_ble_eq_true rfl⟩ rfl rfl (Nat.le_of_ble_eq_true rfl) ?_
              exact jr_ri (by simp only [dCur, ite_self, if_pos c8, if_pos c17, if_pos c27, if_pos c37, if_pos c48, if_neg p62, ed]; try rfl) (by simp only [dCur, ite_self, if_pos c8, if_pos c17, if_pos c27, if_pos c37, if_pos c48, if_neg p62, ed]; try rfl) (by simp only [dCur, ite_self, if_pos c8, if_pos c17, if_pos c27, if_pos c37, if_pos c48, if_neg p62, ed]; try rfl) (hR 70 _ dX6_currents_70)
          · refine jr_iconst (v := (-1)) cx dX6_currents_51 (by decide) ?_
            exact jr_ri (by simp only [dCur, ite_self, if_pos c8, if_pos c17, if_pos c27, if_pos c37, if_neg c48, ed]; try rfl) (by simp only [dCur, ite_self, if_pos c8, if_pos c17, if_pos c27, if_pos c37, if_neg c48, ed]; try rfl) (by simp only [dCur, ite_self, if_pos c8, if_pos c17, if_pos c27, if_pos c37, if_neg c48, ed]; try rfl) (hR 52 _ dX6_currents_52)
set_option maxHeartbeats 4000000 in
set_option maxRecDepth 100000 in
theorem c_X7_currents (E : mm_E) (g : mm_I) (h : mm_L) (b a i c j : Int32) (nb : Nat) (hnb : nb ≤ 16) (hsb : g 7 13 = nI nb) : Ci E yX7_currents wsX7_currents 3 77 [.ref (E.1 7), .int b, .int a, .int i, .int c, .int j] g h (dCur nb (g 20) b a i c j (-1) (-3) (-3) 1) (dCur nb (g 20) b a i c j g (mtM g 3) (mtM g 4) g) (dCur nb (g 20) b a i c j h h h (tlM h (cuU a i c j) (cuL i j))) := by
  refine ci_i (bytes := cX7_currents) (maxL := 6) (by decide) rfl (Nat.le_of_ble_eq_true rfl) (fun X cx hR => ?_)
  change Cx E X cX7_currents RX7 wsX7_currents 6 3 77 at cx
  change JJ E X g h 0 [(0, .ref (E.1 7)), (1, .int b), (2, .int a), (3, .int i), (4, .int c), (5, .int j)] []
  have mc_105 : Cond.constant RX7 105 (-100000) ∈ wsX7_currents := by decide +kernel
  have mc_106 : Cond.constant RX7 106 100000 ∈ wsX7_currents := by decide +kernel
  refine jr_aload_n cx dX7_currents_0 0 rfl rfl ?_
  refine jr_iload_n cx dX7_currents_1 1 rfl rfl ?_
  refine jr_vi [.int b] 1 cx dX7_currents_2 (c_X7_isBulb E g h b nb hnb hsb) (by decide) rfl rfl gX7_currents_X7_isBulb rfl (by decide +kernel) ⟨Nat.le_of_ble_eq_true rfl, Nat.le_of_ble_eq_true rfl⟩ rfl rfl (Nat.le_of_ble_eq_true rfl) ?_
  refine jr_bif_eq (tgt := 52) cx dX7_currents_5 (by decide) (fun c5 => ?_) (fun c5 => ?_)
  · refine jr_iconst (v := (-1)) cx dX7_currents_52 (by decide) ?_
    exact jr_ri (by simp only [dCur, ite_self, if_neg c5]; try rfl) (by simp only [dCur, ite_self, if_neg c5]; try rfl) (by simp only [dCur, ite_self, if_neg c5]; try rfl) (hR 53 _ dX7_currents_53)
  · obtain ⟨d, hd, rfl⟩ := has_nat (by omega) c5; have ed : (nI d).toNatClampNeg = d := cl_nI (by omega)
    refine jr_iload_n cx dX7_currents_8 2 rfl rfl ?_
    refine jr_ldc cx dX7_currents_9 mc_105 ?_
    refine jr_ldc cx dX7_currents_11 mc_106 ?_
    refine jr_si [.int a, .int (-100000), .int 100000] 3 cx dX7_currents_13 (c_X7_in E g h a (-100000) 100000) gX7_currents_X7_in rfl (by decide +kernel) ⟨Nat.le_of_ble_eq_true rfl, Nat.le_of_ble_eq_true rfl⟩ rfl rfl (Nat.le_of_ble_eq_true rfl) ?_
    refine jr_bif_eq (tgt := 52) cx dX7_currents_16 (by decide) (fun c16 => ?_) (fun c16 => ?_)
    · refine jr_iconst (v := (-1)) cx dX7_currents_52 (by decide) ?_
      exact jr_ri (by simp only [dCur, ite_self, if_pos c5, if_neg c16, ed]; try rfl) (by simp only [dCur, ite_self, if_pos c5, if_neg c16, ed]; try rfl) (by simp only [dCur, ite_self, if_pos c5, if_neg c16, ed]; try rfl) (hR 53 _ dX7_currents_53)
    · refine jr_iload cx dX7_currents_19 4 rfl ?_
      refine jr_ldc cx dX7_currents_21 mc_105 ?_
      refine jr_ldc cx dX7_currents_23 mc_106 ?_
      refine jr_si [.int c, .int (-100000), .int 100000] 3 cx dX7_currents_25 (c_X7_in E g h c (-100000) 100000) gX7_currents_X7_in rfl (by decide +kernel) ⟨Nat.le_of_ble_eq_true rfl, Nat.le_of_ble_eq_true rfl⟩ rfl rfl (Nat.le_of_ble_eq_true rfl) ?_
      refine jr_bif_eq (tgt := 52) cx dX7_currents_28 (by decide) (fun c28 => ?_) (fun c28 => ?_)
      · refine jr_iconst (v := (-1)) cx dX7_currents_52 (by decide) ?_
        exact jr_ri (by simp only [dCur, ite_self, if_pos c5, if_pos c16, if_neg c28, ed]; try rfl) (by simp only [dCur, ite_self, if_pos c5, if_pos c16, if_neg c28, ed]; try rfl) (by simp only [dCur, ite_self, if_pos c5, if_pos c16, if_neg c28, ed]; try rfl) (hR 53 _ dX7_currents_53)
      · refine jr_iload_n cx dX7_currents_31 3 rfl rfl ?_
        refine jr_iconst (v := 1) cx dX7_currents_32 (by decide) ?_
        refine jr_bipush (v := 100) cx dX7_currents_33 (by decide) ?_
        refine jr_si [.int i, .int 1, .int 100] 3 cx dX7_currents_35 (c_X7_in E g h i 1 100) gX7_currents_X7_in rfl (by decide +kernel) ⟨Nat.le_of_ble_eq_true rfl, Nat.le_of_ble_eq_true rfl⟩ rfl rfl (Nat.le_of_ble_eq_true rfl) ?_
        refine jr_bif_eq (tgt := 52) cx dX7_currents_38 (by decide) (fun c38 => ?_) (fun c38 => ?_)
        · refine jr_iconst (v := (-1)) cx dX7_currents_52 (by decide) ?_
          exact jr_ri (by simp only [dCur, ite_self, if_pos c5, if_pos c16, if_pos c28, if_neg c38, ed]; try rfl) (by simp only [dCur, ite_self, if_pos c5, if_pos c16, if_pos c28, if_neg c38, ed]; try rfl) (by simp only [dCur, ite_self, if_pos c5, if_pos c16, if_pos c28, if_neg c38, ed]; try rfl) (hR 53 _ dX7_currents_53)
        · refine jr_iload cx dX7_currents_41 5 rfl ?_
          refine jr_iconst (v := 1) cx dX7_currents_43 (by decide) ?_
          refine jr_bipush (v := 100) cx dX7_currents_44 (by decide) ?_
          refine jr_si [.int j, .int 1, .int 100] 3 cx dX7_currents_46 (c_X7_in E g h j 1 100) gX7_currents_X7_in rfl (by decide +kernel) ⟨Nat.le_of_ble_eq_true rfl, Nat.le_of_ble_eq_true rfl⟩ rfl rfl (Nat.le_of_ble_eq_true rfl) ?_
          refine jr_bif_ne (tgt := 54) cx dX7_currents_49 (by decide) (fun c49 => ?_) (fun c49 => ?_)
          · refine jr_aload_n cx dX7_currents_54 0 rfl rfl ?_
            refine jr_iload_n cx dX7_currents_55 1 rfl rfl ?_
            refine jr_iconst (v := 2) cx dX7_currents_56 (by decide) ?_
            refine jr_vi [.int (nI d), .int 2] 2 cx dX7_currents_57 (c_X7_is E g h d (by omega) 2) (by decide) rfl rfl gX7_currents_X7_is rfl (by decide +kernel) ⟨Nat.le_of_ble_eq_true rfl, Nat.le_of_ble_eq_true rfl⟩ rfl rfl (Nat.le_of_ble_eq_true rfl) ?_
            refine jr_bif_ne (tgt := 69) cx dX7_currents_60 (by decide) (fun c60 => ?_) (fun c60 => ?_)
            · have p60 : g 20 d = 2 ∨ g 20 d = 3 := c60.imp id (fun q => q.1)
              refine jr_iload_n cx dX7_currents_69 3 rfl rfl ?_
              refine jr_iload cx dX7_currents_70 5 rfl ?_
              refine jr_icmp_ne (tgt := 83) cx dX7_currents_72 (by decide) (fun c72 => ?_) (fun c72 => ?_)
              · refine jr_aload_n cx dX7_currents_83 0 rfl rfl ?_
                refine jr_iload_n cx dX7_currents_84 2 rfl rfl ?_
                refine jr_i2l cx dX7_currents_85 ?_
                refine jr_iload cx dX7_currents_86 5 rfl ?_
                refine jr_i2l cx dX7_currents_88 ?_
                refine jr_lmul cx dX7_currents_89 ?_
                refine jr_iload cx dX7_currents_90 5 rfl ?_
                refine jr_i2l cx dX7_currents_92 ?_
                refine jr_lmul cx dX7_currents_93 ?_
                refine jr_topl (Int64.mul_assoc _ _ _) ?_
                refine jr_iload cx dX7_currents_94 4 rfl ?_
                refine jr_i2l cx dX7_currents_96 ?_
                refine jr_iload_n cx dX7_currents_97 3 rfl rfl ?_
                refine jr_i2l cx dX7_currents_98 ?_
                refine jr_lmul cx dX7_currents_99 ?_
                refine jr_iload_n cx dX7_currents_100 3 rfl rfl ?_
                refine jr_i2l cx dX7_currents_101 ?_
                refine jr_lmul cx dX7_currents_102 ?_
                refine jr_topl (Int64.mul_assoc _ _ _) ?_
                refine jr_lsub cx dX7_currents_103 ?_
                refine jr_iload cx dX7_currents_104 5 rfl ?_
                refine jr_iload cx dX7_currents_106 5 rfl ?_
                refine jr_imul cx dX7_currents_108 ?_
                refine jr_iload_n cx dX7_currents_109 3 rfl rfl ?_
                refine jr_iload_n cx dX7_currents_110 3 rfl rfl ?_
                refine jr_imul cx dX7_currents_111 ?_
                refine jr_isub cx dX7_currents_112 ?_
                refine jr_i2l cx dX7_currents_113 ?_
                refine jr_topl (cu_bd c16 c28 c38 c49).2.2.2 ?_
                refine jr_iconst (v := 1) cx dX7_currents_114 (by decide) ?_
                refine jr_vi [.long ((Int32.toInt64 a * (Int32.toInt64 j * Int32.toInt64 j)) - (Int32.toInt64 c * (Int32.toInt64 i * Int32.toInt64 i))), .long (cuL i j), .int 1] 3 cx dX7_currents_115 (c_X7_tell E g h ((Int32.toInt64 a * (Int32.toInt64 j * Int32.toInt64 j)) - (Int32.toInt64 c * (Int32.toInt64 i * Int32.toInt64 i))) (cuL i j) 1 (cu_bd c16 c28 c38 c49).1 (cu_bd c16 c28 c38 c49).2.1 (cu_ne c16 c28 c38 c49 c72)) (by decide) rfl rfl gX7_currents_X7_tell rfl (by decide +kernel) ⟨Nat.le_of_ble_eq_true rfl, Nat.le_of_ble_eq_true rfl⟩ rfl rfl (Nat.le_of_ble_eq_true rfl) ?_
                exact jr_ri (by simp only [dCur, ite_self, if_pos c5, if_pos c16, if_pos c28, if_pos c38, if_pos c49, if_pos p60, if_neg c72, ed]; try rfl) (by simp only [dCur, ite_self, if_pos c5, if_pos c16, if_pos c28, if_pos c38, if_pos c49, if_pos p60, if_neg c72, ed]; try rfl) (by simp only [dCur, ite_self, if_pos c5, if_pos c16, if_pos c28, if_pos c38, if_pos c49, if_pos p60, if_neg c72, ed]; try rfl) (hR 118 _ dX7_currents_118)
              · refine jr_aload_n cx dX7_currents_75 0 rfl rfl ?_
                refine jr_iconst (v := 4) cx dX7_currents_76 (by decide) ?_
                refine jr_vi [.int 4] 1 cx dX7_currents_77 (c_X7_meets E g h 4 (by decide)) (by decide) rfl rfl gX7_currents_X7_meets rfl (by decide +kernel) ⟨Nat.le_of_ble_eq_true rfl, Nat.le_of_ble_eq_true rfl⟩ rfl rfl (Nat.le_of_ble_eq_true rfl) ?_
                refine jr_goto (tgt := 118) cx dX7_currents_80 (by decide) ?_
                exact jr_ri (by simp only [dCur, ite_self, if_pos c5, if_pos c16, if_pos c28, if_pos c38, if_pos c49, if_pos p60, if_pos c72, ed]; try rfl) (by simp only [dCur, ite_self, if_pos c5, if_pos c16, if_pos c28, if_pos c38, if_pos c49, if_pos p60, if_pos c72, ed]; try rfl) (by simp only [dCur, ite_self, if_pos c5, if_pos c16, if_pos c28, if_pos c38, if_pos c49, if_pos p60, if_pos c72, ed]; try rfl) (hR 118 _ dX7_currents_118)
            · have p60 : ¬ (g 20 d = 2 ∨ g 20 d = 3) := fun q => c60 (q.imp id (fun q => ⟨q, rfl⟩))
              refine jr_aload_n cx dX7_currents_63 0 rfl rfl ?_
              refine jr_iconst (v := 3) cx dX7_currents_64 (by decide) ?_
              refine jr_vi [.int 3] 1 cx dX7_currents_65 (c_X7_meets E g h 3 (by decide)) (by decide) rfl rfl gX7_currents_X7_meets rfl (by decide +kernel) ⟨Nat.le_of_ble_eq_true rfl, Nat.le_of_ble_eq_true rfl⟩ rfl rfl (Nat.le_of_ble_eq_true rfl) ?_
              exact jr_ri (by simp only [dCur, ite_self, if_pos c5, if_pos c16, if_pos c28, if_pos c38, if_pos c49, if_neg p60, ed]; try rfl) (by simp only [dCur, ite_self, if_pos c5, if_pos c16, if_pos c28, if_pos c38, if_pos c49, if_neg p60, ed]; try rfl) (by simp only [dCur, ite_self, if_pos c5, if_pos c16, if_pos c28, if_pos c38, if_pos c49, if_neg p60, ed]; try rfl) (hR 68 _ dX7_currents_68)
          · refine jr_iconst (v := (-1)) cx dX7_currents_52 (by decide) ?_
            exact jr_ri (by simp only [dCur, ite_self, if_pos c5, if_pos c16, if_pos c28, if_pos c38, if_neg c49, ed]; try rfl) (by simp only [dCur, ite_self, if_pos c5, if_pos c16, if_pos c28, if_pos c38, if_neg c49, ed]; try rfl) (by simp only [dCur, ite_self, if_pos c5, if_pos c16, if_pos c28, if_pos c38, if_neg c49, ed]; try rfl) (hR 53 _ dX7_currents_53)
abbrev inX (v : Int32) : Prop := ¬ v < -20 ∧ ¬ 20 < v
abbrev inY (v : Int32) : Prop := ¬ v < -10000 ∧ ¬ 10000 < v
def dPoint {α : Type} (has : Nat → Bool) (sz : Nat → Nat) (t x y : Int32) (bad full : α) (ok : Nat → α) : α := if ¬ t < 0 ∧ ¬ 3 < t then (if inX x then (if inY y then (if has t.toNatClampNeg = true then bad else if sz t.toNatClampNeg = 4 then full else ok t.toNatClampNeg) else bad) else bad) else bad
def adTM (g : mm_I) (t n : Nat) (x y : Int32) : mm_I := up2 (up2 (up2 g 18 (4 * t + n) x) 19 (4 * t + n) y) 17 t (nI (n + 1))
def dClear {α : Type} (t : Int32) (bad : α) (ok : Nat → α) : α := if ¬ t < 0 ∧ ¬ 3 < t then ok t.toNatClampNeg else bad
set_option maxHeartbeats 4000000 in
set_option maxRecDepth 100000 in
theorem c_X6_point (E : mm_E) (g : mm_I) (h : mm_L) (t x y : Int32) (hst : ∀ t, t < 4 → ∃ n, n ≤ 4 ∧ g 10 t = nI n) : Ci E yX6_point wsX6_point 2 43 [.ref (E.1 0), .int t, .int x, .int y] g h (dPoint (fun j => sHas (g (45 + j)) x (g 10 j).toNatClampNeg) (fun j => (g 10 j).toNatClampNeg) t x y (-1) (-2) (fun j => nI ((g 10 j).toNatClampNeg + 1))) (dPoint (fun j => sHas (g (45 + j)) x (g 10 j).toNatClampNeg) (fun j => (g 10 j).toNatClampNeg) t x y g g (fun j => adT g j (g 10 j).toNatClampNeg x y)) h := by
  refine ci_i (bytes := cX6_point) (maxL := 4) (by decide) rfl (Nat.le_of_ble_eq_true rfl) (fun X cx hR => ?_)
  change Cx E X cX6_point RX6 wsX6_point 4 2 43 at cx
  change JJ E X g h 0 [(0, .ref (E.1 0)), (1, .int t), (2, .int x), (3, .int y)] []
  have hinX6 : ∀ w ∈ u_ws RX6 TX6 9, w ∈ wsX6_point := by decide +kernel
  have mf_19 : Cond.fieldLink RX6 19 (TX6 1).1 (TX6 1).2.1 (TX6 1).2.2.1 ∈ wsX6_point := by decide +kernel
  refine jr_iload_n cx dX6_point_0 1 rfl rfl ?_
  refine jr_si [.int t] 1 cx dX6_point_1 (c_X6_isTable E g h t) gX6_point_X6_isTable rfl (by decide +kernel) ⟨Nat.le_of_ble_eq_true rfl, Nat.le_of_ble_eq_true rfl⟩ rfl rfl (Nat.le_of_ble_eq_true rfl) ?_
  refine jr_bif_eq (tgt := 38) cx dX6_point_4 (by decide) (fun c4 => ?_) (fun c4 => ?_)
  · refine jr_iconst (v := (-1)) cx dX6_point_38 (by decide) ?_
    exact jr_ri (by simp only [dPoint, ite_self, if_neg c4]) (by simp only [dPoint, ite_self, if_neg c4]) (by rfl) (hR 39 _ dX6_point_39)
  · obtain ⟨j, hj, rfl⟩ := to_nat (M := 3) rfl c4; have ej : (nI j).toNatClampNeg = j := cl_nI (by omega); obtain ⟨n, hn, hs⟩ := hst j (by omega); have en : (g 10 j).toNatClampNeg = n := by rw [hs]; exact cl_nI (by omega)
    refine jr_iload_n cx dX6_point_7 2 rfl rfl ?_
    refine jr_bipush (v := 20) cx dX6_point_8 (by decide) ?_
    refine jr_si [.int x, .int 20] 2 cx dX6_point_10 (c_X6_isWithin E g h x 20) gX6_point_X6_isWithin rfl (by decide +kernel) ⟨Nat.le_of_ble_eq_true rfl, Nat.le_of_ble_eq_true rfl⟩ rfl rfl (Nat.le_of_ble_eq_true rfl) ?_
    refine jr_bif_eq (tgt := 38) cx dX6_point_13 (by decide) (fun c13 => ?_) (fun c13 => ?_)
    · refine jr_iconst (v := (-1)) cx dX6_point_38 (by decide) ?_
      exact jr_ri (by simp only [dPoint, ite_self, en, if_pos c4, if_neg c13, ej]) (by simp only [dPoint, ite_self, en, if_pos c4, if_neg c13, ej]) (by rfl) (hR 39 _ dX6_point_39)
    · refine jr_iload_n cx dX6_point_16 3 rfl rfl ?_
      refine jr_sipush (v := 10000) cx dX6_point_17 (by decide) ?_
      refine jr_si [.int y, .int 10000] 2 cx dX6_point_20 (c_X6_isWithin E g h y 10000) gX6_point_X6_isWithin rfl (by decide +kernel) ⟨Nat.le_of_ble_eq_true rfl, Nat.le_of_ble_eq_true rfl⟩ rfl rfl (Nat.le_of_ble_eq_true rfl) ?_
      refine jr_bif_eq (tgt := 38) cx dX6_point_23 (by decide) (fun c23 => ?_) (fun c23 => ?_)
      · refine jr_iconst (v := (-1)) cx dX6_point_38 (by decide) ?_
        exact jr_ri (by simp only [dPoint, ite_self, en, if_pos c4, if_pos c13, if_neg c23, ej]) (by simp only [dPoint, ite_self, en, if_pos c4, if_pos c13, if_neg c23, ej]) (by rfl) (hR 39 _ dX6_point_39)
      · refine jr_aload_n cx dX6_point_26 0 rfl rfl ?_
        refine jr_get (f := 1) (v := .ref (E.1 2)) cx dX6_point_27 (by decide) rfl rfl hinX6 (by decide) mf_19 rfl ?_
        refine jr_iload_n cx dX6_point_30 1 rfl rfl ?_
        refine jr_iload_n cx dX6_point_31 2 rfl rfl ?_
        refine jr_vi [.int (nI j), .int x] 2 cx dX6_point_32 (c_X5_hasX E g h j (by omega) n hn hs x) (by decide) rfl rfl gX6_point_X5_hasX rfl (by decide +kernel) ⟨Nat.le_of_ble_eq_true rfl, Nat.le_of_ble_eq_true rfl⟩ rfl rfl (Nat.le_of_ble_eq_true rfl) ?_
        refine jr_bif_eq (tgt := 40) cx dX6_point_35 (by decide) (fun c35 => ?_) (fun c35 => ?_)
        · refine jr_aload_n cx dX6_point_40 0 rfl rfl ?_
          refine jr_get (f := 1) (v := .ref (E.1 2)) cx dX6_point_41 (by decide) rfl rfl hinX6 (by decide) mf_19 rfl ?_
          refine jr_iload_n cx dX6_point_44 1 rfl rfl ?_
          refine jr_vi [.int (nI j)] 1 cx dX6_point_45 (c_X5_sizeOf E g h j (by omega)) (by decide) rfl rfl gX6_point_X5_sizeOf rfl (by decide +kernel) ⟨Nat.le_of_ble_eq_true rfl, Nat.le_of_ble_eq_true rfl⟩ rfl rfl (Nat.le_of_ble_eq_true rfl) ?_
          refine jr_top hs ?_
          refine jr_iconst (v := 4) cx dX6_point_48 (by decide) ?_
          refine jr_icmp_lt (tgt := 55) cx dX6_point_49 (by decide) (fun c49 => ?_) (fun c49 => ?_)
          · have n49 : n < 4 := (nI_ltI (a := n) (b := 4) (by omega) (by omega)).mp c49
            refine jr_aload_n cx dX6_point_55 0 rfl rfl ?_
            refine jr_get (f := 1) (v := .ref (E.1 2)) cx dX6_point_56 (by decide) rfl rfl hinX6 (by decide) mf_19 rfl ?_
            refine jr_iload_n cx dX6_point_59 1 rfl rfl ?_
            refine jr_iload_n cx dX6_point_60 2 rfl rfl ?_
            refine jr_iload_n cx dX6_point_61 3 rfl rfl ?_
            refine jr_vi [.int (nI j), .int x, .int y] 3 cx dX6_point_62 (c_X5_add E g h j (by omega) n (by omega) hs x y) (by decide) rfl rfl gX6_point_X5_add rfl (by decide +kernel) ⟨Nat.le_of_ble_eq_true rfl, Nat.le_of_ble_eq_true rfl⟩ rfl rfl (Nat.le_of_ble_eq_true rfl) ?_
            exact jr_ri (by simp only [dPoint, ite_self, en, if_pos c4, if_pos c13, if_pos c23, if_neg c35, ej]; rw [if_neg (by omega)]; try rfl) (by simp only [dPoint, ite_self, en, if_pos c4, if_pos c13, if_pos c23, if_neg c35, ej]; rw [if_neg (by omega)]; try rfl) (by rfl) (hR 65 _ dX6_point_65)
          · have n49 : ¬ (n < 4) := fun zz => c49 ((nI_ltI (a := n) (b := 4) (by omega) (by omega)).mpr zz)
            refine jr_bipush (v := (-2)) cx dX6_point_52 (by decide) ?_
            exact jr_ri (by simp only [dPoint, ite_self, en, if_pos c4, if_pos c13, if_pos c23, if_neg c35, ej]; rw [if_pos (by omega)]; try rfl) (by simp only [dPoint, ite_self, en, if_pos c4, if_pos c13, if_pos c23, if_neg c35, ej]; rw [if_pos (by omega)]; try rfl) (by rfl) (hR 54 _ dX6_point_54)
        · refine jr_iconst (v := (-1)) cx dX6_point_38 (by decide) ?_
          exact jr_ri (by simp only [dPoint, ite_self, en, if_pos c4, if_pos c13, if_pos c23, if_pos c35, ej]) (by simp only [dPoint, ite_self, en, if_pos c4, if_pos c13, if_pos c23, if_pos c35, ej]) (by rfl) (hR 39 _ dX6_point_39)
set_option maxHeartbeats 4000000 in
set_option maxRecDepth 100000 in
theorem c_X6_clear (E : mm_E) (g : mm_I) (h : mm_L) (t : Int32) (hst : ∀ t, t < 4 → ∃ n, n ≤ 4 ∧ g 10 t = nI n) : Ci E yX6_clear wsX6_clear 2 42 [.ref (E.1 0), .int t] g h (dClear t (-1) (g 10)) (dClear t g (fun j => up2 g 10 j 0)) h := by
  refine ci_i (bytes := cX6_clear) (maxL := 2) (by decide) rfl (Nat.le_of_ble_eq_true rfl) (fun X cx hR => ?_)
  change Cx E X cX6_clear RX6 wsX6_clear 2 2 42 at cx
  change JJ E X g h 0 [(0, .ref (E.1 0)), (1, .int t)] []
  have hinX6 : ∀ w ∈ u_ws RX6 TX6 9, w ∈ wsX6_clear := by decide +kernel
  have mf_19 : Cond.fieldLink RX6 19 (TX6 1).1 (TX6 1).2.1 (TX6 1).2.2.1 ∈ wsX6_clear := by decide +kernel
  refine jr_iload_n cx dX6_clear_0 1 rfl rfl ?_
  refine jr_si [.int t] 1 cx dX6_clear_1 (c_X6_isTable E g h t) gX6_clear_X6_isTable rfl (by decide +kernel) ⟨Nat.le_of_ble_eq_true rfl, Nat.le_of_ble_eq_true rfl⟩ rfl rfl (Nat.le_of_ble_eq_true rfl) ?_
  refine jr_bif_eq (tgt := 18) cx dX6_clear_4 (by decide) (fun c4 => ?_) (fun c4 => ?_)
  · refine jr_iconst (v := (-1)) cx dX6_clear_18 (by decide) ?_
    exact jr_ri (by simp only [dClear, ite_self, if_neg c4]) (by simp only [dClear, ite_self, if_neg c4]) (by rfl) (hR 19 _ dX6_clear_19)
  · obtain ⟨j, hj, rfl⟩ := to_nat (M := 3) rfl c4; have ej : (nI j).toNatClampNeg = j := cl_nI (by omega); obtain ⟨n, hn, hs⟩ := hst j (by omega); have en : (g 10 j).toNatClampNeg = n := by rw [hs]; exact cl_nI (by omega)
    refine jr_aload_n cx dX6_clear_7 0 rfl rfl ?_
    refine jr_get (f := 1) (v := .ref (E.1 2)) cx dX6_clear_8 (by decide) rfl rfl hinX6 (by decide) mf_19 rfl ?_
    refine jr_iload_n cx dX6_clear_11 1 rfl rfl ?_
    refine jr_vi [.int (nI j)] 1 cx dX6_clear_12 (c_X5_empty E g h j (by omega)) (by decide) rfl rfl gX6_clear_X5_empty rfl (by decide +kernel) ⟨Nat.le_of_ble_eq_true rfl, Nat.le_of_ble_eq_true rfl⟩ rfl rfl (Nat.le_of_ble_eq_true rfl) ?_
    refine jr_goto (tgt := 19) cx dX6_clear_15 (by decide) ?_
    exact jr_ri (by simp only [dClear, ite_self, if_pos c4, ej]) (by simp only [dClear, ite_self, if_pos c4, ej]) (by rfl) (hR 19 _ dX6_clear_19)
set_option maxHeartbeats 4000000 in
set_option maxRecDepth 100000 in
theorem c_X7_clear (E : mm_E) (g : mm_I) (h : mm_L) (t : Int32) (hst : ∀ t, t < 4 → ∃ n, n ≤ 4 ∧ g 17 t = nI n) : Ci E yX7_clear wsX7_clear 2 42 [.ref (E.1 7), .int t] g h (dClear t (-1) (g 17)) (dClear t g (fun j => up2 g 17 j 0)) h := by
  refine ci_i (bytes := cX7_clear) (maxL := 3) (by decide) rfl (Nat.le_of_ble_eq_true rfl) (fun X cx hR => ?_)
  change Cx E X cX7_clear RX7 wsX7_clear 3 2 42 at cx
  change JJ E X g h 0 [(0, .ref (E.1 7)), (1, .int t)] []
  have hinX7 : ∀ w ∈ u_ws RX7 TX7 30, w ∈ wsX7_clear := by decide +kernel
  have mf_26 : Cond.fieldLink RX7 26 (TX7 8).1 (TX7 8).2.1 (TX7 8).2.2.1 ∈ wsX7_clear := by decide +kernel
  refine jr_iload_n cx dX7_clear_0 1 rfl rfl ?_
  refine jr_si [.int t] 1 cx dX7_clear_1 (c_X7_isTable E g h t) gX7_clear_X7_isTable rfl (by decide +kernel) ⟨Nat.le_of_ble_eq_true rfl, Nat.le_of_ble_eq_true rfl⟩ rfl rfl (Nat.le_of_ble_eq_true rfl) ?_
  refine jr_bif_ne (tgt := 9) cx dX7_clear_4 (by decide) (fun c4 => ?_) (fun c4 => ?_)
  · obtain ⟨j, hj, rfl⟩ := to_nat (M := 3) rfl c4; have ej : (nI j).toNatClampNeg = j := cl_nI (by omega); obtain ⟨n, hn, hs⟩ := hst j (by omega); have en : (g 17 j).toNatClampNeg = n := by rw [hs]; exact cl_nI (by omega)
    refine jr_aload_n cx dX7_clear_9 0 rfl rfl ?_
    refine jr_get (f := 8) (v := .ref (E.1 17)) cx dX7_clear_10 (by decide) rfl rfl hinX7 (by decide) mf_26 rfl ?_
    refine jr_iload_n cx dX7_clear_13 1 rfl rfl ?_
    refine jr_iald cx dX7_clear_14 (Or.inl ⟨by decide, by decide⟩) j rfl (show _ < 4 by omega) ?_
    refine jr_istore_n (L' := [(2, .int (g 17 j)), (0, .ref (E.1 7)), (1, .int (nI j))]) cx dX7_clear_15 rfl (by decide) rfl ?_
    refine jr_aload_n cx dX7_clear_16 1 rfl rfl ?_
    refine jr_get (f := 8) (v := .ref (E.1 17)) cx dX7_clear_17 (by decide) rfl rfl hinX7 (by decide) mf_26 rfl ?_
    refine jr_iload_n cx dX7_clear_20 2 rfl rfl ?_
    refine jr_iconst (v := 0) cx dX7_clear_21 (by decide) ?_
    refine jr_iast cx dX7_clear_22 (Or.inl ⟨by decide, by decide⟩) j rfl (show _ < 4 by omega) ?_
    refine jr_iload_n cx dX7_clear_23 0 rfl rfl ?_
    exact jr_ri (by simp only [dClear, ite_self, if_pos c4, ej]) (by simp only [dClear, ite_self, if_pos c4, ej]) (by rfl) (hR 24 _ dX7_clear_24)
  · refine jr_iconst (v := (-1)) cx dX7_clear_7 (by decide) ?_
    exact jr_ri (by simp only [dClear, ite_self, if_neg c4]) (by simp only [dClear, ite_self, if_neg c4]) (by rfl) (hR 8 _ dX7_clear_8)
set_option maxHeartbeats 4000000 in
set_option maxRecDepth 100000 in
theorem c_X7_point (E : mm_E) (g : mm_I) (h : mm_L) (t x y : Int32) (hst : ∀ t, t < 4 → ∃ n, n ≤ 4 ∧ g 17 t = nI n) : Ci E yX7_point wsX7_point 2 42 [.ref (E.1 7), .int t, .int x, .int y] g h (dPoint (fun j => sHas (fun q => g 18 (4 * j + q)) x (g 17 j).toNatClampNeg) (fun j => (g 17 j).toNatClampNeg) t x y (-1) (-2) (fun j => nI ((g 17 j).toNatClampNeg + 1))) (dPoint (fun j => sHas (fun q => g 18 (4 * j + q)) x (g 17 j).toNatClampNeg) (fun j => (g 17 j).toNatClampNeg) t x y g g (fun j => adTM g j (g 17 j).toNatClampNeg x y)) h := by
  refine ci_i (bytes := cX7_point) (maxL := 6) (by decide) rfl (Nat.le_of_ble_eq_true rfl) (fun X cx hR => ?_)
  change Cx E X cX7_point RX7 wsX7_point 6 2 42 at cx
  change JJ E X g h 0 [(0, .ref (E.1 7)), (1, .int t), (2, .int x), (3, .int y)] []
  have hinX7 : ∀ w ∈ u_ws RX7 TX7 30, w ∈ wsX7_point := by decide +kernel
  have mf_26 : Cond.fieldLink RX7 26 (TX7 8).1 (TX7 8).2.1 (TX7 8).2.2.1 ∈ wsX7_point := by decide +kernel
  have mf_29 : Cond.fieldLink RX7 29 (TX7 9).1 (TX7 9).2.1 (TX7 9).2.2.1 ∈ wsX7_point := by decide +kernel
  have mf_32 : Cond.fieldLink RX7 32 (TX7 10).1 (TX7 10).2.1 (TX7 10).2.2.1 ∈ wsX7_point := by decide +kernel
  refine jr_iload_n cx dX7_point_0 1 rfl rfl ?_
  refine jr_si [.int t] 1 cx dX7_point_1 (c_X7_isTable E g h t) gX7_point_X7_isTable rfl (by decide +kernel) ⟨Nat.le_of_ble_eq_true rfl, Nat.le_of_ble_eq_true rfl⟩ rfl rfl (Nat.le_of_ble_eq_true rfl) ?_
  refine jr_bif_eq (tgt := 31) cx dX7_point_4 (by decide) (fun c4 => ?_) (fun c4 => ?_)
  · refine jr_iconst (v := 0) cx dX7_point_31 (by decide) ?_
    refine jr_istore (L' := [(4, .int 0), (0, .ref (E.1 7)), (1, .int t), (2, .int x), (3, .int y)]) cx dX7_point_32 (by decide) rfl ?_
    refine jr_iconst (v := 0) cx dX7_point_34 (by decide) ?_
    refine jr_istore (L' := [(5, .int 0), (4, .int 0), (0, .ref (E.1 7)), (1, .int t), (2, .int x), (3, .int y)]) cx dX7_point_35 (by decide) rfl ?_
    refine jr_iload cx dX7_point_37 1 rfl ?_
    refine jr_if_eq (tgt := 81) cx dX7_point_39 (by decide) (fun c39 => ?_) (fun c39 => absurd c39 (by decide))
    refine jr_iload cx dX7_point_81 1 rfl ?_
    refine jr_if_ne (tgt := 88) cx dX7_point_83 (by decide) (fun c83 => absurd c83 (by decide)) (fun c83 => ?_)
    refine jr_iconst (v := (-1)) cx dX7_point_86 (by decide) ?_
    exact jr_ri (by simp only [dPoint, ite_self, if_neg c4]) (by simp only [dPoint, ite_self, if_neg c4]) (by rfl) (hR 87 _ dX7_point_87)
  · obtain ⟨j, hj, rfl⟩ := to_nat (M := 3) rfl c4; have ej : (nI j).toNatClampNeg = j := cl_nI (by omega); obtain ⟨n, hn, hs⟩ := hst j (by omega); have en : (g 17 j).toNatClampNeg = n := by rw [hs]; exact cl_nI (by omega)
    refine jr_iload_n cx dX7_point_7 2 rfl rfl ?_
    refine jr_si [.int x] 1 cx dX7_point_8 (c_X7_isX E g h x) gX7_point_X7_isX rfl (by decide +kernel) ⟨Nat.le_of_ble_eq_true rfl, Nat.le_of_ble_eq_true rfl⟩ rfl rfl (Nat.le_of_ble_eq_true rfl) ?_
    refine jr_bif_eq (tgt := 31) cx dX7_point_11 (by decide) (fun c11 => ?_) (fun c11 => ?_)
    · refine jr_iconst (v := 0) cx dX7_point_31 (by decide) ?_
      refine jr_istore (L' := [(4, .int 0), (0, .ref (E.1 7)), (1, .int (nI j)), (2, .int x), (3, .int y)]) cx dX7_point_32 (by decide) rfl ?_
      refine jr_iconst (v := 0) cx dX7_point_34 (by decide) ?_
      refine jr_istore (L' := [(5, .int 0), (4, .int 0), (0, .ref (E.1 7)), (1, .int (nI j)), (2, .int x), (3, .int y)]) cx dX7_point_35 (by decide) rfl ?_
      refine jr_iload cx dX7_point_37 1 rfl ?_
      refine jr_if_eq (tgt := 81) cx dX7_point_39 (by decide) (fun c39 => ?_) (fun c39 => absurd c39 (by decide))
      refine jr_iload cx dX7_point_81 1 rfl ?_
      refine jr_if_ne (tgt := 88) cx dX7_point_83 (by decide) (fun c83 => absurd c83 (by decide)) (fun c83 => ?_)
      refine jr_iconst (v := (-1)) cx dX7_point_86 (by decide) ?_
      exact jr_ri (by simp only [dPoint, ite_self, if_pos c4, if_neg c11, ej]) (by simp only [dPoint, ite_self, if_pos c4, if_neg c11, ej]) (by rfl) (hR 87 _ dX7_point_87)
    · refine jr_iload_n cx dX7_point_14 3 rfl rfl ?_
      refine jr_sipush (v := (-10000)) cx dX7_point_15 (by decide) ?_
      refine jr_sipush (v := 10000) cx dX7_point_18 (by decide) ?_
      refine jr_si [.int y, .int (-10000), .int 10000] 3 cx dX7_point_21 (c_X7_in E g h y (-10000) 10000) gX7_point_X7_in rfl (by decide +kernel) ⟨Nat.le_of_ble_eq_true rfl, Nat.le_of_ble_eq_true rfl⟩ rfl rfl (Nat.le_of_ble_eq_true rfl) ?_
      refine jr_bif_eq (tgt := 31) cx dX7_point_24 (by decide) (fun c24 => ?_) (fun c24 => ?_)
      · refine jr_iconst (v := 0) cx dX7_point_31 (by decide) ?_
        refine jr_istore (L' := [(4, .int 0), (0, .ref (E.1 7)), (1, .int (nI j)), (2, .int x), (3, .int y)]) cx dX7_point_32 (by decide) rfl ?_
        refine jr_iconst (v := 0) cx dX7_point_34 (by decide) ?_
        refine jr_istore (L' := [(5, .int 0), (4, .int 0), (0, .ref (E.1 7)), (1, .int (nI j)), (2, .int x), (3, .int y)]) cx dX7_point_35 (by decide) rfl ?_
        refine jr_iload cx dX7_point_37 1 rfl ?_
        refine jr_if_eq (tgt := 81) cx dX7_point_39 (by decide) (fun c39 => ?_) (fun c39 => absurd c39 (by decide))
        refine jr_iload cx dX7_point_81 1 rfl ?_
        refine jr_if_ne (tgt := 88) cx dX7_point_83 (by decide) (fun c83 => absurd c83 (by decide)) (fun c83 => ?_)
        refine jr_iconst (v := (-1)) cx dX7_point_86 (by decide) ?_
        exact jr_ri (by simp only [dPoint, ite_self, if_pos c4, if_pos c11, if_neg c24, ej]) (by simp only [dPoint, ite_self, if_pos c4, if_pos c11, if_neg c24, ej]) (by rfl) (hR 87 _ dX7_point_87)
      · refine jr_iconst (v := 1) cx dX7_point_27 (by decide) ?_
        refine jr_goto (tgt := 32) cx dX7_point_28 (by decide) ?_
        refine jr_istore (L' := [(4, .int 1), (0, .ref (E.1 7)), (1, .int (nI j)), (2, .int x), (3, .int y)]) cx dX7_point_32 (by decide) rfl ?_
        refine jr_iconst (v := 0) cx dX7_point_34 (by decide) ?_
        refine jr_istore (L' := [(5, .int 0), (4, .int 1), (0, .ref (E.1 7)), (1, .int (nI j)), (2, .int x), (3, .int y)]) cx dX7_point_35 (by decide) rfl ?_
        have key1 : ∀ (fu1 : Nat) (i : Nat), n + 1 ≤ i + fu1 → (i ≤ n) → (sHas (fun q => g 18 (4 * j + q)) x i = false) → JJ E X g h 37 [(0, .ref (E.1 7)), (1, .int (nI j)), (2, .int x), (3, .int y), (4, .int 1), (5, .int (nI i))] [] := by
          intro fu1
          induction fu1 with
          | zero => intro i hfu1 h1 h2; exfalso; omega
          | succ fu1 ih1 =>
            intro i hfu1 h1 h2
            refine jr_iload cx dX7_point_37 4 rfl ?_
            refine jr_if_eq (tgt := 81) cx dX7_point_39 (by decide) (fun c39 => absurd c39 (by decide)) (fun c39 => ?_)
            refine jr_iload cx dX7_point_42 5 rfl ?_
            refine jr_aload_n cx dX7_point_44 0 rfl rfl ?_
            refine jr_get (f := 8) (v := .ref (E.1 17)) cx dX7_point_45 (by decide) rfl rfl hinX7 (by decide) mf_26 rfl ?_
            refine jr_iload_n cx dX7_point_48 1 rfl rfl ?_
            refine jr_iald cx dX7_point_49 (Or.inl ⟨by decide, by decide⟩) j rfl (show _ < 4 by omega) ?_
            refine jr_top hs ?_
            refine jr_icmp_ge (tgt := 81) cx dX7_point_50 (by decide) (fun c50 => ?_) (fun c50 => ?_)
            · have n50 : n ≤ i := (nI_leI (a := n) (b := i) (by omega) (by omega)).mp c50
              have hin : n = i := by omega
              refine jr_iload cx dX7_point_81 4 rfl ?_
              refine jr_if_ne (tgt := 88) cx dX7_point_83 (by decide) (fun c83 => ?_) (fun c83 => absurd c83 (by decide))
              refine jr_aload_n cx dX7_point_88 0 rfl rfl ?_
              refine jr_get (f := 8) (v := .ref (E.1 17)) cx dX7_point_89 (by decide) rfl rfl hinX7 (by decide) mf_26 rfl ?_
              refine jr_iload_n cx dX7_point_92 1 rfl rfl ?_
              refine jr_iald cx dX7_point_93 (Or.inl ⟨by decide, by decide⟩) j rfl (show _ < 4 by omega) ?_
              refine jr_top hs ?_
              refine jr_iconst (v := 4) cx dX7_point_94 (by decide) ?_
              refine jr_icmp_ne (tgt := 101) cx dX7_point_95 (by decide) (fun c95 => ?_) (fun c95 => ?_)
              · have n95 : ¬ (n = 4) := fun zz => c95 ((nI_eq (a := n) (b := 4) (by omega) (by omega)).mpr zz)
                refine jr_aload_n cx dX7_point_101 0 rfl rfl ?_
                refine jr_get (f := 9) (v := .ref (E.1 18)) cx dX7_point_102 (by decide) rfl rfl hinX7 (by decide) mf_29 rfl ?_
                refine jr_iconst (v := 4) cx dX7_point_105 (by decide) ?_
                refine jr_iload_n cx dX7_point_106 1 rfl rfl ?_
                refine jr_imul cx dX7_point_107 ?_
                refine jr_top (show (4 : Int32) * (nI j) = nI (4 * j) from pk_mul 4 j) ?_
                refine jr_aload_n cx dX7_point_108 0 rfl rfl ?_
                refine jr_get (f := 8) (v := .ref (E.1 17)) cx dX7_point_109 (by decide) rfl rfl hinX7 (by decide) mf_26 rfl ?_
                refine jr_iload_n cx dX7_point_112 1 rfl rfl ?_
                refine jr_iald cx dX7_point_113 (Or.inl ⟨by decide, by decide⟩) j rfl (show _ < 4 by omega) ?_
                refine jr_top hs ?_
                refine jr_iadd cx dX7_point_114 ?_
                refine jr_top (show (nI (4 * j) : Int32) + (nI n) = nI ((4 * j) + n) from nI_add (4 * j) n) ?_
                refine jr_iload_n cx dX7_point_115 2 rfl rfl ?_
                refine jr_iast cx dX7_point_116 (Or.inl ⟨by decide, by decide⟩) ((4 * j) + n) rfl (show _ < 16 by omega) ?_
                refine jr_aload_n cx dX7_point_117 0 rfl rfl ?_
                refine jr_get (f := 10) (v := .ref (E.1 19)) cx dX7_point_118 (by decide) rfl rfl hinX7 (by decide) mf_32 rfl ?_
                refine jr_iconst (v := 4) cx dX7_point_121 (by decide) ?_
                refine jr_iload_n cx dX7_point_122 1 rfl rfl ?_
                refine jr_imul cx dX7_point_123 ?_
                refine jr_top (show (4 : Int32) * (nI j) = nI (4 * j) from pk_mul 4 j) ?_
                refine jr_aload_n cx dX7_point_124 0 rfl rfl ?_
                refine jr_get (f := 8) (v := .ref (E.1 17)) cx dX7_point_125 (by decide) rfl rfl hinX7 (by decide) mf_26 rfl ?_
                refine jr_iload_n cx dX7_point_128 1 rfl rfl ?_
                refine jr_iald cx dX7_point_129 (Or.inl ⟨by decide, by decide⟩) j rfl (show _ < 4 by omega) ?_
                refine jr_top (show _ = nI n from hs) ?_
                refine jr_iadd cx dX7_point_130 ?_
                refine jr_top (show (nI (4 * j) : Int32) + (nI n) = nI ((4 * j) + n) from nI_add (4 * j) n) ?_
                refine jr_iload_n cx dX7_point_131 3 rfl rfl ?_
                refine jr_iast cx dX7_point_132 (Or.inl ⟨by decide, by decide⟩) ((4 * j) + n) rfl (show _ < 16 by omega) ?_
                refine jr_aload_n cx dX7_point_133 0 rfl rfl ?_
                refine jr_get (f := 8) (v := .ref (E.1 17)) cx dX7_point_134 (by decide) rfl rfl hinX7 (by decide) mf_26 rfl ?_
                refine jr_iload_n cx dX7_point_137 1 rfl rfl ?_
                refine jr_dup2 cx dX7_point_138 rfl rfl ?_
                refine jr_iald cx dX7_point_139 (Or.inl ⟨by decide, by decide⟩) j rfl (show _ < 4 by omega) ?_
                refine jr_top (show _ = nI n from hs) ?_
                refine jr_iconst (v := 1) cx dX7_point_140 (by decide) ?_
                refine jr_iadd cx dX7_point_141 ?_
                refine jr_top (show (nI n : Int32) + 1 = nI (n + 1) from nI_add n 1) ?_
                refine jr_iast cx dX7_point_142 (Or.inl ⟨by decide, by decide⟩) j rfl (show _ < 4 by omega) ?_
                refine jr_aload_n cx dX7_point_143 0 rfl rfl ?_
                refine jr_get (f := 8) (v := .ref (E.1 17)) cx dX7_point_144 (by decide) rfl rfl hinX7 (by decide) mf_26 rfl ?_
                refine jr_iload_n cx dX7_point_147 1 rfl rfl ?_
                refine jr_iald cx dX7_point_148 (Or.inl ⟨by decide, by decide⟩) j rfl (show _ < 4 by omega) ?_
                refine jr_top (show _ = nI (n + 1) by rw [up2_ss]) ?_
                exact jr_ri (by simp only [dPoint, ite_self, en, if_pos c4, if_pos c11, if_pos c24, ej]; rw [if_neg (by rw [hin]; simp [h2]), if_neg (by omega)]; try rfl) (by simp only [dPoint, ite_self, en, if_pos c4, if_pos c11, if_pos c24, ej]; rw [if_neg (by rw [hin]; simp [h2]), if_neg (by omega)]; try rfl) (by rfl) (hR 149 _ dX7_point_149)
              · have n95 : n = 4 := (nI_eq (a := n) (b := 4) (by omega) (by omega)).mp c95
                refine jr_bipush (v := (-2)) cx dX7_point_98 (by decide) ?_
                exact jr_ri (by simp only [dPoint, ite_self, en, if_pos c4, if_pos c11, if_pos c24, ej]; rw [if_neg (by rw [hin]; simp [h2]), if_pos (by omega)]; try rfl) (by simp only [dPoint, ite_self, en, if_pos c4, if_pos c11, if_pos c24, ej]; rw [if_neg (by rw [hin]; simp [h2]), if_pos (by omega)]; try rfl) (by rfl) (hR 100 _ dX7_point_100)
            · have n50 : ¬ (n ≤ i) := fun zz => c50 ((nI_leI (a := n) (b := i) (by omega) (by omega)).mpr zz)
              refine jr_aload_n cx dX7_point_53 0 rfl rfl ?_
              refine jr_get (f := 9) (v := .ref (E.1 18)) cx dX7_point_54 (by decide) rfl rfl hinX7 (by decide) mf_29 rfl ?_
              refine jr_iconst (v := 4) cx dX7_point_57 (by decide) ?_
              refine jr_iload_n cx dX7_point_58 1 rfl rfl ?_
              refine jr_imul cx dX7_point_59 ?_
              refine jr_top (show (4 : Int32) * (nI j) = nI (4 * j) from pk_mul 4 j) ?_
              refine jr_iload cx dX7_point_60 5 rfl ?_
              refine jr_iadd cx dX7_point_62 ?_
              refine jr_top (show (nI (4 * j) : Int32) + (nI i) = nI ((4 * j) + i) from nI_add (4 * j) i) ?_
              refine jr_iald cx dX7_point_63 (Or.inl ⟨by decide, by decide⟩) ((4 * j) + i) rfl (show _ < 16 by omega) ?_
              refine jr_iload_n cx dX7_point_64 2 rfl rfl ?_
              refine jr_icmp_eq (tgt := 72) cx dX7_point_65 (by decide) (fun c65 => ?_) (fun c65 => ?_)
              · refine jr_iconst (v := 0) cx dX7_point_72 (by decide) ?_
                refine jr_istore (L' := [(4, .int 0), (0, .ref (E.1 7)), (1, .int (nI j)), (2, .int x), (3, .int y), (5, .int (nI i))]) cx dX7_point_73 (by decide) rfl ?_
                refine jr_iinc (n := 5) (v := nI (i + 1)) (L' := [(5, .int (nI (i + 1))), (4, .int 0), (0, .ref (E.1 7)), (1, .int (nI j)), (2, .int x), (3, .int y)]) cx dX7_point_75 rfl (nI_1 _) (by decide) rfl ?_
                refine jr_goto (tgt := 37) cx dX7_point_78 (by decide) ?_
                refine jr_iload cx dX7_point_37 1 rfl ?_
                refine jr_if_eq (tgt := 81) cx dX7_point_39 (by decide) (fun c39 => ?_) (fun c39 => absurd c39 (by decide))
                refine jr_iload cx dX7_point_81 1 rfl ?_
                refine jr_if_ne (tgt := 88) cx dX7_point_83 (by decide) (fun c83 => absurd c83 (by decide)) (fun c83 => ?_)
                refine jr_iconst (v := (-1)) cx dX7_point_86 (by decide) ?_
                exact jr_ri (by simp only [dPoint, ite_self, en, if_pos c4, if_pos c11, if_pos c24, ej]; rw [if_pos (sHas_of (f := fun q => g 18 (4 * j + q)) (i := i) (n := n) (by omega) c65)]) (by simp only [dPoint, ite_self, en, if_pos c4, if_pos c11, if_pos c24, ej]; rw [if_pos (sHas_of (f := fun q => g 18 (4 * j + q)) (i := i) (n := n) (by omega) c65)]) (by rfl) (hR 87 _ dX7_point_87)
              · refine jr_iconst (v := 1) cx dX7_point_68 (by decide) ?_
                refine jr_goto (tgt := 73) cx dX7_point_69 (by decide) ?_
                refine jr_istore (L' := [(4, .int 1), (0, .ref (E.1 7)), (1, .int (nI j)), (2, .int x), (3, .int y), (5, .int (nI i))]) cx dX7_point_73 (by decide) rfl ?_
                refine jr_iinc (n := 5) (v := nI (i + 1)) (L' := [(5, .int (nI (i + 1))), (4, .int 1), (0, .ref (E.1 7)), (1, .int (nI j)), (2, .int x), (3, .int y)]) cx dX7_point_75 rfl (nI_1 _) (by decide) rfl ?_
                refine jr_goto (tgt := 37) cx dX7_point_78 (by decide) ?_
                refine jr_pick (L' := [(0, .ref (E.1 7)), (1, .int (nI j)), (2, .int x), (3, .int y), (4, .int 1), (5, .int (nI (i + 1)))]) [2, 3, 4, 5, 1, 0] rfl ?_
                exact ih1 (i + 1) (by omega) (by omega) (by simp [sHas, h2, c65])
        refine jr_pick (L' := [(0, .ref (E.1 7)), (1, .int (nI j)), (2, .int x), (3, .int y), (4, .int 1), (5, .int 0)]) [2, 3, 4, 5, 1, 0] rfl ?_
        have e5 : (0 : Int32) = (nI 0) := by rfl
        refine jr_loc (lc_n (lc_n (lc_n (lc_n (lc_n (lc_i e5 rfl)))))) ?_
        exact key1 (n + 1) 0 (by omega) (by omega) rfl
def dLab {α : Type} (a b v e : Int32) (bad : α) (ok : Nat → Nat → α) : α := if ¬ a < 0 ∧ ¬ 5 < a then (if ¬ b < 0 ∧ ¬ 5 < b then (if a = b then bad else if inY v then (if ¬ e < 0 ∧ ¬ 10000 < e then ok a.toNatClampNeg b.toNatClampNeg else bad) else bad) else bad) else bad
def puM (g : mm_I) (a b : Nat) (v e : Int32) : mm_I := up2 (up2 (up2 (up2 (up2 (up2 g 32 (6 * a + b) 1) 32 (6 * b + a) 1) 29 (6 * a + b) v) 29 (6 * b + a) (-v)) 30 (6 * a + b) e) 30 (6 * b + a) e
def dClo {α : Type} (kn : Nat → Nat → Nat → Prop) [∀ a b c, Decidable (kn a b c)] (a b c : Int32) (bad state : α) (ok : Nat → Nat → Nat → α) : α := if ¬ a < 0 ∧ ¬ 5 < a then (if ¬ b < 0 ∧ ¬ 5 < b then (if ¬ c < 0 ∧ ¬ 5 < c then (if a = b then bad else if b = c then bad else if c = a then bad else if kn a.toNatClampNeg b.toNatClampNeg c.toNatClampNeg then ok a.toNatClampNeg b.toNatClampNeg c.toNatClampNeg else state) else bad) else bad) else bad
abbrev knC (g : mm_I) (a b c : Nat) : Prop := ¬ g (99 + a) b = -1 ∧ ¬ g (99 + b) c = -1 ∧ ¬ g (99 + c) a = -1
abbrev knM (g : mm_I) (a b c : Nat) : Prop := ¬ g 32 (6 * a + b) = 0 ∧ ¬ g 32 (6 * b + c) = 0 ∧ ¬ g 32 (6 * c + a) = 0
def gpM (g : mm_I) (a b c : Nat) : Int32 := g 29 (6 * a + b) + g 29 (6 * b + c) + g 29 (6 * c + a)
def enM (g : mm_I) (a b c : Nat) : Int32 := g 30 (6 * a + b) + g 30 (6 * b + c) + g 30 (6 * c + a)
abbrev shC (g : mm_I) (a b c : Nat) : Prop := ¬ enC g a b c < abI (gpC g a b c)
abbrev shM (g : mm_I) (a b c : Nat) : Prop := ¬ (enM g a b c).toInt64 < abL (gpM g a b c).toInt64
set_option maxHeartbeats 4000000 in
set_option maxRecDepth 100000 in
theorem c_X6_lab (E : mm_E) (g : mm_I) (h : mm_L) (a b v e : Int32) : Ci E yX6_lab wsX6_lab 2 43 [.ref (E.1 0), .int a, .int b, .int v, .int e] g h (dLab a b v e (-1) (fun _ _ => 1)) (dLab a b v e g (fun p q => puR g p q v e)) h := by
  refine ci_i (bytes := cX6_lab) (maxL := 5) (by decide) rfl (Nat.le_of_ble_eq_true rfl) (fun X cx hR => ?_)
  change Cx E X cX6_lab RX6 wsX6_lab 5 2 43 at cx
  change JJ E X g h 0 [(0, .ref (E.1 0)), (1, .int a), (2, .int b), (3, .int v), (4, .int e)] []
  have hinX6 : ∀ w ∈ u_ws RX6 TX6 9, w ∈ wsX6_lab := by decide +kernel
  have mf_40 : Cond.fieldLink RX6 40 (TX6 4).1 (TX6 4).2.1 (TX6 4).2.2.1 ∈ wsX6_lab := by decide +kernel
  refine jr_iload_n cx dX6_lab_0 1 rfl rfl ?_
  refine jr_si [.int a] 1 cx dX6_lab_1 (c_X6_isLab E g h a) gX6_lab_X6_isLab rfl (by decide +kernel) ⟨Nat.le_of_ble_eq_true rfl, Nat.le_of_ble_eq_true rfl⟩ rfl rfl (Nat.le_of_ble_eq_true rfl) ?_
  refine jr_bif_eq (tgt := 41) cx dX6_lab_4 (by decide) (fun c4 => ?_) (fun c4 => ?_)
  · refine jr_iconst (v := (-1)) cx dX6_lab_41 (by decide) ?_
    exact jr_ri (by simp only [dLab, ite_self, if_neg c4]) (by simp only [dLab, ite_self, if_neg c4]) (by rfl) (hR 42 _ dX6_lab_42)
  · obtain ⟨p, hp, rfl⟩ := to_nat (M := 5) rfl c4; have ep : (nI p).toNatClampNeg = p := cl_nI (by omega)
    refine jr_iload_n cx dX6_lab_7 2 rfl rfl ?_
    refine jr_si [.int b] 1 cx dX6_lab_8 (c_X6_isLab E g h b) gX6_lab_X6_isLab rfl (by decide +kernel) ⟨Nat.le_of_ble_eq_true rfl, Nat.le_of_ble_eq_true rfl⟩ rfl rfl (Nat.le_of_ble_eq_true rfl) ?_
    refine jr_bif_eq (tgt := 41) cx dX6_lab_11 (by decide) (fun c11 => ?_) (fun c11 => ?_)
    · refine jr_iconst (v := (-1)) cx dX6_lab_41 (by decide) ?_
      exact jr_ri (by simp only [dLab, ite_self, if_pos c4, if_neg c11, ep]) (by simp only [dLab, ite_self, if_pos c4, if_neg c11, ep]) (by rfl) (hR 42 _ dX6_lab_42)
    · obtain ⟨q, hq, rfl⟩ := to_nat (M := 5) rfl c11; have eq : (nI q).toNatClampNeg = q := cl_nI (by omega)
      refine jr_iload_n cx dX6_lab_14 1 rfl rfl ?_
      refine jr_iload_n cx dX6_lab_15 2 rfl rfl ?_
      refine jr_icmp_eq (tgt := 41) cx dX6_lab_16 (by decide) (fun c16 => ?_) (fun c16 => ?_)
      · have n16 : p = q := (nI_eq (a := p) (b := q) (by omega) (by omega)).mp c16
        refine jr_iconst (v := (-1)) cx dX6_lab_41 (by decide) ?_
        exact jr_ri (by simp only [dLab, ite_self, if_pos c4, if_pos c11, if_pos c16, ep, eq]) (by simp only [dLab, ite_self, if_pos c4, if_pos c11, if_pos c16, ep, eq]) (by rfl) (hR 42 _ dX6_lab_42)
      · have n16 : ¬ (p = q) := fun zz => c16 ((nI_eq (a := p) (b := q) (by omega) (by omega)).mpr zz)
        refine jr_iload_n cx dX6_lab_19 3 rfl rfl ?_
        refine jr_sipush (v := 10000) cx dX6_lab_20 (by decide) ?_
        refine jr_si [.int v, .int 10000] 2 cx dX6_lab_23 (c_X6_isWithin E g h v 10000) gX6_lab_X6_isWithin rfl (by decide +kernel) ⟨Nat.le_of_ble_eq_true rfl, Nat.le_of_ble_eq_true rfl⟩ rfl rfl (Nat.le_of_ble_eq_true rfl) ?_
        refine jr_bif_eq (tgt := 41) cx dX6_lab_26 (by decide) (fun c26 => ?_) (fun c26 => ?_)
        · refine jr_iconst (v := (-1)) cx dX6_lab_41 (by decide) ?_
          exact jr_ri (by simp only [dLab, ite_self, if_pos c4, if_pos c11, if_neg c16, if_neg c26, ep, eq]) (by simp only [dLab, ite_self, if_pos c4, if_pos c11, if_neg c16, if_neg c26, ep, eq]) (by rfl) (hR 42 _ dX6_lab_42)
        · refine jr_iload cx dX6_lab_29 4 rfl ?_
          refine jr_iconst (v := 0) cx dX6_lab_31 (by decide) ?_
          refine jr_sipush (v := 10000) cx dX6_lab_32 (by decide) ?_
          refine jr_si [.int e, .int 0, .int 10000] 3 cx dX6_lab_35 (c_X6_isBetween E g h e 0 10000) gX6_lab_X6_isBetween rfl (by decide +kernel) ⟨Nat.le_of_ble_eq_true rfl, Nat.le_of_ble_eq_true rfl⟩ rfl rfl (Nat.le_of_ble_eq_true rfl) ?_
          refine jr_bif_ne (tgt := 43) cx dX6_lab_38 (by decide) (fun c38 => ?_) (fun c38 => ?_)
          · refine jr_aload_n cx dX6_lab_43 0 rfl rfl ?_
            refine jr_get (f := 4) (v := .ref (E.1 5)) cx dX6_lab_44 (by decide) rfl rfl hinX6 (by decide) mf_40 rfl ?_
            refine jr_iload_n cx dX6_lab_47 1 rfl rfl ?_
            refine jr_iload_n cx dX6_lab_48 2 rfl rfl ?_
            refine jr_iload_n cx dX6_lab_49 3 rfl rfl ?_
            refine jr_iload cx dX6_lab_50 4 rfl ?_
            refine jr_vv [.int (nI p), .int (nI q), .int v, .int e] 4 cx dX6_lab_52 (c_X3_put E g h p q (by omega) (by omega) v e) (by decide) rfl rfl gX6_lab_X3_put rfl (by decide +kernel) ⟨Nat.le_of_ble_eq_true rfl, Nat.le_of_ble_eq_true rfl⟩ rfl rfl (Nat.le_of_ble_eq_true rfl) ?_
            refine jr_iconst (v := 1) cx dX6_lab_55 (by decide) ?_
            exact jr_ri (by simp only [dLab, ite_self, if_pos c4, if_pos c11, if_neg c16, if_pos c26, if_pos c38, ep, eq]) (by simp only [dLab, ite_self, if_pos c4, if_pos c11, if_neg c16, if_pos c26, if_pos c38, ep, eq]) (by rfl) (hR 56 _ dX6_lab_56)
          · refine jr_iconst (v := (-1)) cx dX6_lab_41 (by decide) ?_
            exact jr_ri (by simp only [dLab, ite_self, if_pos c4, if_pos c11, if_neg c16, if_pos c26, if_neg c38, ep, eq]) (by simp only [dLab, ite_self, if_pos c4, if_pos c11, if_neg c16, if_pos c26, if_neg c38, ep, eq]) (by rfl) (hR 42 _ dX6_lab_42)
set_option maxHeartbeats 4000000 in
set_option maxRecDepth 100000 in
theorem c_X7_lab (E : mm_E) (g : mm_I) (h : mm_L) (a b v e : Int32) : Ci E yX7_lab wsX7_lab 2 42 [.ref (E.1 7), .int a, .int b, .int v, .int e] g h (dLab a b v e (-1) (fun _ _ => 1)) (dLab a b v e g (fun p q => puM g p q v e)) h := by
  refine ci_i (bytes := cX7_lab) (maxL := 5) (by decide) rfl (Nat.le_of_ble_eq_true rfl) (fun X cx hR => ?_)
  change Cx E X cX7_lab RX7 wsX7_lab 5 2 42 at cx
  change JJ E X g h 0 [(0, .ref (E.1 7)), (1, .int a), (2, .int b), (3, .int v), (4, .int e)] []
  have hinX7 : ∀ w ∈ u_ws RX7 TX7 30, w ∈ wsX7_lab := by decide +kernel
  have mf_66 : Cond.fieldLink RX7 66 (TX7 27).1 (TX7 27).2.1 (TX7 27).2.2.1 ∈ wsX7_lab := by decide +kernel
  have mf_69 : Cond.fieldLink RX7 69 (TX7 28).1 (TX7 28).2.1 (TX7 28).2.2.1 ∈ wsX7_lab := by decide +kernel
  have mf_72 : Cond.fieldLink RX7 72 (TX7 29).1 (TX7 29).2.1 (TX7 29).2.2.1 ∈ wsX7_lab := by decide +kernel
  refine jr_iload_n cx dX7_lab_0 1 rfl rfl ?_
  refine jr_si [.int a] 1 cx dX7_lab_1 (c_X7_isLab E g h a) gX7_lab_X7_isLab rfl (by decide +kernel) ⟨Nat.le_of_ble_eq_true rfl, Nat.le_of_ble_eq_true rfl⟩ rfl rfl (Nat.le_of_ble_eq_true rfl) ?_
  refine jr_bif_eq (tgt := 44) cx dX7_lab_4 (by decide) (fun c4 => ?_) (fun c4 => ?_)
  · refine jr_iconst (v := (-1)) cx dX7_lab_44 (by decide) ?_
    exact jr_ri (by simp only [dLab, ite_self, if_neg c4]) (by simp only [dLab, ite_self, if_neg c4]; try rfl) (by rfl) (hR 45 _ dX7_lab_45)
  · obtain ⟨p, hp, rfl⟩ := to_nat (M := 5) rfl c4; have ep : (nI p).toNatClampNeg = p := cl_nI (by omega)
    refine jr_iload_n cx dX7_lab_7 2 rfl rfl ?_
    refine jr_si [.int b] 1 cx dX7_lab_8 (c_X7_isLab E g h b) gX7_lab_X7_isLab rfl (by decide +kernel) ⟨Nat.le_of_ble_eq_true rfl, Nat.le_of_ble_eq_true rfl⟩ rfl rfl (Nat.le_of_ble_eq_true rfl) ?_
    refine jr_bif_eq (tgt := 44) cx dX7_lab_11 (by decide) (fun c11 => ?_) (fun c11 => ?_)
    · refine jr_iconst (v := (-1)) cx dX7_lab_44 (by decide) ?_
      exact jr_ri (by simp only [dLab, ite_self, if_pos c4, if_neg c11, ep]) (by simp only [dLab, ite_self, if_pos c4, if_neg c11, ep]; try rfl) (by rfl) (hR 45 _ dX7_lab_45)
    · obtain ⟨q, hq, rfl⟩ := to_nat (M := 5) rfl c11; have eq : (nI q).toNatClampNeg = q := cl_nI (by omega)
      refine jr_iload_n cx dX7_lab_14 1 rfl rfl ?_
      refine jr_iload_n cx dX7_lab_15 2 rfl rfl ?_
      refine jr_icmp_eq (tgt := 44) cx dX7_lab_16 (by decide) (fun c16 => ?_) (fun c16 => ?_)
      · have n16 : p = q := (nI_eq (a := p) (b := q) (by omega) (by omega)).mp c16
        refine jr_iconst (v := (-1)) cx dX7_lab_44 (by decide) ?_
        exact jr_ri (by simp only [dLab, ite_self, if_pos c4, if_pos c11, if_pos c16, ep, eq]) (by simp only [dLab, ite_self, if_pos c4, if_pos c11, if_pos c16, ep, eq]; try rfl) (by rfl) (hR 45 _ dX7_lab_45)
      · have n16 : ¬ (p = q) := fun zz => c16 ((nI_eq (a := p) (b := q) (by omega) (by omega)).mpr zz)
        refine jr_iload_n cx dX7_lab_19 3 rfl rfl ?_
        refine jr_sipush (v := (-10000)) cx dX7_lab_20 (by decide) ?_
        refine jr_sipush (v := 10000) cx dX7_lab_23 (by decide) ?_
        refine jr_si [.int v, .int (-10000), .int 10000] 3 cx dX7_lab_26 (c_X7_in E g h v (-10000) 10000) gX7_lab_X7_in rfl (by decide +kernel) ⟨Nat.le_of_ble_eq_true rfl, Nat.le_of_ble_eq_true rfl⟩ rfl rfl (Nat.le_of_ble_eq_true rfl) ?_
        refine jr_bif_eq (tgt := 44) cx dX7_lab_29 (by decide) (fun c29 => ?_) (fun c29 => ?_)
        · refine jr_iconst (v := (-1)) cx dX7_lab_44 (by decide) ?_
          exact jr_ri (by simp only [dLab, ite_self, if_pos c4, if_pos c11, if_neg c16, if_neg c29, ep, eq]) (by simp only [dLab, ite_self, if_pos c4, if_pos c11, if_neg c16, if_neg c29, ep, eq]; try rfl) (by rfl) (hR 45 _ dX7_lab_45)
        · refine jr_iload cx dX7_lab_32 4 rfl ?_
          refine jr_iconst (v := 0) cx dX7_lab_34 (by decide) ?_
          refine jr_sipush (v := 10000) cx dX7_lab_35 (by decide) ?_
          refine jr_si [.int e, .int 0, .int 10000] 3 cx dX7_lab_38 (c_X7_in E g h e 0 10000) gX7_lab_X7_in rfl (by decide +kernel) ⟨Nat.le_of_ble_eq_true rfl, Nat.le_of_ble_eq_true rfl⟩ rfl rfl (Nat.le_of_ble_eq_true rfl) ?_
          refine jr_bif_ne (tgt := 46) cx dX7_lab_41 (by decide) (fun c41 => ?_) (fun c41 => ?_)
          · refine jr_aload_n cx dX7_lab_46 0 rfl rfl ?_
            refine jr_get (f := 27) (v := .ref (E.1 32)) cx dX7_lab_47 (by decide) rfl rfl hinX7 (by decide) mf_66 rfl ?_
            refine jr_bipush (v := 6) cx dX7_lab_50 (by decide) ?_
            refine jr_iload_n cx dX7_lab_52 1 rfl rfl ?_
            refine jr_imul cx dX7_lab_53 ?_
            refine jr_top (show (6 : Int32) * (nI p) = nI (6 * p) from pk_mul 6 p) ?_
            refine jr_iload_n cx dX7_lab_54 2 rfl rfl ?_
            refine jr_iadd cx dX7_lab_55 ?_
            refine jr_top (show (nI (6 * p) : Int32) + (nI q) = nI ((6 * p) + q) from nI_add (6 * p) q) ?_
            refine jr_iconst (v := 1) cx dX7_lab_56 (by decide) ?_
            refine jr_zast cx dX7_lab_57 (Or.inr rfl) ((6 * p) + q) rfl (show _ < 36 by omega) (by first | exact Or.inl rfl | exact Or.inr rfl) ?_
            refine jr_aload_n cx dX7_lab_58 0 rfl rfl ?_
            refine jr_get (f := 27) (v := .ref (E.1 32)) cx dX7_lab_59 (by decide) rfl rfl hinX7 (by decide) mf_66 rfl ?_
            refine jr_bipush (v := 6) cx dX7_lab_62 (by decide) ?_
            refine jr_iload_n cx dX7_lab_64 2 rfl rfl ?_
            refine jr_imul cx dX7_lab_65 ?_
            refine jr_top (show (6 : Int32) * (nI q) = nI (6 * q) from pk_mul 6 q) ?_
            refine jr_iload_n cx dX7_lab_66 1 rfl rfl ?_
            refine jr_iadd cx dX7_lab_67 ?_
            refine jr_top (show (nI (6 * q) : Int32) + (nI p) = nI ((6 * q) + p) from nI_add (6 * q) p) ?_
            refine jr_iconst (v := 1) cx dX7_lab_68 (by decide) ?_
            refine jr_zast cx dX7_lab_69 (Or.inr rfl) ((6 * q) + p) rfl (show _ < 36 by omega) (by first | exact Or.inl rfl | exact Or.inr rfl) ?_
            refine jr_aload_n cx dX7_lab_70 0 rfl rfl ?_
            refine jr_get (f := 28) (v := .ref (E.1 29)) cx dX7_lab_71 (by decide) rfl rfl hinX7 (by decide) mf_69 rfl ?_
            refine jr_bipush (v := 6) cx dX7_lab_74 (by decide) ?_
            refine jr_iload_n cx dX7_lab_76 1 rfl rfl ?_
            refine jr_imul cx dX7_lab_77 ?_
            refine jr_top (show (6 : Int32) * (nI p) = nI (6 * p) from pk_mul 6 p) ?_
            refine jr_iload_n cx dX7_lab_78 2 rfl rfl ?_
            refine jr_iadd cx dX7_lab_79 ?_
            refine jr_top (show (nI (6 * p) : Int32) + (nI q) = nI ((6 * p) + q) from nI_add (6 * p) q) ?_
            refine jr_iload_n cx dX7_lab_80 3 rfl rfl ?_
            refine jr_iast cx dX7_lab_81 (Or.inl ⟨by decide, by decide⟩) ((6 * p) + q) rfl (show _ < 36 by omega) ?_
            refine jr_aload_n cx dX7_lab_82 0 rfl rfl ?_
            refine jr_get (f := 28) (v := .ref (E.1 29)) cx dX7_lab_83 (by decide) rfl rfl hinX7 (by decide) mf_69 rfl ?_
            refine jr_bipush (v := 6) cx dX7_lab_86 (by decide) ?_
            refine jr_iload_n cx dX7_lab_88 2 rfl rfl ?_
            refine jr_imul cx dX7_lab_89 ?_
            refine jr_top (show (6 : Int32) * (nI q) = nI (6 * q) from pk_mul 6 q) ?_
            refine jr_iload_n cx dX7_lab_90 1 rfl rfl ?_
            refine jr_iadd cx dX7_lab_91 ?_
            refine jr_top (show (nI (6 * q) : Int32) + (nI p) = nI ((6 * q) + p) from nI_add (6 * q) p) ?_
            refine jr_iload_n cx dX7_lab_92 3 rfl rfl ?_
            refine jr_ineg cx dX7_lab_93 ?_
            refine jr_iast cx dX7_lab_94 (Or.inl ⟨by decide, by decide⟩) ((6 * q) + p) rfl (show _ < 36 by omega) ?_
            refine jr_aload_n cx dX7_lab_95 0 rfl rfl ?_
            refine jr_get (f := 29) (v := .ref (E.1 30)) cx dX7_lab_96 (by decide) rfl rfl hinX7 (by decide) mf_72 rfl ?_
            refine jr_bipush (v := 6) cx dX7_lab_99 (by decide) ?_
            refine jr_iload_n cx dX7_lab_101 1 rfl rfl ?_
            refine jr_imul cx dX7_lab_102 ?_
            refine jr_top (show (6 : Int32) * (nI p) = nI (6 * p) from pk_mul 6 p) ?_
            refine jr_iload_n cx dX7_lab_103 2 rfl rfl ?_
            refine jr_iadd cx dX7_lab_104 ?_
            refine jr_top (show (nI (6 * p) : Int32) + (nI q) = nI ((6 * p) + q) from nI_add (6 * p) q) ?_
            refine jr_iload cx dX7_lab_105 4 rfl ?_
            refine jr_iast cx dX7_lab_107 (Or.inl ⟨by decide, by decide⟩) ((6 * p) + q) rfl (show _ < 36 by omega) ?_
            refine jr_aload_n cx dX7_lab_108 0 rfl rfl ?_
            refine jr_get (f := 29) (v := .ref (E.1 30)) cx dX7_lab_109 (by decide) rfl rfl hinX7 (by decide) mf_72 rfl ?_
            refine jr_bipush (v := 6) cx dX7_lab_112 (by decide) ?_
            refine jr_iload_n cx dX7_lab_114 2 rfl rfl ?_
            refine jr_imul cx dX7_lab_115 ?_
            refine jr_top (show (6 : Int32) * (nI q) = nI (6 * q) from pk_mul 6 q) ?_
            refine jr_iload_n cx dX7_lab_116 1 rfl rfl ?_
            refine jr_iadd cx dX7_lab_117 ?_
            refine jr_top (show (nI (6 * q) : Int32) + (nI p) = nI ((6 * q) + p) from nI_add (6 * q) p) ?_
            refine jr_iload cx dX7_lab_118 4 rfl ?_
            refine jr_iast cx dX7_lab_120 (Or.inl ⟨by decide, by decide⟩) ((6 * q) + p) rfl (show _ < 36 by omega) ?_
            refine jr_iconst (v := 1) cx dX7_lab_121 (by decide) ?_
            exact jr_ri (by simp only [dLab, ite_self, if_pos c4, if_pos c11, if_neg c16, if_pos c29, if_pos c41, ep, eq]) (by simp only [dLab, ite_self, if_pos c4, if_pos c11, if_neg c16, if_pos c29, if_pos c41, ep, eq]; try rfl) (by rfl) (hR 122 _ dX7_lab_122)
          · refine jr_iconst (v := (-1)) cx dX7_lab_44 (by decide) ?_
            exact jr_ri (by simp only [dLab, ite_self, if_pos c4, if_pos c11, if_neg c16, if_pos c29, if_neg c41, ep, eq]) (by simp only [dLab, ite_self, if_pos c4, if_pos c11, if_neg c16, if_pos c29, if_neg c41, ep, eq]; try rfl) (by rfl) (hR 45 _ dX7_lab_45)
set_option maxHeartbeats 4000000 in
set_option maxRecDepth 100000 in
theorem c_X7_isRing (E : mm_E) (g : mm_I) (h : mm_L) (a b c : Nat) (ha : a < 6) (hb : b < 6) (hc : c < 6) : Ci E yX7_isRing wsX7_isRing 0 0 [.ref (E.1 7), .int (nI a), .int (nI b), .int (nI c)] g h (bI (knM g a b c)) g h := by
  refine ci_z (bytes := cX7_isRing) (maxL := 4) (by decide) rfl (Nat.le_of_ble_eq_true rfl) (bI_01 _) (fun X cx hR => ?_)
  change Cx E X cX7_isRing RX7 wsX7_isRing 4 0 0 at cx
  change JJ E X g h 0 [(0, .ref (E.1 7)), (1, .int (nI a)), (2, .int (nI b)), (3, .int (nI c))] []
  have hinX7 : ∀ w ∈ u_ws RX7 TX7 30, w ∈ wsX7_isRing := by decide +kernel
  have mf_66 : Cond.fieldLink RX7 66 (TX7 27).1 (TX7 27).2.1 (TX7 27).2.2.1 ∈ wsX7_isRing := by decide +kernel
  refine jr_aload_n cx dX7_isRing_0 0 rfl rfl ?_
  refine jr_get (f := 27) (v := .ref (E.1 32)) cx dX7_isRing_1 (by decide) rfl rfl hinX7 (by decide) mf_66 rfl ?_
  refine jr_bipush (v := 6) cx dX7_isRing_4 (by decide) ?_
  refine jr_iload_n cx dX7_isRing_6 1 rfl rfl ?_
  refine jr_imul cx dX7_isRing_7 ?_
  refine jr_top (show (6 : Int32) * (nI a) = nI (6 * a) from pk_mul 6 a) ?_
  refine jr_iload_n cx dX7_isRing_8 2 rfl rfl ?_
  refine jr_iadd cx dX7_isRing_9 ?_
  refine jr_top (show (nI (6 * a) : Int32) + (nI b) = nI ((6 * a) + b) from nI_add (6 * a) b) ?_
  refine jr_zald cx dX7_isRing_10 (Or.inr rfl) ((6 * a) + b) rfl (show _ < 36 by omega) ?_
  refine jr_if_eq (tgt := 46) cx dX7_isRing_11 (by decide) (fun c11 => ?_) (fun c11 => ?_)
  · refine jr_iconst (v := 0) cx dX7_isRing_46 (by decide) ?_
    exact jr_ri (by exact (bI_f fun q => q.1 c11).symm) (by rfl) (by rfl) (hR 47 _ dX7_isRing_47)
  · refine jr_aload_n cx dX7_isRing_14 0 rfl rfl ?_
    refine jr_get (f := 27) (v := .ref (E.1 32)) cx dX7_isRing_15 (by decide) rfl rfl hinX7 (by decide) mf_66 rfl ?_
    refine jr_bipush (v := 6) cx dX7_isRing_18 (by decide) ?_
    refine jr_iload_n cx dX7_isRing_20 2 rfl rfl ?_
    refine jr_imul cx dX7_isRing_21 ?_
    refine jr_top (show (6 : Int32) * (nI b) = nI (6 * b) from pk_mul 6 b) ?_
    refine jr_iload_n cx dX7_isRing_22 3 rfl rfl ?_
    refine jr_iadd cx dX7_isRing_23 ?_
    refine jr_top (show (nI (6 * b) : Int32) + (nI c) = nI ((6 * b) + c) from nI_add (6 * b) c) ?_
    refine jr_zald cx dX7_isRing_24 (Or.inr rfl) ((6 * b) + c) rfl (show _ < 36 by omega) ?_
    refine jr_if_eq (tgt := 46) cx dX7_isRing_25 (by decide) (fun c25 => ?_) (fun c25 => ?_)
    · refine jr_iconst (v := 0) cx dX7_isRing_46 (by decide) ?_
      exact jr_ri (by exact (bI_f fun q => q.2.1 c25).symm) (by rfl) (by rfl) (hR 47 _ dX7_isRing_47)
    · refine jr_aload_n cx dX7_isRing_28 0 rfl rfl ?_
      refine jr_get (f := 27) (v := .ref (E.1 32)) cx dX7_isRing_29 (by decide) rfl rfl hinX7 (by decide) mf_66 rfl ?_
      refine jr_bipush (v := 6) cx dX7_isRing_32 (by decide) ?_
      refine jr_iload_n cx dX7_isRing_34 3 rfl rfl ?_
      refine jr_imul cx dX7_isRing_35 ?_
      refine jr_top (show (6 : Int32) * (nI c) = nI (6 * c) from pk_mul 6 c) ?_
      refine jr_iload_n cx dX7_isRing_36 1 rfl rfl ?_
      refine jr_iadd cx dX7_isRing_37 ?_
      refine jr_top (show (nI (6 * c) : Int32) + (nI a) = nI ((6 * c) + a) from nI_add (6 * c) a) ?_
      refine jr_zald cx dX7_isRing_38 (Or.inr rfl) ((6 * c) + a) rfl (show _ < 36 by omega) ?_
      refine jr_if_eq (tgt := 46) cx dX7_isRing_39 (by decide) (fun c39 => ?_) (fun c39 => ?_)
      · refine jr_iconst (v := 0) cx dX7_isRing_46 (by decide) ?_
        exact jr_ri (by exact (bI_f fun q => q.2.2 c39).symm) (by rfl) (by rfl) (hR 47 _ dX7_isRing_47)
      · refine jr_iconst (v := 1) cx dX7_isRing_42 (by decide) ?_
        refine jr_goto (tgt := 47) cx dX7_isRing_43 (by decide) ?_
        exact jr_ri (by exact (bI_t ⟨c11, c25, c39⟩).symm) (by rfl) (by rfl) (hR 47 _ dX7_isRing_47)
set_option maxHeartbeats 4000000 in
set_option maxRecDepth 100000 in
theorem c_X7_over (E : mm_E) (g : mm_I) (h : mm_L) (a b c : Nat) (ha : a < 6) (hb : b < 6) (hc : c < 6) : Ci E yX7_over wsX7_over 0 0 [.ref (E.1 7), .int (nI a), .int (nI b), .int (nI c)] g h (gpM g a b c) g h := by
  refine ci_i (bytes := cX7_over) (maxL := 4) (by decide) rfl (Nat.le_of_ble_eq_true rfl) (fun X cx hR => ?_)
  change Cx E X cX7_over RX7 wsX7_over 4 0 0 at cx
  change JJ E X g h 0 [(0, .ref (E.1 7)), (1, .int (nI a)), (2, .int (nI b)), (3, .int (nI c))] []
  have hinX7 : ∀ w ∈ u_ws RX7 TX7 30, w ∈ wsX7_over := by decide +kernel
  have mf_69 : Cond.fieldLink RX7 69 (TX7 28).1 (TX7 28).2.1 (TX7 28).2.2.1 ∈ wsX7_over := by decide +kernel
  refine jr_aload_n cx dX7_over_0 0 rfl rfl ?_
  refine jr_get (f := 28) (v := .ref (E.1 29)) cx dX7_over_1 (by decide) rfl rfl hinX7 (by decide) mf_69 rfl ?_
  refine jr_bipush (v := 6) cx dX7_over_4 (by decide) ?_
  refine jr_iload_n cx dX7_over_6 1 rfl rfl ?_
  refine jr_imul cx dX7_over_7 ?_
  refine jr_top (show (6 : Int32) * (nI a) = nI (6 * a) from pk_mul 6 a) ?_
  refine jr_iload_n cx dX7_over_8 2 rfl rfl ?_
  refine jr_iadd cx dX7_over_9 ?_
  refine jr_top (show (nI (6 * a) : Int32) + (nI b) = nI ((6 * a) + b) from nI_add (6 * a) b) ?_
  refine jr_iald cx dX7_over_10 (Or.inl ⟨by decide, by decide⟩) ((6 * a) + b) rfl (show _ < 36 by omega) ?_
  refine jr_aload_n cx dX7_over_11 0 rfl rfl ?_
  refine jr_get (f := 28) (v := .ref (E.1 29)) cx dX7_over_12 (by decide) rfl rfl hinX7 (by decide) mf_69 rfl ?_
  refine jr_bipush (v := 6) cx dX7_over_15 (by decide) ?_
  refine jr_iload_n cx dX7_over_17 2 rfl rfl ?_
  refine jr_imul cx dX7_over_18 ?_
  refine jr_top (show (6 : Int32) * (nI b) = nI (6 * b) from pk_mul 6 b) ?_
  refine jr_iload_n cx dX7_over_19 3 rfl rfl ?_
  refine jr_iadd cx dX7_over_20 ?_
  refine jr_top (show (nI (6 * b) : Int32) + (nI c) = nI ((6 * b) + c) from nI_add (6 * b) c) ?_
  refine jr_iald cx dX7_over_21 (Or.inl ⟨by decide, by decide⟩) ((6 * b) + c) rfl (show _ < 36 by omega) ?_
  refine jr_iadd cx dX7_over_22 ?_
  refine jr_aload_n cx dX7_over_23 0 rfl rfl ?_
  refine jr_get (f := 28) (v := .ref (E.1 29)) cx dX7_over_24 (by decide) rfl rfl hinX7 (by decide) mf_69 rfl ?_
  refine jr_bipush (v := 6) cx dX7_over_27 (by decide) ?_
  refine jr_iload_n cx dX7_over_29 3 rfl rfl ?_
  refine jr_imul cx dX7_over_30 ?_
  refine jr_top (show (6 : Int32) * (nI c) = nI (6 * c) from pk_mul 6 c) ?_
  refine jr_iload_n cx dX7_over_31 1 rfl rfl ?_
  refine jr_iadd cx dX7_over_32 ?_
  refine jr_top (show (nI (6 * c) : Int32) + (nI a) = nI ((6 * c) + a) from nI_add (6 * c) a) ?_
  refine jr_iald cx dX7_over_33 (Or.inl ⟨by decide, by decide⟩) ((6 * c) + a) rfl (show _ < 36 by omega) ?_
  refine jr_iadd cx dX7_over_34 ?_
  exact jr_ri (by rfl) (by rfl) (by rfl) (hR 35 _ dX7_over_35)
set_option maxHeartbeats 4000000 in
set_option maxRecDepth 100000 in
theorem c_X7_isClosed (E : mm_E) (g : mm_I) (h : mm_L) (a b c : Nat) (ha : a < 6) (hb : b < 6) (hc : c < 6) : Ci E yX7_isClosed wsX7_isClosed 1 23 [.ref (E.1 7), .int (nI a), .int (nI b), .int (nI c)] g h (bI (shM g a b c)) g h := by
  refine ci_z (bytes := cX7_isClosed) (maxL := 4) (by decide) rfl (Nat.le_of_ble_eq_true rfl) (bI_01 _) (fun X cx hR => ?_)
  change Cx E X cX7_isClosed RX7 wsX7_isClosed 4 1 23 at cx
  change JJ E X g h 0 [(0, .ref (E.1 7)), (1, .int (nI a)), (2, .int (nI b)), (3, .int (nI c))] []
  have hinX7 : ∀ w ∈ u_ws RX7 TX7 30, w ∈ wsX7_isClosed := by decide +kernel
  have mf_72 : Cond.fieldLink RX7 72 (TX7 29).1 (TX7 29).2.1 (TX7 29).2.2.1 ∈ wsX7_isClosed := by decide +kernel
  refine jr_aload_n cx dX7_isClosed_0 0 rfl rfl ?_
  refine jr_iload_n cx dX7_isClosed_1 1 rfl rfl ?_
  refine jr_iload_n cx dX7_isClosed_2 2 rfl rfl ?_
  refine jr_iload_n cx dX7_isClosed_3 3 rfl rfl ?_
  refine jr_vi [.int (nI a), .int (nI b), .int (nI c)] 3 cx dX7_isClosed_4 (c_X7_over E g h a b c (by omega) (by omega) (by omega)) (by decide) rfl rfl gX7_isClosed_X7_over rfl (by decide +kernel) ⟨Nat.le_of_ble_eq_true rfl, Nat.le_of_ble_eq_true rfl⟩ rfl rfl (Nat.le_of_ble_eq_true rfl) ?_
  refine jr_i2l cx dX7_isClosed_7 ?_
  refine jr_sl [.long (Int32.toInt64 (gpM g a b c))] 1 cx dX7_isClosed_8 (c_X7_size E g h (Int32.toInt64 (gpM g a b c))) gX7_isClosed_X7_size rfl (by decide +kernel) ⟨Nat.le_of_ble_eq_true rfl, Nat.le_of_ble_eq_true rfl⟩ rfl rfl (Nat.le_of_ble_eq_true rfl) ?_
  refine jr_aload_n cx dX7_isClosed_11 0 rfl rfl ?_
  refine jr_get (f := 29) (v := .ref (E.1 30)) cx dX7_isClosed_12 (by decide) rfl rfl hinX7 (by decide) mf_72 rfl ?_
  refine jr_bipush (v := 6) cx dX7_isClosed_15 (by decide) ?_
  refine jr_iload_n cx dX7_isClosed_17 1 rfl rfl ?_
  refine jr_imul cx dX7_isClosed_18 ?_
  refine jr_top (show (6 : Int32) * (nI a) = nI (6 * a) from pk_mul 6 a) ?_
  refine jr_iload_n cx dX7_isClosed_19 2 rfl rfl ?_
  refine jr_iadd cx dX7_isClosed_20 ?_
  refine jr_top (show (nI (6 * a) : Int32) + (nI b) = nI ((6 * a) + b) from nI_add (6 * a) b) ?_
  refine jr_iald cx dX7_isClosed_21 (Or.inl ⟨by decide, by decide⟩) ((6 * a) + b) rfl (show _ < 36 by omega) ?_
  refine jr_aload_n cx dX7_isClosed_22 0 rfl rfl ?_
  refine jr_get (f := 29) (v := .ref (E.1 30)) cx dX7_isClosed_23 (by decide) rfl rfl hinX7 (by decide) mf_72 rfl ?_
  refine jr_bipush (v := 6) cx dX7_isClosed_26 (by decide) ?_
  refine jr_iload_n cx dX7_isClosed_28 2 rfl rfl ?_
  refine jr_imul cx dX7_isClosed_29 ?_
  refine jr_top (show (6 : Int32) * (nI b) = nI (6 * b) from pk_mul 6 b) ?_
  refine jr_iload_n cx dX7_isClosed_30 3 rfl rfl ?_
  refine jr_iadd cx dX7_isClosed_31 ?_
  refine jr_top (show (nI (6 * b) : Int32) + (nI c) = nI ((6 * b) + c) from nI_add (6 * b) c) ?_
  refine jr_iald cx dX7_isClosed_32 (Or.inl ⟨by decide, by decide⟩) ((6 * b) + c) rfl (show _ < 36 by omega) ?_
  refine jr_iadd cx dX7_isClosed_33 ?_
  refine jr_aload_n cx dX7_isClosed_34 0 rfl rfl ?_
  refine jr_get (f := 29) (v := .ref (E.1 30)) cx dX7_isClosed_35 (by decide) rfl rfl hinX7 (by decide) mf_72 rfl ?_
  refine jr_bipush (v := 6) cx dX7_isClosed_38 (by decide) ?_
  refine jr_iload_n cx dX7_isClosed_40 3 rfl rfl ?_
  refine jr_imul cx dX7_isClosed_41 ?_
  refine jr_top (show (6 : Int32) * (nI c) = nI (6 * c) from pk_mul 6 c) ?_
  refine jr_iload_n cx dX7_isClosed_42 1 rfl rfl ?_
  refine jr_iadd cx dX7_isClosed_43 ?_
  refine jr_top (show (nI (6 * c) : Int32) + (nI a) = nI ((6 * c) + a) from nI_add (6 * c) a) ?_
  refine jr_iald cx dX7_isClosed_44 (Or.inl ⟨by decide, by decide⟩) ((6 * c) + a) rfl (show _ < 36 by omega) ?_
  refine jr_iadd cx dX7_isClosed_45 ?_
  refine jr_i2l cx dX7_isClosed_46 ?_
  refine jr_lcmp cx dX7_isClosed_47 ?_
  refine jr_lif_gt (tgt := 55) cx dX7_isClosed_48 (by decide) (fun c48 => ?_) (fun c48 => ?_)
  · refine jr_iconst (v := 0) cx dX7_isClosed_55 (by decide) ?_
    exact jr_ri (by first | exact (bI_f (fun q => q c48)).symm | exact (bI_t c48).symm) (by rfl) (by rfl) (hR 56 _ dX7_isClosed_56)
  · refine jr_iconst (v := 1) cx dX7_isClosed_51 (by decide) ?_
    refine jr_goto (tgt := 56) cx dX7_isClosed_52 (by decide) ?_
    exact jr_ri (by first | exact (bI_f (fun q => q c48)).symm | exact (bI_t c48).symm) (by rfl) (by rfl) (hR 56 _ dX7_isClosed_56)
set_option maxHeartbeats 4000000 in
set_option maxRecDepth 100000 in
theorem c_X6_closes (E : mm_E) (g : mm_I) (h : mm_L) (a b c : Int32) : Ci E yX6_closes wsX6_closes 2 46 [.ref (E.1 0), .int a, .int b, .int c] g h (dClo (knC g) a b c (-1) (-4) (fun p q r => bI (shC g p q r))) g (dClo (knC g) a b c h h (fun p q r => upL h 0 8 (gpC g p q r).toInt64)) := by
  refine ci_i (bytes := cX6_closes) (maxL := 4) (by decide) rfl (Nat.le_of_ble_eq_true rfl) (fun X cx hR => ?_)
  change Cx E X cX6_closes RX6 wsX6_closes 4 2 46 at cx
  change JJ E X g h 0 [(0, .ref (E.1 0)), (1, .int a), (2, .int b), (3, .int c)] []
  have hinX6 : ∀ w ∈ u_ws RX6 TX6 9, w ∈ wsX6_closes := by decide +kernel
  have mf_40 : Cond.fieldLink RX6 40 (TX6 4).1 (TX6 4).2.1 (TX6 4).2.2.1 ∈ wsX6_closes := by decide +kernel
  have mf_59 : Cond.fieldLink RX6 59 (TX6 8).1 (TX6 8).2.1 (TX6 8).2.2.1 ∈ wsX6_closes := by decide +kernel
  refine jr_iload_n cx dX6_closes_0 1 rfl rfl ?_
  refine jr_si [.int a] 1 cx dX6_closes_1 (c_X6_isLab E g h a) gX6_closes_X6_isLab rfl (by decide +kernel) ⟨Nat.le_of_ble_eq_true rfl, Nat.le_of_ble_eq_true rfl⟩ rfl rfl (Nat.le_of_ble_eq_true rfl) ?_
  refine jr_bif_eq (tgt := 36) cx dX6_closes_4 (by decide) (fun c4 => ?_) (fun c4 => ?_)
  · refine jr_iconst (v := (-1)) cx dX6_closes_36 (by decide) ?_
    exact jr_ri (by simp only [dClo, ite_self, if_neg c4]) (by rfl) (by simp only [dClo, ite_self, if_neg c4]; try rfl) (hR 37 _ dX6_closes_37)
  · obtain ⟨p, hp, rfl⟩ := to_nat (M := 5) rfl c4; have ep : (nI p).toNatClampNeg = p := cl_nI (by omega)
    refine jr_iload_n cx dX6_closes_7 2 rfl rfl ?_
    refine jr_si [.int b] 1 cx dX6_closes_8 (c_X6_isLab E g h b) gX6_closes_X6_isLab rfl (by decide +kernel) ⟨Nat.le_of_ble_eq_true rfl, Nat.le_of_ble_eq_true rfl⟩ rfl rfl (Nat.le_of_ble_eq_true rfl) ?_
    refine jr_bif_eq (tgt := 36) cx dX6_closes_11 (by decide) (fun c11 => ?_) (fun c11 => ?_)
    · refine jr_iconst (v := (-1)) cx dX6_closes_36 (by decide) ?_
      exact jr_ri (by simp only [dClo, ite_self, if_pos c4, if_neg c11, ep]) (by rfl) (by simp only [dClo, ite_self, if_pos c4, if_neg c11, ep]; try rfl) (hR 37 _ dX6_closes_37)
    · obtain ⟨q, hq, rfl⟩ := to_nat (M := 5) rfl c11; have eq : (nI q).toNatClampNeg = q := cl_nI (by omega)
      refine jr_iload_n cx dX6_closes_14 3 rfl rfl ?_
      refine jr_si [.int c] 1 cx dX6_closes_15 (c_X6_isLab E g h c) gX6_closes_X6_isLab rfl (by decide +kernel) ⟨Nat.le_of_ble_eq_true rfl, Nat.le_of_ble_eq_true rfl⟩ rfl rfl (Nat.le_of_ble_eq_true rfl) ?_
      refine jr_bif_eq (tgt := 36) cx dX6_closes_18 (by decide) (fun c18 => ?_) (fun c18 => ?_)
      · refine jr_iconst (v := (-1)) cx dX6_closes_36 (by decide) ?_
        exact jr_ri (by simp only [dClo, ite_self, if_pos c4, if_pos c11, if_neg c18, ep, eq]) (by rfl) (by simp only [dClo, ite_self, if_pos c4, if_pos c11, if_neg c18, ep, eq]; try rfl) (hR 37 _ dX6_closes_37)
      · obtain ⟨r, hr, rfl⟩ := to_nat (M := 5) rfl c18; have er : (nI r).toNatClampNeg = r := cl_nI (by omega)
        refine jr_iload_n cx dX6_closes_21 1 rfl rfl ?_
        refine jr_iload_n cx dX6_closes_22 2 rfl rfl ?_
        refine jr_icmp_eq (tgt := 36) cx dX6_closes_23 (by decide) (fun c23 => ?_) (fun c23 => ?_)
        · have n23 : p = q := (nI_eq (a := p) (b := q) (by omega) (by omega)).mp c23
          refine jr_iconst (v := (-1)) cx dX6_closes_36 (by decide) ?_
          exact jr_ri (by simp only [dClo, ite_self, if_pos c4, if_pos c11, if_pos c18, if_pos c23, ep, eq, er]) (by rfl) (by simp only [dClo, ite_self, if_pos c4, if_pos c11, if_pos c18, if_pos c23, ep, eq, er]; try rfl) (hR 37 _ dX6_closes_37)
        · have n23 : ¬ (p = q) := fun zz => c23 ((nI_eq (a := p) (b := q) (by omega) (by omega)).mpr zz)
          refine jr_iload_n cx dX6_closes_26 2 rfl rfl ?_
          refine jr_iload_n cx dX6_closes_27 3 rfl rfl ?_
          refine jr_icmp_eq (tgt := 36) cx dX6_closes_28 (by decide) (fun c28 => ?_) (fun c28 => ?_)
          · have n28 : q = r := (nI_eq (a := q) (b := r) (by omega) (by omega)).mp c28
            refine jr_iconst (v := (-1)) cx dX6_closes_36 (by decide) ?_
            exact jr_ri (by simp only [dClo, ite_self, if_pos c4, if_pos c11, if_pos c18, if_neg c23, if_pos c28, ep, eq, er]) (by rfl) (by simp only [dClo, ite_self, if_pos c4, if_pos c11, if_pos c18, if_neg c23, if_pos c28, ep, eq, er]; try rfl) (hR 37 _ dX6_closes_37)
          · have n28 : ¬ (q = r) := fun zz => c28 ((nI_eq (a := q) (b := r) (by omega) (by omega)).mpr zz)
            refine jr_iload_n cx dX6_closes_31 3 rfl rfl ?_
            refine jr_iload_n cx dX6_closes_32 1 rfl rfl ?_
            refine jr_icmp_ne (tgt := 38) cx dX6_closes_33 (by decide) (fun c33 => ?_) (fun c33 => ?_)
            · have n33 : ¬ (r = p) := fun zz => c33 ((nI_eq (a := r) (b := p) (by omega) (by omega)).mpr zz)
              refine jr_aload_n cx dX6_closes_38 0 rfl rfl ?_
              refine jr_get (f := 4) (v := .ref (E.1 5)) cx dX6_closes_39 (by decide) rfl rfl hinX6 (by decide) mf_40 rfl ?_
              refine jr_iload_n cx dX6_closes_42 1 rfl rfl ?_
              refine jr_iload_n cx dX6_closes_43 2 rfl rfl ?_
              refine jr_iload_n cx dX6_closes_44 3 rfl rfl ?_
              refine jr_vi [.int (nI p), .int (nI q), .int (nI r)] 3 cx dX6_closes_45 (c_X3_isKnown E g h p q r (by omega) (by omega) (by omega)) (by decide) rfl rfl gX6_closes_X3_isKnown rfl (by decide +kernel) ⟨Nat.le_of_ble_eq_true rfl, Nat.le_of_ble_eq_true rfl⟩ rfl rfl (Nat.le_of_ble_eq_true rfl) ?_
              refine jr_bif_ne (tgt := 54) cx dX6_closes_48 (by decide) (fun c48 => ?_) (fun c48 => ?_)
              · refine jr_aload_n cx dX6_closes_54 0 rfl rfl ?_
                refine jr_aload_n cx dX6_closes_55 0 rfl rfl ?_
                refine jr_get (f := 4) (v := .ref (E.1 5)) cx dX6_closes_56 (by decide) rfl rfl hinX6 (by decide) mf_40 rfl ?_
                refine jr_iload_n cx dX6_closes_59 1 rfl rfl ?_
                refine jr_iload_n cx dX6_closes_60 2 rfl rfl ?_
                refine jr_iload_n cx dX6_closes_61 3 rfl rfl ?_
                refine jr_vi [.int (nI p), .int (nI q), .int (nI r)] 3 cx dX6_closes_62 (c_X3_gap E g h p q r (by omega) (by omega) (by omega)) (by decide) rfl rfl gX6_closes_X3_gap rfl (by decide +kernel) ⟨Nat.le_of_ble_eq_true rfl, Nat.le_of_ble_eq_true rfl⟩ rfl rfl (Nat.le_of_ble_eq_true rfl) ?_
                refine jr_i2l cx dX6_closes_65 ?_
                refine jr_put_X6_8 cx dX6_closes_66 hinX6 mf_59 ?_
                refine jr_aload_n cx dX6_closes_69 0 rfl rfl ?_
                refine jr_get (f := 4) (v := .ref (E.1 5)) cx dX6_closes_70 (by decide) rfl rfl hinX6 (by decide) mf_40 rfl ?_
                refine jr_iload_n cx dX6_closes_73 1 rfl rfl ?_
                refine jr_iload_n cx dX6_closes_74 2 rfl rfl ?_
                refine jr_iload_n cx dX6_closes_75 3 rfl rfl ?_
                refine jr_vi [.int (nI p), .int (nI q), .int (nI r)] 3 cx dX6_closes_76 (c_X3_isShut E g (upL h 0 8 (Int32.toInt64 (g (93 + p) q + g (93 + q) r + g (93 + r) p))) p q r (by omega) (by omega) (by omega)) (by decide) rfl rfl gX6_closes_X3_isShut rfl (by decide +kernel) ⟨Nat.le_of_ble_eq_true rfl, Nat.le_of_ble_eq_true rfl⟩ rfl rfl (Nat.le_of_ble_eq_true rfl) ?_
                refine jr_bif_eq (tgt := 86) cx dX6_closes_79 (by decide) (fun c79 => ?_) (fun c79 => ?_)
                · refine jr_iconst (v := 0) cx dX6_closes_86 (by decide) ?_
                  exact jr_ri (by simp only [dClo, ite_self, if_pos c4, if_pos c11, if_pos c18, if_neg c23, if_neg c28, if_neg c33, if_pos c48, ep, eq, er]; exact (bI_f c79).symm) (by rfl) (by simp only [dClo, ite_self, if_pos c4, if_pos c11, if_pos c18, if_neg c23, if_neg c28, if_neg c33, if_pos c48, ep, eq, er]; try rfl) (hR 87 _ dX6_closes_87)
                · refine jr_iconst (v := 1) cx dX6_closes_82 (by decide) ?_
                  refine jr_goto (tgt := 87) cx dX6_closes_83 (by decide) ?_
                  exact jr_ri (by simp only [dClo, ite_self, if_pos c4, if_pos c11, if_pos c18, if_neg c23, if_neg c28, if_neg c33, if_pos c48, ep, eq, er]; exact (bI_t c79).symm) (by rfl) (by simp only [dClo, ite_self, if_pos c4, if_pos c11, if_pos c18, if_neg c23, if_neg c28, if_neg c33, if_pos c48, ep, eq, er]; try rfl) (hR 87 _ dX6_closes_87)
              · refine jr_bipush (v := (-4)) cx dX6_closes_51 (by decide) ?_
                exact jr_ri (by simp only [dClo, ite_self, if_pos c4, if_pos c11, if_pos c18, if_neg c23, if_neg c28, if_neg c33, if_neg c48, ep, eq, er]) (by rfl) (by simp only [dClo, ite_self, if_pos c4, if_pos c11, if_pos c18, if_neg c23, if_neg c28, if_neg c33, if_neg c48, ep, eq, er]; try rfl) (hR 53 _ dX6_closes_53)
            · have n33 : r = p := (nI_eq (a := r) (b := p) (by omega) (by omega)).mp c33
              refine jr_iconst (v := (-1)) cx dX6_closes_36 (by decide) ?_
              exact jr_ri (by simp only [dClo, ite_self, if_pos c4, if_pos c11, if_pos c18, if_neg c23, if_neg c28, if_pos c33, ep, eq, er]) (by rfl) (by simp only [dClo, ite_self, if_pos c4, if_pos c11, if_pos c18, if_neg c23, if_neg c28, if_pos c33, ep, eq, er]; try rfl) (hR 37 _ dX6_closes_37)
set_option maxHeartbeats 4000000 in
set_option maxRecDepth 100000 in
theorem c_X7_closes (E : mm_E) (g : mm_I) (h : mm_L) (a b c : Int32) : Ci E yX7_closes wsX7_closes 2 46 [.ref (E.1 7), .int a, .int b, .int c] g h (dClo (knM g) a b c (-1) (-4) (fun p q r => bI (shM g p q r))) g (dClo (knM g) a b c h h (fun p q r => upL h 7 2 (gpM g p q r).toInt64)) := by
  refine ci_i (bytes := cX7_closes) (maxL := 4) (by decide) rfl (Nat.le_of_ble_eq_true rfl) (fun X cx hR => ?_)
  change Cx E X cX7_closes RX7 wsX7_closes 4 2 46 at cx
  change JJ E X g h 0 [(0, .ref (E.1 7)), (1, .int a), (2, .int b), (3, .int c)] []
  refine jr_iload_n cx dX7_closes_0 1 rfl rfl ?_
  refine jr_si [.int a] 1 cx dX7_closes_1 (c_X7_isLab E g h a) gX7_closes_X7_isLab rfl (by decide +kernel) ⟨Nat.le_of_ble_eq_true rfl, Nat.le_of_ble_eq_true rfl⟩ rfl rfl (Nat.le_of_ble_eq_true rfl) ?_
  refine jr_bif_eq (tgt := 36) cx dX7_closes_4 (by decide) (fun c4 => ?_) (fun c4 => ?_)
  · refine jr_iconst (v := (-1)) cx dX7_closes_36 (by decide) ?_
    exact jr_ri (by simp only [dClo, ite_self, if_neg c4]) (by rfl) (by simp only [dClo, ite_self, if_neg c4]; try rfl) (hR 37 _ dX7_closes_37)
  · obtain ⟨p, hp, rfl⟩ := to_nat (M := 5) rfl c4; have ep : (nI p).toNatClampNeg = p := cl_nI (by omega)
    refine jr_iload_n cx dX7_closes_7 2 rfl rfl ?_
    refine jr_si [.int b] 1 cx dX7_closes_8 (c_X7_isLab E g h b) gX7_closes_X7_isLab rfl (by decide +kernel) ⟨Nat.le_of_ble_eq_true rfl, Nat.le_of_ble_eq_true rfl⟩ rfl rfl (Nat.le_of_ble_eq_true rfl) ?_
    refine jr_bif_eq (tgt := 36) cx dX7_closes_11 (by decide) (fun c11 => ?_) (fun c11 => ?_)
    · refine jr_iconst (v := (-1)) cx dX7_closes_36 (by decide) ?_
      exact jr_ri (by simp only [dClo, ite_self, if_pos c4, if_neg c11, ep]) (by rfl) (by simp only [dClo, ite_self, if_pos c4, if_neg c11, ep]; try rfl) (hR 37 _ dX7_closes_37)
    · obtain ⟨q, hq, rfl⟩ := to_nat (M := 5) rfl c11; have eq : (nI q).toNatClampNeg = q := cl_nI (by omega)
      refine jr_iload_n cx dX7_closes_14 3 rfl rfl ?_
      refine jr_si [.int c] 1 cx dX7_closes_15 (c_X7_isLab E g h c) gX7_closes_X7_isLab rfl (by decide +kernel) ⟨Nat.le_of_ble_eq_true rfl, Nat.le_of_ble_eq_true rfl⟩ rfl rfl (Nat.le_of_ble_eq_true rfl) ?_
      refine jr_bif_eq (tgt := 36) cx dX7_closes_18 (by decide) (fun c18 => ?_) (fun c18 => ?_)
      · refine jr_iconst (v := (-1)) cx dX7_closes_36 (by decide) ?_
        exact jr_ri (by simp only [dClo, ite_self, if_pos c4, if_pos c11, if_neg c18, ep, eq]) (by rfl) (by simp only [dClo, ite_self, if_pos c4, if_pos c11, if_neg c18, ep, eq]; try rfl) (hR 37 _ dX7_closes_37)
      · obtain ⟨r, hr, rfl⟩ := to_nat (M := 5) rfl c18; have er : (nI r).toNatClampNeg = r := cl_nI (by omega)
        refine jr_iload_n cx dX7_closes_21 1 rfl rfl ?_
        refine jr_iload_n cx dX7_closes_22 2 rfl rfl ?_
        refine jr_icmp_eq (tgt := 36) cx dX7_closes_23 (by decide) (fun c23 => ?_) (fun c23 => ?_)
        · have n23 : p = q := (nI_eq (a := p) (b := q) (by omega) (by omega)).mp c23
          refine jr_iconst (v := (-1)) cx dX7_closes_36 (by decide) ?_
          exact jr_ri (by simp only [dClo, ite_self, if_pos c4, if_pos c11, if_pos c18, if_pos c23, ep, eq, er]) (by rfl) (by simp only [dClo, ite_self, if_pos c4, if_pos c11, if_pos c18, if_pos c23, ep, eq, er]; try rfl) (hR 37 _ dX7_closes_37)
        · have n23 : ¬ (p = q) := fun zz => c23 ((nI_eq (a := p) (b := q) (by omega) (by omega)).mpr zz)
          refine jr_iload_n cx dX7_closes_26 2 rfl rfl ?_
          refine jr_iload_n cx dX7_closes_27 3 rfl rfl ?_
          refine jr_icmp_eq (tgt := 36) cx dX7_closes_28 (by decide) (fun c28 => ?_) (fun c28 => ?_)
          · have n28 : q = r := (nI_eq (a := q) (b := r) (by omega) (by omega)).mp c28
            refine jr_iconst (v := (-1)) cx dX7_closes_36 (by decide) ?_
            exact jr_ri (by simp only [dClo, ite_self, if_pos c4, if_pos c11, if_pos c18, if_neg c23, if_pos c28, ep, eq, er]) (by rfl) (by simp only [dClo, ite_self, if_pos c4, if_pos c11, if_pos c18, if_neg c23, if_pos c28, ep, eq, er]; try rfl) (hR 37 _ dX7_closes_37)
          · have n28 : ¬ (q = r) := fun zz => c28 ((nI_eq (a := q) (b := r) (by omega) (by omega)).mpr zz)
            refine jr_iload_n cx dX7_closes_31 1 rfl rfl ?_
            refine jr_iload_n cx dX7_closes_32 3 rfl rfl ?_
            refine jr_icmp_ne (tgt := 38) cx dX7_closes_33 (by decide) (fun c33 => ?_) (fun c33 => ?_)
            · have n33 : ¬ (p = r) := fun zz => c33 ((nI_eq (a := p) (b := r) (by omega) (by omega)).mpr zz)
              have p33 : ¬ nI r = nI p := fun z => c33 z.symm
              refine jr_aload_n cx dX7_closes_38 0 rfl rfl ?_
              refine jr_iload_n cx dX7_closes_39 1 rfl rfl ?_
              refine jr_iload_n cx dX7_closes_40 2 rfl rfl ?_
              refine jr_iload_n cx dX7_closes_41 3 rfl rfl ?_
              refine jr_vi [.int (nI p), .int (nI q), .int (nI r)] 3 cx dX7_closes_42 (c_X7_isRing E g h p q r (by omega) (by omega) (by omega)) (by decide) rfl rfl gX7_closes_X7_isRing rfl (by decide +kernel) ⟨Nat.le_of_ble_eq_true rfl, Nat.le_of_ble_eq_true rfl⟩ rfl rfl (Nat.le_of_ble_eq_true rfl) ?_
              refine jr_bif_ne (tgt := 53) cx dX7_closes_45 (by decide) (fun c45 => ?_) (fun c45 => ?_)
              · refine jr_aload_n cx dX7_closes_53 0 rfl rfl ?_
                refine jr_aload_n cx dX7_closes_54 0 rfl rfl ?_
                refine jr_iload_n cx dX7_closes_55 1 rfl rfl ?_
                refine jr_iload_n cx dX7_closes_56 2 rfl rfl ?_
                refine jr_iload_n cx dX7_closes_57 3 rfl rfl ?_
                refine jr_vi [.int (nI p), .int (nI q), .int (nI r)] 3 cx dX7_closes_58 (c_X7_over E g h p q r (by omega) (by omega) (by omega)) (by decide) rfl rfl gX7_closes_X7_over rfl (by decide +kernel) ⟨Nat.le_of_ble_eq_true rfl, Nat.le_of_ble_eq_true rfl⟩ rfl rfl (Nat.le_of_ble_eq_true rfl) ?_
                refine jr_i2l cx dX7_closes_61 ?_
                refine jr_aload_n cx dX7_closes_62 0 rfl rfl ?_
                refine jr_iload_n cx dX7_closes_63 1 rfl rfl ?_
                refine jr_iload_n cx dX7_closes_64 2 rfl rfl ?_
                refine jr_iload_n cx dX7_closes_65 3 rfl rfl ?_
                refine jr_vi [.int (nI p), .int (nI q), .int (nI r)] 3 cx dX7_closes_66 (c_X7_isClosed E g h p q r (by omega) (by omega) (by omega)) (by decide) rfl rfl gX7_closes_X7_isClosed rfl (by decide +kernel) ⟨Nat.le_of_ble_eq_true rfl, Nat.le_of_ble_eq_true rfl⟩ rfl rfl (Nat.le_of_ble_eq_true rfl) ?_
                refine jr_bif_eq (tgt := 76) cx dX7_closes_69 (by decide) (fun c69 => ?_) (fun c69 => ?_)
                · refine jr_iconst (v := 0) cx dX7_closes_76 (by decide) ?_
                  refine jr_vi [.long (Int32.toInt64 (gpM g p q r)), .int 0] 2 cx dX7_closes_77 (c_X7_ask E g h (Int32.toInt64 (gpM g p q r)) 0) (by decide) rfl rfl gX7_closes_X7_ask rfl (by decide +kernel) ⟨Nat.le_of_ble_eq_true rfl, Nat.le_of_ble_eq_true rfl⟩ rfl rfl (Nat.le_of_ble_eq_true rfl) ?_
                  exact jr_ri (by simp only [dClo, ite_self, if_pos c4, if_pos c11, if_pos c18, if_neg c23, if_neg c28, if_neg p33, if_pos c45, ep, eq, er]; exact (bI_f c69).symm) (by rfl) (by simp only [dClo, ite_self, if_pos c4, if_pos c11, if_pos c18, if_neg c23, if_neg c28, if_neg p33, if_pos c45, ep, eq, er]; try rfl) (hR 80 _ dX7_closes_80)
                · refine jr_iconst (v := 1) cx dX7_closes_72 (by decide) ?_
                  refine jr_goto (tgt := 77) cx dX7_closes_73 (by decide) ?_
                  refine jr_vi [.long (Int32.toInt64 (gpM g p q r)), .int 1] 2 cx dX7_closes_77 (c_X7_ask E g h (Int32.toInt64 (gpM g p q r)) 1) (by decide) rfl rfl gX7_closes_X7_ask rfl (by decide +kernel) ⟨Nat.le_of_ble_eq_true rfl, Nat.le_of_ble_eq_true rfl⟩ rfl rfl (Nat.le_of_ble_eq_true rfl) ?_
                  exact jr_ri (by simp only [dClo, ite_self, if_pos c4, if_pos c11, if_pos c18, if_neg c23, if_neg c28, if_neg p33, if_pos c45, ep, eq, er]; exact (bI_t c69).symm) (by rfl) (by simp only [dClo, ite_self, if_pos c4, if_pos c11, if_pos c18, if_neg c23, if_neg c28, if_neg p33, if_pos c45, ep, eq, er]; try rfl) (hR 80 _ dX7_closes_80)
              · refine jr_bipush (v := (-4)) cx dX7_closes_48 (by decide) ?_
                refine jr_goto (tgt := 80) cx dX7_closes_50 (by decide) ?_
                exact jr_ri (by simp only [dClo, ite_self, if_pos c4, if_pos c11, if_pos c18, if_neg c23, if_neg c28, if_neg p33, if_neg c45, ep, eq, er]) (by rfl) (by simp only [dClo, ite_self, if_pos c4, if_pos c11, if_pos c18, if_neg c23, if_neg c28, if_neg p33, if_neg c45, ep, eq, er]; try rfl) (hR 80 _ dX7_closes_80)
            · have n33 : p = r := (nI_eq (a := p) (b := r) (by omega) (by omega)).mp c33
              have p33 : nI r = nI p := c33.symm
              refine jr_iconst (v := (-1)) cx dX7_closes_36 (by decide) ?_
              exact jr_ri (by simp only [dClo, ite_self, if_pos c4, if_pos c11, if_pos c18, if_neg c23, if_neg c28, if_pos p33, ep, eq, er]) (by rfl) (by simp only [dClo, ite_self, if_pos c4, if_pos c11, if_pos c18, if_neg c23, if_neg c28, if_pos p33, ep, eq, er]; try rfl) (hR 37 _ dX7_closes_37)
def oB (p : Nat → Nat → Nat → Bool) (a : Nat) : Nat → Nat
  | 0 => 0
  | k + 1 => oB p a k + sCb (p a (a + 1 + k)) (a + 1 + k + 1) (6 - (a + 1 + k + 1))
def oA (p : Nat → Nat → Nat → Bool) : Nat → Nat
  | 0 => 0
  | k + 1 => oA p k + oB p k (6 - (k + 1))
theorem oB_le (p : Nat → Nat → Nat → Bool) (a : Nat) : ∀ k, oB p a k ≤ 6 * k
  | 0 => Nat.le_refl 0
  | k + 1 => by have := oB_le p a k; have h2 := sCb_le (p a (a + 1 + k)) (a + 1 + k + 1) (6 - (a + 1 + k + 1)); unfold oB; omega
theorem oA_le (p : Nat → Nat → Nat → Bool) : ∀ k, oA p k ≤ 36 * k
  | 0 => Nat.le_refl 0
  | k + 1 => by have := oA_le p k; have h2 := oB_le p k (6 - (k + 1)); unfold oA; omega
set_option maxHeartbeats 4000000 in
set_option maxRecDepth 100000 in
theorem c_X6_open (E : mm_E) (g : mm_I) (h : mm_L) : Ci E yX6_open wsX6_open 2 46 [.ref (E.1 0)] g h (nI (oA (fun a b c => decide (knC g a b c ∧ ¬ shC g a b c)) 6)) g h := by
  refine ci_i (bytes := cX6_open) (maxL := 5) (by decide) rfl (Nat.le_of_ble_eq_true rfl) (fun X cx hR => ?_)
  change Cx E X cX6_open RX6 wsX6_open 5 2 46 at cx
  change JJ E X g h 0 [(0, .ref (E.1 0))] []
  have hinX6 : ∀ w ∈ u_ws RX6 TX6 9, w ∈ wsX6_open := by decide +kernel
  have mf_40 : Cond.fieldLink RX6 40 (TX6 4).1 (TX6 4).2.1 (TX6 4).2.2.1 ∈ wsX6_open := by decide +kernel
  refine jr_iconst (v := 0) cx dX6_open_0 (by decide) ?_
  refine jr_istore_n (L' := [(1, .int 0), (0, .ref (E.1 0))]) cx dX6_open_1 rfl (by decide) rfl ?_
  refine jr_iconst (v := 0) cx dX6_open_2 (by decide) ?_
  refine jr_istore_n (L' := [(2, .int 0), (1, .int 0), (0, .ref (E.1 0))]) cx dX6_open_3 rfl (by decide) rfl ?_
  have key1 : ∀ (fu1 : Nat) (a : Nat), 7 ≤ a + fu1 → (a ≤ 6) → JJ E X g h 4 [(0, .ref (E.1 0)), (1, .int (nI (oA (fun a b c => decide (knC g a b c ∧ ¬ shC g a b c)) a))), (2, .int (nI a))] [] := by
    intro fu1
    induction fu1 with
    | zero => intro a hfu1 g1; exfalso; omega
    | succ fu1 ih1 =>
      intro a hfu1 g1
      refine jr_iload_n cx dX6_open_4 2 rfl rfl ?_
      refine jr_bipush (v := 6) cx dX6_open_5 (by decide) ?_
      refine jr_icmp_ge (tgt := 81) cx dX6_open_7 (by decide) (fun c7 => ?_) (fun c7 => ?_)
      · have n7 : 6 ≤ a := (nI_leI (a := 6) (b := a) (by omega) (by omega)).mp c7
        refine jr_iload_n cx dX6_open_81 1 rfl rfl ?_
        exact jr_ri (by rw [show a = 6 by omega]) (by rfl) (by rfl) (hR 82 _ dX6_open_82)
      · have n7 : ¬ (6 ≤ a) := fun zz => c7 ((nI_leI (a := 6) (b := a) (by omega) (by omega)).mpr zz)
        refine jr_iload_n cx dX6_open_10 2 rfl rfl ?_
        refine jr_iconst (v := 1) cx dX6_open_11 (by decide) ?_
        refine jr_iadd cx dX6_open_12 ?_
        refine jr_top (show (nI a : Int32) + 1 = nI (a + 1) from nI_add a 1) ?_
        refine jr_istore_n (L' := [(3, .int (nI (a + 1))), (0, .ref (E.1 0)), (1, .int (nI (oA (fun a b c => decide (knC g a b c ∧ ¬ shC g a b c)) a))), (2, .int (nI a))]) cx dX6_open_13 rfl (by decide) rfl ?_
        have key2 : ∀ (fu2 : Nat) (k : Nat), 6 ≤ a + k + fu2 → (a + 1 + k ≤ 6) → JJ E X g h 14 [(0, .ref (E.1 0)), (1, .int (nI (oA (fun a b c => decide (knC g a b c ∧ ¬ shC g a b c)) a + oB (fun a b c => decide (knC g a b c ∧ ¬ shC g a b c)) a k))), (2, .int (nI a)), (3, .int (nI (a + 1 + k)))] [] := by
          intro fu2
          induction fu2 with
          | zero => intro k hfu2 g2; exfalso; omega
          | succ fu2 ih2 =>
            intro k hfu2 g2
            refine jr_iload_n cx dX6_open_14 3 rfl rfl ?_
            refine jr_bipush (v := 6) cx dX6_open_15 (by decide) ?_
            refine jr_icmp_ge (tgt := 75) cx dX6_open_17 (by decide) (fun c17 => ?_) (fun c17 => ?_)
            · have n17 : 6 ≤ a + 1 + k := (nI_leI (a := 6) (b := a + 1 + k) (by omega) (by omega)).mp c17
              refine jr_iinc (n := 2) (v := nI (a + 1)) (L' := [(2, .int (nI (a + 1))), (0, .ref (E.1 0)), (1, .int (nI (oA (fun a b c => decide (knC g a b c ∧ ¬ shC g a b c)) a + oB (fun a b c => decide (knC g a b c ∧ ¬ shC g a b c)) a k))), (3, .int (nI (a + 1 + k)))]) cx dX6_open_75 rfl (nI_1 _) (by decide) rfl ?_
              refine jr_goto (tgt := 4) cx dX6_open_78 (by decide) ?_
              refine jr_pick (L' := [(0, .ref (E.1 0)), (1, .int (nI (oA (fun a b c => decide (knC g a b c ∧ ¬ shC g a b c)) a + oB (fun a b c => decide (knC g a b c ∧ ¬ shC g a b c)) a k))), (2, .int (nI (a + 1)))]) [1, 2, 0] rfl ?_
              have e1 : (nI (oA (fun a b c => decide (knC g a b c ∧ ¬ shC g a b c)) a + oB (fun a b c => decide (knC g a b c ∧ ¬ shC g a b c)) a k) : Int32) = (nI (oA (fun a b c => decide (knC g a b c ∧ ¬ shC g a b c)) (a + 1))) := by rw [oA, show 6 - (a + 1) = k by omega]
              refine jr_loc (lc_n (lc_i e1 (lc_n rfl))) ?_
              exact ih1 (a + 1) (by omega) (by omega)
            · have n17 : ¬ (6 ≤ a + 1 + k) := fun zz => c17 ((nI_leI (a := 6) (b := a + 1 + k) (by omega) (by omega)).mpr zz)
              refine jr_iload_n cx dX6_open_20 3 rfl rfl ?_
              refine jr_iconst (v := 1) cx dX6_open_21 (by decide) ?_
              refine jr_iadd cx dX6_open_22 ?_
              refine jr_top (show (nI (a + 1 + k) : Int32) + 1 = nI ((a + 1 + k) + 1) from nI_add (a + 1 + k) 1) ?_
              refine jr_istore (L' := [(4, .int (nI ((a + 1 + k) + 1))), (0, .ref (E.1 0)), (1, .int (nI (oA (fun a b c => decide (knC g a b c ∧ ¬ shC g a b c)) a + oB (fun a b c => decide (knC g a b c ∧ ¬ shC g a b c)) a k))), (2, .int (nI a)), (3, .int (nI (a + 1 + k)))]) cx dX6_open_23 (by decide) rfl ?_
              have key3 : ∀ (fu3 : Nat) (i : Nat), 6 ≤ a + k + i + fu3 → (a + 1 + k + 1 + i ≤ 6) → JJ E X g h 25 [(0, .ref (E.1 0)), (1, .int (nI (oA (fun a b c => decide (knC g a b c ∧ ¬ shC g a b c)) a + oB (fun a b c => decide (knC g a b c ∧ ¬ shC g a b c)) a k + sCb ((fun a b c => decide (knC g a b c ∧ ¬ shC g a b c)) a (a + 1 + k)) (a + 1 + k + 1) i))), (2, .int (nI a)), (3, .int (nI (a + 1 + k))), (4, .int (nI (a + 1 + k + 1 + i)))] [] := by
                intro fu3
                induction fu3 with
                | zero => intro i hfu3 g3; exfalso; omega
                | succ fu3 ih3 =>
                  intro i hfu3 g3
                  refine jr_iload cx dX6_open_25 4 rfl ?_
                  refine jr_bipush (v := 6) cx dX6_open_27 (by decide) ?_
                  refine jr_icmp_ge (tgt := 69) cx dX6_open_29 (by decide) (fun c29 => ?_) (fun c29 => ?_)
                  · have n29 : 6 ≤ a + 1 + k + 1 + i := (nI_leI (a := 6) (b := a + 1 + k + 1 + i) (by omega) (by omega)).mp c29
                    refine jr_iinc (n := 3) (v := nI (a + 1 + k + 1)) (L' := [(3, .int (nI (a + 1 + k + 1))), (0, .ref (E.1 0)), (1, .int (nI (oA (fun a b c => decide (knC g a b c ∧ ¬ shC g a b c)) a + oB (fun a b c => decide (knC g a b c ∧ ¬ shC g a b c)) a k + sCb ((fun a b c => decide (knC g a b c ∧ ¬ shC g a b c)) a (a + 1 + k)) (a + 1 + k + 1) i))), (2, .int (nI a)), (4, .int (nI (a + 1 + k + 1 + i)))]) cx dX6_open_69 rfl (nI_1 _) (by decide) rfl ?_
                    refine jr_goto (tgt := 14) cx dX6_open_72 (by decide) ?_
                    refine jr_pick (L' := [(0, .ref (E.1 0)), (1, .int (nI (oA (fun a b c => decide (knC g a b c ∧ ¬ shC g a b c)) a + oB (fun a b c => decide (knC g a b c ∧ ¬ shC g a b c)) a k + sCb ((fun a b c => decide (knC g a b c ∧ ¬ shC g a b c)) a (a + 1 + k)) (a + 1 + k + 1) i))), (2, .int (nI a)), (3, .int (nI (a + 1 + k + 1)))]) [1, 2, 3, 0] rfl ?_
                    have e1 : (nI (oA (fun a b c => decide (knC g a b c ∧ ¬ shC g a b c)) a + oB (fun a b c => decide (knC g a b c ∧ ¬ shC g a b c)) a k + sCb ((fun a b c => decide (knC g a b c ∧ ¬ shC g a b c)) a (a + 1 + k)) (a + 1 + k + 1) i) : Int32) = (nI (oA (fun a b c => decide (knC g a b c ∧ ¬ shC g a b c)) a + oB (fun a b c => decide (knC g a b c ∧ ¬ shC g a b c)) a (k + 1))) := by rw [oB, show 6 - (a + 1 + k + 1) = i by omega, ← Nat.add_assoc]
                    have e3 : (nI (a + 1 + k + 1) : Int32) = (nI (a + 1 + (k + 1))) := by rfl
                    refine jr_loc (lc_n (lc_i e1 (lc_n (lc_i e3 rfl)))) ?_
                    exact ih2 (k + 1) (by omega) (by omega)
                  · have n29 : ¬ (6 ≤ a + 1 + k + 1 + i) := fun zz => c29 ((nI_leI (a := 6) (b := a + 1 + k + 1 + i) (by omega) (by omega)).mpr zz)
                    refine jr_aload_n cx dX6_open_32 0 rfl rfl ?_
                    refine jr_get (f := 4) (v := .ref (E.1 5)) cx dX6_open_33 (by decide) rfl rfl hinX6 (by decide) mf_40 rfl ?_
                    refine jr_iload_n cx dX6_open_36 2 rfl rfl ?_
                    refine jr_iload_n cx dX6_open_37 3 rfl rfl ?_
                    refine jr_iload cx dX6_open_38 4 rfl ?_
                    refine jr_vi [.int (nI a), .int (nI (a + 1 + k)), .int (nI (a + 1 + k + 1 + i))] 3 cx dX6_open_40 (c_X3_isKnown E g h a (a + 1 + k) (a + 1 + k + 1 + i) (by omega) (by omega) (by omega)) (by decide) rfl rfl gX6_open_X3_isKnown rfl (by decide +kernel) ⟨Nat.le_of_ble_eq_true rfl, Nat.le_of_ble_eq_true rfl⟩ rfl rfl (Nat.le_of_ble_eq_true rfl) ?_
                    refine jr_bif_eq (tgt := 63) cx dX6_open_43 (by decide) (fun c43 => ?_) (fun c43 => ?_)
                    · refine jr_iinc (n := 4) (v := nI (a + 1 + k + 1 + i + 1)) (L' := [(4, .int (nI (a + 1 + k + 1 + i + 1))), (0, .ref (E.1 0)), (1, .int (nI (oA (fun a b c => decide (knC g a b c ∧ ¬ shC g a b c)) a + oB (fun a b c => decide (knC g a b c ∧ ¬ shC g a b c)) a k + sCb ((fun a b c => decide (knC g a b c ∧ ¬ shC g a b c)) a (a + 1 + k)) (a + 1 + k + 1) i))), (2, .int (nI a)), (3, .int (nI (a + 1 + k)))]) cx dX6_open_63 rfl (nI_1 _) (by decide) rfl ?_
                      refine jr_goto (tgt := 25) cx dX6_open_66 (by decide) ?_
                      refine jr_pick (L' := [(0, .ref (E.1 0)), (1, .int (nI (oA (fun a b c => decide (knC g a b c ∧ ¬ shC g a b c)) a + oB (fun a b c => decide (knC g a b c ∧ ¬ shC g a b c)) a k + sCb ((fun a b c => decide (knC g a b c ∧ ¬ shC g a b c)) a (a + 1 + k)) (a + 1 + k + 1) i))), (2, .int (nI a)), (3, .int (nI (a + 1 + k))), (4, .int (nI (a + 1 + k + 1 + i + 1)))]) [1, 2, 3, 4, 0] rfl ?_
                      have e1 : (nI (oA (fun a b c => decide (knC g a b c ∧ ¬ shC g a b c)) a + oB (fun a b c => decide (knC g a b c ∧ ¬ shC g a b c)) a k + sCb ((fun a b c => decide (knC g a b c ∧ ¬ shC g a b c)) a (a + 1 + k)) (a + 1 + k + 1) i) : Int32) = (nI (oA (fun a b c => decide (knC g a b c ∧ ¬ shC g a b c)) a + oB (fun a b c => decide (knC g a b c ∧ ¬ shC g a b c)) a k + sCb ((fun a b c => decide (knC g a b c ∧ ¬ shC g a b c)) a (a + 1 + k)) (a + 1 + k + 1) (i + 1))) := by rw [sCb, if_neg (by simp only [decide_eq_true_eq]; exact fun z => c43 z.1)]; try rfl
                      have e4 : (nI (a + 1 + k + 1 + i + 1) : Int32) = (nI (a + 1 + k + 1 + (i + 1))) := by rfl
                      refine jr_loc (lc_n (lc_i e1 (lc_n (lc_n (lc_i e4 rfl))))) ?_
                      exact ih3 (i + 1) (by omega) (by omega)
                    · refine jr_aload_n cx dX6_open_46 0 rfl rfl ?_
                      refine jr_get (f := 4) (v := .ref (E.1 5)) cx dX6_open_47 (by decide) rfl rfl hinX6 (by decide) mf_40 rfl ?_
                      refine jr_iload_n cx dX6_open_50 2 rfl rfl ?_
                      refine jr_iload_n cx dX6_open_51 3 rfl rfl ?_
                      refine jr_iload cx dX6_open_52 4 rfl ?_
                      refine jr_vi [.int (nI a), .int (nI (a + 1 + k)), .int (nI (a + 1 + k + 1 + i))] 3 cx dX6_open_54 (c_X3_isShut E g h a (a + 1 + k) (a + 1 + k + 1 + i) (by omega) (by omega) (by omega)) (by decide) rfl rfl gX6_open_X3_isShut rfl (by decide +kernel) ⟨Nat.le_of_ble_eq_true rfl, Nat.le_of_ble_eq_true rfl⟩ rfl rfl (Nat.le_of_ble_eq_true rfl) ?_
                      refine jr_bif_ne (tgt := 63) cx dX6_open_57 (by decide) (fun c57 => ?_) (fun c57 => ?_)
                      · refine jr_iinc (n := 4) (v := nI (a + 1 + k + 1 + i + 1)) (L' := [(4, .int (nI (a + 1 + k + 1 + i + 1))), (0, .ref (E.1 0)), (1, .int (nI (oA (fun a b c => decide (knC g a b c ∧ ¬ shC g a b c)) a + oB (fun a b c => decide (knC g a b c ∧ ¬ shC g a b c)) a k + sCb ((fun a b c => decide (knC g a b c ∧ ¬ shC g a b c)) a (a + 1 + k)) (a + 1 + k + 1) i))), (2, .int (nI a)), (3, .int (nI (a + 1 + k)))]) cx dX6_open_63 rfl (nI_1 _) (by decide) rfl ?_
                        refine jr_goto (tgt := 25) cx dX6_open_66 (by decide) ?_
                        refine jr_pick (L' := [(0, .ref (E.1 0)), (1, .int (nI (oA (fun a b c => decide (knC g a b c ∧ ¬ shC g a b c)) a + oB (fun a b c => decide (knC g a b c ∧ ¬ shC g a b c)) a k + sCb ((fun a b c => decide (knC g a b c ∧ ¬ shC g a b c)) a (a + 1 + k)) (a + 1 + k + 1) i))), (2, .int (nI a)), (3, .int (nI (a + 1 + k))), (4, .int (nI (a + 1 + k + 1 + i + 1)))]) [1, 2, 3, 4, 0] rfl ?_
                        have e1 : (nI (oA (fun a b c => decide (knC g a b c ∧ ¬ shC g a b c)) a + oB (fun a b c => decide (knC g a b c ∧ ¬ shC g a b c)) a k + sCb ((fun a b c => decide (knC g a b c ∧ ¬ shC g a b c)) a (a + 1 + k)) (a + 1 + k + 1) i) : Int32) = (nI (oA (fun a b c => decide (knC g a b c ∧ ¬ shC g a b c)) a + oB (fun a b c => decide (knC g a b c ∧ ¬ shC g a b c)) a k + sCb ((fun a b c => decide (knC g a b c ∧ ¬ shC g a b c)) a (a + 1 + k)) (a + 1 + k + 1) (i + 1))) := by rw [sCb, if_neg (by simp only [decide_eq_true_eq]; exact fun z => z.2 c57)]; try rfl
                        have e4 : (nI (a + 1 + k + 1 + i + 1) : Int32) = (nI (a + 1 + k + 1 + (i + 1))) := by rfl
                        refine jr_loc (lc_n (lc_i e1 (lc_n (lc_n (lc_i e4 rfl))))) ?_
                        exact ih3 (i + 1) (by omega) (by omega)
                      · refine jr_iinc (n := 1) (v := nI (oA (fun a b c => decide (knC g a b c ∧ ¬ shC g a b c)) a + oB (fun a b c => decide (knC g a b c ∧ ¬ shC g a b c)) a k + sCb ((fun a b c => decide (knC g a b c ∧ ¬ shC g a b c)) a (a + 1 + k)) (a + 1 + k + 1) i + 1)) (L' := [(1, .int (nI (oA (fun a b c => decide (knC g a b c ∧ ¬ shC g a b c)) a + oB (fun a b c => decide (knC g a b c ∧ ¬ shC g a b c)) a k + sCb ((fun a b c => decide (knC g a b c ∧ ¬ shC g a b c)) a (a + 1 + k)) (a + 1 + k + 1) i + 1))), (0, .ref (E.1 0)), (2, .int (nI a)), (3, .int (nI (a + 1 + k))), (4, .int (nI (a + 1 + k + 1 + i)))]) cx dX6_open_60 rfl (nI_1 _) (by decide) rfl ?_
                        refine jr_iinc (n := 4) (v := nI (a + 1 + k + 1 + i + 1)) (L' := [(4, .int (nI (a + 1 + k + 1 + i + 1))), (1, .int (nI (oA (fun a b c => decide (knC g a b c ∧ ¬ shC g a b c)) a + oB (fun a b c => decide (knC g a b c ∧ ¬ shC g a b c)) a k + sCb ((fun a b c => decide (knC g a b c ∧ ¬ shC g a b c)) a (a + 1 + k)) (a + 1 + k + 1) i + 1))), (0, .ref (E.1 0)), (2, .int (nI a)), (3, .int (nI (a + 1 + k)))]) cx dX6_open_63 rfl (nI_1 _) (by decide) rfl ?_
                        refine jr_goto (tgt := 25) cx dX6_open_66 (by decide) ?_
                        refine jr_pick (L' := [(0, .ref (E.1 0)), (1, .int (nI (oA (fun a b c => decide (knC g a b c ∧ ¬ shC g a b c)) a + oB (fun a b c => decide (knC g a b c ∧ ¬ shC g a b c)) a k + sCb ((fun a b c => decide (knC g a b c ∧ ¬ shC g a b c)) a (a + 1 + k)) (a + 1 + k + 1) i + 1))), (2, .int (nI a)), (3, .int (nI (a + 1 + k))), (4, .int (nI (a + 1 + k + 1 + i + 1)))]) [2, 1, 3, 4, 0] rfl ?_
                        have e1 : (nI (oA (fun a b c => decide (knC g a b c ∧ ¬ shC g a b c)) a + oB (fun a b c => decide (knC g a b c ∧ ¬ shC g a b c)) a k + sCb ((fun a b c => decide (knC g a b c ∧ ¬ shC g a b c)) a (a + 1 + k)) (a + 1 + k + 1) i + 1) : Int32) = (nI (oA (fun a b c => decide (knC g a b c ∧ ¬ shC g a b c)) a + oB (fun a b c => decide (knC g a b c ∧ ¬ shC g a b c)) a k + sCb ((fun a b c => decide (knC g a b c ∧ ¬ shC g a b c)) a (a + 1 + k)) (a + 1 + k + 1) (i + 1))) := by rw [sCb, if_pos (by simp only [decide_eq_true_eq]; exact ⟨c43, c57⟩)]; try rfl
                        have e4 : (nI (a + 1 + k + 1 + i + 1) : Int32) = (nI (a + 1 + k + 1 + (i + 1))) := by rfl
                        refine jr_loc (lc_n (lc_i e1 (lc_n (lc_n (lc_i e4 rfl))))) ?_
                        exact ih3 (i + 1) (by omega) (by omega)
              refine jr_pick (L' := [(0, .ref (E.1 0)), (1, .int (nI (oA (fun a b c => decide (knC g a b c ∧ ¬ shC g a b c)) a + oB (fun a b c => decide (knC g a b c ∧ ¬ shC g a b c)) a k))), (2, .int (nI a)), (3, .int (nI (a + 1 + k))), (4, .int (nI ((a + 1 + k) + 1)))]) [1, 2, 3, 4, 0] rfl ?_
              have e1 : (nI (oA (fun a b c => decide (knC g a b c ∧ ¬ shC g a b c)) a + oB (fun a b c => decide (knC g a b c ∧ ¬ shC g a b c)) a k) : Int32) = (nI (oA (fun a b c => decide (knC g a b c ∧ ¬ shC g a b c)) a + oB (fun a b c => decide (knC g a b c ∧ ¬ shC g a b c)) a k + sCb ((fun a b c => decide (knC g a b c ∧ ¬ shC g a b c)) a (a + 1 + k)) (a + 1 + k + 1) 0)) := by rfl
              have e4 : (nI ((a + 1 + k) + 1) : Int32) = (nI (a + 1 + k + 1 + 0)) := by rfl
              refine jr_loc (lc_n (lc_i e1 (lc_n (lc_n (lc_i e4 rfl))))) ?_
              exact key3 (6) 0 (by omega) (by omega)
        refine jr_pick (L' := [(0, .ref (E.1 0)), (1, .int (nI (oA (fun a b c => decide (knC g a b c ∧ ¬ shC g a b c)) a))), (2, .int (nI a)), (3, .int (nI (a + 1)))]) [1, 2, 3, 0] rfl ?_
        have e1 : (nI (oA (fun a b c => decide (knC g a b c ∧ ¬ shC g a b c)) a) : Int32) = (nI (oA (fun a b c => decide (knC g a b c ∧ ¬ shC g a b c)) a + oB (fun a b c => decide (knC g a b c ∧ ¬ shC g a b c)) a 0)) := by rfl
        have e3 : (nI (a + 1) : Int32) = (nI (a + 1 + 0)) := by rfl
        refine jr_loc (lc_n (lc_i e1 (lc_n (lc_i e3 rfl)))) ?_
        exact key2 (6) 0 (by omega) (by omega)
  refine jr_pick (L' := [(0, .ref (E.1 0)), (1, .int 0), (2, .int 0)]) [2, 1, 0] rfl ?_
  have e1 : (0 : Int32) = (nI (oA (fun a b c => decide (knC g a b c ∧ ¬ shC g a b c)) 0)) := by rfl
  have e2 : (0 : Int32) = (nI 0) := by rfl
  refine jr_loc (lc_n (lc_i e1 (lc_i e2 rfl))) ?_
  exact key1 (7) 0 (by omega) (by omega)
set_option maxHeartbeats 4000000 in
set_option maxRecDepth 100000 in
theorem c_X7_open (E : mm_E) (g : mm_I) (h : mm_L) : Ci E yX7_open wsX7_open 2 46 [.ref (E.1 7)] g h (nI (oA (fun a b c => decide (knM g a b c ∧ ¬ shM g a b c)) 6)) g h := by
  refine ci_i (bytes := cX7_open) (maxL := 5) (by decide) rfl (Nat.le_of_ble_eq_true rfl) (fun X cx hR => ?_)
  change Cx E X cX7_open RX7 wsX7_open 5 2 46 at cx
  change JJ E X g h 0 [(0, .ref (E.1 7))] []
  refine jr_iconst (v := 0) cx dX7_open_0 (by decide) ?_
  refine jr_istore_n (L' := [(1, .int 0), (0, .ref (E.1 7))]) cx dX7_open_1 rfl (by decide) rfl ?_
  refine jr_iconst (v := 0) cx dX7_open_2 (by decide) ?_
  refine jr_istore_n (L' := [(2, .int 0), (1, .int 0), (0, .ref (E.1 7))]) cx dX7_open_3 rfl (by decide) rfl ?_
  have key1 : ∀ (fu1 : Nat) (a : Nat), 7 ≤ a + fu1 → (a ≤ 6) → JJ E X g h 4 [(0, .ref (E.1 7)), (1, .int (nI (oA (fun a b c => decide (knM g a b c ∧ ¬ shM g a b c)) a))), (2, .int (nI a))] [] := by
    intro fu1
    induction fu1 with
    | zero => intro a hfu1 g1; exfalso; omega
    | succ fu1 ih1 =>
      intro a hfu1 g1
      refine jr_iload_n cx dX7_open_4 2 rfl rfl ?_
      refine jr_bipush (v := 6) cx dX7_open_5 (by decide) ?_
      refine jr_icmp_ge (tgt := 80) cx dX7_open_7 (by decide) (fun c7 => ?_) (fun c7 => ?_)
      · have n7 : 6 ≤ a := (nI_leI (a := 6) (b := a) (by omega) (by omega)).mp c7
        refine jr_iload_n cx dX7_open_80 1 rfl rfl ?_
        exact jr_ri (by rw [show a = 6 by omega]) (by rfl) (by rfl) (hR 81 _ dX7_open_81)
      · have n7 : ¬ (6 ≤ a) := fun zz => c7 ((nI_leI (a := 6) (b := a) (by omega) (by omega)).mpr zz)
        refine jr_iload_n cx dX7_open_10 2 rfl rfl ?_
        refine jr_iconst (v := 1) cx dX7_open_11 (by decide) ?_
        refine jr_iadd cx dX7_open_12 ?_
        refine jr_top (show (nI a : Int32) + 1 = nI (a + 1) from nI_add a 1) ?_
        refine jr_istore_n (L' := [(3, .int (nI (a + 1))), (0, .ref (E.1 7)), (1, .int (nI (oA (fun a b c => decide (knM g a b c ∧ ¬ shM g a b c)) a))), (2, .int (nI a))]) cx dX7_open_13 rfl (by decide) rfl ?_
        have key2 : ∀ (fu2 : Nat) (k : Nat), 6 ≤ a + k + fu2 → (a + 1 + k ≤ 6) → JJ E X g h 14 [(0, .ref (E.1 7)), (1, .int (nI (oA (fun a b c => decide (knM g a b c ∧ ¬ shM g a b c)) a + oB (fun a b c => decide (knM g a b c ∧ ¬ shM g a b c)) a k))), (2, .int (nI a)), (3, .int (nI (a + 1 + k)))] [] := by
          intro fu2
          induction fu2 with
          | zero => intro k hfu2 g2; exfalso; omega
          | succ fu2 ih2 =>
            intro k hfu2 g2
            refine jr_iload_n cx dX7_open_14 3 rfl rfl ?_
            refine jr_bipush (v := 6) cx dX7_open_15 (by decide) ?_
            refine jr_icmp_ge (tgt := 74) cx dX7_open_17 (by decide) (fun c17 => ?_) (fun c17 => ?_)
            · have n17 : 6 ≤ a + 1 + k := (nI_leI (a := 6) (b := a + 1 + k) (by omega) (by omega)).mp c17
              refine jr_iinc (n := 2) (v := nI (a + 1)) (L' := [(2, .int (nI (a + 1))), (0, .ref (E.1 7)), (1, .int (nI (oA (fun a b c => decide (knM g a b c ∧ ¬ shM g a b c)) a + oB (fun a b c => decide (knM g a b c ∧ ¬ shM g a b c)) a k))), (3, .int (nI (a + 1 + k)))]) cx dX7_open_74 rfl (nI_1 _) (by decide) rfl ?_
              refine jr_goto (tgt := 4) cx dX7_open_77 (by decide) ?_
              refine jr_pick (L' := [(0, .ref (E.1 7)), (1, .int (nI (oA (fun a b c => decide (knM g a b c ∧ ¬ shM g a b c)) a + oB (fun a b c => decide (knM g a b c ∧ ¬ shM g a b c)) a k))), (2, .int (nI (a + 1)))]) [1, 2, 0] rfl ?_
              have e1 : (nI (oA (fun a b c => decide (knM g a b c ∧ ¬ shM g a b c)) a + oB (fun a b c => decide (knM g a b c ∧ ¬ shM g a b c)) a k) : Int32) = (nI (oA (fun a b c => decide (knM g a b c ∧ ¬ shM g a b c)) (a + 1))) := by rw [oA, show 6 - (a + 1) = k by omega]
              refine jr_loc (lc_n (lc_i e1 (lc_n rfl))) ?_
              exact ih1 (a + 1) (by omega) (by omega)
            · have n17 : ¬ (6 ≤ a + 1 + k) := fun zz => c17 ((nI_leI (a := 6) (b := a + 1 + k) (by omega) (by omega)).mpr zz)
              refine jr_iload_n cx dX7_open_20 3 rfl rfl ?_
              refine jr_iconst (v := 1) cx dX7_open_21 (by decide) ?_
              refine jr_iadd cx dX7_open_22 ?_
              refine jr_top (show (nI (a + 1 + k) : Int32) + 1 = nI ((a + 1 + k) + 1) from nI_add (a + 1 + k) 1) ?_
              refine jr_istore (L' := [(4, .int (nI ((a + 1 + k) + 1))), (0, .ref (E.1 7)), (1, .int (nI (oA (fun a b c => decide (knM g a b c ∧ ¬ shM g a b c)) a + oB (fun a b c => decide (knM g a b c ∧ ¬ shM g a b c)) a k))), (2, .int (nI a)), (3, .int (nI (a + 1 + k)))]) cx dX7_open_23 (by decide) rfl ?_
              have key3 : ∀ (fu3 : Nat) (i : Nat), 6 ≤ a + k + i + fu3 → (a + 1 + k + 1 + i ≤ 6) → JJ E X g h 25 [(0, .ref (E.1 7)), (1, .int (nI (oA (fun a b c => decide (knM g a b c ∧ ¬ shM g a b c)) a + oB (fun a b c => decide (knM g a b c ∧ ¬ shM g a b c)) a k + sCb ((fun a b c => decide (knM g a b c ∧ ¬ shM g a b c)) a (a + 1 + k)) (a + 1 + k + 1) i))), (2, .int (nI a)), (3, .int (nI (a + 1 + k))), (4, .int (nI (a + 1 + k + 1 + i)))] [] := by
                intro fu3
                induction fu3 with
                | zero => intro i hfu3 g3; exfalso; omega
                | succ fu3 ih3 =>
                  intro i hfu3 g3
                  refine jr_iload cx dX7_open_25 4 rfl ?_
                  refine jr_bipush (v := 6) cx dX7_open_27 (by decide) ?_
                  refine jr_icmp_ge (tgt := 68) cx dX7_open_29 (by decide) (fun c29 => ?_) (fun c29 => ?_)
                  · have n29 : 6 ≤ a + 1 + k + 1 + i := (nI_leI (a := 6) (b := a + 1 + k + 1 + i) (by omega) (by omega)).mp c29
                    refine jr_iinc (n := 3) (v := nI (a + 1 + k + 1)) (L' := [(3, .int (nI (a + 1 + k + 1))), (0, .ref (E.1 7)), (1, .int (nI (oA (fun a b c => decide (knM g a b c ∧ ¬ shM g a b c)) a + oB (fun a b c => decide (knM g a b c ∧ ¬ shM g a b c)) a k + sCb ((fun a b c => decide (knM g a b c ∧ ¬ shM g a b c)) a (a + 1 + k)) (a + 1 + k + 1) i))), (2, .int (nI a)), (4, .int (nI (a + 1 + k + 1 + i)))]) cx dX7_open_68 rfl (nI_1 _) (by decide) rfl ?_
                    refine jr_goto (tgt := 14) cx dX7_open_71 (by decide) ?_
                    refine jr_pick (L' := [(0, .ref (E.1 7)), (1, .int (nI (oA (fun a b c => decide (knM g a b c ∧ ¬ shM g a b c)) a + oB (fun a b c => decide (knM g a b c ∧ ¬ shM g a b c)) a k + sCb ((fun a b c => decide (knM g a b c ∧ ¬ shM g a b c)) a (a + 1 + k)) (a + 1 + k + 1) i))), (2, .int (nI a)), (3, .int (nI (a + 1 + k + 1)))]) [1, 2, 3, 0] rfl ?_
                    have e1 : (nI (oA (fun a b c => decide (knM g a b c ∧ ¬ shM g a b c)) a + oB (fun a b c => decide (knM g a b c ∧ ¬ shM g a b c)) a k + sCb ((fun a b c => decide (knM g a b c ∧ ¬ shM g a b c)) a (a + 1 + k)) (a + 1 + k + 1) i) : Int32) = (nI (oA (fun a b c => decide (knM g a b c ∧ ¬ shM g a b c)) a + oB (fun a b c => decide (knM g a b c ∧ ¬ shM g a b c)) a (k + 1))) := by rw [oB, show 6 - (a + 1 + k + 1) = i by omega, ← Nat.add_assoc]
                    have e3 : (nI (a + 1 + k + 1) : Int32) = (nI (a + 1 + (k + 1))) := by rfl
                    refine jr_loc (lc_n (lc_i e1 (lc_n (lc_i e3 rfl)))) ?_
                    exact ih2 (k + 1) (by omega) (by omega)
                  · have n29 : ¬ (6 ≤ a + 1 + k + 1 + i) := fun zz => c29 ((nI_leI (a := 6) (b := a + 1 + k + 1 + i) (by omega) (by omega)).mpr zz)
                    refine jr_iload_n cx dX7_open_32 1 rfl rfl ?_
                    refine jr_aload_n cx dX7_open_33 0 rfl rfl ?_
                    refine jr_iload_n cx dX7_open_34 2 rfl rfl ?_
                    refine jr_iload_n cx dX7_open_35 3 rfl rfl ?_
                    refine jr_iload cx dX7_open_36 4 rfl ?_
                    refine jr_vi [.int (nI a), .int (nI (a + 1 + k)), .int (nI (a + 1 + k + 1 + i))] 3 cx dX7_open_38 (c_X7_isRing E g h a (a + 1 + k) (a + 1 + k + 1 + i) (by omega) (by omega) (by omega)) (by decide) rfl rfl gX7_open_X7_isRing rfl (by decide +kernel) ⟨Nat.le_of_ble_eq_true rfl, Nat.le_of_ble_eq_true rfl⟩ rfl rfl (Nat.le_of_ble_eq_true rfl) ?_
                    refine jr_bif_eq (tgt := 59) cx dX7_open_41 (by decide) (fun c41 => ?_) (fun c41 => ?_)
                    · refine jr_iconst (v := 0) cx dX7_open_59 (by decide) ?_
                      refine jr_iadd cx dX7_open_60 ?_
                      refine jr_top (show (nI (oA (fun a b c => decide (knM g a b c ∧ ¬ shM g a b c)) a + oB (fun a b c => decide (knM g a b c ∧ ¬ shM g a b c)) a k + sCb ((fun a b c => decide (knM g a b c ∧ ¬ shM g a b c)) a (a + 1 + k)) (a + 1 + k + 1) i) : Int32) + 0 = nI ((oA (fun a b c => decide (knM g a b c ∧ ¬ shM g a b c)) a + oB (fun a b c => decide (knM g a b c ∧ ¬ shM g a b c)) a k + sCb ((fun a b c => decide (knM g a b c ∧ ¬ shM g a b c)) a (a + 1 + k)) (a + 1 + k + 1) i) + 0) from nI_add (oA (fun a b c => decide (knM g a b c ∧ ¬ shM g a b c)) a + oB (fun a b c => decide (knM g a b c ∧ ¬ shM g a b c)) a k + sCb ((fun a b c => decide (knM g a b c ∧ ¬ shM g a b c)) a (a + 1 + k)) (a + 1 + k + 1) i) 0) ?_
                      refine jr_istore_n (L' := [(1, .int (nI ((oA (fun a b c => decide (knM g a b c ∧ ¬ shM g a b c)) a + oB (fun a b c => decide (knM g a b c ∧ ¬ shM g a b c)) a k + sCb ((fun a b c => decide (knM g a b c ∧ ¬ shM g a b c)) a (a + 1 + k)) (a + 1 + k + 1) i) + 0))), (0, .ref (E.1 7)), (2, .int (nI a)), (3, .int (nI (a + 1 + k))), (4, .int (nI (a + 1 + k + 1 + i)))]) cx dX7_open_61 rfl (by decide) rfl ?_
                      refine jr_iinc (n := 4) (v := nI (a + 1 + k + 1 + i + 1)) (L' := [(4, .int (nI (a + 1 + k + 1 + i + 1))), (1, .int (nI ((oA (fun a b c => decide (knM g a b c ∧ ¬ shM g a b c)) a + oB (fun a b c => decide (knM g a b c ∧ ¬ shM g a b c)) a k + sCb ((fun a b c => decide (knM g a b c ∧ ¬ shM g a b c)) a (a + 1 + k)) (a + 1 + k + 1) i) + 0))), (0, .ref (E.1 7)), (2, .int (nI a)), (3, .int (nI (a + 1 + k)))]) cx dX7_open_62 rfl (nI_1 _) (by decide) rfl ?_
                      refine jr_goto (tgt := 25) cx dX7_open_65 (by decide) ?_
                      refine jr_pick (L' := [(0, .ref (E.1 7)), (1, .int (nI ((oA (fun a b c => decide (knM g a b c ∧ ¬ shM g a b c)) a + oB (fun a b c => decide (knM g a b c ∧ ¬ shM g a b c)) a k + sCb ((fun a b c => decide (knM g a b c ∧ ¬ shM g a b c)) a (a + 1 + k)) (a + 1 + k + 1) i) + 0))), (2, .int (nI a)), (3, .int (nI (a + 1 + k))), (4, .int (nI (a + 1 + k + 1 + i + 1)))]) [2, 1, 3, 4, 0] rfl ?_
                      have e1 : (nI ((oA (fun a b c => decide (knM g a b c ∧ ¬ shM g a b c)) a + oB (fun a b c => decide (knM g a b c ∧ ¬ shM g a b c)) a k + sCb ((fun a b c => decide (knM g a b c ∧ ¬ shM g a b c)) a (a + 1 + k)) (a + 1 + k + 1) i) + 0) : Int32) = (nI (oA (fun a b c => decide (knM g a b c ∧ ¬ shM g a b c)) a + oB (fun a b c => decide (knM g a b c ∧ ¬ shM g a b c)) a k + sCb ((fun a b c => decide (knM g a b c ∧ ¬ shM g a b c)) a (a + 1 + k)) (a + 1 + k + 1) (i + 1))) := by rw [sCb, if_neg (by simp only [decide_eq_true_eq]; exact fun z => c41 z.1)]; try rfl
                      have e4 : (nI (a + 1 + k + 1 + i + 1) : Int32) = (nI (a + 1 + k + 1 + (i + 1))) := by rfl
                      refine jr_loc (lc_n (lc_i e1 (lc_n (lc_n (lc_i e4 rfl))))) ?_
                      exact ih3 (i + 1) (by omega) (by omega)
                    · refine jr_aload_n cx dX7_open_44 0 rfl rfl ?_
                      refine jr_iload_n cx dX7_open_45 2 rfl rfl ?_
                      refine jr_iload_n cx dX7_open_46 3 rfl rfl ?_
                      refine jr_iload cx dX7_open_47 4 rfl ?_
                      refine jr_vi [.int (nI a), .int (nI (a + 1 + k)), .int (nI (a + 1 + k + 1 + i))] 3 cx dX7_open_49 (c_X7_isClosed E g h a (a + 1 + k) (a + 1 + k + 1 + i) (by omega) (by omega) (by omega)) (by decide) rfl rfl gX7_open_X7_isClosed rfl (by decide +kernel) ⟨Nat.le_of_ble_eq_true rfl, Nat.le_of_ble_eq_true rfl⟩ rfl rfl (Nat.le_of_ble_eq_true rfl) ?_
                      refine jr_bif_ne (tgt := 59) cx dX7_open_52 (by decide) (fun c52 => ?_) (fun c52 => ?_)
                      · refine jr_iconst (v := 0) cx dX7_open_59 (by decide) ?_
                        refine jr_iadd cx dX7_open_60 ?_
                        refine jr_top (show (nI (oA (fun a b c => decide (knM g a b c ∧ ¬ shM g a b c)) a + oB (fun a b c => decide (knM g a b c ∧ ¬ shM g a b c)) a k + sCb ((fun a b c => decide (knM g a b c ∧ ¬ shM g a b c)) a (a + 1 + k)) (a + 1 + k + 1) i) : Int32) + 0 = nI ((oA (fun a b c => decide (knM g a b c ∧ ¬ shM g a b c)) a + oB (fun a b c => decide (knM g a b c ∧ ¬ shM g a b c)) a k + sCb ((fun a b c => decide (knM g a b c ∧ ¬ shM g a b c)) a (a + 1 + k)) (a + 1 + k + 1) i) + 0) from nI_add (oA (fun a b c => decide (knM g a b c ∧ ¬ shM g a b c)) a + oB (fun a b c => decide (knM g a b c ∧ ¬ shM g a b c)) a k + sCb ((fun a b c => decide (knM g a b c ∧ ¬ shM g a b c)) a (a + 1 + k)) (a + 1 + k + 1) i) 0) ?_
                        refine jr_istore_n (L' := [(1, .int (nI ((oA (fun a b c => decide (knM g a b c ∧ ¬ shM g a b c)) a + oB (fun a b c => decide (knM g a b c ∧ ¬ shM g a b c)) a k + sCb ((fun a b c => decide (knM g a b c ∧ ¬ shM g a b c)) a (a + 1 + k)) (a + 1 + k + 1) i) + 0))), (0, .ref (E.1 7)), (2, .int (nI a)), (3, .int (nI (a + 1 + k))), (4, .int (nI (a + 1 + k + 1 + i)))]) cx dX7_open_61 rfl (by decide) rfl ?_
                        refine jr_iinc (n := 4) (v := nI (a + 1 + k + 1 + i + 1)) (L' := [(4, .int (nI (a + 1 + k + 1 + i + 1))), (1, .int (nI ((oA (fun a b c => decide (knM g a b c ∧ ¬ shM g a b c)) a + oB (fun a b c => decide (knM g a b c ∧ ¬ shM g a b c)) a k + sCb ((fun a b c => decide (knM g a b c ∧ ¬ shM g a b c)) a (a + 1 + k)) (a + 1 + k + 1) i) + 0))), (0, .ref (E.1 7)), (2, .int (nI a)), (3, .int (nI (a + 1 + k)))]) cx dX7_open_62 rfl (nI_1 _) (by decide) rfl ?_
                        refine jr_goto (tgt := 25) cx dX7_open_65 (by decide) ?_
                        refine jr_pick (L' := [(0, .ref (E.1 7)), (1, .int (nI ((oA (fun a b c => decide (knM g a b c ∧ ¬ shM g a b c)) a + oB (fun a b c => decide (knM g a b c ∧ ¬ shM g a b c)) a k + sCb ((fun a b c => decide (knM g a b c ∧ ¬ shM g a b c)) a (a + 1 + k)) (a + 1 + k + 1) i) + 0))), (2, .int (nI a)), (3, .int (nI (a + 1 + k))), (4, .int (nI (a + 1 + k + 1 + i + 1)))]) [2, 1, 3, 4, 0] rfl ?_
                        have e1 : (nI ((oA (fun a b c => decide (knM g a b c ∧ ¬ shM g a b c)) a + oB (fun a b c => decide (knM g a b c ∧ ¬ shM g a b c)) a k + sCb ((fun a b c => decide (knM g a b c ∧ ¬ shM g a b c)) a (a + 1 + k)) (a + 1 + k + 1) i) + 0) : Int32) = (nI (oA (fun a b c => decide (knM g a b c ∧ ¬ shM g a b c)) a + oB (fun a b c => decide (knM g a b c ∧ ¬ shM g a b c)) a k + sCb ((fun a b c => decide (knM g a b c ∧ ¬ shM g a b c)) a (a + 1 + k)) (a + 1 + k + 1) (i + 1))) := by rw [sCb, if_neg (by simp only [decide_eq_true_eq]; exact fun z => z.2 c52)]; try rfl
                        have e4 : (nI (a + 1 + k + 1 + i + 1) : Int32) = (nI (a + 1 + k + 1 + (i + 1))) := by rfl
                        refine jr_loc (lc_n (lc_i e1 (lc_n (lc_n (lc_i e4 rfl))))) ?_
                        exact ih3 (i + 1) (by omega) (by omega)
                      · refine jr_iconst (v := 1) cx dX7_open_55 (by decide) ?_
                        refine jr_goto (tgt := 60) cx dX7_open_56 (by decide) ?_
                        refine jr_iadd cx dX7_open_60 ?_
                        refine jr_top (show (nI (oA (fun a b c => decide (knM g a b c ∧ ¬ shM g a b c)) a + oB (fun a b c => decide (knM g a b c ∧ ¬ shM g a b c)) a k + sCb ((fun a b c => decide (knM g a b c ∧ ¬ shM g a b c)) a (a + 1 + k)) (a + 1 + k + 1) i) : Int32) + 1 = nI ((oA (fun a b c => decide (knM g a b c ∧ ¬ shM g a b c)) a + oB (fun a b c => decide (knM g a b c ∧ ¬ shM g a b c)) a k + sCb ((fun a b c => decide (knM g a b c ∧ ¬ shM g a b c)) a (a + 1 + k)) (a + 1 + k + 1) i) + 1) from nI_add (oA (fun a b c => decide (knM g a b c ∧ ¬ shM g a b c)) a + oB (fun a b c => decide (knM g a b c ∧ ¬ shM g a b c)) a k + sCb ((fun a b c => decide (knM g a b c ∧ ¬ shM g a b c)) a (a + 1 + k)) (a + 1 + k + 1) i) 1) ?_
                        refine jr_istore_n (L' := [(1, .int (nI ((oA (fun a b c => decide (knM g a b c ∧ ¬ shM g a b c)) a + oB (fun a b c => decide (knM g a b c ∧ ¬ shM g a b c)) a k + sCb ((fun a b c => decide (knM g a b c ∧ ¬ shM g a b c)) a (a + 1 + k)) (a + 1 + k + 1) i) + 1))), (0, .ref (E.1 7)), (2, .int (nI a)), (3, .int (nI (a + 1 + k))), (4, .int (nI (a + 1 + k + 1 + i)))]) cx dX7_open_61 rfl (by decide) rfl ?_
                        refine jr_iinc (n := 4) (v := nI (a + 1 + k + 1 + i + 1)) (L' := [(4, .int (nI (a + 1 + k + 1 + i + 1))), (1, .int (nI ((oA (fun a b c => decide (knM g a b c ∧ ¬ shM g a b c)) a + oB (fun a b c => decide (knM g a b c ∧ ¬ shM g a b c)) a k + sCb ((fun a b c => decide (knM g a b c ∧ ¬ shM g a b c)) a (a + 1 + k)) (a + 1 + k + 1) i) + 1))), (0, .ref (E.1 7)), (2, .int (nI a)), (3, .int (nI (a + 1 + k)))]) cx dX7_open_62 rfl (nI_1 _) (by decide) rfl ?_
                        refine jr_goto (tgt := 25) cx dX7_open_65 (by decide) ?_
                        refine jr_pick (L' := [(0, .ref (E.1 7)), (1, .int (nI ((oA (fun a b c => decide (knM g a b c ∧ ¬ shM g a b c)) a + oB (fun a b c => decide (knM g a b c ∧ ¬ shM g a b c)) a k + sCb ((fun a b c => decide (knM g a b c ∧ ¬ shM g a b c)) a (a + 1 + k)) (a + 1 + k + 1) i) + 1))), (2, .int (nI a)), (3, .int (nI (a + 1 + k))), (4, .int (nI (a + 1 + k + 1 + i + 1)))]) [2, 1, 3, 4, 0] rfl ?_
                        have e1 : (nI ((oA (fun a b c => decide (knM g a b c ∧ ¬ shM g a b c)) a + oB (fun a b c => decide (knM g a b c ∧ ¬ shM g a b c)) a k + sCb ((fun a b c => decide (knM g a b c ∧ ¬ shM g a b c)) a (a + 1 + k)) (a + 1 + k + 1) i) + 1) : Int32) = (nI (oA (fun a b c => decide (knM g a b c ∧ ¬ shM g a b c)) a + oB (fun a b c => decide (knM g a b c ∧ ¬ shM g a b c)) a k + sCb ((fun a b c => decide (knM g a b c ∧ ¬ shM g a b c)) a (a + 1 + k)) (a + 1 + k + 1) (i + 1))) := by rw [sCb, if_pos (by simp only [decide_eq_true_eq]; exact ⟨c41, c52⟩)]; try rfl
                        have e4 : (nI (a + 1 + k + 1 + i + 1) : Int32) = (nI (a + 1 + k + 1 + (i + 1))) := by rfl
                        refine jr_loc (lc_n (lc_i e1 (lc_n (lc_n (lc_i e4 rfl))))) ?_
                        exact ih3 (i + 1) (by omega) (by omega)
              refine jr_pick (L' := [(0, .ref (E.1 7)), (1, .int (nI (oA (fun a b c => decide (knM g a b c ∧ ¬ shM g a b c)) a + oB (fun a b c => decide (knM g a b c ∧ ¬ shM g a b c)) a k))), (2, .int (nI a)), (3, .int (nI (a + 1 + k))), (4, .int (nI ((a + 1 + k) + 1)))]) [1, 2, 3, 4, 0] rfl ?_
              have e1 : (nI (oA (fun a b c => decide (knM g a b c ∧ ¬ shM g a b c)) a + oB (fun a b c => decide (knM g a b c ∧ ¬ shM g a b c)) a k) : Int32) = (nI (oA (fun a b c => decide (knM g a b c ∧ ¬ shM g a b c)) a + oB (fun a b c => decide (knM g a b c ∧ ¬ shM g a b c)) a k + sCb ((fun a b c => decide (knM g a b c ∧ ¬ shM g a b c)) a (a + 1 + k)) (a + 1 + k + 1) 0)) := by rfl
              have e4 : (nI ((a + 1 + k) + 1) : Int32) = (nI (a + 1 + k + 1 + 0)) := by rfl
              refine jr_loc (lc_n (lc_i e1 (lc_n (lc_n (lc_i e4 rfl))))) ?_
              exact key3 (6) 0 (by omega) (by omega)
        refine jr_pick (L' := [(0, .ref (E.1 7)), (1, .int (nI (oA (fun a b c => decide (knM g a b c ∧ ¬ shM g a b c)) a))), (2, .int (nI a)), (3, .int (nI (a + 1)))]) [1, 2, 3, 0] rfl ?_
        have e1 : (nI (oA (fun a b c => decide (knM g a b c ∧ ¬ shM g a b c)) a) : Int32) = (nI (oA (fun a b c => decide (knM g a b c ∧ ¬ shM g a b c)) a + oB (fun a b c => decide (knM g a b c ∧ ¬ shM g a b c)) a 0)) := by rfl
        have e3 : (nI (a + 1) : Int32) = (nI (a + 1 + 0)) := by rfl
        refine jr_loc (lc_n (lc_i e1 (lc_n (lc_i e3 rfl)))) ?_
        exact key2 (6) 0 (by omega) (by omega)
  refine jr_pick (L' := [(0, .ref (E.1 7)), (1, .int 0), (2, .int 0)]) [2, 1, 0] rfl ?_
  have e1 : (0 : Int32) = (nI (oA (fun a b c => decide (knM g a b c ∧ ¬ shM g a b c)) 0)) := by rfl
  have e2 : (0 : Int32) = (nI 0) := by rfl
  refine jr_loc (lc_n (lc_i e1 (lc_i e2 rfl))) ?_
  exact key1 (7) 0 (by omega) (by omega)
