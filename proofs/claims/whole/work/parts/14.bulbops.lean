def dBulb {α : Type} (k t : Int32) (n : Nat) (bad full ok : α) : α := if ¬ k < 0 ∧ ¬ 3 < k then (if ¬ t < 0 ∧ ¬ 10000 < t then (if n = 16 then full else ok) else bad) else bad
def adM (g : mm_I) (n : Nat) (k t : Int32) : mm_I := up2 (up2 (up2 g 20 n k) 21 n t) 7 13 (nI (n + 1))
def dHas {α : Type} (n : Nat) (b : Int32) (bad : α) (ok : Nat → α) : α := if ¬ b < 0 ∧ ¬ nI n - 1 < b then ok b.toNatClampNeg else bad
def dTold (nb : Nat) (b q : Int32) (f0 f1 f2 f3 f4 : Nat → Int32) : Int32 := dHas nb b (-1) (fun d => if q = 0 then f0 d else if q = 1 then f1 d else if q = 2 then f2 d else if q = 3 then f3 d else if q = 4 then f4 d else -1)
set_option maxHeartbeats 4000000 in
set_option maxRecDepth 100000 in
theorem c_X6_bulb (E : mm_E) (g : mm_I) (h : mm_L) (k t : Int32) (nb : Nat) (hnb : nb ≤ 16) (hsb : g 3 2 = nI nb) : Ci E yX6_bulb wsX6_bulb 1 22 [.ref (E.1 0), .int k, .int t] g h (dBulb k t nb (-1) (-2) (nI nb)) (dBulb k t nb g g (adB g nb k t)) h := by
  refine ci_i (bytes := cX6_bulb) (maxL := 3) (by decide) rfl (Nat.le_of_ble_eq_true rfl) (fun X cx hR => ?_)
  change Cx E X cX6_bulb RX6 wsX6_bulb 3 1 22 at cx
  change JJ E X g h 0 [(0, .ref (E.1 0)), (1, .int k), (2, .int t)] []
  have hinX6 : ∀ w ∈ u_ws RX6 TX6 9, w ∈ wsX6_bulb := by decide +kernel
  have mf_26 : Cond.fieldLink RX6 26 (TX6 2).1 (TX6 2).2.1 (TX6 2).2.2.1 ∈ wsX6_bulb := by decide +kernel
  refine jr_iload_n cx dX6_bulb_0 1 rfl rfl ?_
  refine jr_iconst (v := 0) cx dX6_bulb_1 (by decide) ?_
  refine jr_iconst (v := 3) cx dX6_bulb_2 (by decide) ?_
  refine jr_si [.int k, .int 0, .int 3] 3 cx dX6_bulb_3 (c_X6_isBetween E g h k 0 3) gX6_bulb_X6_isBetween rfl (by decide +kernel) ⟨Nat.le_of_ble_eq_true rfl, Nat.le_of_ble_eq_true rfl⟩ rfl rfl (Nat.le_of_ble_eq_true rfl) ?_
  refine jr_bif_eq (tgt := 20) cx dX6_bulb_6 (by decide) (fun c6 => ?_) (fun c6 => ?_)
  · refine jr_iconst (v := (-1)) cx dX6_bulb_20 (by decide) ?_
    exact jr_ri (by simp only [dBulb, ite_self, if_neg c6]) (by simp only [dBulb, ite_self, if_neg c6]) (by rfl) (hR 21 _ dX6_bulb_21)
  · refine jr_iload_n cx dX6_bulb_9 2 rfl rfl ?_
    refine jr_iconst (v := 0) cx dX6_bulb_10 (by decide) ?_
    refine jr_sipush (v := 10000) cx dX6_bulb_11 (by decide) ?_
    refine jr_si [.int t, .int 0, .int 10000] 3 cx dX6_bulb_14 (c_X6_isBetween E g h t 0 10000) gX6_bulb_X6_isBetween rfl (by decide +kernel) ⟨Nat.le_of_ble_eq_true rfl, Nat.le_of_ble_eq_true rfl⟩ rfl rfl (Nat.le_of_ble_eq_true rfl) ?_
    refine jr_bif_ne (tgt := 22) cx dX6_bulb_17 (by decide) (fun c17 => ?_) (fun c17 => ?_)
    · refine jr_aload_n cx dX6_bulb_22 0 rfl rfl ?_
      refine jr_get (f := 2) (v := .ref (E.1 3)) cx dX6_bulb_23 (by decide) rfl rfl hinX6 (by decide) mf_26 rfl ?_
      refine jr_vi [] 0 cx dX6_bulb_26 (c_X0_size E g h ) (by decide) rfl rfl gX6_bulb_X0_size rfl (by decide +kernel) ⟨Nat.le_of_ble_eq_true rfl, Nat.le_of_ble_eq_true rfl⟩ rfl rfl (Nat.le_of_ble_eq_true rfl) ?_
      refine jr_top hsb ?_
      refine jr_bipush (v := 16) cx dX6_bulb_29 (by decide) ?_
      refine jr_icmp_lt (tgt := 39) cx dX6_bulb_31 (by decide) (fun c31 => ?_) (fun c31 => ?_)
      · have n31 : nb < 16 := (nI_ltI (a := nb) (b := 16) (by omega) (by omega)).mp c31
        refine jr_aload_n cx dX6_bulb_39 0 rfl rfl ?_
        refine jr_get (f := 2) (v := .ref (E.1 3)) cx dX6_bulb_40 (by decide) rfl rfl hinX6 (by decide) mf_26 rfl ?_
        refine jr_iload_n cx dX6_bulb_43 1 rfl rfl ?_
        refine jr_iload_n cx dX6_bulb_44 2 rfl rfl ?_
        refine jr_vi [.int k, .int t] 2 cx dX6_bulb_45 (c_X0_add E g h k t nb (by omega) hsb) (by decide) rfl rfl gX6_bulb_X0_add rfl (by decide +kernel) ⟨Nat.le_of_ble_eq_true rfl, Nat.le_of_ble_eq_true rfl⟩ rfl rfl (Nat.le_of_ble_eq_true rfl) ?_
        exact jr_ri (by simp only [dBulb, ite_self, if_pos c6, if_pos c17]; rw [if_neg (by omega)]) (by simp only [dBulb, ite_self, if_pos c6, if_pos c17]; rw [if_neg (by omega)]) (by rfl) (hR 48 _ dX6_bulb_48)
      · have n31 : ¬ (nb < 16) := fun zz => c31 ((nI_ltI (a := nb) (b := 16) (by omega) (by omega)).mpr zz)
        refine jr_bipush (v := (-2)) cx dX6_bulb_34 (by decide) ?_
        refine jr_goto (tgt := 48) cx dX6_bulb_36 (by decide) ?_
        exact jr_ri (by simp only [dBulb, ite_self, if_pos c6, if_pos c17]; rw [if_pos (by omega)]) (by simp only [dBulb, ite_self, if_pos c6, if_pos c17]; rw [if_pos (by omega)]) (by rfl) (hR 48 _ dX6_bulb_48)
    · refine jr_iconst (v := (-1)) cx dX6_bulb_20 (by decide) ?_
      exact jr_ri (by simp only [dBulb, ite_self, if_pos c6, if_neg c17]) (by simp only [dBulb, ite_self, if_pos c6, if_neg c17]) (by rfl) (hR 21 _ dX6_bulb_21)
set_option maxHeartbeats 4000000 in
set_option maxRecDepth 100000 in
theorem c_X7_bulb (E : mm_E) (g : mm_I) (h : mm_L) (k t : Int32) (nb : Nat) (hnb : nb ≤ 16) (hsb : g 7 13 = nI nb) : Ci E yX7_bulb wsX7_bulb 1 22 [.ref (E.1 7), .int k, .int t] g h (dBulb k t nb (-1) (-2) (nI nb)) (dBulb k t nb g g (adM g nb k t)) h := by
  refine ci_i (bytes := cX7_bulb) (maxL := 3) (by decide) rfl (Nat.le_of_ble_eq_true rfl) (fun X cx hR => ?_)
  change Cx E X cX7_bulb RX7 wsX7_bulb 3 1 22 at cx
  change JJ E X g h 0 [(0, .ref (E.1 7)), (1, .int k), (2, .int t)] []
  have hinX7 : ∀ w ∈ u_ws RX7 TX7 30, w ∈ wsX7_bulb := by decide +kernel
  have mf_144 : Cond.fieldLink RX7 144 (TX7 13).1 (TX7 13).2.1 (TX7 13).2.2.1 ∈ wsX7_bulb := by decide +kernel
  have mf_35 : Cond.fieldLink RX7 35 (TX7 14).1 (TX7 14).2.1 (TX7 14).2.2.1 ∈ wsX7_bulb := by decide +kernel
  have mf_38 : Cond.fieldLink RX7 38 (TX7 15).1 (TX7 15).2.1 (TX7 15).2.2.1 ∈ wsX7_bulb := by decide +kernel
  refine jr_iload_n cx dX7_bulb_0 1 rfl rfl ?_
  refine jr_iconst (v := 0) cx dX7_bulb_1 (by decide) ?_
  refine jr_iconst (v := 3) cx dX7_bulb_2 (by decide) ?_
  refine jr_si [.int k, .int 0, .int 3] 3 cx dX7_bulb_3 (c_X7_in E g h k 0 3) gX7_bulb_X7_in rfl (by decide +kernel) ⟨Nat.le_of_ble_eq_true rfl, Nat.le_of_ble_eq_true rfl⟩ rfl rfl (Nat.le_of_ble_eq_true rfl) ?_
  refine jr_bif_eq (tgt := 20) cx dX7_bulb_6 (by decide) (fun c6 => ?_) (fun c6 => ?_)
  · refine jr_iconst (v := (-1)) cx dX7_bulb_20 (by decide) ?_
    exact jr_ri (by simp only [dBulb, ite_self, if_neg c6]; try rfl) (by simp only [dBulb, ite_self, if_neg c6]; try rfl) (by rfl) (hR 21 _ dX7_bulb_21)
  · refine jr_iload_n cx dX7_bulb_9 2 rfl rfl ?_
    refine jr_iconst (v := 0) cx dX7_bulb_10 (by decide) ?_
    refine jr_sipush (v := 10000) cx dX7_bulb_11 (by decide) ?_
    refine jr_si [.int t, .int 0, .int 10000] 3 cx dX7_bulb_14 (c_X7_in E g h t 0 10000) gX7_bulb_X7_in rfl (by decide +kernel) ⟨Nat.le_of_ble_eq_true rfl, Nat.le_of_ble_eq_true rfl⟩ rfl rfl (Nat.le_of_ble_eq_true rfl) ?_
    refine jr_bif_ne (tgt := 22) cx dX7_bulb_17 (by decide) (fun c17 => ?_) (fun c17 => ?_)
    · refine jr_aload_n cx dX7_bulb_22 0 rfl rfl ?_
      refine jr_get (f := 13) (v := .int (g 7 13)) cx dX7_bulb_23 (by decide) rfl rfl hinX7 (by decide) mf_144 rfl ?_
      refine jr_top hsb ?_
      refine jr_bipush (v := 16) cx dX7_bulb_26 (by decide) ?_
      refine jr_icmp_ne (tgt := 34) cx dX7_bulb_28 (by decide) (fun c28 => ?_) (fun c28 => ?_)
      · have n28 : ¬ (nb = 16) := fun zz => c28 ((nI_eq (a := nb) (b := 16) (by omega) (by omega)).mpr zz)
        refine jr_aload_n cx dX7_bulb_34 0 rfl rfl ?_
        refine jr_get (f := 14) (v := .ref (E.1 20)) cx dX7_bulb_35 (by decide) rfl rfl hinX7 (by decide) mf_35 rfl ?_
        refine jr_aload_n cx dX7_bulb_38 0 rfl rfl ?_
        refine jr_get (f := 13) (v := .int (g 7 13)) cx dX7_bulb_39 (by decide) rfl rfl hinX7 (by decide) mf_144 rfl ?_
        refine jr_top hsb ?_
        refine jr_iload_n cx dX7_bulb_42 1 rfl rfl ?_
        refine jr_iast cx dX7_bulb_43 (Or.inl ⟨by decide, by decide⟩) nb rfl (show _ < 16 by omega) ?_
        refine jr_aload_n cx dX7_bulb_44 0 rfl rfl ?_
        refine jr_get (f := 15) (v := .ref (E.1 21)) cx dX7_bulb_45 (by decide) rfl rfl hinX7 (by decide) mf_38 rfl ?_
        refine jr_aload_n cx dX7_bulb_48 0 rfl rfl ?_
        refine jr_get (f := 13) (v := .int ((up2 g 20 nb k) 7 13)) cx dX7_bulb_49 (by decide) rfl rfl hinX7 (by decide) mf_144 rfl ?_
        refine jr_top (show _ = nI nb from hsb) ?_
        refine jr_iload_n cx dX7_bulb_52 2 rfl rfl ?_
        refine jr_iast cx dX7_bulb_53 (Or.inl ⟨by decide, by decide⟩) nb rfl (show _ < 16 by omega) ?_
        refine jr_aload_n cx dX7_bulb_54 0 rfl rfl ?_
        refine jr_dup cx dX7_bulb_55 rfl ?_
        refine jr_get (f := 13) (v := .int ((up2 (up2 g 20 nb k) 21 nb t) 7 13)) cx dX7_bulb_56 (by decide) rfl rfl hinX7 (by decide) mf_144 rfl ?_
        refine jr_top (show _ = nI nb from hsb) ?_
        refine jr_iconst (v := 1) cx dX7_bulb_59 (by decide) ?_
        refine jr_iadd cx dX7_bulb_60 ?_
        refine jr_top (show (nI nb : Int32) + 1 = nI (nb + 1) from nI_add nb 1) ?_
        refine jr_put_X7_13 cx dX7_bulb_61 hinX7 mf_144 ?_
        refine jr_aload_n cx dX7_bulb_64 0 rfl rfl ?_
        refine jr_get (f := 13) (v := .int ((up2 (up2 (up2 g 20 nb k) 21 nb t) 7 13 (nI (nb + 1))) 7 13)) cx dX7_bulb_65 (by decide) rfl rfl hinX7 (by decide) mf_144 rfl ?_
        refine jr_top (show _ = nI (nb + 1) from rfl) ?_
        refine jr_iconst (v := 1) cx dX7_bulb_68 (by decide) ?_
        refine jr_isub cx dX7_bulb_69 ?_
        refine jr_top (nI_pred nb) ?_
        exact jr_ri (by simp only [dBulb, ite_self, if_pos c6, if_pos c17]; rw [if_neg (by omega)]; try rfl) (by simp only [dBulb, ite_self, if_pos c6, if_pos c17]; rw [if_neg (by omega)]; try rfl) (by rfl) (hR 70 _ dX7_bulb_70)
      · have n28 : nb = 16 := (nI_eq (a := nb) (b := 16) (by omega) (by omega)).mp c28
        refine jr_bipush (v := (-2)) cx dX7_bulb_31 (by decide) ?_
        exact jr_ri (by simp only [dBulb, ite_self, if_pos c6, if_pos c17]; rw [if_pos (by omega)]; try rfl) (by simp only [dBulb, ite_self, if_pos c6, if_pos c17]; rw [if_pos (by omega)]; try rfl) (by rfl) (hR 33 _ dX7_bulb_33)
    · refine jr_iconst (v := (-1)) cx dX7_bulb_20 (by decide) ?_
      exact jr_ri (by simp only [dBulb, ite_self, if_pos c6, if_neg c17]; try rfl) (by simp only [dBulb, ite_self, if_pos c6, if_neg c17]; try rfl) (by rfl) (hR 21 _ dX7_bulb_21)
set_option maxHeartbeats 4000000 in
set_option maxRecDepth 100000 in
theorem c_X7_isBulb (E : mm_E) (g : mm_I) (h : mm_L) (b : Int32) (nb : Nat) (hnb : nb ≤ 16) (hsb : g 7 13 = nI nb) : Ci E yX7_isBulb wsX7_isBulb 1 22 [.ref (E.1 7), .int b] g h (bI (¬ b < 0 ∧ ¬ nI nb - 1 < b)) g h := by
  refine ci_z (bytes := cX7_isBulb) (maxL := 2) (by decide) rfl (Nat.le_of_ble_eq_true rfl) (bI_01 _) (fun X cx hR => ?_)
  change Cx E X cX7_isBulb RX7 wsX7_isBulb 2 1 22 at cx
  change JJ E X g h 0 [(0, .ref (E.1 7)), (1, .int b)] []
  have hinX7 : ∀ w ∈ u_ws RX7 TX7 30, w ∈ wsX7_isBulb := by decide +kernel
  have mf_144 : Cond.fieldLink RX7 144 (TX7 13).1 (TX7 13).2.1 (TX7 13).2.2.1 ∈ wsX7_isBulb := by decide +kernel
  refine jr_iload_n cx dX7_isBulb_0 1 rfl rfl ?_
  refine jr_iconst (v := 0) cx dX7_isBulb_1 (by decide) ?_
  refine jr_aload_n cx dX7_isBulb_2 0 rfl rfl ?_
  refine jr_get (f := 13) (v := .int (g 7 13)) cx dX7_isBulb_3 (by decide) rfl rfl hinX7 (by decide) mf_144 rfl ?_
  refine jr_top hsb ?_
  refine jr_iconst (v := 1) cx dX7_isBulb_6 (by decide) ?_
  refine jr_isub cx dX7_isBulb_7 ?_
  refine jr_si [.int b, .int 0, .int ((nI nb) - 1)] 3 cx dX7_isBulb_8 (c_X7_in E g h b 0 ((nI nb) - 1)) gX7_isBulb_X7_in rfl (by decide +kernel) ⟨Nat.le_of_ble_eq_true rfl, Nat.le_of_ble_eq_true rfl⟩ rfl rfl (Nat.le_of_ble_eq_true rfl) ?_
  exact jr_ri (by rfl) (by rfl) (by rfl) (hR 11 _ dX7_isBulb_11)
set_option maxHeartbeats 4000000 in
set_option maxRecDepth 100000 in
theorem c_X7_isCertificate (E : mm_E) (g : mm_I) (h : mm_L) (b : Int32) (n : Nat) (hn : n ≤ 40) (hs : g 7 16 = nI n) : Ci E yX7_isCertificate wsX7_isCertificate 1 22 [.ref (E.1 7), .int b] g h (bI (¬ b < 0 ∧ ¬ nI n - 1 < b)) g h := by
  refine ci_z (bytes := cX7_isCertificate) (maxL := 2) (by decide) rfl (Nat.le_of_ble_eq_true rfl) (bI_01 _) (fun X cx hR => ?_)
  change Cx E X cX7_isCertificate RX7 wsX7_isCertificate 2 1 22 at cx
  change JJ E X g h 0 [(0, .ref (E.1 7)), (1, .int b)] []
  have hinX7 : ∀ w ∈ u_ws RX7 TX7 30, w ∈ wsX7_isCertificate := by decide +kernel
  have mf_147 : Cond.fieldLink RX7 147 (TX7 16).1 (TX7 16).2.1 (TX7 16).2.2.1 ∈ wsX7_isCertificate := by decide +kernel
  refine jr_iload_n cx dX7_isCertificate_0 1 rfl rfl ?_
  refine jr_iconst (v := 0) cx dX7_isCertificate_1 (by decide) ?_
  refine jr_aload_n cx dX7_isCertificate_2 0 rfl rfl ?_
  refine jr_get (f := 16) (v := .int (g 7 16)) cx dX7_isCertificate_3 (by decide) rfl rfl hinX7 (by decide) mf_147 rfl ?_
  refine jr_top hs ?_
  refine jr_iconst (v := 1) cx dX7_isCertificate_6 (by decide) ?_
  refine jr_isub cx dX7_isCertificate_7 ?_
  refine jr_si [.int b, .int 0, .int ((nI n) - 1)] 3 cx dX7_isCertificate_8 (c_X7_in E g h b 0 ((nI n) - 1)) gX7_isCertificate_X7_in rfl (by decide +kernel) ⟨Nat.le_of_ble_eq_true rfl, Nat.le_of_ble_eq_true rfl⟩ rfl rfl (Nat.le_of_ble_eq_true rfl) ?_
  exact jr_ri (by rfl) (by rfl) (by rfl) (hR 11 _ dX7_isCertificate_11)
abbrev pLM (g : mm_I) (b d : Int32) : Nat → Prop := fun i => g 22 i = b ∧ g 31 i = 0 ∧ ¬ d < g 25 i
set_option maxHeartbeats 4000000 in
set_option maxRecDepth 100000 in
theorem c_X7_lastOf (E : mm_E) (g : mm_I) (h : mm_L) (b d : Int32) (c : Nat) (hc : c ≤ 40) : Ci E yX7_lastOf wsX7_lastOf 0 0 [.ref (E.1 7), .int b, .int d, .int (nI c)] g h (sLast (pLM g b d) c) g h := by
  refine ci_i (bytes := cX7_lastOf) (maxL := 6) (by decide) rfl (Nat.le_of_ble_eq_true rfl) (fun X cx hR => ?_)
  change Cx E X cX7_lastOf RX7 wsX7_lastOf 6 0 0 at cx
  change JJ E X g h 0 [(0, .ref (E.1 7)), (1, .int b), (2, .int d), (3, .int (nI c))] []
  have hinX7 : ∀ w ∈ u_ws RX7 TX7 30, w ∈ wsX7_lastOf := by decide +kernel
  have mf_41 : Cond.fieldLink RX7 41 (TX7 17).1 (TX7 17).2.1 (TX7 17).2.2.1 ∈ wsX7_lastOf := by decide +kernel
  have mf_62 : Cond.fieldLink RX7 62 (TX7 24).1 (TX7 24).2.1 (TX7 24).2.2.1 ∈ wsX7_lastOf := by decide +kernel
  have mf_50 : Cond.fieldLink RX7 50 (TX7 20).1 (TX7 20).2.1 (TX7 20).2.2.1 ∈ wsX7_lastOf := by decide +kernel
  refine jr_bipush (v := (-9)) cx dX7_lastOf_0 (by decide) ?_
  refine jr_istore (L' := [(4, .int (-9)), (0, .ref (E.1 7)), (1, .int b), (2, .int d), (3, .int (nI c))]) cx dX7_lastOf_2 (by decide) rfl ?_
  refine jr_iconst (v := 0) cx dX7_lastOf_4 (by decide) ?_
  refine jr_istore (L' := [(5, .int 0), (4, .int (-9)), (0, .ref (E.1 7)), (1, .int b), (2, .int d), (3, .int (nI c))]) cx dX7_lastOf_5 (by decide) rfl ?_
  have key1 : ∀ (fu1 : Nat) (i : Nat), c + 1 ≤ i + fu1 → (i ≤ c) → JJ E X g h 7 [(0, .ref (E.1 7)), (1, .int b), (2, .int d), (3, .int (nI c)), (4, .int (sLast (pLM g b d) i)), (5, .int (nI i))] [] := by
    intro fu1
    induction fu1 with
    | zero => intro i hfu1 h1; exfalso; omega
    | succ fu1 ih1 =>
      intro i hfu1 h1
      refine jr_iload cx dX7_lastOf_7 5 rfl ?_
      refine jr_iload_n cx dX7_lastOf_9 3 rfl rfl ?_
      refine jr_icmp_ge (tgt := 60) cx dX7_lastOf_10 (by decide) (fun c10 => ?_) (fun c10 => ?_)
      · have n10 : c ≤ i := (nI_leI (a := c) (b := i) (by omega) (by omega)).mp c10
        refine jr_iload cx dX7_lastOf_60 4 rfl ?_
        exact jr_ri (by rw [show i = c by omega]) (by rfl) (by rfl) (hR 62 _ dX7_lastOf_62)
      · have n10 : ¬ (c ≤ i) := fun zz => c10 ((nI_leI (a := c) (b := i) (by omega) (by omega)).mpr zz)
        refine jr_aload_n cx dX7_lastOf_13 0 rfl rfl ?_
        refine jr_get (f := 17) (v := .ref (E.1 22)) cx dX7_lastOf_14 (by decide) rfl rfl hinX7 (by decide) mf_41 rfl ?_
        refine jr_iload cx dX7_lastOf_17 5 rfl ?_
        refine jr_iald cx dX7_lastOf_19 (Or.inl ⟨by decide, by decide⟩) i rfl (show _ < 40 by omega) ?_
        refine jr_iload_n cx dX7_lastOf_20 1 rfl rfl ?_
        refine jr_icmp_ne (tgt := 50) cx dX7_lastOf_21 (by decide) (fun c21 => ?_) (fun c21 => ?_)
        · refine jr_iload cx dX7_lastOf_50 4 rfl ?_
          refine jr_istore (L' := [(4, .int (sLast (pLM g b d) i)), (0, .ref (E.1 7)), (1, .int b), (2, .int d), (3, .int (nI c)), (5, .int (nI i))]) cx dX7_lastOf_52 (by decide) rfl ?_
          refine jr_iinc (n := 5) (v := nI (i + 1)) (L' := [(5, .int (nI (i + 1))), (4, .int (sLast (pLM g b d) i)), (0, .ref (E.1 7)), (1, .int b), (2, .int d), (3, .int (nI c))]) cx dX7_lastOf_54 rfl (nI_1 _) (by decide) rfl ?_
          refine jr_goto (tgt := 7) cx dX7_lastOf_57 (by decide) ?_
          refine jr_pick (L' := [(0, .ref (E.1 7)), (1, .int b), (2, .int d), (3, .int (nI c)), (4, .int (sLast (pLM g b d) i)), (5, .int (nI (i + 1)))]) [2, 3, 4, 5, 1, 0] rfl ?_
          have e4 : (sLast (pLM g b d) i : Int32) = (sLast (pLM g b d) (i + 1)) := by exact (if_neg (fun q : pLM g b d i => c21 q.1)).symm
          refine jr_loc (lc_n (lc_n (lc_n (lc_n (lc_i e4 (lc_n rfl)))))) ?_
          exact ih1 (i + 1) (by omega) (by omega)
        · refine jr_aload_n cx dX7_lastOf_24 0 rfl rfl ?_
          refine jr_get (f := 24) (v := .ref (E.1 31)) cx dX7_lastOf_25 (by decide) rfl rfl hinX7 (by decide) mf_62 rfl ?_
          refine jr_iload cx dX7_lastOf_28 5 rfl ?_
          refine jr_zald cx dX7_lastOf_30 (Or.inl rfl) i rfl (show _ < 40 by omega) ?_
          refine jr_if_ne (tgt := 50) cx dX7_lastOf_31 (by decide) (fun c31 => ?_) (fun c31 => ?_)
          · refine jr_iload cx dX7_lastOf_50 4 rfl ?_
            refine jr_istore (L' := [(4, .int (sLast (pLM g b d) i)), (0, .ref (E.1 7)), (1, .int b), (2, .int d), (3, .int (nI c)), (5, .int (nI i))]) cx dX7_lastOf_52 (by decide) rfl ?_
            refine jr_iinc (n := 5) (v := nI (i + 1)) (L' := [(5, .int (nI (i + 1))), (4, .int (sLast (pLM g b d) i)), (0, .ref (E.1 7)), (1, .int b), (2, .int d), (3, .int (nI c))]) cx dX7_lastOf_54 rfl (nI_1 _) (by decide) rfl ?_
            refine jr_goto (tgt := 7) cx dX7_lastOf_57 (by decide) ?_
            refine jr_pick (L' := [(0, .ref (E.1 7)), (1, .int b), (2, .int d), (3, .int (nI c)), (4, .int (sLast (pLM g b d) i)), (5, .int (nI (i + 1)))]) [2, 3, 4, 5, 1, 0] rfl ?_
            have e4 : (sLast (pLM g b d) i : Int32) = (sLast (pLM g b d) (i + 1)) := by exact (if_neg (fun q : pLM g b d i => c31 q.2.1)).symm
            refine jr_loc (lc_n (lc_n (lc_n (lc_n (lc_i e4 (lc_n rfl)))))) ?_
            exact ih1 (i + 1) (by omega) (by omega)
          · refine jr_aload_n cx dX7_lastOf_34 0 rfl rfl ?_
            refine jr_get (f := 20) (v := .ref (E.1 25)) cx dX7_lastOf_35 (by decide) rfl rfl hinX7 (by decide) mf_50 rfl ?_
            refine jr_iload cx dX7_lastOf_38 5 rfl ?_
            refine jr_iald cx dX7_lastOf_40 (Or.inl ⟨by decide, by decide⟩) i rfl (show _ < 40 by omega) ?_
            refine jr_iload_n cx dX7_lastOf_41 2 rfl rfl ?_
            refine jr_icmp_gt (tgt := 50) cx dX7_lastOf_42 (by decide) (fun c42 => ?_) (fun c42 => ?_)
            · refine jr_iload cx dX7_lastOf_50 4 rfl ?_
              refine jr_istore (L' := [(4, .int (sLast (pLM g b d) i)), (0, .ref (E.1 7)), (1, .int b), (2, .int d), (3, .int (nI c)), (5, .int (nI i))]) cx dX7_lastOf_52 (by decide) rfl ?_
              refine jr_iinc (n := 5) (v := nI (i + 1)) (L' := [(5, .int (nI (i + 1))), (4, .int (sLast (pLM g b d) i)), (0, .ref (E.1 7)), (1, .int b), (2, .int d), (3, .int (nI c))]) cx dX7_lastOf_54 rfl (nI_1 _) (by decide) rfl ?_
              refine jr_goto (tgt := 7) cx dX7_lastOf_57 (by decide) ?_
              refine jr_pick (L' := [(0, .ref (E.1 7)), (1, .int b), (2, .int d), (3, .int (nI c)), (4, .int (sLast (pLM g b d) i)), (5, .int (nI (i + 1)))]) [2, 3, 4, 5, 1, 0] rfl ?_
              have e4 : (sLast (pLM g b d) i : Int32) = (sLast (pLM g b d) (i + 1)) := by exact (if_neg (fun q : pLM g b d i => q.2.2 c42)).symm
              refine jr_loc (lc_n (lc_n (lc_n (lc_n (lc_i e4 (lc_n rfl)))))) ?_
              exact ih1 (i + 1) (by omega) (by omega)
            · refine jr_iload cx dX7_lastOf_45 5 rfl ?_
              refine jr_goto (tgt := 52) cx dX7_lastOf_47 (by decide) ?_
              refine jr_istore (L' := [(4, .int (nI i)), (0, .ref (E.1 7)), (1, .int b), (2, .int d), (3, .int (nI c)), (5, .int (nI i))]) cx dX7_lastOf_52 (by decide) rfl ?_
              refine jr_iinc (n := 5) (v := nI (i + 1)) (L' := [(5, .int (nI (i + 1))), (4, .int (nI i)), (0, .ref (E.1 7)), (1, .int b), (2, .int d), (3, .int (nI c))]) cx dX7_lastOf_54 rfl (nI_1 _) (by decide) rfl ?_
              refine jr_goto (tgt := 7) cx dX7_lastOf_57 (by decide) ?_
              refine jr_pick (L' := [(0, .ref (E.1 7)), (1, .int b), (2, .int d), (3, .int (nI c)), (4, .int (nI i)), (5, .int (nI (i + 1)))]) [2, 3, 4, 5, 1, 0] rfl ?_
              have e4 : (nI i : Int32) = (sLast (pLM g b d) (i + 1)) := by exact (if_pos (show pLM g b d i from ⟨c21, c31, c42⟩)).symm
              refine jr_loc (lc_n (lc_n (lc_n (lc_n (lc_i e4 (lc_n rfl)))))) ?_
              exact ih1 (i + 1) (by omega) (by omega)
  refine jr_pick (L' := [(0, .ref (E.1 7)), (1, .int b), (2, .int d), (3, .int (nI c)), (4, .int (-9)), (5, .int 0)]) [2, 3, 4, 5, 1, 0] rfl ?_
  have e4 : ((-9) : Int32) = (sLast (pLM g b d) 0) := by rfl
  have e5 : (0 : Int32) = (nI 0) := by rfl
  refine jr_loc (lc_n (lc_n (lc_n (lc_n (lc_i e4 (lc_i e5 rfl)))))) ?_
  exact key1 (c + 1) 0 (by omega) (by omega)
set_option maxHeartbeats 4000000 in
set_option maxRecDepth 100000 in
theorem c_X7_latestOf (E : mm_E) (g : mm_I) (h : mm_L) (b : Int32) (n : Nat) (hn : n ≤ 40) (hs : g 7 16 = nI n) : Ci E yX7_latestOf wsX7_latestOf 1 25 [.ref (E.1 7), .int b] g h (sLast (pLM g b 100000) n) g h := by
  refine ci_i (bytes := cX7_latestOf) (maxL := 2) (by decide) rfl (Nat.le_of_ble_eq_true rfl) (fun X cx hR => ?_)
  change Cx E X cX7_latestOf RX7 wsX7_latestOf 2 1 25 at cx
  change JJ E X g h 0 [(0, .ref (E.1 7)), (1, .int b)] []
  have hinX7 : ∀ w ∈ u_ws RX7 TX7 30, w ∈ wsX7_latestOf := by decide +kernel
  have mc_106 : Cond.constant RX7 106 100000 ∈ wsX7_latestOf := by decide +kernel
  have mf_147 : Cond.fieldLink RX7 147 (TX7 16).1 (TX7 16).2.1 (TX7 16).2.2.1 ∈ wsX7_latestOf := by decide +kernel
  refine jr_aload_n cx dX7_latestOf_0 0 rfl rfl ?_
  refine jr_iload_n cx dX7_latestOf_1 1 rfl rfl ?_
  refine jr_ldc cx dX7_latestOf_2 mc_106 ?_
  refine jr_aload_n cx dX7_latestOf_4 0 rfl rfl ?_
  refine jr_get (f := 16) (v := .int (g 7 16)) cx dX7_latestOf_5 (by decide) rfl rfl hinX7 (by decide) mf_147 rfl ?_
  refine jr_top hs ?_
  refine jr_vi [.int b, .int 100000, .int (nI n)] 3 cx dX7_latestOf_8 (c_X7_lastOf E g h b 100000 n hn) (by decide) rfl rfl gX7_latestOf_X7_lastOf rfl (by decide +kernel) ⟨Nat.le_of_ble_eq_true rfl, Nat.le_of_ble_eq_true rfl⟩ rfl rfl (Nat.le_of_ble_eq_true rfl) ?_
  exact jr_ri (by rfl) (by rfl) (by rfl) (hR 11 _ dX7_latestOf_11)
set_option maxHeartbeats 4000000 in
set_option maxRecDepth 100000 in
theorem c_X6_told (E : mm_E) (g : mm_I) (h : mm_L) (b q : Int32) (nb : Nat) (hnb : nb ≤ 16) (hsb : g 3 2 = nI nb) (n : Nat) (hn : n ≤ 40) (hs : g 4 1 = nI n) : Ci E yX6_told wsX6_told 3 68 [.ref (E.1 0), .int b, .int q] g h (dTold nb b q (g 11) (g 12) (fun d => nI (sCn (pCO g 0 (nI d) 0) n)) (fun d => nI (sCn (pCO g 0 (nI d) 0) n) - nI (sCn (pCO g 0 (nI d) 1) n)) (fun d => sLast (pLU g (nI d) 100000) n)) g h := by
  refine ci_i (bytes := cX6_told) (maxL := 3) (by decide) rfl (Nat.le_of_ble_eq_true rfl) (fun X cx hR => ?_)
  change Cx E X cX6_told RX6 wsX6_told 3 3 68 at cx
  change JJ E X g h 0 [(0, .ref (E.1 0)), (1, .int b), (2, .int q)] []
  have hinX6 : ∀ w ∈ u_ws RX6 TX6 9, w ∈ wsX6_told := by decide +kernel
  have mf_26 : Cond.fieldLink RX6 26 (TX6 2).1 (TX6 2).2.1 (TX6 2).2.2.1 ∈ wsX6_told := by decide +kernel
  have mf_33 : Cond.fieldLink RX6 33 (TX6 3).1 (TX6 3).2.1 (TX6 3).2.2.1 ∈ wsX6_told := by decide +kernel
  refine jr_aload_n cx dX6_told_0 0 rfl rfl ?_
  refine jr_get (f := 2) (v := .ref (E.1 3)) cx dX6_told_1 (by decide) rfl rfl hinX6 (by decide) mf_26 rfl ?_
  refine jr_iload_n cx dX6_told_4 1 rfl rfl ?_
  refine jr_vi [.int b] 1 cx dX6_told_5 (c_X0_has E g h b nb hnb hsb) (by decide) rfl rfl gX6_told_X0_has rfl (by decide +kernel) ⟨Nat.le_of_ble_eq_true rfl, Nat.le_of_ble_eq_true rfl⟩ rfl rfl (Nat.le_of_ble_eq_true rfl) ?_
  refine jr_bif_ne (tgt := 13) cx dX6_told_8 (by decide) (fun c8 => ?_) (fun c8 => ?_)
  · obtain ⟨d, hd, rfl⟩ := has_nat (by omega) c8; have ed : (nI d).toNatClampNeg = d := cl_nI (by omega)
    refine jr_iload_n cx dX6_told_13 2 rfl rfl ?_
    by_cases t14_0 : q = 0
    · refine jr_tableIn (off := 34) (tgt := 48) cx dX6_told_14 (by rw [t14_0]; decide) (by rw [t14_0]; decide) (by rw [t14_0]; rfl) (by decide) ?_
      refine jr_aload_n cx dX6_told_48 0 rfl rfl ?_
      refine jr_get (f := 2) (v := .ref (E.1 3)) cx dX6_told_49 (by decide) rfl rfl hinX6 (by decide) mf_26 rfl ?_
      refine jr_iload_n cx dX6_told_52 1 rfl rfl ?_
      refine jr_vi [.int (nI d)] 1 cx dX6_told_53 (c_X0_kindOf E g h d (by omega)) (by decide) rfl rfl gX6_told_X0_kindOf rfl (by decide +kernel) ⟨Nat.le_of_ble_eq_true rfl, Nat.le_of_ble_eq_true rfl⟩ rfl rfl (Nat.le_of_ble_eq_true rfl) ?_
      exact jr_ri (by simp only [dTold, dHas, ite_self, if_pos c8, if_pos t14_0, ed]) (by rfl) (by rfl) (hR 56 _ dX6_told_56)
    · by_cases t14_1 : q = 1
      · refine jr_tableIn (off := 43) (tgt := 57) cx dX6_told_14 (by rw [t14_1]; decide) (by rw [t14_1]; decide) (by rw [t14_1]; rfl) (by decide) ?_
        refine jr_aload_n cx dX6_told_57 0 rfl rfl ?_
        refine jr_get (f := 2) (v := .ref (E.1 3)) cx dX6_told_58 (by decide) rfl rfl hinX6 (by decide) mf_26 rfl ?_
        refine jr_iload_n cx dX6_told_61 1 rfl rfl ?_
        refine jr_vi [.int (nI d)] 1 cx dX6_told_62 (c_X0_toleranceOf E g h d (by omega)) (by decide) rfl rfl gX6_told_X0_toleranceOf rfl (by decide +kernel) ⟨Nat.le_of_ble_eq_true rfl, Nat.le_of_ble_eq_true rfl⟩ rfl rfl (Nat.le_of_ble_eq_true rfl) ?_
        exact jr_ri (by simp only [dTold, dHas, ite_self, if_pos c8, if_neg t14_0, if_pos t14_1, ed]) (by rfl) (by rfl) (hR 65 _ dX6_told_65)
      · by_cases t14_2 : q = 2
        · refine jr_tableIn (off := 52) (tgt := 66) cx dX6_told_14 (by rw [t14_2]; decide) (by rw [t14_2]; decide) (by rw [t14_2]; rfl) (by decide) ?_
          refine jr_aload_n cx dX6_told_66 0 rfl rfl ?_
          refine jr_get (f := 3) (v := .ref (E.1 4)) cx dX6_told_67 (by decide) rfl rfl hinX6 (by decide) mf_33 rfl ?_
          refine jr_iconst (v := 0) cx dX6_told_70 (by decide) ?_
          refine jr_iload_n cx dX6_told_71 1 rfl rfl ?_
          refine jr_iconst (v := 0) cx dX6_told_72 (by decide) ?_
          refine jr_vi [.int 0, .int (nI d), .int 0] 3 cx dX6_told_73 (c_X1_countOf E g h 0 (by decide) (nI d) 0 n hn hs) (by decide) rfl rfl gX6_told_X1_countOf rfl (by decide +kernel) ⟨Nat.le_of_ble_eq_true rfl, Nat.le_of_ble_eq_true rfl⟩ rfl rfl (Nat.le_of_ble_eq_true rfl) ?_
          exact jr_ri (by simp only [dTold, dHas, ite_self, if_pos c8, if_neg t14_0, if_neg t14_1, if_pos t14_2, ed]) (by rfl) (by rfl) (hR 76 _ dX6_told_76)
        · by_cases t14_3 : q = 3
          · refine jr_tableIn (off := 63) (tgt := 77) cx dX6_told_14 (by rw [t14_3]; decide) (by rw [t14_3]; decide) (by rw [t14_3]; rfl) (by decide) ?_
            refine jr_aload_n cx dX6_told_77 0 rfl rfl ?_
            refine jr_get (f := 3) (v := .ref (E.1 4)) cx dX6_told_78 (by decide) rfl rfl hinX6 (by decide) mf_33 rfl ?_
            refine jr_iconst (v := 0) cx dX6_told_81 (by decide) ?_
            refine jr_iload_n cx dX6_told_82 1 rfl rfl ?_
            refine jr_iconst (v := 0) cx dX6_told_83 (by decide) ?_
            refine jr_vi [.int 0, .int (nI d), .int 0] 3 cx dX6_told_84 (c_X1_countOf E g h 0 (by decide) (nI d) 0 n hn hs) (by decide) rfl rfl gX6_told_X1_countOf rfl (by decide +kernel) ⟨Nat.le_of_ble_eq_true rfl, Nat.le_of_ble_eq_true rfl⟩ rfl rfl (Nat.le_of_ble_eq_true rfl) ?_
            refine jr_aload_n cx dX6_told_87 0 rfl rfl ?_
            refine jr_get (f := 3) (v := .ref (E.1 4)) cx dX6_told_88 (by decide) rfl rfl hinX6 (by decide) mf_33 rfl ?_
            refine jr_iconst (v := 0) cx dX6_told_91 (by decide) ?_
            refine jr_iload_n cx dX6_told_92 1 rfl rfl ?_
            refine jr_iconst (v := 1) cx dX6_told_93 (by decide) ?_
            refine jr_vi [.int 0, .int (nI d), .int 1] 3 cx dX6_told_94 (c_X1_countOf E g h 0 (by decide) (nI d) 1 n hn hs) (by decide) rfl rfl gX6_told_X1_countOf rfl (by decide +kernel) ⟨Nat.le_of_ble_eq_true rfl, Nat.le_of_ble_eq_true rfl⟩ rfl rfl (Nat.le_of_ble_eq_true rfl) ?_
            refine jr_isub cx dX6_told_97 ?_
            exact jr_ri (by simp only [dTold, dHas, ite_self, if_pos c8, if_neg t14_0, if_neg t14_1, if_neg t14_2, if_pos t14_3, ed]) (by rfl) (by rfl) (hR 98 _ dX6_told_98)
          · by_cases t14_4 : q = 4
            · refine jr_tableIn (off := 85) (tgt := 99) cx dX6_told_14 (by rw [t14_4]; decide) (by rw [t14_4]; decide) (by rw [t14_4]; rfl) (by decide) ?_
              refine jr_aload_n cx dX6_told_99 0 rfl rfl ?_
              refine jr_get (f := 3) (v := .ref (E.1 4)) cx dX6_told_100 (by decide) rfl rfl hinX6 (by decide) mf_33 rfl ?_
              refine jr_iload_n cx dX6_told_103 1 rfl rfl ?_
              refine jr_vi [.int (nI d)] 1 cx dX6_told_104 (c_X1_latestOf E g h (nI d) n hn hs) (by decide) rfl rfl gX6_told_X1_latestOf rfl (by decide +kernel) ⟨Nat.le_of_ble_eq_true rfl, Nat.le_of_ble_eq_true rfl⟩ rfl rfl (Nat.le_of_ble_eq_true rfl) ?_
              exact jr_ri (by simp only [dTold, dHas, ite_self, if_pos c8, if_neg t14_0, if_neg t14_1, if_neg t14_2, if_neg t14_3, if_pos t14_4, ed]) (by rfl) (by rfl) (hR 107 _ dX6_told_107)
            · refine jr_tableOut (tgt := 108) cx dX6_told_14 (by have q0 : ¬ (q).toInt = 0 := fun z => t14_0 ((fa_eq _ 0).mpr z); have q1 : ¬ (q).toInt = 1 := fun z => t14_1 ((fa_eq _ 1).mpr z); have q2 : ¬ (q).toInt = 2 := fun z => t14_2 ((fa_eq _ 2).mpr z); have q3 : ¬ (q).toInt = 3 := fun z => t14_3 ((fa_eq _ 3).mpr z); have q4 : ¬ (q).toInt = 4 := fun z => t14_4 ((fa_eq _ 4).mpr z); omega) (by decide) ?_
              refine jr_iconst (v := (-1)) cx dX6_told_108 (by decide) ?_
              exact jr_ri (by simp only [dTold, dHas, ite_self, if_pos c8, if_neg t14_0, if_neg t14_1, if_neg t14_2, if_neg t14_3, if_neg t14_4, ed]) (by rfl) (by rfl) (hR 109 _ dX6_told_109)
  · refine jr_iconst (v := (-1)) cx dX6_told_11 (by decide) ?_
    exact jr_ri (by simp only [dTold, dHas, ite_self, if_neg c8]) (by rfl) (by rfl) (hR 12 _ dX6_told_12)
abbrev pOf (g : mm_I) (b : Int32) : Nat → Prop := fun c => g 22 c = b
abbrev pOv (g : mm_I) (b : Int32) : Nat → Prop := fun c => g 22 c = b ∧ ¬ g 31 c = 0
def dTl (q x0 x1 x2 x3 x4 : Int32) : Int32 := if q = 0 then x0 else if q = 1 then x1 else if q = 2 then x2 else if q = 3 then x3 else x4
set_option maxHeartbeats 4000000 in
set_option maxRecDepth 100000 in
theorem c_X7_tells (E : mm_E) (g : mm_I) (h : mm_L) (b : Nat) (hb : b < 16) (q : Int32) (n : Nat) (hn : n ≤ 40) (hs : g 7 16 = nI n) : Ci E yX7_tells wsX7_tells 2 46 [.ref (E.1 7), .int (nI b), .int q] g h (dTl q (g 20 b) (g 21 b) (nI (sCn (pOf g (nI b)) n)) (nI (sCn (pOv g (nI b)) n)) (sLast (pLM g (nI b) 100000) n)) g h := by
  refine ci_i (bytes := cX7_tells) (maxL := 6) (by decide) rfl (Nat.le_of_ble_eq_true rfl) (fun X cx hR => ?_)
  change Cx E X cX7_tells RX7 wsX7_tells 6 2 46 at cx
  change JJ E X g h 0 [(0, .ref (E.1 7)), (1, .int (nI b)), (2, .int q)] []
  have hinX7 : ∀ w ∈ u_ws RX7 TX7 30, w ∈ wsX7_tells := by decide +kernel
  have mf_147 : Cond.fieldLink RX7 147 (TX7 16).1 (TX7 16).2.1 (TX7 16).2.2.1 ∈ wsX7_tells := by decide +kernel
  have mf_38 : Cond.fieldLink RX7 38 (TX7 15).1 (TX7 15).2.1 (TX7 15).2.2.1 ∈ wsX7_tells := by decide +kernel
  have mf_35 : Cond.fieldLink RX7 35 (TX7 14).1 (TX7 14).2.1 (TX7 14).2.2.1 ∈ wsX7_tells := by decide +kernel
  have mf_41 : Cond.fieldLink RX7 41 (TX7 17).1 (TX7 17).2.1 (TX7 17).2.2.1 ∈ wsX7_tells := by decide +kernel
  have mf_62 : Cond.fieldLink RX7 62 (TX7 24).1 (TX7 24).2.1 (TX7 24).2.2.1 ∈ wsX7_tells := by decide +kernel
  refine jr_iconst (v := 0) cx dX7_tells_0 (by decide) ?_
  refine jr_istore_n (L' := [(3, .int 0), (0, .ref (E.1 7)), (1, .int (nI b)), (2, .int q)]) cx dX7_tells_1 rfl (by decide) rfl ?_
  refine jr_iconst (v := 0) cx dX7_tells_2 (by decide) ?_
  refine jr_istore (L' := [(4, .int 0), (3, .int 0), (0, .ref (E.1 7)), (1, .int (nI b)), (2, .int q)]) cx dX7_tells_3 (by decide) rfl ?_
  refine jr_iconst (v := 0) cx dX7_tells_5 (by decide) ?_
  refine jr_istore (L' := [(5, .int 0), (4, .int 0), (3, .int 0), (0, .ref (E.1 7)), (1, .int (nI b)), (2, .int q)]) cx dX7_tells_6 (by decide) rfl ?_
  have key1 : ∀ (fu1 : Nat) (i : Nat), n + 1 ≤ i + fu1 → (i ≤ n) → JJ E X g h 8 [(0, .ref (E.1 7)), (1, .int (nI b)), (2, .int q), (3, .int (nI (sCn (pOf g (nI b)) i))), (4, .int (nI (sCn (pOv g (nI b)) i))), (5, .int (nI i))] [] := by
    intro fu1
    induction fu1 with
    | zero => intro i hfu1 h1; exfalso; omega
    | succ fu1 ih1 =>
      intro i hfu1 h1
      refine jr_iload cx dX7_tells_8 5 rfl ?_
      refine jr_aload_n cx dX7_tells_10 0 rfl rfl ?_
      refine jr_get (f := 16) (v := .int (g 7 16)) cx dX7_tells_11 (by decide) rfl rfl hinX7 (by decide) mf_147 rfl ?_
      refine jr_top hs ?_
      refine jr_icmp_ge (tgt := 73) cx dX7_tells_14 (by decide) (fun c14 => ?_) (fun c14 => ?_)
      · have n14 : n ≤ i := (nI_leI (a := n) (b := i) (by omega) (by omega)).mp c14
        have hin : n = i := by omega
        subst hin
        refine jr_iload_n cx dX7_tells_73 2 rfl rfl ?_
        refine jr_if_ne (tgt := 86) cx dX7_tells_74 (by decide) (fun c74 => ?_) (fun c74 => ?_)
        · refine jr_iload_n cx dX7_tells_86 2 rfl rfl ?_
          refine jr_iconst (v := 1) cx dX7_tells_87 (by decide) ?_
          refine jr_icmp_ne (tgt := 100) cx dX7_tells_88 (by decide) (fun c88 => ?_) (fun c88 => ?_)
          · refine jr_iload_n cx dX7_tells_100 2 rfl rfl ?_
            refine jr_iconst (v := 2) cx dX7_tells_101 (by decide) ?_
            refine jr_icmp_ne (tgt := 109) cx dX7_tells_102 (by decide) (fun c102 => ?_) (fun c102 => ?_)
            · refine jr_iload_n cx dX7_tells_109 2 rfl rfl ?_
              refine jr_iconst (v := 3) cx dX7_tells_110 (by decide) ?_
              refine jr_icmp_ne (tgt := 119) cx dX7_tells_111 (by decide) (fun c111 => ?_) (fun c111 => ?_)
              · refine jr_aload_n cx dX7_tells_119 0 rfl rfl ?_
                refine jr_iload_n cx dX7_tells_120 1 rfl rfl ?_
                refine jr_vi [.int (nI b)] 1 cx dX7_tells_121 (c_X7_latestOf E g h (nI b) n hn hs) (by decide) rfl rfl gX7_tells_X7_latestOf rfl (by decide +kernel) ⟨Nat.le_of_ble_eq_true rfl, Nat.le_of_ble_eq_true rfl⟩ rfl rfl (Nat.le_of_ble_eq_true rfl) ?_
                exact jr_ri (by simp only [dTl, ite_self, if_neg c74, if_neg c88, if_neg c102, if_neg c111]) (by rfl) (by rfl) (hR 124 _ dX7_tells_124)
              · refine jr_iload cx dX7_tells_114 4 rfl ?_
                refine jr_goto (tgt := 124) cx dX7_tells_116 (by decide) ?_
                exact jr_ri (by simp only [dTl, ite_self, if_neg c74, if_neg c88, if_neg c102, if_pos c111]) (by rfl) (by rfl) (hR 124 _ dX7_tells_124)
            · refine jr_iload_n cx dX7_tells_105 3 rfl rfl ?_
              refine jr_goto (tgt := 124) cx dX7_tells_106 (by decide) ?_
              exact jr_ri (by simp only [dTl, ite_self, if_neg c74, if_neg c88, if_pos c102]) (by rfl) (by rfl) (hR 124 _ dX7_tells_124)
          · refine jr_aload_n cx dX7_tells_91 0 rfl rfl ?_
            refine jr_get (f := 15) (v := .ref (E.1 21)) cx dX7_tells_92 (by decide) rfl rfl hinX7 (by decide) mf_38 rfl ?_
            refine jr_iload_n cx dX7_tells_95 1 rfl rfl ?_
            refine jr_iald cx dX7_tells_96 (Or.inl ⟨by decide, by decide⟩) b rfl (show _ < 16 by omega) ?_
            refine jr_goto (tgt := 124) cx dX7_tells_97 (by decide) ?_
            exact jr_ri (by simp only [dTl, ite_self, if_neg c74, if_pos c88]) (by rfl) (by rfl) (hR 124 _ dX7_tells_124)
        · refine jr_aload_n cx dX7_tells_77 0 rfl rfl ?_
          refine jr_get (f := 14) (v := .ref (E.1 20)) cx dX7_tells_78 (by decide) rfl rfl hinX7 (by decide) mf_35 rfl ?_
          refine jr_iload_n cx dX7_tells_81 1 rfl rfl ?_
          refine jr_iald cx dX7_tells_82 (Or.inl ⟨by decide, by decide⟩) b rfl (show _ < 16 by omega) ?_
          refine jr_goto (tgt := 124) cx dX7_tells_83 (by decide) ?_
          exact jr_ri (by simp only [dTl, ite_self, if_pos c74]) (by rfl) (by rfl) (hR 124 _ dX7_tells_124)
      · have n14 : ¬ (n ≤ i) := fun zz => c14 ((nI_leI (a := n) (b := i) (by omega) (by omega)).mpr zz)
        refine jr_iload_n cx dX7_tells_17 3 rfl rfl ?_
        refine jr_aload_n cx dX7_tells_18 0 rfl rfl ?_
        refine jr_get (f := 17) (v := .ref (E.1 22)) cx dX7_tells_19 (by decide) rfl rfl hinX7 (by decide) mf_41 rfl ?_
        refine jr_iload cx dX7_tells_22 5 rfl ?_
        refine jr_iald cx dX7_tells_24 (Or.inl ⟨by decide, by decide⟩) i rfl (show _ < 40 by omega) ?_
        refine jr_iload_n cx dX7_tells_25 1 rfl rfl ?_
        refine jr_icmp_ne (tgt := 33) cx dX7_tells_26 (by decide) (fun c26 => ?_) (fun c26 => ?_)
        · refine jr_iconst (v := 0) cx dX7_tells_33 (by decide) ?_
          refine jr_iadd cx dX7_tells_34 ?_
          refine jr_top (show (nI (sCn (pOf g (nI b)) i) : Int32) + 0 = nI ((sCn (pOf g (nI b)) i) + 0) from nI_add (sCn (pOf g (nI b)) i) 0) ?_
          refine jr_istore_n (L' := [(3, .int (nI ((sCn (pOf g (nI b)) i) + 0))), (0, .ref (E.1 7)), (1, .int (nI b)), (2, .int q), (4, .int (nI (sCn (pOv g (nI b)) i))), (5, .int (nI i))]) cx dX7_tells_35 rfl (by decide) rfl ?_
          refine jr_iload cx dX7_tells_36 4 rfl ?_
          refine jr_aload_n cx dX7_tells_38 1 rfl rfl ?_
          refine jr_get (f := 17) (v := .ref (E.1 22)) cx dX7_tells_39 (by decide) rfl rfl hinX7 (by decide) mf_41 rfl ?_
          refine jr_iload cx dX7_tells_42 5 rfl ?_
          refine jr_iald cx dX7_tells_44 (Or.inl ⟨by decide, by decide⟩) i rfl (show _ < 40 by omega) ?_
          refine jr_iload_n cx dX7_tells_45 2 rfl rfl ?_
          refine jr_icmp_ne (tgt := 63) cx dX7_tells_46 (by decide) (fun c46 => ?_) (fun c46 => ?_)
          · refine jr_iconst (v := 0) cx dX7_tells_63 (by decide) ?_
            refine jr_iadd cx dX7_tells_64 ?_
            refine jr_top (show (nI (sCn (pOv g (nI b)) i) : Int32) + 0 = nI ((sCn (pOv g (nI b)) i) + 0) from nI_add (sCn (pOv g (nI b)) i) 0) ?_
            refine jr_istore (L' := [(4, .int (nI ((sCn (pOv g (nI b)) i) + 0))), (3, .int (nI ((sCn (pOf g (nI b)) i) + 0))), (0, .ref (E.1 7)), (1, .int (nI b)), (2, .int q), (5, .int (nI i))]) cx dX7_tells_65 (by decide) rfl ?_
            refine jr_iinc (n := 5) (v := nI (i + 1)) (L' := [(5, .int (nI (i + 1))), (4, .int (nI ((sCn (pOv g (nI b)) i) + 0))), (3, .int (nI ((sCn (pOf g (nI b)) i) + 0))), (0, .ref (E.1 7)), (1, .int (nI b)), (2, .int q)]) cx dX7_tells_67 rfl (nI_1 _) (by decide) rfl ?_
            refine jr_goto (tgt := 8) cx dX7_tells_70 (by decide) ?_
            refine jr_pick (L' := [(0, .ref (E.1 7)), (1, .int (nI b)), (2, .int q), (3, .int (nI ((sCn (pOf g (nI b)) i) + 0))), (4, .int (nI ((sCn (pOv g (nI b)) i) + 0))), (5, .int (nI (i + 1)))]) [3, 4, 5, 2, 1, 0] rfl ?_
            have e3 : (nI ((sCn (pOf g (nI b)) i) + 0) : Int32) = (nI (sCn (pOf g (nI b)) (i + 1))) := by exact congrArg nI (if_neg c26).symm
            have e4 : (nI ((sCn (pOv g (nI b)) i) + 0) : Int32) = (nI (sCn (pOv g (nI b)) (i + 1))) := by exact congrArg nI (if_neg (fun q : pOv g (nI b) i => c46 q.1)).symm
            refine jr_loc (lc_n (lc_n (lc_n (lc_i e3 (lc_i e4 (lc_n rfl)))))) ?_
            exact ih1 (i + 1) (by omega) (by omega)
          · exact absurd c46 c26
        · refine jr_iconst (v := 1) cx dX7_tells_29 (by decide) ?_
          refine jr_goto (tgt := 34) cx dX7_tells_30 (by decide) ?_
          refine jr_iadd cx dX7_tells_34 ?_
          refine jr_top (show (nI (sCn (pOf g (nI b)) i) : Int32) + 1 = nI ((sCn (pOf g (nI b)) i) + 1) from nI_add (sCn (pOf g (nI b)) i) 1) ?_
          refine jr_istore_n (L' := [(3, .int (nI ((sCn (pOf g (nI b)) i) + 1))), (0, .ref (E.1 7)), (1, .int (nI b)), (2, .int q), (4, .int (nI (sCn (pOv g (nI b)) i))), (5, .int (nI i))]) cx dX7_tells_35 rfl (by decide) rfl ?_
          refine jr_iload cx dX7_tells_36 4 rfl ?_
          refine jr_aload_n cx dX7_tells_38 1 rfl rfl ?_
          refine jr_get (f := 17) (v := .ref (E.1 22)) cx dX7_tells_39 (by decide) rfl rfl hinX7 (by decide) mf_41 rfl ?_
          refine jr_iload cx dX7_tells_42 5 rfl ?_
          refine jr_iald cx dX7_tells_44 (Or.inl ⟨by decide, by decide⟩) i rfl (show _ < 40 by omega) ?_
          refine jr_iload_n cx dX7_tells_45 2 rfl rfl ?_
          refine jr_icmp_ne (tgt := 63) cx dX7_tells_46 (by decide) (fun c46 => ?_) (fun c46 => ?_)
          · exact absurd c26 c46
          · refine jr_aload_n cx dX7_tells_49 1 rfl rfl ?_
            refine jr_get (f := 24) (v := .ref (E.1 31)) cx dX7_tells_50 (by decide) rfl rfl hinX7 (by decide) mf_62 rfl ?_
            refine jr_iload cx dX7_tells_53 5 rfl ?_
            refine jr_zald cx dX7_tells_55 (Or.inl rfl) i rfl (show _ < 40 by omega) ?_
            refine jr_if_eq (tgt := 63) cx dX7_tells_56 (by decide) (fun c56 => ?_) (fun c56 => ?_)
            · refine jr_iconst (v := 0) cx dX7_tells_63 (by decide) ?_
              refine jr_iadd cx dX7_tells_64 ?_
              refine jr_top (show (nI (sCn (pOv g (nI b)) i) : Int32) + 0 = nI ((sCn (pOv g (nI b)) i) + 0) from nI_add (sCn (pOv g (nI b)) i) 0) ?_
              refine jr_istore (L' := [(4, .int (nI ((sCn (pOv g (nI b)) i) + 0))), (3, .int (nI ((sCn (pOf g (nI b)) i) + 1))), (0, .ref (E.1 7)), (1, .int (nI b)), (2, .int q), (5, .int (nI i))]) cx dX7_tells_65 (by decide) rfl ?_
              refine jr_iinc (n := 5) (v := nI (i + 1)) (L' := [(5, .int (nI (i + 1))), (4, .int (nI ((sCn (pOv g (nI b)) i) + 0))), (3, .int (nI ((sCn (pOf g (nI b)) i) + 1))), (0, .ref (E.1 7)), (1, .int (nI b)), (2, .int q)]) cx dX7_tells_67 rfl (nI_1 _) (by decide) rfl ?_
              refine jr_goto (tgt := 8) cx dX7_tells_70 (by decide) ?_
              refine jr_pick (L' := [(0, .ref (E.1 7)), (1, .int (nI b)), (2, .int q), (3, .int (nI ((sCn (pOf g (nI b)) i) + 1))), (4, .int (nI ((sCn (pOv g (nI b)) i) + 0))), (5, .int (nI (i + 1)))]) [3, 4, 5, 2, 1, 0] rfl ?_
              have e3 : (nI ((sCn (pOf g (nI b)) i) + 1) : Int32) = (nI (sCn (pOf g (nI b)) (i + 1))) := by exact congrArg nI (if_pos c26).symm
              have e4 : (nI ((sCn (pOv g (nI b)) i) + 0) : Int32) = (nI (sCn (pOv g (nI b)) (i + 1))) := by exact congrArg nI (if_neg (fun q : pOv g (nI b) i => q.2 c56)).symm
              refine jr_loc (lc_n (lc_n (lc_n (lc_i e3 (lc_i e4 (lc_n rfl)))))) ?_
              exact ih1 (i + 1) (by omega) (by omega)
            · refine jr_iconst (v := 1) cx dX7_tells_59 (by decide) ?_
              refine jr_goto (tgt := 64) cx dX7_tells_60 (by decide) ?_
              refine jr_iadd cx dX7_tells_64 ?_
              refine jr_top (show (nI (sCn (pOv g (nI b)) i) : Int32) + 1 = nI ((sCn (pOv g (nI b)) i) + 1) from nI_add (sCn (pOv g (nI b)) i) 1) ?_
              refine jr_istore (L' := [(4, .int (nI ((sCn (pOv g (nI b)) i) + 1))), (3, .int (nI ((sCn (pOf g (nI b)) i) + 1))), (0, .ref (E.1 7)), (1, .int (nI b)), (2, .int q), (5, .int (nI i))]) cx dX7_tells_65 (by decide) rfl ?_
              refine jr_iinc (n := 5) (v := nI (i + 1)) (L' := [(5, .int (nI (i + 1))), (4, .int (nI ((sCn (pOv g (nI b)) i) + 1))), (3, .int (nI ((sCn (pOf g (nI b)) i) + 1))), (0, .ref (E.1 7)), (1, .int (nI b)), (2, .int q)]) cx dX7_tells_67 rfl (nI_1 _) (by decide) rfl ?_
              refine jr_goto (tgt := 8) cx dX7_tells_70 (by decide) ?_
              refine jr_pick (L' := [(0, .ref (E.1 7)), (1, .int (nI b)), (2, .int q), (3, .int (nI ((sCn (pOf g (nI b)) i) + 1))), (4, .int (nI ((sCn (pOv g (nI b)) i) + 1))), (5, .int (nI (i + 1)))]) [3, 4, 5, 2, 1, 0] rfl ?_
              have e3 : (nI ((sCn (pOf g (nI b)) i) + 1) : Int32) = (nI (sCn (pOf g (nI b)) (i + 1))) := by exact congrArg nI (if_pos c26).symm
              have e4 : (nI ((sCn (pOv g (nI b)) i) + 1) : Int32) = (nI (sCn (pOv g (nI b)) (i + 1))) := by exact congrArg nI (if_pos (show pOv g (nI b) i from ⟨c26, c56⟩)).symm
              refine jr_loc (lc_n (lc_n (lc_n (lc_i e3 (lc_i e4 (lc_n rfl)))))) ?_
              exact ih1 (i + 1) (by omega) (by omega)
  refine jr_pick (L' := [(0, .ref (E.1 7)), (1, .int (nI b)), (2, .int q), (3, .int 0), (4, .int 0), (5, .int 0)]) [3, 4, 5, 2, 1, 0] rfl ?_
  have e3 : (0 : Int32) = (nI (sCn (pOf g (nI b)) 0)) := by rfl
  have e4 : (0 : Int32) = (nI (sCn (pOv g (nI b)) 0)) := by rfl
  have e5 : (0 : Int32) = (nI 0) := by rfl
  refine jr_loc (lc_n (lc_n (lc_n (lc_i e3 (lc_i e4 (lc_i e5 rfl)))))) ?_
  exact key1 (n + 1) 0 (by omega) (by omega)
set_option maxHeartbeats 4000000 in
set_option maxRecDepth 100000 in
theorem c_X7_told (E : mm_E) (g : mm_I) (h : mm_L) (b q : Int32) (nb : Nat) (hnb : nb ≤ 16) (hsb : g 7 13 = nI nb) (n : Nat) (hn : n ≤ 40) (hs : g 7 16 = nI n) : Ci E yX7_told wsX7_told 3 71 [.ref (E.1 7), .int b, .int q] g h (dHas nb b (-1) (fun d => if ¬ q < 0 ∧ ¬ 4 < q then dTl q (g 20 d) (g 21 d) (nI (sCn (pOf g (nI d)) n)) (nI (sCn (pOv g (nI d)) n)) (sLast (pLM g (nI d) 100000) n) else -1)) g h := by
  refine ci_i (bytes := cX7_told) (maxL := 3) (by decide) rfl (Nat.le_of_ble_eq_true rfl) (fun X cx hR => ?_)
  change Cx E X cX7_told RX7 wsX7_told 3 3 71 at cx
  change JJ E X g h 0 [(0, .ref (E.1 7)), (1, .int b), (2, .int q)] []
  refine jr_aload_n cx dX7_told_0 0 rfl rfl ?_
  refine jr_iload_n cx dX7_told_1 1 rfl rfl ?_
  refine jr_vi [.int b] 1 cx dX7_told_2 (c_X7_isBulb E g h b nb hnb hsb) (by decide) rfl rfl gX7_told_X7_isBulb rfl (by decide +kernel) ⟨Nat.le_of_ble_eq_true rfl, Nat.le_of_ble_eq_true rfl⟩ rfl rfl (Nat.le_of_ble_eq_true rfl) ?_
  refine jr_bif_eq (tgt := 26) cx dX7_told_5 (by decide) (fun c5 => ?_) (fun c5 => ?_)
  · refine jr_iconst (v := (-1)) cx dX7_told_26 (by decide) ?_
    exact jr_ri (by simp only [dHas, ite_self, if_neg c5]) (by rfl) (by rfl) (hR 27 _ dX7_told_27)
  · obtain ⟨d, hd, rfl⟩ := has_nat (by omega) c5; have ed : (nI d).toNatClampNeg = d := cl_nI (by omega)
    refine jr_iload_n cx dX7_told_8 2 rfl rfl ?_
    refine jr_iconst (v := 0) cx dX7_told_9 (by decide) ?_
    refine jr_iconst (v := 4) cx dX7_told_10 (by decide) ?_
    refine jr_si [.int q, .int 0, .int 4] 3 cx dX7_told_11 (c_X7_in E g h q 0 4) gX7_told_X7_in rfl (by decide +kernel) ⟨Nat.le_of_ble_eq_true rfl, Nat.le_of_ble_eq_true rfl⟩ rfl rfl (Nat.le_of_ble_eq_true rfl) ?_
    refine jr_bif_eq (tgt := 26) cx dX7_told_14 (by decide) (fun c14 => ?_) (fun c14 => ?_)
    · refine jr_iconst (v := (-1)) cx dX7_told_26 (by decide) ?_
      exact jr_ri (by simp only [dHas, ite_self, if_pos c5, if_neg c14, ed]) (by rfl) (by rfl) (hR 27 _ dX7_told_27)
    · refine jr_aload_n cx dX7_told_17 0 rfl rfl ?_
      refine jr_iload_n cx dX7_told_18 1 rfl rfl ?_
      refine jr_iload_n cx dX7_told_19 2 rfl rfl ?_
      refine jr_vi [.int (nI d), .int q] 2 cx dX7_told_20 (c_X7_tells E g h d (by omega) q n hn hs) (by decide) rfl rfl gX7_told_X7_tells rfl (by decide +kernel) ⟨Nat.le_of_ble_eq_true rfl, Nat.le_of_ble_eq_true rfl⟩ rfl rfl (Nat.le_of_ble_eq_true rfl) ?_
      refine jr_goto (tgt := 27) cx dX7_told_23 (by decide) ?_
      exact jr_ri (by simp only [dHas, ite_self, if_pos c5, if_pos c14, ed]) (by rfl) (by rfl) (hR 27 _ dX7_told_27)
set_option maxHeartbeats 4000000 in
set_option maxRecDepth 100000 in
theorem c_X7_is (E : mm_E) (g : mm_I) (h : mm_L) (b : Nat) (hb : b < 16) (k : Int32) : Ci E yX7_is wsX7_is 0 0 [.ref (E.1 7), .int (nI b), .int k] g h (bI (g 20 b = k ∨ g 20 b = 3 ∧ k = 2)) g h := by
  refine ci_z (bytes := cX7_is) (maxL := 3) (by decide) rfl (Nat.le_of_ble_eq_true rfl) (bI_01 _) (fun X cx hR => ?_)
  change Cx E X cX7_is RX7 wsX7_is 3 0 0 at cx
  change JJ E X g h 0 [(0, .ref (E.1 7)), (1, .int (nI b)), (2, .int k)] []
  have hinX7 : ∀ w ∈ u_ws RX7 TX7 30, w ∈ wsX7_is := by decide +kernel
  have mf_35 : Cond.fieldLink RX7 35 (TX7 14).1 (TX7 14).2.1 (TX7 14).2.2.1 ∈ wsX7_is := by decide +kernel
  refine jr_aload_n cx dX7_is_0 0 rfl rfl ?_
  refine jr_get (f := 14) (v := .ref (E.1 20)) cx dX7_is_1 (by decide) rfl rfl hinX7 (by decide) mf_35 rfl ?_
  refine jr_iload_n cx dX7_is_4 1 rfl rfl ?_
  refine jr_iald cx dX7_is_5 (Or.inl ⟨by decide, by decide⟩) b rfl (show _ < 16 by omega) ?_
  refine jr_iload_n cx dX7_is_6 2 rfl rfl ?_
  refine jr_icmp_eq (tgt := 25) cx dX7_is_7 (by decide) (fun c7 => ?_) (fun c7 => ?_)
  · refine jr_iconst (v := 1) cx dX7_is_25 (by decide) ?_
    refine jr_goto (tgt := 30) cx dX7_is_26 (by decide) ?_
    exact jr_ri (by exact (bI_t (Or.inl c7)).symm) (by rfl) (by rfl) (hR 30 _ dX7_is_30)
  · refine jr_iload_n cx dX7_is_10 2 rfl rfl ?_
    refine jr_iconst (v := 2) cx dX7_is_11 (by decide) ?_
    refine jr_icmp_ne (tgt := 29) cx dX7_is_12 (by decide) (fun c12 => ?_) (fun c12 => ?_)
    · refine jr_iconst (v := 0) cx dX7_is_29 (by decide) ?_
      exact jr_ri (by exact (bI_f fun q => q.elim c7 (fun q => c12 q.2)).symm) (by rfl) (by rfl) (hR 30 _ dX7_is_30)
    · refine jr_aload_n cx dX7_is_15 0 rfl rfl ?_
      refine jr_get (f := 14) (v := .ref (E.1 20)) cx dX7_is_16 (by decide) rfl rfl hinX7 (by decide) mf_35 rfl ?_
      refine jr_iload_n cx dX7_is_19 1 rfl rfl ?_
      refine jr_iald cx dX7_is_20 (Or.inl ⟨by decide, by decide⟩) b rfl (show _ < 16 by omega) ?_
      refine jr_iconst (v := 3) cx dX7_is_21 (by decide) ?_
      refine jr_icmp_ne (tgt := 29) cx dX7_is_22 (by decide) (fun c22 => ?_) (fun c22 => ?_)
      · refine jr_iconst (v := 0) cx dX7_is_29 (by decide) ?_
        exact jr_ri (by exact (bI_f fun q => q.elim c7 (fun q => c22 q.1)).symm) (by rfl) (by rfl) (hR 30 _ dX7_is_30)
      · refine jr_iconst (v := 1) cx dX7_is_25 (by decide) ?_
        refine jr_goto (tgt := 30) cx dX7_is_26 (by decide) ?_
        exact jr_ri (by exact (bI_t (Or.inr ⟨c22, c12⟩)).symm) (by rfl) (by rfl) (hR 30 _ dX7_is_30)
theorem ch_next {r : Nat → Int32} {n k d : Nat} (hri : ∀ c, c < n → r c = -9 ∨ ∃ d, d < c ∧ r c = nI d) (hd : d < n) (hk : d < k) : r d = -9 ∨ ∃ e, e < k - 1 ∧ e < n ∧ r d = nI e := by
  rcases hri d hd with h | ⟨e, he, h⟩
  · exact Or.inl h
  · exact Or.inr ⟨e, by omega, by omega, h⟩
theorem ch_lt {n k : Nat} {x : Int32} (h : x = -9 ∨ ∃ d, d < k ∧ d < n ∧ x = nI d) (hn : n ≤ 40) (c : x < 0) : x = -9 := by
  rcases h with h | ⟨d, h1, h2, rfl⟩
  · exact h
  · exact absurd c (nI_pos (by omega))
theorem ch_ge {n k : Nat} {x : Int32} (h : x = -9 ∨ ∃ d, d < k ∧ d < n ∧ x = nI d) (c : ¬ x < 0) : ∃ d, d < k ∧ d < n ∧ x = nI d := by
  rcases h with rfl | h
  · exact absurd (by decide) c
  · exact h
theorem ch_m9 {n : Nat} : ¬ (¬ (-9 : Int32) < 0 ∧ ¬ nI n - 1 < (-9 : Int32)) := fun q => q.1 (by decide)
set_option maxHeartbeats 4000000 in
set_option maxRecDepth 100000 in
theorem c_X7_restsOn (E : mm_E) (g : mm_I) (h : mm_L) (c : Nat) (b : Int32) (n : Nat) (hn : n ≤ 40) (hs : g 7 16 = nI n) (hc : c < n) (hri : ∀ c, c < n → g 28 c = -9 ∨ ∃ d, d < c ∧ g 28 c = nI d) : Ci E yX7_restsOn wsX7_restsOn 0 0 [.ref (E.1 7), .int (nI c), .int b] g h (bI (chP (g 28) n (fun q => decide (g 22 q = b)) 40 (g 28 c) = true)) g h := by
  refine ci_z (bytes := cX7_restsOn) (maxL := 5) (by decide) rfl (Nat.le_of_ble_eq_true rfl) (bI_01 _) (fun X cx hR => ?_)
  change Cx E X cX7_restsOn RX7 wsX7_restsOn 5 0 0 at cx
  change JJ E X g h 0 [(0, .ref (E.1 7)), (1, .int (nI c)), (2, .int b)] []
  have hinX7 : ∀ w ∈ u_ws RX7 TX7 30, w ∈ wsX7_restsOn := by decide +kernel
  have mf_59 : Cond.fieldLink RX7 59 (TX7 23).1 (TX7 23).2.1 (TX7 23).2.2.1 ∈ wsX7_restsOn := by decide +kernel
  have mf_41 : Cond.fieldLink RX7 41 (TX7 17).1 (TX7 17).2.1 (TX7 17).2.2.1 ∈ wsX7_restsOn := by decide +kernel
  refine jr_iconst (v := 0) cx dX7_restsOn_0 (by decide) ?_
  refine jr_istore_n (L' := [(3, .int 0), (0, .ref (E.1 7)), (1, .int (nI c)), (2, .int b)]) cx dX7_restsOn_1 rfl (by decide) rfl ?_
  refine jr_aload_n cx dX7_restsOn_2 1 rfl rfl ?_
  refine jr_get (f := 23) (v := .ref (E.1 28)) cx dX7_restsOn_3 (by decide) rfl rfl hinX7 (by decide) mf_59 rfl ?_
  refine jr_iload_n cx dX7_restsOn_6 2 rfl rfl ?_
  refine jr_iald cx dX7_restsOn_7 (Or.inl ⟨by decide, by decide⟩) c rfl (show _ < 40 by omega) ?_
  refine jr_istore (L' := [(4, .int (g 28 c)), (3, .int 0), (0, .ref (E.1 7)), (1, .int (nI c)), (2, .int b)]) cx dX7_restsOn_8 (by decide) rfl ?_
  have key1 : ∀ (fu1 : Nat) (k : Nat) (x : Int32) (z : Bool), k + 1 ≤ fu1 → (k ≤ 40) → (x = -9 ∨ ∃ d, d < k ∧ d < n ∧ x = nI d) → ((z || chP (g 28) n (fun q => decide (g 22 q = b)) k x) = chP (g 28) n (fun q => decide (g 22 q = b)) 40 (g 28 c)) → JJ E X g h 10 [(0, .ref (E.1 7)), (2, .int b), (3, .int (bI (z = true))), (4, .int x)] [] := by
    intro fu1
    induction fu1 with
    | zero => intro k x z hfu1 h1 h2 h3; exfalso; omega
    | succ fu1 ih1 =>
      intro k x z hfu1 h1 h2 h3
      refine jr_iload cx dX7_restsOn_10 3 rfl ?_
      refine jr_if_lt (tgt := 48) cx dX7_restsOn_12 (by decide) (fun c12 => ?_) (fun c12 => ?_)
      · have hx9 := ch_lt h2 hn c12; subst hx9
        refine jr_iload_n cx dX7_restsOn_48 2 rfl rfl ?_
        exact jr_ri (by rw [← h3, chP_n ch_m9, Bool.or_false]) (by rfl) (by rfl) (hR 49 _ dX7_restsOn_49)
      · obtain ⟨d, hdk, hd, rfl⟩ := ch_ge h2 c12; have hhas := (has_iff (n := n) (d := d) (by omega) (by omega)).mpr hd
        refine jr_iload_n cx dX7_restsOn_15 2 rfl rfl ?_
        refine jr_bif_ne (tgt := 30) cx dX7_restsOn_16 (by decide) (fun c16 => ?_) (fun c16 => ?_)
        · refine jr_iconst (v := 1) cx dX7_restsOn_30 (by decide) ?_
          refine jr_goto (tgt := 35) cx dX7_restsOn_31 (by decide) ?_
          refine jr_istore_n (L' := [(3, .int 1), (0, .ref (E.1 7)), (2, .int b), (4, .int (nI d))]) cx dX7_restsOn_35 rfl (by decide) rfl ?_
          refine jr_aload_n cx dX7_restsOn_36 1 rfl rfl ?_
          refine jr_get (f := 23) (v := .ref (E.1 28)) cx dX7_restsOn_37 (by decide) rfl rfl hinX7 (by decide) mf_59 rfl ?_
          refine jr_iload cx dX7_restsOn_40 3 rfl ?_
          refine jr_iald cx dX7_restsOn_42 (Or.inl ⟨by decide, by decide⟩) d rfl (show _ < 40 by omega) ?_
          refine jr_istore (L' := [(4, .int (g 28 d)), (3, .int 1), (0, .ref (E.1 7)), (2, .int b)]) cx dX7_restsOn_43 (by decide) rfl ?_
          refine jr_goto (tgt := 10) cx dX7_restsOn_45 (by decide) ?_
          refine jr_pick (L' := [(0, .ref (E.1 7)), (2, .int b), (3, .int 1), (4, .int (g 28 d))]) [2, 3, 1, 0] rfl ?_
          have e3 : (1 : Int32) = (bI (true = true)) := by rfl
          have e4 : (g 28 d : Int32) = (g 28 d) := by rfl
          refine jr_loc (lc_n (lc_n (lc_i e3 (lc_i e4 rfl)))) ?_
          exact ih1 (k - 1) (g 28 d) true (by omega) (by omega) (ch_next hri hd hdk) (by rw [← h3, c16]; rfl)
        · refine jr_aload_n cx dX7_restsOn_19 0 rfl rfl ?_
          refine jr_get (f := 17) (v := .ref (E.1 22)) cx dX7_restsOn_20 (by decide) rfl rfl hinX7 (by decide) mf_41 rfl ?_
          refine jr_iload cx dX7_restsOn_23 3 rfl ?_
          refine jr_iald cx dX7_restsOn_25 (Or.inl ⟨by decide, by decide⟩) d rfl (show _ < 40 by omega) ?_
          refine jr_iload_n cx dX7_restsOn_26 1 rfl rfl ?_
          refine jr_icmp_ne (tgt := 34) cx dX7_restsOn_27 (by decide) (fun c27 => ?_) (fun c27 => ?_)
          · refine jr_iconst (v := 0) cx dX7_restsOn_34 (by decide) ?_
            refine jr_istore_n (L' := [(3, .int 0), (0, .ref (E.1 7)), (2, .int b), (4, .int (nI d))]) cx dX7_restsOn_35 rfl (by decide) rfl ?_
            refine jr_aload_n cx dX7_restsOn_36 1 rfl rfl ?_
            refine jr_get (f := 23) (v := .ref (E.1 28)) cx dX7_restsOn_37 (by decide) rfl rfl hinX7 (by decide) mf_59 rfl ?_
            refine jr_iload cx dX7_restsOn_40 3 rfl ?_
            refine jr_iald cx dX7_restsOn_42 (Or.inl ⟨by decide, by decide⟩) d rfl (show _ < 40 by omega) ?_
            refine jr_istore (L' := [(4, .int (g 28 d)), (3, .int 0), (0, .ref (E.1 7)), (2, .int b)]) cx dX7_restsOn_43 (by decide) rfl ?_
            refine jr_goto (tgt := 10) cx dX7_restsOn_45 (by decide) ?_
            refine jr_pick (L' := [(0, .ref (E.1 7)), (2, .int b), (3, .int 0), (4, .int (g 28 d))]) [2, 3, 1, 0] rfl ?_
            have e3 : (0 : Int32) = (bI (false = true)) := by rfl
            have e4 : (g 28 d : Int32) = (g 28 d) := by rfl
            refine jr_loc (lc_n (lc_n (lc_i e3 (lc_i e4 rfl)))) ?_
            exact ih1 (k - 1) (g 28 d) false (by omega) (by omega) (ch_next hri hd hdk) (by rw [← h3, show k = (k - 1) + 1 by omega, chP_y (by omega) hhas, show k - 1 + 1 - 1 = k - 1 by omega, show z = false by simpa using c16, if_neg (by simpa using c27)]; try rfl)
          · refine jr_iconst (v := 1) cx dX7_restsOn_30 (by decide) ?_
            refine jr_goto (tgt := 35) cx dX7_restsOn_31 (by decide) ?_
            refine jr_istore_n (L' := [(3, .int 1), (0, .ref (E.1 7)), (2, .int b), (4, .int (nI d))]) cx dX7_restsOn_35 rfl (by decide) rfl ?_
            refine jr_aload_n cx dX7_restsOn_36 1 rfl rfl ?_
            refine jr_get (f := 23) (v := .ref (E.1 28)) cx dX7_restsOn_37 (by decide) rfl rfl hinX7 (by decide) mf_59 rfl ?_
            refine jr_iload cx dX7_restsOn_40 3 rfl ?_
            refine jr_iald cx dX7_restsOn_42 (Or.inl ⟨by decide, by decide⟩) d rfl (show _ < 40 by omega) ?_
            refine jr_istore (L' := [(4, .int (g 28 d)), (3, .int 1), (0, .ref (E.1 7)), (2, .int b)]) cx dX7_restsOn_43 (by decide) rfl ?_
            refine jr_goto (tgt := 10) cx dX7_restsOn_45 (by decide) ?_
            refine jr_pick (L' := [(0, .ref (E.1 7)), (2, .int b), (3, .int 1), (4, .int (g 28 d))]) [2, 3, 1, 0] rfl ?_
            have e3 : (1 : Int32) = (bI (true = true)) := by rfl
            have e4 : (g 28 d : Int32) = (g 28 d) := by rfl
            refine jr_loc (lc_n (lc_n (lc_i e3 (lc_i e4 rfl)))) ?_
            exact ih1 (k - 1) (g 28 d) true (by omega) (by omega) (ch_next hri hd hdk) (by rw [← h3, show k = (k - 1) + 1 by omega, chP_y (by omega) hhas, show k - 1 + 1 - 1 = k - 1 by omega, show z = false by simpa using c16, if_pos (by simpa using c27)]; try rfl)
  refine jr_pick (L' := [(0, .ref (E.1 7)), (2, .int b), (3, .int 0), (4, .int (g 28 c))]) [2, 4, 1, 0] rfl ?_
  have e3 : (0 : Int32) = (bI (false = true)) := by rfl
  have e4 : (g 28 c : Int32) = (g 28 c) := by rfl
  refine jr_loc (lc_n (lc_n (lc_i e3 (lc_i e4 rfl)))) ?_
  exact key1 (41) 40 (g 28 c) false (by omega) (by omega) (by rcases hri c hc with q | ⟨e, he, q⟩; exact Or.inl q; exact Or.inr ⟨e, by omega, by omega, q⟩) (Bool.false_or _)
def dMark {α : Type} (nb : Nat) (kd : Nat → Int32) (b k : Int32) (bad unlike : α) (a1 a2 a3 : Nat → α) : α := if ¬ b < 0 ∧ ¬ nI nb - 1 < b then (if ¬ k < 1 ∧ ¬ 3 < k then (if kd b.toNatClampNeg = k ∨ kd b.toNatClampNeg = 3 ∧ k = 2 then (if k = 1 then a1 b.toNatClampNeg else if k = 2 then a2 b.toNatClampNeg else a3 b.toNatClampNeg) else unlike) else bad) else bad
abbrev pMk (g : mm_I) (n : Nat) (b k : Int32) : Nat → Prop := fun c => g 31 c = 0 ∧ ((k = 2 ∧ g 23 c = b) ∨ (¬ k = 2 ∧ chP (g 28) n (fun q => decide (g 22 q = b)) 40 (g 28 c) = true))
set_option maxHeartbeats 4000000 in
set_option maxRecDepth 100000 in
theorem c_X6_mark (E : mm_E) (g : mm_I) (h : mm_L) (b k : Int32) (nb : Nat) (hnb : nb ≤ 16) (hsb : g 3 2 = nI nb) (n : Nat) (hn : n ≤ 40) (hs : g 4 1 = nI n) : Ci E yX6_mark wsX6_mark 4 90 [.ref (E.1 0), .int b, .int k] g h (dMark nb (g 11) b k (-1) (-3) (g 12) (fun d => nI (sCn (pCO g 1 (nI d) 1) n)) (fun d => nI (sCn (pCB g n (nI d)) n))) (dMark nb (g 11) b k g (rfM g 3) (fun _ => g) (fun _ => g) (fun _ => g)) h := by
  refine ci_i (bytes := cX6_mark) (maxL := 3) (by decide) rfl (Nat.le_of_ble_eq_true rfl) (fun X cx hR => ?_)
  change Cx E X cX6_mark RX6 wsX6_mark 3 4 90 at cx
  change JJ E X g h 0 [(0, .ref (E.1 0)), (1, .int b), (2, .int k)] []
  have hinX6 : ∀ w ∈ u_ws RX6 TX6 9, w ∈ wsX6_mark := by decide +kernel
  have mf_26 : Cond.fieldLink RX6 26 (TX6 2).1 (TX6 2).2.1 (TX6 2).2.2.1 ∈ wsX6_mark := by decide +kernel
  have mf_33 : Cond.fieldLink RX6 33 (TX6 3).1 (TX6 3).2.1 (TX6 3).2.2.1 ∈ wsX6_mark := by decide +kernel
  refine jr_aload_n cx dX6_mark_0 0 rfl rfl ?_
  refine jr_get (f := 2) (v := .ref (E.1 3)) cx dX6_mark_1 (by decide) rfl rfl hinX6 (by decide) mf_26 rfl ?_
  refine jr_iload_n cx dX6_mark_4 1 rfl rfl ?_
  refine jr_vi [.int b] 1 cx dX6_mark_5 (c_X0_has E g h b nb hnb hsb) (by decide) rfl rfl gX6_mark_X0_has rfl (by decide +kernel) ⟨Nat.le_of_ble_eq_true rfl, Nat.le_of_ble_eq_true rfl⟩ rfl rfl (Nat.le_of_ble_eq_true rfl) ?_
  refine jr_bif_eq (tgt := 20) cx dX6_mark_8 (by decide) (fun c8 => ?_) (fun c8 => ?_)
  · refine jr_iconst (v := (-1)) cx dX6_mark_20 (by decide) ?_
    exact jr_ri (by simp only [dMark, ite_self, if_neg c8]) (by simp only [dMark, ite_self, if_neg c8]) (by rfl) (hR 21 _ dX6_mark_21)
  · obtain ⟨d, hd, rfl⟩ := has_nat (by omega) c8; have ed : (nI d).toNatClampNeg = d := cl_nI (by omega)
    refine jr_iload_n cx dX6_mark_11 2 rfl rfl ?_
    refine jr_iconst (v := 1) cx dX6_mark_12 (by decide) ?_
    refine jr_iconst (v := 3) cx dX6_mark_13 (by decide) ?_
    refine jr_si [.int k, .int 1, .int 3] 3 cx dX6_mark_14 (c_X6_isBetween E g h k 1 3) gX6_mark_X6_isBetween rfl (by decide +kernel) ⟨Nat.le_of_ble_eq_true rfl, Nat.le_of_ble_eq_true rfl⟩ rfl rfl (Nat.le_of_ble_eq_true rfl) ?_
    refine jr_bif_ne (tgt := 22) cx dX6_mark_17 (by decide) (fun c17 => ?_) (fun c17 => ?_)
    · refine jr_aload_n cx dX6_mark_22 0 rfl rfl ?_
      refine jr_get (f := 2) (v := .ref (E.1 3)) cx dX6_mark_23 (by decide) rfl rfl hinX6 (by decide) mf_26 rfl ?_
      refine jr_iload_n cx dX6_mark_26 1 rfl rfl ?_
      refine jr_iload_n cx dX6_mark_27 2 rfl rfl ?_
      refine jr_vi [.int (nI d), .int k] 2 cx dX6_mark_28 (c_X0_isOf E g h d (by omega) k) (by decide) rfl rfl gX6_mark_X0_isOf rfl (by decide +kernel) ⟨Nat.le_of_ble_eq_true rfl, Nat.le_of_ble_eq_true rfl⟩ rfl rfl (Nat.le_of_ble_eq_true rfl) ?_
      refine jr_bif_ne (tgt := 40) cx dX6_mark_31 (by decide) (fun c31 => ?_) (fun c31 => ?_)
      · refine jr_iload_n cx dX6_mark_40 2 rfl rfl ?_
        refine jr_iconst (v := 1) cx dX6_mark_41 (by decide) ?_
        refine jr_icmp_ne (tgt := 54) cx dX6_mark_42 (by decide) (fun c42 => ?_) (fun c42 => ?_)
        · refine jr_iload_n cx dX6_mark_54 2 rfl rfl ?_
          refine jr_iconst (v := 2) cx dX6_mark_55 (by decide) ?_
          refine jr_icmp_ne (tgt := 72) cx dX6_mark_56 (by decide) (fun c56 => ?_) (fun c56 => ?_)
          · refine jr_aload_n cx dX6_mark_72 0 rfl rfl ?_
            refine jr_get (f := 3) (v := .ref (E.1 4)) cx dX6_mark_73 (by decide) rfl rfl hinX6 (by decide) mf_33 rfl ?_
            refine jr_iload_n cx dX6_mark_76 1 rfl rfl ?_
            refine jr_vi [.int (nI d)] 1 cx dX6_mark_77 (c_X1_countOverBulb E g h (nI d) n hn hs) (by decide) rfl rfl gX6_mark_X1_countOverBulb rfl (by decide +kernel) ⟨Nat.le_of_ble_eq_true rfl, Nat.le_of_ble_eq_true rfl⟩ rfl rfl (Nat.le_of_ble_eq_true rfl) ?_
            exact jr_ri (by simp only [dMark, ite_self, if_pos c8, if_pos c17, if_pos c31, if_neg c42, if_neg c56, ed]) (by simp only [dMark, ite_self, if_pos c8, if_pos c17, if_pos c31, if_neg c42, if_neg c56, ed]) (by rfl) (hR 80 _ dX6_mark_80)
          · refine jr_aload_n cx dX6_mark_59 0 rfl rfl ?_
            refine jr_get (f := 3) (v := .ref (E.1 4)) cx dX6_mark_60 (by decide) rfl rfl hinX6 (by decide) mf_33 rfl ?_
            refine jr_iconst (v := 1) cx dX6_mark_63 (by decide) ?_
            refine jr_iload_n cx dX6_mark_64 1 rfl rfl ?_
            refine jr_iconst (v := 1) cx dX6_mark_65 (by decide) ?_
            refine jr_vi [.int 1, .int (nI d), .int 1] 3 cx dX6_mark_66 (c_X1_countOf E g h 1 (by decide) (nI d) 1 n hn hs) (by decide) rfl rfl gX6_mark_X1_countOf rfl (by decide +kernel) ⟨Nat.le_of_ble_eq_true rfl, Nat.le_of_ble_eq_true rfl⟩ rfl rfl (Nat.le_of_ble_eq_true rfl) ?_
            refine jr_goto (tgt := 80) cx dX6_mark_69 (by decide) ?_
            exact jr_ri (by simp only [dMark, ite_self, if_pos c8, if_pos c17, if_pos c31, if_neg c42, if_pos c56, ed]) (by simp only [dMark, ite_self, if_pos c8, if_pos c17, if_pos c31, if_neg c42, if_pos c56, ed]) (by rfl) (hR 80 _ dX6_mark_80)
        · refine jr_aload_n cx dX6_mark_45 0 rfl rfl ?_
          refine jr_get (f := 2) (v := .ref (E.1 3)) cx dX6_mark_46 (by decide) rfl rfl hinX6 (by decide) mf_26 rfl ?_
          refine jr_iload_n cx dX6_mark_49 1 rfl rfl ?_
          refine jr_vi [.int (nI d)] 1 cx dX6_mark_50 (c_X0_toleranceOf E g h d (by omega)) (by decide) rfl rfl gX6_mark_X0_toleranceOf rfl (by decide +kernel) ⟨Nat.le_of_ble_eq_true rfl, Nat.le_of_ble_eq_true rfl⟩ rfl rfl (Nat.le_of_ble_eq_true rfl) ?_
          exact jr_ri (by simp only [dMark, ite_self, if_pos c8, if_pos c17, if_pos c31, if_pos c42, ed]) (by simp only [dMark, ite_self, if_pos c8, if_pos c17, if_pos c31, if_pos c42, ed]) (by rfl) (hR 53 _ dX6_mark_53)
      · refine jr_aload_n cx dX6_mark_34 0 rfl rfl ?_
        refine jr_iconst (v := 3) cx dX6_mark_35 (by decide) ?_
        refine jr_vi [.int 3] 1 cx dX6_mark_36 (c_X6_refuse E g h 3 (by decide) (by decide)) (by decide) rfl rfl gX6_mark_X6_refuse rfl (by decide +kernel) ⟨Nat.le_of_ble_eq_true rfl, Nat.le_of_ble_eq_true rfl⟩ rfl rfl (Nat.le_of_ble_eq_true rfl) ?_
        exact jr_ri (by simp only [dMark, ite_self, if_pos c8, if_pos c17, if_neg c31, ed]) (by simp only [dMark, ite_self, if_pos c8, if_pos c17, if_neg c31, ed]) (by rfl) (hR 39 _ dX6_mark_39)
    · refine jr_iconst (v := (-1)) cx dX6_mark_20 (by decide) ?_
      exact jr_ri (by simp only [dMark, ite_self, if_pos c8, if_neg c17, ed]) (by simp only [dMark, ite_self, if_pos c8, if_neg c17, ed]) (by rfl) (hR 21 _ dX6_mark_21)
set_option maxHeartbeats 4000000 in
set_option maxRecDepth 100000 in
theorem c_X7_mark (E : mm_E) (g : mm_I) (h : mm_L) (b k : Int32) (nb : Nat) (hnb : nb ≤ 16) (hsb : g 7 13 = nI nb) (n : Nat) (hn : n ≤ 40) (hs : g 7 16 = nI n) (hri : ∀ c, c < n → g 28 c = -9 ∨ ∃ d, d < c ∧ g 28 c = nI d) : Ci E yX7_mark wsX7_mark 2 43 [.ref (E.1 7), .int b, .int k] g h (dMark nb (g 20) b k (-1) (-3) (g 21) (fun d => nI (sCn (pMk g n (nI d) k) n)) (fun d => nI (sCn (pMk g n (nI d) k) n))) (dMark nb (g 20) b k g (mtM g 3) (fun _ => g) (fun _ => g) (fun _ => g)) h := by
  refine ci_i (bytes := cX7_mark) (maxL := 5) (by decide) rfl (Nat.le_of_ble_eq_true rfl) (fun X cx hR => ?_)
  change Cx E X cX7_mark RX7 wsX7_mark 5 2 43 at cx
  change JJ E X g h 0 [(0, .ref (E.1 7)), (1, .int b), (2, .int k)] []
  have hinX7 : ∀ w ∈ u_ws RX7 TX7 30, w ∈ wsX7_mark := by decide +kernel
  have mf_147 : Cond.fieldLink RX7 147 (TX7 16).1 (TX7 16).2.1 (TX7 16).2.2.1 ∈ wsX7_mark := by decide +kernel
  have mf_62 : Cond.fieldLink RX7 62 (TX7 24).1 (TX7 24).2.1 (TX7 24).2.2.1 ∈ wsX7_mark := by decide +kernel
  have mf_44 : Cond.fieldLink RX7 44 (TX7 18).1 (TX7 18).2.1 (TX7 18).2.2.1 ∈ wsX7_mark := by decide +kernel
  have mf_38 : Cond.fieldLink RX7 38 (TX7 15).1 (TX7 15).2.1 (TX7 15).2.2.1 ∈ wsX7_mark := by decide +kernel
  refine jr_aload_n cx dX7_mark_0 0 rfl rfl ?_
  refine jr_iload_n cx dX7_mark_1 1 rfl rfl ?_
  refine jr_vi [.int b] 1 cx dX7_mark_2 (c_X7_isBulb E g h b nb hnb hsb) (by decide) rfl rfl gX7_mark_X7_isBulb rfl (by decide +kernel) ⟨Nat.le_of_ble_eq_true rfl, Nat.le_of_ble_eq_true rfl⟩ rfl rfl (Nat.le_of_ble_eq_true rfl) ?_
  refine jr_bif_eq (tgt := 17) cx dX7_mark_5 (by decide) (fun c5 => ?_) (fun c5 => ?_)
  · refine jr_iconst (v := (-1)) cx dX7_mark_17 (by decide) ?_
    exact jr_ri (by simp only [dMark, ite_self, if_neg c5]) (by simp only [dMark, ite_self, if_neg c5]) (by rfl) (hR 18 _ dX7_mark_18)
  · obtain ⟨d, hd, rfl⟩ := has_nat (by omega) c5; have ed : (nI d).toNatClampNeg = d := cl_nI (by omega)
    refine jr_iload_n cx dX7_mark_8 2 rfl rfl ?_
    refine jr_iconst (v := 1) cx dX7_mark_9 (by decide) ?_
    refine jr_iconst (v := 3) cx dX7_mark_10 (by decide) ?_
    refine jr_si [.int k, .int 1, .int 3] 3 cx dX7_mark_11 (c_X7_in E g h k 1 3) gX7_mark_X7_in rfl (by decide +kernel) ⟨Nat.le_of_ble_eq_true rfl, Nat.le_of_ble_eq_true rfl⟩ rfl rfl (Nat.le_of_ble_eq_true rfl) ?_
    refine jr_bif_ne (tgt := 19) cx dX7_mark_14 (by decide) (fun c14 => ?_) (fun c14 => ?_)
    · refine jr_aload_n cx dX7_mark_19 0 rfl rfl ?_
      refine jr_iload_n cx dX7_mark_20 1 rfl rfl ?_
      refine jr_iload_n cx dX7_mark_21 2 rfl rfl ?_
      refine jr_vi [.int (nI d), .int k] 2 cx dX7_mark_22 (c_X7_is E g h d (by omega) k) (by decide) rfl rfl gX7_mark_X7_is rfl (by decide +kernel) ⟨Nat.le_of_ble_eq_true rfl, Nat.le_of_ble_eq_true rfl⟩ rfl rfl (Nat.le_of_ble_eq_true rfl) ?_
      refine jr_bif_ne (tgt := 34) cx dX7_mark_25 (by decide) (fun c25 => ?_) (fun c25 => ?_)
      · refine jr_iload_n cx dX7_mark_34 2 rfl rfl ?_
        refine jr_iconst (v := 1) cx dX7_mark_35 (by decide) ?_
        refine jr_icmp_ne (tgt := 46) cx dX7_mark_36 (by decide) (fun c36 => ?_) (fun c36 => ?_)
        · refine jr_iconst (v := 0) cx dX7_mark_46 (by decide) ?_
          refine jr_istore_n (L' := [(3, .int 0), (0, .ref (E.1 7)), (1, .int (nI d)), (2, .int k)]) cx dX7_mark_47 rfl (by decide) rfl ?_
          refine jr_iconst (v := 0) cx dX7_mark_48 (by decide) ?_
          refine jr_istore (L' := [(4, .int 0), (3, .int 0), (0, .ref (E.1 7)), (1, .int (nI d)), (2, .int k)]) cx dX7_mark_49 (by decide) rfl ?_
          have key1 : ∀ (fu1 : Nat) (i : Nat), n + 1 ≤ i + fu1 → (i ≤ n) → JJ E X g h 51 [(0, .ref (E.1 7)), (1, .int (nI d)), (2, .int k), (3, .int (nI (sCn (pMk g n (nI d) k) i))), (4, .int (nI i))] [] := by
            intro fu1
            induction fu1 with
            | zero => intro i hfu1 h1; exfalso; omega
            | succ fu1 ih1 =>
              intro i hfu1 h1
              refine jr_iload cx dX7_mark_51 4 rfl ?_
              refine jr_aload_n cx dX7_mark_53 0 rfl rfl ?_
              refine jr_get (f := 16) (v := .int (g 7 16)) cx dX7_mark_54 (by decide) rfl rfl hinX7 (by decide) mf_147 rfl ?_
              refine jr_top hs ?_
              refine jr_icmp_ge (tgt := 113) cx dX7_mark_57 (by decide) (fun c57 => ?_) (fun c57 => ?_)
              · have n57 : n ≤ i := (nI_leI (a := n) (b := i) (by omega) (by omega)).mp c57
                have hin : n = i := by omega
                subst hin
                refine jr_iload_n cx dX7_mark_113 3 rfl rfl ?_
                exact jr_ri (by simp only [dMark, ite_self, if_pos c5, if_pos c14, if_pos c25, if_neg c36, ed]) (by simp only [dMark, ite_self, if_pos c5, if_pos c14, if_pos c25, if_neg c36, ed]) (by rfl) (hR 114 _ dX7_mark_114)
              · have n57 : ¬ (n ≤ i) := fun zz => c57 ((nI_leI (a := n) (b := i) (by omega) (by omega)).mpr zz)
                refine jr_iload_n cx dX7_mark_60 3 rfl rfl ?_
                refine jr_aload_n cx dX7_mark_61 0 rfl rfl ?_
                refine jr_get (f := 24) (v := .ref (E.1 31)) cx dX7_mark_62 (by decide) rfl rfl hinX7 (by decide) mf_62 rfl ?_
                refine jr_iload cx dX7_mark_65 4 rfl ?_
                refine jr_zald cx dX7_mark_67 (Or.inl rfl) i rfl (show _ < 40 by omega) ?_
                refine jr_if_ne (tgt := 104) cx dX7_mark_68 (by decide) (fun c68 => ?_) (fun c68 => ?_)
                · refine jr_iconst (v := 0) cx dX7_mark_104 (by decide) ?_
                  refine jr_iadd cx dX7_mark_105 ?_
                  refine jr_top (show (nI (sCn (pMk g n (nI d) k) i) : Int32) + 0 = nI ((sCn (pMk g n (nI d) k) i) + 0) from nI_add (sCn (pMk g n (nI d) k) i) 0) ?_
                  refine jr_istore_n (L' := [(3, .int (nI ((sCn (pMk g n (nI d) k) i) + 0))), (0, .ref (E.1 7)), (1, .int (nI d)), (2, .int k), (4, .int (nI i))]) cx dX7_mark_106 rfl (by decide) rfl ?_
                  refine jr_iinc (n := 4) (v := nI (i + 1)) (L' := [(4, .int (nI (i + 1))), (3, .int (nI ((sCn (pMk g n (nI d) k) i) + 0))), (0, .ref (E.1 7)), (1, .int (nI d)), (2, .int k)]) cx dX7_mark_107 rfl (nI_1 _) (by decide) rfl ?_
                  refine jr_goto (tgt := 51) cx dX7_mark_110 (by decide) ?_
                  refine jr_pick (L' := [(0, .ref (E.1 7)), (1, .int (nI d)), (2, .int k), (3, .int (nI ((sCn (pMk g n (nI d) k) i) + 0))), (4, .int (nI (i + 1)))]) [2, 3, 4, 1, 0] rfl ?_
                  have e3 : (nI ((sCn (pMk g n (nI d) k) i) + 0) : Int32) = (nI (sCn (pMk g n (nI d) k) (i + 1))) := by exact congrArg nI (if_neg (fun q : pMk g n (nI d) k i => c68 q.1)).symm
                  refine jr_loc (lc_n (lc_n (lc_n (lc_i e3 (lc_n rfl))))) ?_
                  exact ih1 (i + 1) (by omega) (by omega)
                · refine jr_iload_n cx dX7_mark_71 2 rfl rfl ?_
                  refine jr_iconst (v := 2) cx dX7_mark_72 (by decide) ?_
                  refine jr_icmp_ne (tgt := 90) cx dX7_mark_73 (by decide) (fun c73 => ?_) (fun c73 => ?_)
                  · refine jr_aload_n cx dX7_mark_90 0 rfl rfl ?_
                    refine jr_iload cx dX7_mark_91 4 rfl ?_
                    refine jr_iload_n cx dX7_mark_93 1 rfl rfl ?_
                    refine jr_vi [.int (nI i), .int (nI d)] 2 cx dX7_mark_94 (c_X7_restsOn E g h i (nI d) n hn hs (by omega) hri) (by decide) rfl rfl gX7_mark_X7_restsOn rfl (by decide +kernel) ⟨Nat.le_of_ble_eq_true rfl, Nat.le_of_ble_eq_true rfl⟩ rfl rfl (Nat.le_of_ble_eq_true rfl) ?_
                    refine jr_bif_eq (tgt := 104) cx dX7_mark_97 (by decide) (fun c97 => ?_) (fun c97 => ?_)
                    · refine jr_iconst (v := 0) cx dX7_mark_104 (by decide) ?_
                      refine jr_iadd cx dX7_mark_105 ?_
                      refine jr_top (show (nI (sCn (pMk g n (nI d) k) i) : Int32) + 0 = nI ((sCn (pMk g n (nI d) k) i) + 0) from nI_add (sCn (pMk g n (nI d) k) i) 0) ?_
                      refine jr_istore_n (L' := [(3, .int (nI ((sCn (pMk g n (nI d) k) i) + 0))), (0, .ref (E.1 7)), (1, .int (nI d)), (2, .int k), (4, .int (nI i))]) cx dX7_mark_106 rfl (by decide) rfl ?_
                      refine jr_iinc (n := 4) (v := nI (i + 1)) (L' := [(4, .int (nI (i + 1))), (3, .int (nI ((sCn (pMk g n (nI d) k) i) + 0))), (0, .ref (E.1 7)), (1, .int (nI d)), (2, .int k)]) cx dX7_mark_107 rfl (nI_1 _) (by decide) rfl ?_
                      refine jr_goto (tgt := 51) cx dX7_mark_110 (by decide) ?_
                      refine jr_pick (L' := [(0, .ref (E.1 7)), (1, .int (nI d)), (2, .int k), (3, .int (nI ((sCn (pMk g n (nI d) k) i) + 0))), (4, .int (nI (i + 1)))]) [2, 3, 4, 1, 0] rfl ?_
                      have e3 : (nI ((sCn (pMk g n (nI d) k) i) + 0) : Int32) = (nI (sCn (pMk g n (nI d) k) (i + 1))) := by exact congrArg nI (if_neg (fun q : pMk g n (nI d) k i => q.2.elim (fun q => c73 q.1) (fun q => c97 q.2))).symm
                      refine jr_loc (lc_n (lc_n (lc_n (lc_i e3 (lc_n rfl))))) ?_
                      exact ih1 (i + 1) (by omega) (by omega)
                    · refine jr_iconst (v := 1) cx dX7_mark_100 (by decide) ?_
                      refine jr_goto (tgt := 105) cx dX7_mark_101 (by decide) ?_
                      refine jr_iadd cx dX7_mark_105 ?_
                      refine jr_top (show (nI (sCn (pMk g n (nI d) k) i) : Int32) + 1 = nI ((sCn (pMk g n (nI d) k) i) + 1) from nI_add (sCn (pMk g n (nI d) k) i) 1) ?_
                      refine jr_istore_n (L' := [(3, .int (nI ((sCn (pMk g n (nI d) k) i) + 1))), (0, .ref (E.1 7)), (1, .int (nI d)), (2, .int k), (4, .int (nI i))]) cx dX7_mark_106 rfl (by decide) rfl ?_
                      refine jr_iinc (n := 4) (v := nI (i + 1)) (L' := [(4, .int (nI (i + 1))), (3, .int (nI ((sCn (pMk g n (nI d) k) i) + 1))), (0, .ref (E.1 7)), (1, .int (nI d)), (2, .int k)]) cx dX7_mark_107 rfl (nI_1 _) (by decide) rfl ?_
                      refine jr_goto (tgt := 51) cx dX7_mark_110 (by decide) ?_
                      refine jr_pick (L' := [(0, .ref (E.1 7)), (1, .int (nI d)), (2, .int k), (3, .int (nI ((sCn (pMk g n (nI d) k) i) + 1))), (4, .int (nI (i + 1)))]) [2, 3, 4, 1, 0] rfl ?_
                      have e3 : (nI ((sCn (pMk g n (nI d) k) i) + 1) : Int32) = (nI (sCn (pMk g n (nI d) k) (i + 1))) := by exact congrArg nI (if_pos (show pMk g n (nI d) k i from ⟨c68, Or.inr ⟨c73, c97⟩⟩)).symm
                      refine jr_loc (lc_n (lc_n (lc_n (lc_i e3 (lc_n rfl))))) ?_
                      exact ih1 (i + 1) (by omega) (by omega)
                  · refine jr_aload_n cx dX7_mark_76 0 rfl rfl ?_
                    refine jr_get (f := 18) (v := .ref (E.1 23)) cx dX7_mark_77 (by decide) rfl rfl hinX7 (by decide) mf_44 rfl ?_
                    refine jr_iload cx dX7_mark_80 4 rfl ?_
                    refine jr_iald cx dX7_mark_82 (Or.inl ⟨by decide, by decide⟩) i rfl (show _ < 40 by omega) ?_
                    refine jr_iload_n cx dX7_mark_83 1 rfl rfl ?_
                    refine jr_icmp_ne (tgt := 104) cx dX7_mark_84 (by decide) (fun c84 => ?_) (fun c84 => ?_)
                    · refine jr_iconst (v := 0) cx dX7_mark_104 (by decide) ?_
                      refine jr_iadd cx dX7_mark_105 ?_
                      refine jr_top (show (nI (sCn (pMk g n (nI d) k) i) : Int32) + 0 = nI ((sCn (pMk g n (nI d) k) i) + 0) from nI_add (sCn (pMk g n (nI d) k) i) 0) ?_
                      refine jr_istore_n (L' := [(3, .int (nI ((sCn (pMk g n (nI d) k) i) + 0))), (0, .ref (E.1 7)), (1, .int (nI d)), (2, .int k), (4, .int (nI i))]) cx dX7_mark_106 rfl (by decide) rfl ?_
                      refine jr_iinc (n := 4) (v := nI (i + 1)) (L' := [(4, .int (nI (i + 1))), (3, .int (nI ((sCn (pMk g n (nI d) k) i) + 0))), (0, .ref (E.1 7)), (1, .int (nI d)), (2, .int k)]) cx dX7_mark_107 rfl (nI_1 _) (by decide) rfl ?_
                      refine jr_goto (tgt := 51) cx dX7_mark_110 (by decide) ?_
                      refine jr_pick (L' := [(0, .ref (E.1 7)), (1, .int (nI d)), (2, .int k), (3, .int (nI ((sCn (pMk g n (nI d) k) i) + 0))), (4, .int (nI (i + 1)))]) [2, 3, 4, 1, 0] rfl ?_
                      have e3 : (nI ((sCn (pMk g n (nI d) k) i) + 0) : Int32) = (nI (sCn (pMk g n (nI d) k) (i + 1))) := by exact congrArg nI (if_neg (fun q : pMk g n (nI d) k i => q.2.elim (fun q => c84 q.2) (fun q => q.1 c73))).symm
                      refine jr_loc (lc_n (lc_n (lc_n (lc_i e3 (lc_n rfl))))) ?_
                      exact ih1 (i + 1) (by omega) (by omega)
                    · refine jr_goto (tgt := 100) cx dX7_mark_87 (by decide) ?_
                      refine jr_iconst (v := 1) cx dX7_mark_100 (by decide) ?_
                      refine jr_goto (tgt := 105) cx dX7_mark_101 (by decide) ?_
                      refine jr_iadd cx dX7_mark_105 ?_
                      refine jr_top (show (nI (sCn (pMk g n (nI d) k) i) : Int32) + 1 = nI ((sCn (pMk g n (nI d) k) i) + 1) from nI_add (sCn (pMk g n (nI d) k) i) 1) ?_
                      refine jr_istore_n (L' := [(3, .int (nI ((sCn (pMk g n (nI d) k) i) + 1))), (0, .ref (E.1 7)), (1, .int (nI d)), (2, .int k), (4, .int (nI i))]) cx dX7_mark_106 rfl (by decide) rfl ?_
                      refine jr_iinc (n := 4) (v := nI (i + 1)) (L' := [(4, .int (nI (i + 1))), (3, .int (nI ((sCn (pMk g n (nI d) k) i) + 1))), (0, .ref (E.1 7)), (1, .int (nI d)), (2, .int k)]) cx dX7_mark_107 rfl (nI_1 _) (by decide) rfl ?_
                      refine jr_goto (tgt := 51) cx dX7_mark_110 (by decide) ?_
                      refine jr_pick (L' := [(0, .ref (E.1 7)), (1, .int (nI d)), (2, .int k), (3, .int (nI ((sCn (pMk g n (nI d) k) i) + 1))), (4, .int (nI (i + 1)))]) [2, 3, 4, 1, 0] rfl ?_
                      have e3 : (nI ((sCn (pMk g n (nI d) k) i) + 1) : Int32) = (nI (sCn (pMk g n (nI d) k) (i + 1))) := by exact congrArg nI (if_pos (show pMk g n (nI d) k i from ⟨c68, Or.inl ⟨c73, c84⟩⟩)).symm
                      refine jr_loc (lc_n (lc_n (lc_n (lc_i e3 (lc_n rfl))))) ?_
                      exact ih1 (i + 1) (by omega) (by omega)
          refine jr_pick (L' := [(0, .ref (E.1 7)), (1, .int (nI d)), (2, .int k), (3, .int 0), (4, .int 0)]) [2, 3, 4, 1, 0] rfl ?_
          have e3 : (0 : Int32) = (nI (sCn (pMk g n (nI d) k) 0)) := by rfl
          have e4 : (0 : Int32) = (nI 0) := by rfl
          refine jr_loc (lc_n (lc_n (lc_n (lc_i e3 (lc_i e4 rfl))))) ?_
          exact key1 (n + 1) 0 (by omega) (by omega)
        · refine jr_aload_n cx dX7_mark_39 0 rfl rfl ?_
          refine jr_get (f := 15) (v := .ref (E.1 21)) cx dX7_mark_40 (by decide) rfl rfl hinX7 (by decide) mf_38 rfl ?_
          refine jr_iload_n cx dX7_mark_43 1 rfl rfl ?_
          refine jr_iald cx dX7_mark_44 (Or.inl ⟨by decide, by decide⟩) d rfl (show _ < 16 by omega) ?_
          exact jr_ri (by simp only [dMark, ite_self, if_pos c5, if_pos c14, if_pos c25, if_pos c36, ed]) (by simp only [dMark, ite_self, if_pos c5, if_pos c14, if_pos c25, if_pos c36, ed]) (by rfl) (hR 45 _ dX7_mark_45)
      · refine jr_aload_n cx dX7_mark_28 0 rfl rfl ?_
        refine jr_iconst (v := 3) cx dX7_mark_29 (by decide) ?_
        refine jr_vi [.int 3] 1 cx dX7_mark_30 (c_X7_meets E g h 3 (by decide)) (by decide) rfl rfl gX7_mark_X7_meets rfl (by decide +kernel) ⟨Nat.le_of_ble_eq_true rfl, Nat.le_of_ble_eq_true rfl⟩ rfl rfl (Nat.le_of_ble_eq_true rfl) ?_
        exact jr_ri (by simp only [dMark, ite_self, if_pos c5, if_pos c14, if_neg c25, ed]) (by simp only [dMark, ite_self, if_pos c5, if_pos c14, if_neg c25, ed]) (by rfl) (hR 33 _ dX7_mark_33)
    · refine jr_iconst (v := (-1)) cx dX7_mark_17 (by decide) ?_
      exact jr_ri (by simp only [dMark, ite_self, if_pos c5, if_neg c14, ed]) (by simp only [dMark, ite_self, if_pos c5, if_neg c14, ed]) (by rfl) (hR 18 _ dX7_mark_18)
