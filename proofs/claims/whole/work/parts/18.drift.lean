def dDrift {α : Type} (nb : Nat) (b : Int32) (L : Nat → Int32) (A : Nat → Nat → Int32) (dd : Nat → Nat → Prop) [∀ c a, Decidable (dd c a)] (bad : α) (state : Nat → α) (nought : Nat → Nat → Nat → α) (ok : Nat → Nat → Nat → α) : α :=
  if ¬ b < 0 ∧ ¬ nI nb - 1 < b then (if L b.toNatClampNeg = -9 then state b.toNatClampNeg else if A b.toNatClampNeg (L b.toNatClampNeg).toNatClampNeg = -9 then state b.toNatClampNeg else if dd (L b.toNatClampNeg).toNatClampNeg (A b.toNatClampNeg (L b.toNatClampNeg).toNatClampNeg).toNatClampNeg then nought b.toNatClampNeg (L b.toNatClampNeg).toNatClampNeg (A b.toNatClampNeg (L b.toNatClampNeg).toNatClampNeg).toNatClampNeg else ok b.toNatClampNeg (L b.toNatClampNeg).toNatClampNeg (A b.toNatClampNeg (L b.toNatClampNeg).toNatClampNeg).toNatClampNeg) else bad
set_option maxHeartbeats 4000000 in
set_option maxRecDepth 100000 in
theorem c_X6_driftRefusal_bad (E : mm_E) (g : mm_I) (h : mm_L) (b : Int32) (nb : Nat) (hnb : nb ≤ 16) (hsb : g 3 2 = nI nb) (n : Nat) (hn : n ≤ 40) (hs : g 4 1 = nI n) (hh : ¬ (¬ b < 0 ∧ ¬ nI nb - 1 < b)) : Ci E yX6_driftRefusal wsX6_driftRefusal 4 92 [.ref (E.1 0), .int b] g h (-1) g h := by
  refine ci_i (bytes := cX6_driftRefusal) (maxL := 4) (by decide) rfl (Nat.le_of_ble_eq_true rfl) (fun X cx hR => ?_)
  change Cx E X cX6_driftRefusal RX6 wsX6_driftRefusal 4 4 92 at cx
  change JJ E X g h 0 [(0, .ref (E.1 0)), (1, .int b)] []
  have hinX6 : ∀ w ∈ u_ws RX6 TX6 9, w ∈ wsX6_driftRefusal := by decide +kernel
  have mf_26 : Cond.fieldLink RX6 26 (TX6 2).1 (TX6 2).2.1 (TX6 2).2.2.1 ∈ wsX6_driftRefusal := by decide +kernel
  refine jr_aload_n cx dX6_driftRefusal_0 0 rfl rfl ?_
  refine jr_get (f := 2) (v := .ref (E.1 3)) cx dX6_driftRefusal_1 (by decide) rfl rfl hinX6 (by decide) mf_26 rfl ?_
  refine jr_iload_n cx dX6_driftRefusal_4 1 rfl rfl ?_
  refine jr_vi [.int b] 1 cx dX6_driftRefusal_5 (c_X0_has E g h b nb hnb hsb) (by decide) rfl rfl gX6_driftRefusal_X0_has rfl (by decide +kernel) ⟨Nat.le_of_ble_eq_true rfl, Nat.le_of_ble_eq_true rfl⟩ rfl rfl (Nat.le_of_ble_eq_true rfl) ?_
  refine jr_bif_ne (tgt := 13) cx dX6_driftRefusal_8 (by decide) (fun c8 => ?_) (fun c8 => ?_)
  · exact absurd c8 hh
  · refine jr_iconst (v := (-1)) cx dX6_driftRefusal_11 (by decide) ?_
    exact jr_ri (by rfl) (by rfl) (by rfl) (hR 12 _ dX6_driftRefusal_12)
set_option maxHeartbeats 4000000 in
set_option maxRecDepth 100000 in
theorem c_X6_driftRefusal_s1 (E : mm_E) (g : mm_I) (h : mm_L) (nb : Nat) (hnb : nb ≤ 16) (hsb : g 3 2 = nI nb) (n : Nat) (hn : n ≤ 40) (hs : g 4 1 = nI n) (d : Nat) (hd : d < nb) (hh : ¬ nI d < 0 ∧ ¬ nI nb - 1 < nI d) (ec : sLast (pLU g (nI d) 100000) n = -9) : Ci E yX6_driftRefusal wsX6_driftRefusal 4 92 [.ref (E.1 0), .int (nI d)] g h (-4) g h := by
  refine ci_i (bytes := cX6_driftRefusal) (maxL := 4) (by decide) rfl (Nat.le_of_ble_eq_true rfl) (fun X cx hR => ?_)
  change Cx E X cX6_driftRefusal RX6 wsX6_driftRefusal 4 4 92 at cx
  change JJ E X g h 0 [(0, .ref (E.1 0)), (1, .int (nI d))] []
  have hinX6 : ∀ w ∈ u_ws RX6 TX6 9, w ∈ wsX6_driftRefusal := by decide +kernel
  have mf_26 : Cond.fieldLink RX6 26 (TX6 2).1 (TX6 2).2.1 (TX6 2).2.2.1 ∈ wsX6_driftRefusal := by decide +kernel
  have mf_33 : Cond.fieldLink RX6 33 (TX6 3).1 (TX6 3).2.1 (TX6 3).2.2.1 ∈ wsX6_driftRefusal := by decide +kernel
  refine jr_aload_n cx dX6_driftRefusal_0 0 rfl rfl ?_
  refine jr_get (f := 2) (v := .ref (E.1 3)) cx dX6_driftRefusal_1 (by decide) rfl rfl hinX6 (by decide) mf_26 rfl ?_
  refine jr_iload_n cx dX6_driftRefusal_4 1 rfl rfl ?_
  refine jr_vi [.int (nI d)] 1 cx dX6_driftRefusal_5 (c_X0_has E g h (nI d) nb hnb hsb) (by decide) rfl rfl gX6_driftRefusal_X0_has rfl (by decide +kernel) ⟨Nat.le_of_ble_eq_true rfl, Nat.le_of_ble_eq_true rfl⟩ rfl rfl (Nat.le_of_ble_eq_true rfl) ?_
  refine jr_bif_ne (tgt := 13) cx dX6_driftRefusal_8 (by decide) (fun c8 => ?_) (fun c8 => ?_)
  · refine jr_aload_n cx dX6_driftRefusal_13 0 rfl rfl ?_
    refine jr_get (f := 3) (v := .ref (E.1 4)) cx dX6_driftRefusal_14 (by decide) rfl rfl hinX6 (by decide) mf_33 rfl ?_
    refine jr_iload_n cx dX6_driftRefusal_17 1 rfl rfl ?_
    refine jr_vi [.int (nI d)] 1 cx dX6_driftRefusal_18 (c_X1_latestOf E g h (nI d) n hn hs) (by decide) rfl rfl gX6_driftRefusal_X1_latestOf rfl (by decide +kernel) ⟨Nat.le_of_ble_eq_true rfl, Nat.le_of_ble_eq_true rfl⟩ rfl rfl (Nat.le_of_ble_eq_true rfl) ?_
    refine jr_top ec ?_
    refine jr_istore_n (L' := [(2, .int (-9)), (0, .ref (E.1 0)), (1, .int (nI d))]) cx dX6_driftRefusal_21 rfl (by decide) rfl ?_
    refine jr_iload_n cx dX6_driftRefusal_22 0 rfl rfl ?_
    refine jr_bipush (v := (-9)) cx dX6_driftRefusal_23 (by decide) ?_
    refine jr_icmp_ne (tgt := 33) cx dX6_driftRefusal_25 (by decide) (fun c25 => absurd c25 (by decide)) (fun c25 => ?_)
    refine jr_bipush (v := (-9)) cx dX6_driftRefusal_28 (by decide) ?_
    refine jr_goto (tgt := 44) cx dX6_driftRefusal_30 (by decide) ?_
    refine jr_istore_n (L' := [(3, .int (-9)), (2, .int (-9)), (0, .ref (E.1 0)), (1, .int (nI d))]) cx dX6_driftRefusal_44 rfl (by decide) rfl ?_
    refine jr_iload_n cx dX6_driftRefusal_45 0 rfl rfl ?_
    refine jr_bipush (v := (-9)) cx dX6_driftRefusal_46 (by decide) ?_
    refine jr_icmp_ne (tgt := 54) cx dX6_driftRefusal_48 (by decide) (fun c48 => absurd c48 (by decide)) (fun c48 => ?_)
    refine jr_bipush (v := (-4)) cx dX6_driftRefusal_51 (by decide) ?_
    exact jr_ri (by rfl) (by rfl) (by rfl) (hR 53 _ dX6_driftRefusal_53)
  · exact absurd hh c8
set_option maxHeartbeats 4000000 in
set_option maxRecDepth 100000 in
theorem c_X6_driftRefusal_s2 (E : mm_E) (g : mm_I) (h : mm_L) (nb : Nat) (hnb : nb ≤ 16) (hsb : g 3 2 = nI nb) (n : Nat) (hn : n ≤ 40) (hs : g 4 1 = nI n) (d : Nat) (hd : d < nb) (hh : ¬ nI d < 0 ∧ ¬ nI nb - 1 < nI d) (c : Nat) (hc : c < n) (ec : sLast (pLU g (nI d) 100000) n = nI c) (ea : sLast (pLU g (nI d) 100000) c = -9) : Ci E yX6_driftRefusal wsX6_driftRefusal 4 92 [.ref (E.1 0), .int (nI d)] g h (-4) g h := by
  refine ci_i (bytes := cX6_driftRefusal) (maxL := 4) (by decide) rfl (Nat.le_of_ble_eq_true rfl) (fun X cx hR => ?_)
  change Cx E X cX6_driftRefusal RX6 wsX6_driftRefusal 4 4 92 at cx
  change JJ E X g h 0 [(0, .ref (E.1 0)), (1, .int (nI d))] []
  have hinX6 : ∀ w ∈ u_ws RX6 TX6 9, w ∈ wsX6_driftRefusal := by decide +kernel
  have mf_26 : Cond.fieldLink RX6 26 (TX6 2).1 (TX6 2).2.1 (TX6 2).2.2.1 ∈ wsX6_driftRefusal := by decide +kernel
  have mf_33 : Cond.fieldLink RX6 33 (TX6 3).1 (TX6 3).2.1 (TX6 3).2.2.1 ∈ wsX6_driftRefusal := by decide +kernel
  have mc_75 : Cond.constant RX6 75 100000 ∈ wsX6_driftRefusal := by decide +kernel
  refine jr_aload_n cx dX6_driftRefusal_0 0 rfl rfl ?_
  refine jr_get (f := 2) (v := .ref (E.1 3)) cx dX6_driftRefusal_1 (by decide) rfl rfl hinX6 (by decide) mf_26 rfl ?_
  refine jr_iload_n cx dX6_driftRefusal_4 1 rfl rfl ?_
  refine jr_vi [.int (nI d)] 1 cx dX6_driftRefusal_5 (c_X0_has E g h (nI d) nb hnb hsb) (by decide) rfl rfl gX6_driftRefusal_X0_has rfl (by decide +kernel) ⟨Nat.le_of_ble_eq_true rfl, Nat.le_of_ble_eq_true rfl⟩ rfl rfl (Nat.le_of_ble_eq_true rfl) ?_
  refine jr_bif_ne (tgt := 13) cx dX6_driftRefusal_8 (by decide) (fun c8 => ?_) (fun c8 => ?_)
  · refine jr_aload_n cx dX6_driftRefusal_13 0 rfl rfl ?_
    refine jr_get (f := 3) (v := .ref (E.1 4)) cx dX6_driftRefusal_14 (by decide) rfl rfl hinX6 (by decide) mf_33 rfl ?_
    refine jr_iload_n cx dX6_driftRefusal_17 1 rfl rfl ?_
    refine jr_vi [.int (nI d)] 1 cx dX6_driftRefusal_18 (c_X1_latestOf E g h (nI d) n hn hs) (by decide) rfl rfl gX6_driftRefusal_X1_latestOf rfl (by decide +kernel) ⟨Nat.le_of_ble_eq_true rfl, Nat.le_of_ble_eq_true rfl⟩ rfl rfl (Nat.le_of_ble_eq_true rfl) ?_
    refine jr_top ec ?_
    refine jr_istore_n (L' := [(2, .int (nI c)), (0, .ref (E.1 0)), (1, .int (nI d))]) cx dX6_driftRefusal_21 rfl (by decide) rfl ?_
    refine jr_iload_n cx dX6_driftRefusal_22 0 rfl rfl ?_
    refine jr_bipush (v := (-9)) cx dX6_driftRefusal_23 (by decide) ?_
    refine jr_icmp_ne (tgt := 33) cx dX6_driftRefusal_25 (by decide) (fun c25 => ?_) (fun c25 => ?_)
    · refine jr_aload_n cx dX6_driftRefusal_33 1 rfl rfl ?_
      refine jr_get (f := 3) (v := .ref (E.1 4)) cx dX6_driftRefusal_34 (by decide) rfl rfl hinX6 (by decide) mf_33 rfl ?_
      refine jr_iload_n cx dX6_driftRefusal_37 2 rfl rfl ?_
      refine jr_ldc cx dX6_driftRefusal_38 mc_75 ?_
      refine jr_iload_n cx dX6_driftRefusal_40 0 rfl rfl ?_
      refine jr_vi [.int (nI d), .int 100000, .int (nI c)] 3 cx dX6_driftRefusal_41 (c_X1_lastUntil E g h (nI d) 100000 c n hn hs (by omega)) (by decide) rfl rfl gX6_driftRefusal_X1_lastUntil rfl (by decide +kernel) ⟨Nat.le_of_ble_eq_true rfl, Nat.le_of_ble_eq_true rfl⟩ rfl rfl (Nat.le_of_ble_eq_true rfl) ?_
      refine jr_top ea ?_
      refine jr_istore_n (L' := [(3, .int (-9)), (2, .int (nI c)), (0, .ref (E.1 0)), (1, .int (nI d))]) cx dX6_driftRefusal_44 rfl (by decide) rfl ?_
      refine jr_iload_n cx dX6_driftRefusal_45 0 rfl rfl ?_
      refine jr_bipush (v := (-9)) cx dX6_driftRefusal_46 (by decide) ?_
      refine jr_icmp_ne (tgt := 54) cx dX6_driftRefusal_48 (by decide) (fun c48 => absurd c48 (by decide)) (fun c48 => ?_)
      refine jr_bipush (v := (-4)) cx dX6_driftRefusal_51 (by decide) ?_
      exact jr_ri (by rfl) (by rfl) (by rfl) (hR 53 _ dX6_driftRefusal_53)
    · exact absurd (show nI c < 0 by rw [c25]; decide) (nI_pos (by omega))
  · exact absurd hh c8
set_option maxHeartbeats 4000000 in
set_option maxRecDepth 100000 in
theorem c_X6_driftRefusal_no (E : mm_E) (g : mm_I) (h : mm_L) (nb : Nat) (hnb : nb ≤ 16) (hsb : g 3 2 = nI nb) (n : Nat) (hn : n ≤ 40) (hs : g 4 1 = nI n) (d : Nat) (hd : d < nb) (hh : ¬ nI d < 0 ∧ ¬ nI nb - 1 < nI d) (c : Nat) (hc : c < n) (ec : sLast (pLU g (nI d) 100000) n = nI c) (a : Nat) (ha : a < c) (ea : sLast (pLU g (nI d) 100000) c = nI a) (hz : g (53 + c) 3 - g (53 + a) 3 = 0) : Ci E yX6_driftRefusal wsX6_driftRefusal 4 92 [.ref (E.1 0), .int (nI d)] g h (-3) (rfM g 4) h := by
  refine ci_i (bytes := cX6_driftRefusal) (maxL := 4) (by decide) rfl (Nat.le_of_ble_eq_true rfl) (fun X cx hR => ?_)
  change Cx E X cX6_driftRefusal RX6 wsX6_driftRefusal 4 4 92 at cx
  change JJ E X g h 0 [(0, .ref (E.1 0)), (1, .int (nI d))] []
  have hinX6 : ∀ w ∈ u_ws RX6 TX6 9, w ∈ wsX6_driftRefusal := by decide +kernel
  have mf_26 : Cond.fieldLink RX6 26 (TX6 2).1 (TX6 2).2.1 (TX6 2).2.2.1 ∈ wsX6_driftRefusal := by decide +kernel
  have mf_33 : Cond.fieldLink RX6 33 (TX6 3).1 (TX6 3).2.1 (TX6 3).2.2.1 ∈ wsX6_driftRefusal := by decide +kernel
  have mc_75 : Cond.constant RX6 75 100000 ∈ wsX6_driftRefusal := by decide +kernel
  refine jr_aload_n cx dX6_driftRefusal_0 0 rfl rfl ?_
  refine jr_get (f := 2) (v := .ref (E.1 3)) cx dX6_driftRefusal_1 (by decide) rfl rfl hinX6 (by decide) mf_26 rfl ?_
  refine jr_iload_n cx dX6_driftRefusal_4 1 rfl rfl ?_
  refine jr_vi [.int (nI d)] 1 cx dX6_driftRefusal_5 (c_X0_has E g h (nI d) nb hnb hsb) (by decide) rfl rfl gX6_driftRefusal_X0_has rfl (by decide +kernel) ⟨Nat.le_of_ble_eq_true rfl, Nat.le_of_ble_eq_true rfl⟩ rfl rfl (Nat.le_of_ble_eq_true rfl) ?_
  refine jr_bif_ne (tgt := 13) cx dX6_driftRefusal_8 (by decide) (fun c8 => ?_) (fun c8 => ?_)
  · refine jr_aload_n cx dX6_driftRefusal_13 0 rfl rfl ?_
    refine jr_get (f := 3) (v := .ref (E.1 4)) cx dX6_driftRefusal_14 (by decide) rfl rfl hinX6 (by decide) mf_33 rfl ?_
    refine jr_iload_n cx dX6_driftRefusal_17 1 rfl rfl ?_
    refine jr_vi [.int (nI d)] 1 cx dX6_driftRefusal_18 (c_X1_latestOf E g h (nI d) n hn hs) (by decide) rfl rfl gX6_driftRefusal_X1_latestOf rfl (by decide +kernel) ⟨Nat.le_of_ble_eq_true rfl, Nat.le_of_ble_eq_true rfl⟩ rfl rfl (Nat.le_of_ble_eq_true rfl) ?_
    refine jr_top ec ?_
    refine jr_istore_n (L' := [(2, .int (nI c)), (0, .ref (E.1 0)), (1, .int (nI d))]) cx dX6_driftRefusal_21 rfl (by decide) rfl ?_
    refine jr_iload_n cx dX6_driftRefusal_22 0 rfl rfl ?_
    refine jr_bipush (v := (-9)) cx dX6_driftRefusal_23 (by decide) ?_
    refine jr_icmp_ne (tgt := 33) cx dX6_driftRefusal_25 (by decide) (fun c25 => ?_) (fun c25 => ?_)
    · refine jr_aload_n cx dX6_driftRefusal_33 1 rfl rfl ?_
      refine jr_get (f := 3) (v := .ref (E.1 4)) cx dX6_driftRefusal_34 (by decide) rfl rfl hinX6 (by decide) mf_33 rfl ?_
      refine jr_iload_n cx dX6_driftRefusal_37 2 rfl rfl ?_
      refine jr_ldc cx dX6_driftRefusal_38 mc_75 ?_
      refine jr_iload_n cx dX6_driftRefusal_40 0 rfl rfl ?_
      refine jr_vi [.int (nI d), .int 100000, .int (nI c)] 3 cx dX6_driftRefusal_41 (c_X1_lastUntil E g h (nI d) 100000 c n hn hs (by omega)) (by decide) rfl rfl gX6_driftRefusal_X1_lastUntil rfl (by decide +kernel) ⟨Nat.le_of_ble_eq_true rfl, Nat.le_of_ble_eq_true rfl⟩ rfl rfl (Nat.le_of_ble_eq_true rfl) ?_
      refine jr_top ea ?_
      refine jr_istore_n (L' := [(3, .int (nI a)), (2, .int (nI c)), (0, .ref (E.1 0)), (1, .int (nI d))]) cx dX6_driftRefusal_44 rfl (by decide) rfl ?_
      refine jr_iload_n cx dX6_driftRefusal_45 0 rfl rfl ?_
      refine jr_bipush (v := (-9)) cx dX6_driftRefusal_46 (by decide) ?_
      refine jr_icmp_ne (tgt := 54) cx dX6_driftRefusal_48 (by decide) (fun c48 => ?_) (fun c48 => ?_)
      · refine jr_aload_n cx dX6_driftRefusal_54 2 rfl rfl ?_
        refine jr_get (f := 3) (v := .ref (E.1 4)) cx dX6_driftRefusal_55 (by decide) rfl rfl hinX6 (by decide) mf_33 rfl ?_
        refine jr_iconst (v := 3) cx dX6_driftRefusal_58 (by decide) ?_
        refine jr_iload_n cx dX6_driftRefusal_59 0 rfl rfl ?_
        refine jr_iload_n cx dX6_driftRefusal_60 1 rfl rfl ?_
        refine jr_vi [.int 3, .int (nI a), .int (nI c)] 3 cx dX6_driftRefusal_61 (c_X1_rise E g h 3 a c (by decide) (by omega) (by omega)) (by decide) rfl rfl gX6_driftRefusal_X1_rise rfl (by decide +kernel) ⟨Nat.le_of_ble_eq_true rfl, Nat.le_of_ble_eq_true rfl⟩ rfl rfl (Nat.le_of_ble_eq_true rfl) ?_
        refine jr_if_ne (tgt := 75) cx dX6_driftRefusal_64 (by decide) (fun c64 => ?_) (fun c64 => ?_)
        · exact absurd hz c64
        · refine jr_aload_n cx dX6_driftRefusal_67 2 rfl rfl ?_
          refine jr_iconst (v := 4) cx dX6_driftRefusal_68 (by decide) ?_
          refine jr_vi [.int 4] 1 cx dX6_driftRefusal_69 (c_X6_refuse E g h 4 (by decide) (by decide)) (by decide) rfl rfl gX6_driftRefusal_X6_refuse rfl (by decide +kernel) ⟨Nat.le_of_ble_eq_true rfl, Nat.le_of_ble_eq_true rfl⟩ rfl rfl (Nat.le_of_ble_eq_true rfl) ?_
          refine jr_goto (tgt := 76) cx dX6_driftRefusal_72 (by decide) ?_
          exact jr_ri (by rfl) (by rfl) (by rfl) (hR 76 _ dX6_driftRefusal_76)
      · exact absurd (show nI a < 0 by rw [c48]; decide) (nI_pos (by omega))
    · exact absurd (show nI c < 0 by rw [c25]; decide) (nI_pos (by omega))
  · exact absurd hh c8
set_option maxHeartbeats 4000000 in
set_option maxRecDepth 100000 in
theorem c_X6_driftRefusal_ok (E : mm_E) (g : mm_I) (h : mm_L) (nb : Nat) (hnb : nb ≤ 16) (hsb : g 3 2 = nI nb) (n : Nat) (hn : n ≤ 40) (hs : g 4 1 = nI n) (d : Nat) (hd : d < nb) (hh : ¬ nI d < 0 ∧ ¬ nI nb - 1 < nI d) (c : Nat) (hc : c < n) (ec : sLast (pLU g (nI d) 100000) n = nI c) (a : Nat) (ha : a < c) (ea : sLast (pLU g (nI d) 100000) c = nI a) (hz : ¬ g (53 + c) 3 - g (53 + a) 3 = 0) : Ci E yX6_driftRefusal wsX6_driftRefusal 4 92 [.ref (E.1 0), .int (nI d)] g h 0 g h := by
  refine ci_i (bytes := cX6_driftRefusal) (maxL := 4) (by decide) rfl (Nat.le_of_ble_eq_true rfl) (fun X cx hR => ?_)
  change Cx E X cX6_driftRefusal RX6 wsX6_driftRefusal 4 4 92 at cx
  change JJ E X g h 0 [(0, .ref (E.1 0)), (1, .int (nI d))] []
  have hinX6 : ∀ w ∈ u_ws RX6 TX6 9, w ∈ wsX6_driftRefusal := by decide +kernel
  have mf_26 : Cond.fieldLink RX6 26 (TX6 2).1 (TX6 2).2.1 (TX6 2).2.2.1 ∈ wsX6_driftRefusal := by decide +kernel
  have mf_33 : Cond.fieldLink RX6 33 (TX6 3).1 (TX6 3).2.1 (TX6 3).2.2.1 ∈ wsX6_driftRefusal := by decide +kernel
  have mc_75 : Cond.constant RX6 75 100000 ∈ wsX6_driftRefusal := by decide +kernel
  refine jr_aload_n cx dX6_driftRefusal_0 0 rfl rfl ?_
  refine jr_get (f := 2) (v := .ref (E.1 3)) cx dX6_driftRefusal_1 (by decide) rfl rfl hinX6 (by decide) mf_26 rfl ?_
  refine jr_iload_n cx dX6_driftRefusal_4 1 rfl rfl ?_
  refine jr_vi [.int (nI d)] 1 cx dX6_driftRefusal_5 (c_X0_has E g h (nI d) nb hnb hsb) (by decide) rfl rfl gX6_driftRefusal_X0_has rfl (by decide +kernel) ⟨Nat.le_of_ble_eq_true rfl, Nat.le_of_ble_eq_true rfl⟩ rfl rfl (Nat.le_of_ble_eq_true rfl) ?_
  refine jr_bif_ne (tgt := 13) cx dX6_driftRefusal_8 (by decide) (fun c8 => ?_) (fun c8 => ?_)
  · refine jr_aload_n cx dX6_driftRefusal_13 0 rfl rfl ?_
    refine jr_get (f := 3) (v := .ref (E.1 4)) cx dX6_driftRefusal_14 (by decide) rfl rfl hinX6 (by decide) mf_33 rfl ?_
    refine jr_iload_n cx dX6_driftRefusal_17 1 rfl rfl ?_
    refine jr_vi [.int (nI d)] 1 cx dX6_driftRefusal_18 (c_X1_latestOf E g h (nI d) n hn hs) (by decide) rfl rfl gX6_driftRefusal_X1_latestOf rfl (by decide +kernel) ⟨Nat.le_of_ble_eq_true rfl, Nat.le_of_ble_eq_true rfl⟩ rfl rfl (Nat.le_of_ble_eq_true rfl) ?_
    refine jr_top ec ?_
    refine jr_istore_n (L' := [(2, .int (nI c)), (0, .ref (E.1 0)), (1, .int (nI d))]) cx dX6_driftRefusal_21 rfl (by decide) rfl ?_
    refine jr_iload_n cx dX6_driftRefusal_22 0 rfl rfl ?_
    refine jr_bipush (v := (-9)) cx dX6_driftRefusal_23 (by decide) ?_
    refine jr_icmp_ne (tgt := 33) cx dX6_driftRefusal_25 (by decide) (fun c25 => ?_) (fun c25 => ?_)
    · refine jr_aload_n cx dX6_driftRefusal_33 1 rfl rfl ?_
      refine jr_get (f := 3) (v := .ref (E.1 4)) cx dX6_driftRefusal_34 (by decide) rfl rfl hinX6 (by decide) mf_33 rfl ?_
      refine jr_iload_n cx dX6_driftRefusal_37 2 rfl rfl ?_
      refine jr_ldc cx dX6_driftRefusal_38 mc_75 ?_
      refine jr_iload_n cx dX6_driftRefusal_40 0 rfl rfl ?_
      refine jr_vi [.int (nI d), .int 100000, .int (nI c)] 3 cx dX6_driftRefusal_41 (c_X1_lastUntil E g h (nI d) 100000 c n hn hs (by omega)) (by decide) rfl rfl gX6_driftRefusal_X1_lastUntil rfl (by decide +kernel) ⟨Nat.le_of_ble_eq_true rfl, Nat.le_of_ble_eq_true rfl⟩ rfl rfl (Nat.le_of_ble_eq_true rfl) ?_
      refine jr_top ea ?_
      refine jr_istore_n (L' := [(3, .int (nI a)), (2, .int (nI c)), (0, .ref (E.1 0)), (1, .int (nI d))]) cx dX6_driftRefusal_44 rfl (by decide) rfl ?_
      refine jr_iload_n cx dX6_driftRefusal_45 0 rfl rfl ?_
      refine jr_bipush (v := (-9)) cx dX6_driftRefusal_46 (by decide) ?_
      refine jr_icmp_ne (tgt := 54) cx dX6_driftRefusal_48 (by decide) (fun c48 => ?_) (fun c48 => ?_)
      · refine jr_aload_n cx dX6_driftRefusal_54 2 rfl rfl ?_
        refine jr_get (f := 3) (v := .ref (E.1 4)) cx dX6_driftRefusal_55 (by decide) rfl rfl hinX6 (by decide) mf_33 rfl ?_
        refine jr_iconst (v := 3) cx dX6_driftRefusal_58 (by decide) ?_
        refine jr_iload_n cx dX6_driftRefusal_59 0 rfl rfl ?_
        refine jr_iload_n cx dX6_driftRefusal_60 1 rfl rfl ?_
        refine jr_vi [.int 3, .int (nI a), .int (nI c)] 3 cx dX6_driftRefusal_61 (c_X1_rise E g h 3 a c (by decide) (by omega) (by omega)) (by decide) rfl rfl gX6_driftRefusal_X1_rise rfl (by decide +kernel) ⟨Nat.le_of_ble_eq_true rfl, Nat.le_of_ble_eq_true rfl⟩ rfl rfl (Nat.le_of_ble_eq_true rfl) ?_
        refine jr_if_ne (tgt := 75) cx dX6_driftRefusal_64 (by decide) (fun c64 => ?_) (fun c64 => ?_)
        · refine jr_iconst (v := 0) cx dX6_driftRefusal_75 (by decide) ?_
          exact jr_ri (by rfl) (by rfl) (by rfl) (hR 76 _ dX6_driftRefusal_76)
        · exact absurd c64 hz
      · exact absurd (show nI a < 0 by rw [c48]; decide) (nI_pos (by omega))
    · exact absurd (show nI c < 0 by rw [c25]; decide) (nI_pos (by omega))
  · exact absurd hh c8
def lsM (g : mm_I) (x y : Int32) : mm_I := up2 (up2 g 7 25 x) 7 26 y
set_option maxHeartbeats 4000000 in
set_option maxRecDepth 100000 in
theorem c_X7_askedTwo_bad (E : mm_E) (g : mm_I) (h : mm_L) (b : Int32) (nb : Nat) (hnb : nb ≤ 16) (hsb : g 7 13 = nI nb) (n : Nat) (hn : n ≤ 40) (hs : g 7 16 = nI n) (hh : ¬ (¬ b < 0 ∧ ¬ nI nb - 1 < b)) : Ci E yX7_askedTwo wsX7_askedTwo 3 90 [.ref (E.1 7), .int b] g h (-1) g h := by
  refine ci_i (bytes := cX7_askedTwo) (maxL := 2) (by decide) rfl (Nat.le_of_ble_eq_true rfl) (fun X cx hR => ?_)
  change Cx E X cX7_askedTwo RX7 wsX7_askedTwo 2 3 90 at cx
  change JJ E X g h 0 [(0, .ref (E.1 7)), (1, .int b)] []
  refine jr_aload_n cx dX7_askedTwo_0 0 rfl rfl ?_
  refine jr_iload_n cx dX7_askedTwo_1 1 rfl rfl ?_
  refine jr_vi [.int b] 1 cx dX7_askedTwo_2 (c_X7_isBulb E g h b nb hnb hsb) (by decide) rfl rfl gX7_askedTwo_X7_isBulb rfl (by decide +kernel) ⟨Nat.le_of_ble_eq_true rfl, Nat.le_of_ble_eq_true rfl⟩ rfl rfl (Nat.le_of_ble_eq_true rfl) ?_
  refine jr_bif_ne (tgt := 10) cx dX7_askedTwo_5 (by decide) (fun c5 => ?_) (fun c5 => ?_)
  · exact absurd c5 hh
  · refine jr_iconst (v := (-1)) cx dX7_askedTwo_8 (by decide) ?_
    exact jr_ri (by rfl) (by rfl) (by rfl) (hR 9 _ dX7_askedTwo_9)
set_option maxHeartbeats 4000000 in
set_option maxRecDepth 100000 in
theorem c_X7_askedTwo_s1 (E : mm_E) (g : mm_I) (h : mm_L) (nb : Nat) (hnb : nb ≤ 16) (hsb : g 7 13 = nI nb) (n : Nat) (hn : n ≤ 40) (hs : g 7 16 = nI n) (d : Nat) (hd : d < nb) (hh : ¬ nI d < 0 ∧ ¬ nI nb - 1 < nI d) (ec : sLast (pLM g (nI d) 100000) n = -9) : Ci E yX7_askedTwo wsX7_askedTwo 3 90 [.ref (E.1 7), .int (nI d)] g h (-4) (lsM g (-9) (-9)) h := by
  refine ci_i (bytes := cX7_askedTwo) (maxL := 2) (by decide) rfl (Nat.le_of_ble_eq_true rfl) (fun X cx hR => ?_)
  change Cx E X cX7_askedTwo RX7 wsX7_askedTwo 2 3 90 at cx
  change JJ E X g h 0 [(0, .ref (E.1 7)), (1, .int (nI d))] []
  have hinX7 : ∀ w ∈ u_ws RX7 TX7 30, w ∈ wsX7_askedTwo := by decide +kernel
  have mf_186 : Cond.fieldLink RX7 186 (TX7 25).1 (TX7 25).2.1 (TX7 25).2.2.1 ∈ wsX7_askedTwo := by decide +kernel
  have mf_189 : Cond.fieldLink RX7 189 (TX7 26).1 (TX7 26).2.1 (TX7 26).2.2.1 ∈ wsX7_askedTwo := by decide +kernel
  refine jr_aload_n cx dX7_askedTwo_0 0 rfl rfl ?_
  refine jr_iload_n cx dX7_askedTwo_1 1 rfl rfl ?_
  refine jr_vi [.int (nI d)] 1 cx dX7_askedTwo_2 (c_X7_isBulb E g h (nI d) nb hnb hsb) (by decide) rfl rfl gX7_askedTwo_X7_isBulb rfl (by decide +kernel) ⟨Nat.le_of_ble_eq_true rfl, Nat.le_of_ble_eq_true rfl⟩ rfl rfl (Nat.le_of_ble_eq_true rfl) ?_
  refine jr_bif_ne (tgt := 10) cx dX7_askedTwo_5 (by decide) (fun c5 => ?_) (fun c5 => ?_)
  · refine jr_aload_n cx dX7_askedTwo_10 0 rfl rfl ?_
    refine jr_aload_n cx dX7_askedTwo_11 0 rfl rfl ?_
    refine jr_iload_n cx dX7_askedTwo_12 1 rfl rfl ?_
    refine jr_vi [.int (nI d)] 1 cx dX7_askedTwo_13 (c_X7_latestOf E g h (nI d) n hn hs) (by decide) rfl rfl gX7_askedTwo_X7_latestOf rfl (by decide +kernel) ⟨Nat.le_of_ble_eq_true rfl, Nat.le_of_ble_eq_true rfl⟩ rfl rfl (Nat.le_of_ble_eq_true rfl) ?_
    refine jr_top ec ?_
    refine jr_put_X7_25 cx dX7_askedTwo_16 hinX7 mf_186 ?_
    refine jr_aload_n cx dX7_askedTwo_19 0 rfl rfl ?_
    refine jr_aload_n cx dX7_askedTwo_20 0 rfl rfl ?_
    refine jr_get (f := 25) (v := .int ((up2 g 7 25 (-9)) 7 25)) cx dX7_askedTwo_21 (by decide) rfl rfl hinX7 (by decide) mf_186 rfl ?_
    refine jr_top (show _ = (-9 : Int32) from rfl) ?_
    refine jr_if_ge (tgt := 32) cx dX7_askedTwo_24 (by decide) (fun c24 => absurd c24 (by decide)) (fun c24 => ?_)
    refine jr_bipush (v := (-9)) cx dX7_askedTwo_27 (by decide) ?_
    refine jr_goto (tgt := 43) cx dX7_askedTwo_29 (by decide) ?_
    refine jr_put_X7_26 cx dX7_askedTwo_43 hinX7 mf_189 ?_
    refine jr_aload_n cx dX7_askedTwo_46 0 rfl rfl ?_
    refine jr_get (f := 26) (v := .int ((up2 (up2 g 7 25 (-9)) 7 26 (-9)) 7 26)) cx dX7_askedTwo_47 (by decide) rfl rfl hinX7 (by decide) mf_189 rfl ?_
    refine jr_top (show _ = (-9 : Int32) from rfl) ?_
    refine jr_if_ge (tgt := 58) cx dX7_askedTwo_50 (by decide) (fun c50 => absurd c50 (by decide)) (fun c50 => ?_)
    refine jr_bipush (v := (-4)) cx dX7_askedTwo_53 (by decide) ?_
    refine jr_goto (tgt := 88) cx dX7_askedTwo_55 (by decide) ?_
    exact jr_ri (by rfl) (by rfl) (by rfl) (hR 88 _ dX7_askedTwo_88)
  · exact absurd hh c5
set_option maxHeartbeats 4000000 in
set_option maxRecDepth 100000 in
theorem c_X7_askedTwo_s2 (E : mm_E) (g : mm_I) (h : mm_L) (nb : Nat) (hnb : nb ≤ 16) (hsb : g 7 13 = nI nb) (n : Nat) (hn : n ≤ 40) (hs : g 7 16 = nI n) (d : Nat) (hd : d < nb) (hh : ¬ nI d < 0 ∧ ¬ nI nb - 1 < nI d) (c : Nat) (hc : c < n) (ec : sLast (pLM g (nI d) 100000) n = nI c) (ea : sLast (pLM g (nI d) 100000) c = -9) : Ci E yX7_askedTwo wsX7_askedTwo 3 90 [.ref (E.1 7), .int (nI d)] g h (-4) (lsM g (nI c) (-9)) h := by
  refine ci_i (bytes := cX7_askedTwo) (maxL := 2) (by decide) rfl (Nat.le_of_ble_eq_true rfl) (fun X cx hR => ?_)
  change Cx E X cX7_askedTwo RX7 wsX7_askedTwo 2 3 90 at cx
  change JJ E X g h 0 [(0, .ref (E.1 7)), (1, .int (nI d))] []
  have hinX7 : ∀ w ∈ u_ws RX7 TX7 30, w ∈ wsX7_askedTwo := by decide +kernel
  have mf_186 : Cond.fieldLink RX7 186 (TX7 25).1 (TX7 25).2.1 (TX7 25).2.2.1 ∈ wsX7_askedTwo := by decide +kernel
  have mc_106 : Cond.constant RX7 106 100000 ∈ wsX7_askedTwo := by decide +kernel
  have mf_189 : Cond.fieldLink RX7 189 (TX7 26).1 (TX7 26).2.1 (TX7 26).2.2.1 ∈ wsX7_askedTwo := by decide +kernel
  refine jr_aload_n cx dX7_askedTwo_0 0 rfl rfl ?_
  refine jr_iload_n cx dX7_askedTwo_1 1 rfl rfl ?_
  refine jr_vi [.int (nI d)] 1 cx dX7_askedTwo_2 (c_X7_isBulb E g h (nI d) nb hnb hsb) (by decide) rfl rfl gX7_askedTwo_X7_isBulb rfl (by decide +kernel) ⟨Nat.le_of_ble_eq_true rfl, Nat.le_of_ble_eq_true rfl⟩ rfl rfl (Nat.le_of_ble_eq_true rfl) ?_
  refine jr_bif_ne (tgt := 10) cx dX7_askedTwo_5 (by decide) (fun c5 => ?_) (fun c5 => ?_)
  · refine jr_aload_n cx dX7_askedTwo_10 0 rfl rfl ?_
    refine jr_aload_n cx dX7_askedTwo_11 0 rfl rfl ?_
    refine jr_iload_n cx dX7_askedTwo_12 1 rfl rfl ?_
    refine jr_vi [.int (nI d)] 1 cx dX7_askedTwo_13 (c_X7_latestOf E g h (nI d) n hn hs) (by decide) rfl rfl gX7_askedTwo_X7_latestOf rfl (by decide +kernel) ⟨Nat.le_of_ble_eq_true rfl, Nat.le_of_ble_eq_true rfl⟩ rfl rfl (Nat.le_of_ble_eq_true rfl) ?_
    refine jr_top ec ?_
    refine jr_put_X7_25 cx dX7_askedTwo_16 hinX7 mf_186 ?_
    refine jr_aload_n cx dX7_askedTwo_19 0 rfl rfl ?_
    refine jr_aload_n cx dX7_askedTwo_20 0 rfl rfl ?_
    refine jr_get (f := 25) (v := .int ((up2 g 7 25 (nI c)) 7 25)) cx dX7_askedTwo_21 (by decide) rfl rfl hinX7 (by decide) mf_186 rfl ?_
    refine jr_top (show _ = nI c from rfl) ?_
    refine jr_if_ge (tgt := 32) cx dX7_askedTwo_24 (by decide) (fun c24 => ?_) (fun c24 => ?_)
    · have n24 : 0 ≤ c := (nI_leI (a := 0) (b := c) (by omega) (by omega)).mp c24
      refine jr_aload_n cx dX7_askedTwo_32 0 rfl rfl ?_
      refine jr_iload_n cx dX7_askedTwo_33 1 rfl rfl ?_
      refine jr_ldc cx dX7_askedTwo_34 mc_106 ?_
      refine jr_aload_n cx dX7_askedTwo_36 0 rfl rfl ?_
      refine jr_get (f := 25) (v := .int ((up2 g 7 25 (nI c)) 7 25)) cx dX7_askedTwo_37 (by decide) rfl rfl hinX7 (by decide) mf_186 rfl ?_
      refine jr_top (show _ = nI c from rfl) ?_
      refine jr_vi [.int (nI d), .int 100000, .int (nI c)] 3 cx dX7_askedTwo_40 (c_X7_lastOf E (up2 g 7 25 (nI c)) h (nI d) 100000 c (by omega)) (by decide) rfl rfl gX7_askedTwo_X7_lastOf rfl (by decide +kernel) ⟨Nat.le_of_ble_eq_true rfl, Nat.le_of_ble_eq_true rfl⟩ rfl rfl (Nat.le_of_ble_eq_true rfl) ?_
      refine jr_top (show _ = (-9 : Int32) from ea) ?_
      refine jr_put_X7_26 cx dX7_askedTwo_43 hinX7 mf_189 ?_
      refine jr_aload_n cx dX7_askedTwo_46 0 rfl rfl ?_
      refine jr_get (f := 26) (v := .int ((up2 (up2 g 7 25 (nI c)) 7 26 (-9)) 7 26)) cx dX7_askedTwo_47 (by decide) rfl rfl hinX7 (by decide) mf_189 rfl ?_
      refine jr_top (show _ = (-9 : Int32) from rfl) ?_
      refine jr_if_ge (tgt := 58) cx dX7_askedTwo_50 (by decide) (fun c50 => absurd c50 (by decide)) (fun c50 => ?_)
      refine jr_bipush (v := (-4)) cx dX7_askedTwo_53 (by decide) ?_
      refine jr_goto (tgt := 88) cx dX7_askedTwo_55 (by decide) ?_
      exact jr_ri (by rfl) (by rfl) (by rfl) (hR 88 _ dX7_askedTwo_88)
    · have n24 : ¬ (0 ≤ c) := fun qq9 => c24 ((nI_leI (a := 0) (b := c) (by omega) (by omega)).mpr qq9)
      exact absurd (Nat.zero_le c) n24
  · exact absurd hh c5
set_option maxHeartbeats 4000000 in
set_option maxRecDepth 100000 in
theorem c_X7_askedTwo_no (E : mm_E) (g : mm_I) (h : mm_L) (nb : Nat) (hnb : nb ≤ 16) (hsb : g 7 13 = nI nb) (n : Nat) (hn : n ≤ 40) (hs : g 7 16 = nI n) (d : Nat) (hd : d < nb) (hh : ¬ nI d < 0 ∧ ¬ nI nb - 1 < nI d) (c : Nat) (hc : c < n) (ec : sLast (pLM g (nI d) 100000) n = nI c) (a : Nat) (ha : a < c) (ea : sLast (pLM g (nI d) 100000) c = nI a) (hz : g 25 c = g 25 a) : Ci E yX7_askedTwo wsX7_askedTwo 3 90 [.ref (E.1 7), .int (nI d)] g h (-3) (mtM (lsM g (nI c) (nI a)) 4) h := by
  refine ci_i (bytes := cX7_askedTwo) (maxL := 2) (by decide) rfl (Nat.le_of_ble_eq_true rfl) (fun X cx hR => ?_)
  change Cx E X cX7_askedTwo RX7 wsX7_askedTwo 2 3 90 at cx
  change JJ E X g h 0 [(0, .ref (E.1 7)), (1, .int (nI d))] []
  have hinX7 : ∀ w ∈ u_ws RX7 TX7 30, w ∈ wsX7_askedTwo := by decide +kernel
  have mf_186 : Cond.fieldLink RX7 186 (TX7 25).1 (TX7 25).2.1 (TX7 25).2.2.1 ∈ wsX7_askedTwo := by decide +kernel
  have mc_106 : Cond.constant RX7 106 100000 ∈ wsX7_askedTwo := by decide +kernel
  have mf_189 : Cond.fieldLink RX7 189 (TX7 26).1 (TX7 26).2.1 (TX7 26).2.2.1 ∈ wsX7_askedTwo := by decide +kernel
  have mf_50 : Cond.fieldLink RX7 50 (TX7 20).1 (TX7 20).2.1 (TX7 20).2.2.1 ∈ wsX7_askedTwo := by decide +kernel
  refine jr_aload_n cx dX7_askedTwo_0 0 rfl rfl ?_
  refine jr_iload_n cx dX7_askedTwo_1 1 rfl rfl ?_
  refine jr_vi [.int (nI d)] 1 cx dX7_askedTwo_2 (c_X7_isBulb E g h (nI d) nb hnb hsb) (by decide) rfl rfl gX7_askedTwo_X7_isBulb rfl (by decide +kernel) ⟨Nat.le_of_ble_eq_true rfl, Nat.le_of_ble_eq_true rfl⟩ rfl rfl (Nat.le_of_ble_eq_true rfl) ?_
  refine jr_bif_ne (tgt := 10) cx dX7_askedTwo_5 (by decide) (fun c5 => ?_) (fun c5 => ?_)
  · refine jr_aload_n cx dX7_askedTwo_10 0 rfl rfl ?_
    refine jr_aload_n cx dX7_askedTwo_11 0 rfl rfl ?_
    refine jr_iload_n cx dX7_askedTwo_12 1 rfl rfl ?_
    refine jr_vi [.int (nI d)] 1 cx dX7_askedTwo_13 (c_X7_latestOf E g h (nI d) n hn hs) (by decide) rfl rfl gX7_askedTwo_X7_latestOf rfl (by decide +kernel) ⟨Nat.le_of_ble_eq_true rfl, Nat.le_of_ble_eq_true rfl⟩ rfl rfl (Nat.le_of_ble_eq_true rfl) ?_
    refine jr_top ec ?_
    refine jr_put_X7_25 cx dX7_askedTwo_16 hinX7 mf_186 ?_
    refine jr_aload_n cx dX7_askedTwo_19 0 rfl rfl ?_
    refine jr_aload_n cx dX7_askedTwo_20 0 rfl rfl ?_
    refine jr_get (f := 25) (v := .int ((up2 g 7 25 (nI c)) 7 25)) cx dX7_askedTwo_21 (by decide) rfl rfl hinX7 (by decide) mf_186 rfl ?_
    refine jr_top (show _ = nI c from rfl) ?_
    refine jr_if_ge (tgt := 32) cx dX7_askedTwo_24 (by decide) (fun c24 => ?_) (fun c24 => ?_)
    · have n24 : 0 ≤ c := (nI_leI (a := 0) (b := c) (by omega) (by omega)).mp c24
      refine jr_aload_n cx dX7_askedTwo_32 0 rfl rfl ?_
      refine jr_iload_n cx dX7_askedTwo_33 1 rfl rfl ?_
      refine jr_ldc cx dX7_askedTwo_34 mc_106 ?_
      refine jr_aload_n cx dX7_askedTwo_36 0 rfl rfl ?_
      refine jr_get (f := 25) (v := .int ((up2 g 7 25 (nI c)) 7 25)) cx dX7_askedTwo_37 (by decide) rfl rfl hinX7 (by decide) mf_186 rfl ?_
      refine jr_top (show _ = nI c from rfl) ?_
      refine jr_vi [.int (nI d), .int 100000, .int (nI c)] 3 cx dX7_askedTwo_40 (c_X7_lastOf E (up2 g 7 25 (nI c)) h (nI d) 100000 c (by omega)) (by decide) rfl rfl gX7_askedTwo_X7_lastOf rfl (by decide +kernel) ⟨Nat.le_of_ble_eq_true rfl, Nat.le_of_ble_eq_true rfl⟩ rfl rfl (Nat.le_of_ble_eq_true rfl) ?_
      refine jr_top (show _ = nI a from ea) ?_
      refine jr_put_X7_26 cx dX7_askedTwo_43 hinX7 mf_189 ?_
      refine jr_aload_n cx dX7_askedTwo_46 0 rfl rfl ?_
      refine jr_get (f := 26) (v := .int ((up2 (up2 g 7 25 (nI c)) 7 26 (nI a)) 7 26)) cx dX7_askedTwo_47 (by decide) rfl rfl hinX7 (by decide) mf_189 rfl ?_
      refine jr_top (show _ = nI a from rfl) ?_
      refine jr_if_ge (tgt := 58) cx dX7_askedTwo_50 (by decide) (fun c50 => ?_) (fun c50 => ?_)
      · have n50 : 0 ≤ a := (nI_leI (a := 0) (b := a) (by omega) (by omega)).mp c50
        refine jr_aload_n cx dX7_askedTwo_58 0 rfl rfl ?_
        refine jr_get (f := 20) (v := .ref (E.1 25)) cx dX7_askedTwo_59 (by decide) rfl rfl hinX7 (by decide) mf_50 rfl ?_
        refine jr_aload_n cx dX7_askedTwo_62 0 rfl rfl ?_
        refine jr_get (f := 25) (v := .int ((up2 (up2 g 7 25 (nI c)) 7 26 (nI a)) 7 25)) cx dX7_askedTwo_63 (by decide) rfl rfl hinX7 (by decide) mf_186 rfl ?_
        refine jr_top (show _ = nI c from rfl) ?_
        refine jr_iald cx dX7_askedTwo_66 (Or.inl ⟨by decide, by decide⟩) c rfl (show _ < 40 by omega) ?_
        refine jr_aload_n cx dX7_askedTwo_67 0 rfl rfl ?_
        refine jr_get (f := 20) (v := .ref (E.1 25)) cx dX7_askedTwo_68 (by decide) rfl rfl hinX7 (by decide) mf_50 rfl ?_
        refine jr_aload_n cx dX7_askedTwo_71 0 rfl rfl ?_
        refine jr_get (f := 26) (v := .int ((up2 (up2 g 7 25 (nI c)) 7 26 (nI a)) 7 26)) cx dX7_askedTwo_72 (by decide) rfl rfl hinX7 (by decide) mf_189 rfl ?_
        refine jr_top (show _ = nI a from rfl) ?_
        refine jr_iald cx dX7_askedTwo_75 (Or.inl ⟨by decide, by decide⟩) a rfl (show _ < 40 by omega) ?_
        refine jr_icmp_ne (tgt := 87) cx dX7_askedTwo_76 (by decide) (fun c76 => ?_) (fun c76 => ?_)
        · exact absurd hz c76
        · refine jr_aload_n cx dX7_askedTwo_79 0 rfl rfl ?_
          refine jr_iconst (v := 4) cx dX7_askedTwo_80 (by decide) ?_
          refine jr_vi [.int 4] 1 cx dX7_askedTwo_81 (c_X7_meets E (up2 (up2 g 7 25 (nI c)) 7 26 (nI a)) h 4 (by decide)) (by decide) rfl rfl gX7_askedTwo_X7_meets rfl (by decide +kernel) ⟨Nat.le_of_ble_eq_true rfl, Nat.le_of_ble_eq_true rfl⟩ rfl rfl (Nat.le_of_ble_eq_true rfl) ?_
          refine jr_goto (tgt := 88) cx dX7_askedTwo_84 (by decide) ?_
          exact jr_ri (by rfl) (by rfl) (by rfl) (hR 88 _ dX7_askedTwo_88)
      · have n50 : ¬ (0 ≤ a) := fun qq9 => c50 ((nI_leI (a := 0) (b := a) (by omega) (by omega)).mpr qq9)
        exact absurd (Nat.zero_le a) n50
    · have n24 : ¬ (0 ≤ c) := fun qq9 => c24 ((nI_leI (a := 0) (b := c) (by omega) (by omega)).mpr qq9)
      exact absurd (Nat.zero_le c) n24
  · exact absurd hh c5
set_option maxHeartbeats 4000000 in
set_option maxRecDepth 100000 in
theorem c_X7_askedTwo_ok (E : mm_E) (g : mm_I) (h : mm_L) (nb : Nat) (hnb : nb ≤ 16) (hsb : g 7 13 = nI nb) (n : Nat) (hn : n ≤ 40) (hs : g 7 16 = nI n) (d : Nat) (hd : d < nb) (hh : ¬ nI d < 0 ∧ ¬ nI nb - 1 < nI d) (c : Nat) (hc : c < n) (ec : sLast (pLM g (nI d) 100000) n = nI c) (a : Nat) (ha : a < c) (ea : sLast (pLM g (nI d) 100000) c = nI a) (hz : ¬ g 25 c = g 25 a) : Ci E yX7_askedTwo wsX7_askedTwo 3 90 [.ref (E.1 7), .int (nI d)] g h 0 (lsM g (nI c) (nI a)) h := by
  refine ci_i (bytes := cX7_askedTwo) (maxL := 2) (by decide) rfl (Nat.le_of_ble_eq_true rfl) (fun X cx hR => ?_)
  change Cx E X cX7_askedTwo RX7 wsX7_askedTwo 2 3 90 at cx
  change JJ E X g h 0 [(0, .ref (E.1 7)), (1, .int (nI d))] []
  have hinX7 : ∀ w ∈ u_ws RX7 TX7 30, w ∈ wsX7_askedTwo := by decide +kernel
  have mf_186 : Cond.fieldLink RX7 186 (TX7 25).1 (TX7 25).2.1 (TX7 25).2.2.1 ∈ wsX7_askedTwo := by decide +kernel
  have mc_106 : Cond.constant RX7 106 100000 ∈ wsX7_askedTwo := by decide +kernel
  have mf_189 : Cond.fieldLink RX7 189 (TX7 26).1 (TX7 26).2.1 (TX7 26).2.2.1 ∈ wsX7_askedTwo := by decide +kernel
  have mf_50 : Cond.fieldLink RX7 50 (TX7 20).1 (TX7 20).2.1 (TX7 20).2.2.1 ∈ wsX7_askedTwo := by decide +kernel
  refine jr_aload_n cx dX7_askedTwo_0 0 rfl rfl ?_
  refine jr_iload_n cx dX7_askedTwo_1 1 rfl rfl ?_
  refine jr_vi [.int (nI d)] 1 cx dX7_askedTwo_2 (c_X7_isBulb E g h (nI d) nb hnb hsb) (by decide) rfl rfl gX7_askedTwo_X7_isBulb rfl (by decide +kernel) ⟨Nat.le_of_ble_eq_true rfl, Nat.le_of_ble_eq_true rfl⟩ rfl rfl (Nat.le_of_ble_eq_true rfl) ?_
  refine jr_bif_ne (tgt := 10) cx dX7_askedTwo_5 (by decide) (fun c5 => ?_) (fun c5 => ?_)
  · refine jr_aload_n cx dX7_askedTwo_10 0 rfl rfl ?_
    refine jr_aload_n cx dX7_askedTwo_11 0 rfl rfl ?_
    refine jr_iload_n cx dX7_askedTwo_12 1 rfl rfl ?_
    refine jr_vi [.int (nI d)] 1 cx dX7_askedTwo_13 (c_X7_latestOf E g h (nI d) n hn hs) (by decide) rfl rfl gX7_askedTwo_X7_latestOf rfl (by decide +kernel) ⟨Nat.le_of_ble_eq_true rfl, Nat.le_of_ble_eq_true rfl⟩ rfl rfl (Nat.le_of_ble_eq_true rfl) ?_
    refine jr_top ec ?_
    refine jr_put_X7_25 cx dX7_askedTwo_16 hinX7 mf_186 ?_
    refine jr_aload_n cx dX7_askedTwo_19 0 rfl rfl ?_
    refine jr_aload_n cx dX7_askedTwo_20 0 rfl rfl ?_
    refine jr_get (f := 25) (v := .int ((up2 g 7 25 (nI c)) 7 25)) cx dX7_askedTwo_21 (by decide) rfl rfl hinX7 (by decide) mf_186 rfl ?_
    refine jr_top (show _ = nI c from rfl) ?_
    refine jr_if_ge (tgt := 32) cx dX7_askedTwo_24 (by decide) (fun c24 => ?_) (fun c24 => ?_)
    · have n24 : 0 ≤ c := (nI_leI (a := 0) (b := c) (by omega) (by omega)).mp c24
      refine jr_aload_n cx dX7_askedTwo_32 0 rfl rfl ?_
      refine jr_iload_n cx dX7_askedTwo_33 1 rfl rfl ?_
      refine jr_ldc cx dX7_askedTwo_34 mc_106 ?_
      refine jr_aload_n cx dX7_askedTwo_36 0 rfl rfl ?_
      refine jr_get (f := 25) (v := .int ((up2 g 7 25 (nI c)) 7 25)) cx dX7_askedTwo_37 (by decide) rfl rfl hinX7 (by decide) mf_186 rfl ?_
      refine jr_top (show _ = nI c from rfl) ?_
      refine jr_vi [.int (nI d), .int 100000, .int (nI c)] 3 cx dX7_askedTwo_40 (c_X7_lastOf E (up2 g 7 25 (nI c)) h (nI d) 100000 c (by omega)) (by decide) rfl rfl gX7_askedTwo_X7_lastOf rfl (by decide +kernel) ⟨Nat.le_of_ble_eq_true rfl, Nat.le_of_ble_eq_true rfl⟩ rfl rfl (Nat.le_of_ble_eq_true rfl) ?_
      refine jr_top (show _ = nI a from ea) ?_
      refine jr_put_X7_26 cx dX7_askedTwo_43 hinX7 mf_189 ?_
      refine jr_aload_n cx dX7_askedTwo_46 0 rfl rfl ?_
      refine jr_get (f := 26) (v := .int ((up2 (up2 g 7 25 (nI c)) 7 26 (nI a)) 7 26)) cx dX7_askedTwo_47 (by decide) rfl rfl hinX7 (by decide) mf_189 rfl ?_
      refine jr_top (show _ = nI a from rfl) ?_
      refine jr_if_ge (tgt := 58) cx dX7_askedTwo_50 (by decide) (fun c50 => ?_) (fun c50 => ?_)
      · have n50 : 0 ≤ a := (nI_leI (a := 0) (b := a) (by omega) (by omega)).mp c50
        refine jr_aload_n cx dX7_askedTwo_58 0 rfl rfl ?_
        refine jr_get (f := 20) (v := .ref (E.1 25)) cx dX7_askedTwo_59 (by decide) rfl rfl hinX7 (by decide) mf_50 rfl ?_
        refine jr_aload_n cx dX7_askedTwo_62 0 rfl rfl ?_
        refine jr_get (f := 25) (v := .int ((up2 (up2 g 7 25 (nI c)) 7 26 (nI a)) 7 25)) cx dX7_askedTwo_63 (by decide) rfl rfl hinX7 (by decide) mf_186 rfl ?_
        refine jr_top (show _ = nI c from rfl) ?_
        refine jr_iald cx dX7_askedTwo_66 (Or.inl ⟨by decide, by decide⟩) c rfl (show _ < 40 by omega) ?_
        refine jr_aload_n cx dX7_askedTwo_67 0 rfl rfl ?_
        refine jr_get (f := 20) (v := .ref (E.1 25)) cx dX7_askedTwo_68 (by decide) rfl rfl hinX7 (by decide) mf_50 rfl ?_
        refine jr_aload_n cx dX7_askedTwo_71 0 rfl rfl ?_
        refine jr_get (f := 26) (v := .int ((up2 (up2 g 7 25 (nI c)) 7 26 (nI a)) 7 26)) cx dX7_askedTwo_72 (by decide) rfl rfl hinX7 (by decide) mf_189 rfl ?_
        refine jr_top (show _ = nI a from rfl) ?_
        refine jr_iald cx dX7_askedTwo_75 (Or.inl ⟨by decide, by decide⟩) a rfl (show _ < 40 by omega) ?_
        refine jr_icmp_ne (tgt := 87) cx dX7_askedTwo_76 (by decide) (fun c76 => ?_) (fun c76 => ?_)
        · refine jr_iconst (v := 0) cx dX7_askedTwo_87 (by decide) ?_
          exact jr_ri (by rfl) (by rfl) (by rfl) (hR 88 _ dX7_askedTwo_88)
        · exact absurd c76 hz
      · have n50 : ¬ (0 ≤ a) := fun qq9 => c50 ((nI_leI (a := 0) (b := a) (by omega) (by omega)).mpr qq9)
        exact absurd (Nat.zero_le a) n50
    · have n24 : ¬ (0 ≤ c) := fun qq9 => c24 ((nI_leI (a := 0) (b := c) (by omega) (by omega)).mpr qq9)
      exact absurd (Nat.zero_le c) n24
  · exact absurd hh c5
theorem dr_bd {x y : Int32} {B : Nat} (hx : BdI x B) (hy : BdI y B) (hb : B ≤ 1000000) : (x - y).toInt64.toInt.natAbs < 2 ^ 63 := by
  have := (hx.sub hy (by omega)).L
  exact this.lt (by omega)
theorem wz {x : Int32} (h : ¬ x = 0) : ¬ x.toInt64 = 0 := fun q => h ((fa_wide_eq x 0).mp q)
theorem sub0 {x y : Int32} : x - y = 0 ↔ x = y := by
  constructor
  · intro h
    have h2 : x - y + y = 0 + y := by rw [h]
    rw [Int32.sub_add_cancel, Int32.zero_add] at h2
    exact h2
  · intro h; subst h; exact Int32.sub_self _
set_option maxHeartbeats 4000000 in
set_option maxRecDepth 100000 in
theorem c_X6_drift (E : mm_E) (g : mm_I) (h : mm_L) (b : Int32) (nb : Nat) (hnb : nb ≤ 16) (hsb : g 3 2 = nI nb) (n : Nat) (hn : n ≤ 40) (hs : g 4 1 = nI n) (hof : ∀ c, c < n → BdI (g (53 + c) 7) 10000 ∧ BdI (g (53 + c) 3) 100000) : Ci E yX6_drift wsX6_drift 5 115 [.ref (E.1 0), .int b] g h (dDrift nb b (fun d => sLast (pLU g (nI d) 100000) n) (fun d c => sLast (pLU g (nI d) 100000) c) (fun c a => g (53 + c) 3 - g (53 + a) 3 = 0) (-1) (fun _ => -4) (fun _ _ _ => -3) (fun _ _ _ => 1)) (dDrift nb b (fun d => sLast (pLU g (nI d) 100000) n) (fun d c => sLast (pLU g (nI d) 100000) c) (fun c a => g (53 + c) 3 - g (53 + a) 3 = 0) g (fun _ => g) (fun _ _ _ => rfM g 4) (fun _ _ _ => g)) (dDrift nb b (fun d => sLast (pLU g (nI d) 100000) n) (fun d c => sLast (pLU g (nI d) 100000) c) (fun c a => g (53 + c) 3 - g (53 + a) 3 = 0) h (fun _ => h) (fun _ _ _ => h) (fun d c a => tlC h (g (53 + c) 7 - g (53 + a) 7).toInt64 (g (53 + c) 3 - g (53 + a) 3).toInt64)) := by
  refine ci_i (bytes := cX6_drift) (maxL := 5) (by decide) rfl (Nat.le_of_ble_eq_true rfl) (fun X cx hR => ?_)
  change Cx E X cX6_drift RX6 wsX6_drift 5 5 115 at cx
  change JJ E X g h 0 [(0, .ref (E.1 0)), (1, .int b)] []
  have hinX6 : ∀ w ∈ u_ws RX6 TX6 9, w ∈ wsX6_drift := by decide +kernel
  have mf_33 : Cond.fieldLink RX6 33 (TX6 3).1 (TX6 3).2.1 (TX6 3).2.2.1 ∈ wsX6_drift := by decide +kernel
  have mc_75 : Cond.constant RX6 75 100000 ∈ wsX6_drift := by decide +kernel
  have mf_47 : Cond.fieldLink RX6 47 (TX6 5).1 (TX6 5).2.1 (TX6 5).2.2.1 ∈ wsX6_drift := by decide +kernel
  refine jr_aload_n cx dX6_drift_0 0 rfl rfl ?_
  refine jr_iload_n cx dX6_drift_1 1 rfl rfl ?_
  by_cases hh : ¬ b < 0 ∧ ¬ nI nb - 1 < b
  · obtain ⟨d, hd, rfl⟩ := has_nat (by omega) hh; have ed : (nI d).toNatClampNeg = d := cl_nI (by omega)
    rcases sLast_nat (pLU g (nI d) 100000) n with ec | ⟨c, hc, ec, pc1⟩
    · refine jr_vi [.int (nI d)] 1 cx dX6_drift_2 (c_X6_driftRefusal_s1 E g h nb hnb hsb n hn hs d hd hh ec) (by decide) rfl rfl gX6_drift_X6_driftRefusal rfl (by decide +kernel) ⟨Nat.le_of_ble_eq_true rfl, Nat.le_of_ble_eq_true rfl⟩ rfl rfl (Nat.le_of_ble_eq_true rfl) ?_
      refine jr_istore_n (L' := [(2, .int (-4)), (0, .ref (E.1 0)), (1, .int (nI d))]) cx dX6_drift_5 rfl (by decide) rfl ?_
      refine jr_iload_n cx dX6_drift_6 0 rfl rfl ?_
      refine jr_if_eq (tgt := 12) cx dX6_drift_7 (by decide) (fun c7 => absurd c7 (by decide)) (fun c7 => ?_)
      refine jr_iload_n cx dX6_drift_10 0 rfl rfl ?_
      exact jr_ri (by simp only [dDrift, ed, if_pos hh, if_pos ec]; try rfl) (by simp only [dDrift, ed, if_pos hh, if_pos ec]; try rfl) (by simp only [dDrift, ed, if_pos hh, if_pos ec]; try rfl) (hR 11 _ dX6_drift_11)
    · have q9 : ¬ sLast (pLU g (nI d) 100000) n = -9 := fun q => absurd (show nI c < 0 by rw [← ec, q]; decide) (nI_pos (by omega)); have ecl : (sLast (pLU g (nI d) 100000) n).toNatClampNeg = c := by rw [ec]; exact cl_nI (by omega)
      rcases sLast_nat (pLU g (nI d) 100000) c with ea | ⟨a, ha, ea, pa1⟩
      · refine jr_vi [.int (nI d)] 1 cx dX6_drift_2 (c_X6_driftRefusal_s2 E g h nb hnb hsb n hn hs d hd hh c hc ec ea) (by decide) rfl rfl gX6_drift_X6_driftRefusal rfl (by decide +kernel) ⟨Nat.le_of_ble_eq_true rfl, Nat.le_of_ble_eq_true rfl⟩ rfl rfl (Nat.le_of_ble_eq_true rfl) ?_
        refine jr_istore_n (L' := [(2, .int (-4)), (0, .ref (E.1 0)), (1, .int (nI d))]) cx dX6_drift_5 rfl (by decide) rfl ?_
        refine jr_iload_n cx dX6_drift_6 0 rfl rfl ?_
        refine jr_if_eq (tgt := 12) cx dX6_drift_7 (by decide) (fun c7 => absurd c7 (by decide)) (fun c7 => ?_)
        refine jr_iload_n cx dX6_drift_10 0 rfl rfl ?_
        exact jr_ri (by simp only [dDrift, ed, ecl, if_pos hh, if_neg q9, if_pos ea]; try rfl) (by simp only [dDrift, ed, ecl, if_pos hh, if_neg q9, if_pos ea]; try rfl) (by simp only [dDrift, ed, ecl, if_pos hh, if_neg q9, if_pos ea]; try rfl) (hR 11 _ dX6_drift_11)
      · have q8 : ¬ sLast (pLU g (nI d) 100000) c = -9 := fun q => absurd (show nI a < 0 by rw [← ea, q]; decide) (nI_pos (by omega)); have eal : (sLast (pLU g (nI d) 100000) c).toNatClampNeg = a := by rw [ea]; exact cl_nI (by omega)
        by_cases hz : g (53 + c) 3 - g (53 + a) 3 = 0
        · refine jr_vi [.int (nI d)] 1 cx dX6_drift_2 (c_X6_driftRefusal_no E g h nb hnb hsb n hn hs d hd hh c hc ec a ha ea hz) (by decide) rfl rfl gX6_drift_X6_driftRefusal rfl (by decide +kernel) ⟨Nat.le_of_ble_eq_true rfl, Nat.le_of_ble_eq_true rfl⟩ rfl rfl (Nat.le_of_ble_eq_true rfl) ?_
          refine jr_istore_n (L' := [(2, .int (-3)), (0, .ref (E.1 0)), (1, .int (nI d))]) cx dX6_drift_5 rfl (by decide) rfl ?_
          refine jr_iload_n cx dX6_drift_6 0 rfl rfl ?_
          refine jr_if_eq (tgt := 12) cx dX6_drift_7 (by decide) (fun c7 => absurd c7 (by decide)) (fun c7 => ?_)
          refine jr_iload_n cx dX6_drift_10 0 rfl rfl ?_
          exact jr_ri (by simp only [dDrift, ed, ecl, eal, if_pos hh, if_neg q9, if_neg q8, if_pos hz]; try rfl) (by simp only [dDrift, ed, ecl, eal, if_pos hh, if_neg q9, if_neg q8, if_pos hz]; try rfl) (by simp only [dDrift, ed, ecl, eal, if_pos hh, if_neg q9, if_neg q8, if_pos hz]; try rfl) (hR 11 _ dX6_drift_11)
        · refine jr_vi [.int (nI d)] 1 cx dX6_drift_2 (c_X6_driftRefusal_ok E g h nb hnb hsb n hn hs d hd hh c hc ec a ha ea hz) (by decide) rfl rfl gX6_drift_X6_driftRefusal rfl (by decide +kernel) ⟨Nat.le_of_ble_eq_true rfl, Nat.le_of_ble_eq_true rfl⟩ rfl rfl (Nat.le_of_ble_eq_true rfl) ?_
          refine jr_istore_n (L' := [(2, .int 0), (0, .ref (E.1 0)), (1, .int (nI d))]) cx dX6_drift_5 rfl (by decide) rfl ?_
          refine jr_iload_n cx dX6_drift_6 0 rfl rfl ?_
          refine jr_if_eq (tgt := 12) cx dX6_drift_7 (by decide) (fun c7 => ?_) (fun c7 => absurd c7 (by decide))
          refine jr_aload_n cx dX6_drift_12 1 rfl rfl ?_
          refine jr_get (f := 3) (v := .ref (E.1 4)) cx dX6_drift_13 (by decide) rfl rfl hinX6 (by decide) mf_33 rfl ?_
          refine jr_iload_n cx dX6_drift_16 2 rfl rfl ?_
          refine jr_vi [.int (nI d)] 1 cx dX6_drift_17 (c_X1_latestOf E g h (nI d) n hn hs) (by decide) rfl rfl gX6_drift_X1_latestOf rfl (by decide +kernel) ⟨Nat.le_of_ble_eq_true rfl, Nat.le_of_ble_eq_true rfl⟩ rfl rfl (Nat.le_of_ble_eq_true rfl) ?_
          refine jr_top ec ?_
          refine jr_istore_n (L' := [(3, .int (nI c)), (2, .int 0), (0, .ref (E.1 0)), (1, .int (nI d))]) cx dX6_drift_20 rfl (by decide) rfl ?_
          refine jr_aload_n cx dX6_drift_21 2 rfl rfl ?_
          refine jr_get (f := 3) (v := .ref (E.1 4)) cx dX6_drift_22 (by decide) rfl rfl hinX6 (by decide) mf_33 rfl ?_
          refine jr_iload_n cx dX6_drift_25 3 rfl rfl ?_
          refine jr_ldc cx dX6_drift_26 mc_75 ?_
          refine jr_iload_n cx dX6_drift_28 0 rfl rfl ?_
          refine jr_vi [.int (nI d), .int 100000, .int (nI c)] 3 cx dX6_drift_29 (c_X1_lastUntil E g h (nI d) 100000 c n hn hs (by omega)) (by decide) rfl rfl gX6_drift_X1_lastUntil rfl (by decide +kernel) ⟨Nat.le_of_ble_eq_true rfl, Nat.le_of_ble_eq_true rfl⟩ rfl rfl (Nat.le_of_ble_eq_true rfl) ?_
          refine jr_top ea ?_
          refine jr_istore (L' := [(4, .int (nI a)), (3, .int (nI c)), (2, .int 0), (0, .ref (E.1 0)), (1, .int (nI d))]) cx dX6_drift_32 (by decide) rfl ?_
          refine jr_aload_n cx dX6_drift_34 3 rfl rfl ?_
          refine jr_get (f := 5) (v := .ref (E.1 6)) cx dX6_drift_35 (by decide) rfl rfl hinX6 (by decide) mf_47 rfl ?_
          refine jr_aload_n cx dX6_drift_38 3 rfl rfl ?_
          refine jr_get (f := 3) (v := .ref (E.1 4)) cx dX6_drift_39 (by decide) rfl rfl hinX6 (by decide) mf_33 rfl ?_
          refine jr_bipush (v := 7) cx dX6_drift_42 (by decide) ?_
          refine jr_iload cx dX6_drift_44 0 rfl ?_
          refine jr_iload_n cx dX6_drift_46 1 rfl rfl ?_
          refine jr_vi [.int 7, .int (nI a), .int (nI c)] 3 cx dX6_drift_47 (c_X1_rise E g h 7 a c (by decide) (by omega) (by omega)) (by decide) rfl rfl gX6_drift_X1_rise rfl (by decide +kernel) ⟨Nat.le_of_ble_eq_true rfl, Nat.le_of_ble_eq_true rfl⟩ rfl rfl (Nat.le_of_ble_eq_true rfl) ?_
          refine jr_i2l cx dX6_drift_50 ?_
          refine jr_aload_n cx dX6_drift_51 3 rfl rfl ?_
          refine jr_get (f := 3) (v := .ref (E.1 4)) cx dX6_drift_52 (by decide) rfl rfl hinX6 (by decide) mf_33 rfl ?_
          refine jr_iconst (v := 3) cx dX6_drift_55 (by decide) ?_
          refine jr_iload cx dX6_drift_56 0 rfl ?_
          refine jr_iload_n cx dX6_drift_58 1 rfl rfl ?_
          refine jr_vi [.int 3, .int (nI a), .int (nI c)] 3 cx dX6_drift_59 (c_X1_rise E g h 3 a c (by decide) (by omega) (by omega)) (by decide) rfl rfl gX6_drift_X1_rise rfl (by decide +kernel) ⟨Nat.le_of_ble_eq_true rfl, Nat.le_of_ble_eq_true rfl⟩ rfl rfl (Nat.le_of_ble_eq_true rfl) ?_
          refine jr_i2l cx dX6_drift_62 ?_
          refine jr_vv [.long (Int32.toInt64 (g (53 + c) 7 - g (53 + a) 7)), .long (Int32.toInt64 (g (53 + c) 3 - g (53 + a) 3))] 2 cx dX6_drift_63 (c_X2_tell E g h (Int32.toInt64 (g (53 + c) 7 - g (53 + a) 7)) (Int32.toInt64 (g (53 + c) 3 - g (53 + a) 3)) (dr_bd (hof c hc).1 (hof a (by omega)).1 (by decide)) (dr_bd (hof c hc).2 (hof a (by omega)).2 (by decide)) (wz hz)) (by decide) rfl rfl gX6_drift_X2_tell rfl (by decide +kernel) ⟨Nat.le_of_ble_eq_true rfl, Nat.le_of_ble_eq_true rfl⟩ rfl rfl (Nat.le_of_ble_eq_true rfl) ?_
          refine jr_iconst (v := 1) cx dX6_drift_66 (by decide) ?_
          exact jr_ri (by simp only [dDrift, ed, ecl, eal, if_pos hh, if_neg q9, if_neg q8, if_neg hz]; try rfl) (by simp only [dDrift, ed, ecl, eal, if_pos hh, if_neg q9, if_neg q8, if_neg hz]; try rfl) (by simp only [dDrift, ed, ecl, eal, if_pos hh, if_neg q9, if_neg q8, if_neg hz]; try rfl) (hR 67 _ dX6_drift_67)
  · refine jr_vi [.int b] 1 cx dX6_drift_2 (c_X6_driftRefusal_bad E g h b nb hnb hsb n hn hs hh) (by decide) rfl rfl gX6_drift_X6_driftRefusal rfl (by decide +kernel) ⟨Nat.le_of_ble_eq_true rfl, Nat.le_of_ble_eq_true rfl⟩ rfl rfl (Nat.le_of_ble_eq_true rfl) ?_
    refine jr_istore_n (L' := [(2, .int (-1)), (0, .ref (E.1 0)), (1, .int b)]) cx dX6_drift_5 rfl (by decide) rfl ?_
    refine jr_iload_n cx dX6_drift_6 0 rfl rfl ?_
    refine jr_if_eq (tgt := 12) cx dX6_drift_7 (by decide) (fun c7 => absurd c7 (by decide)) (fun c7 => ?_)
    refine jr_iload_n cx dX6_drift_10 0 rfl rfl ?_
    exact jr_ri (by simp only [dDrift, if_neg hh]; try rfl) (by simp only [dDrift, if_neg hh]; try rfl) (by simp only [dDrift, if_neg hh]; try rfl) (hR 11 _ dX6_drift_11)
set_option maxHeartbeats 4000000 in
set_option maxRecDepth 100000 in
theorem c_X7_drift (E : mm_E) (g : mm_I) (h : mm_L) (b : Int32) (nb : Nat) (hnb : nb ≤ 16) (hsb : g 7 13 = nI nb) (n : Nat) (hn : n ≤ 40) (hs : g 7 16 = nI n) (hof : ∀ c, c < n → BdI (g 26 c) 10000 ∧ BdI (g 25 c) 100000) : Ci E yX7_drift wsX7_drift 4 111 [.ref (E.1 7), .int b] g h (dDrift nb b (fun d => sLast (pLM g (nI d) 100000) n) (fun d c => sLast (pLM g (nI d) 100000) c) (fun c a => g 25 c = g 25 a) (-1) (fun _ => -4) (fun _ _ _ => -3) (fun _ _ _ => 1)) (dDrift nb b (fun d => sLast (pLM g (nI d) 100000) n) (fun d c => sLast (pLM g (nI d) 100000) c) (fun c a => g 25 c = g 25 a) g (fun d => lsM g (sLast (pLM g (nI d) 100000) n) (-9)) (fun _ c a => mtM (lsM g (nI c) (nI a)) 4) (fun _ c a => lsM g (nI c) (nI a))) (dDrift nb b (fun d => sLast (pLM g (nI d) 100000) n) (fun d c => sLast (pLM g (nI d) 100000) c) (fun c a => g 25 c = g 25 a) h (fun _ => h) (fun _ _ _ => h) (fun d c a => tlM h (g 26 c - g 26 a).toInt64 (g 25 c - g 25 a).toInt64)) := by
  refine ci_i (bytes := cX7_drift) (maxL := 3) (by decide) rfl (Nat.le_of_ble_eq_true rfl) (fun X cx hR => ?_)
  change Cx E X cX7_drift RX7 wsX7_drift 3 4 111 at cx
  change JJ E X g h 0 [(0, .ref (E.1 7)), (1, .int b)] []
  have hinX7 : ∀ w ∈ u_ws RX7 TX7 30, w ∈ wsX7_drift := by decide +kernel
  have mf_53 : Cond.fieldLink RX7 53 (TX7 21).1 (TX7 21).2.1 (TX7 21).2.2.1 ∈ wsX7_drift := by decide +kernel
  have mf_186 : Cond.fieldLink RX7 186 (TX7 25).1 (TX7 25).2.1 (TX7 25).2.2.1 ∈ wsX7_drift := by decide +kernel
  have mf_189 : Cond.fieldLink RX7 189 (TX7 26).1 (TX7 26).2.1 (TX7 26).2.2.1 ∈ wsX7_drift := by decide +kernel
  have mf_50 : Cond.fieldLink RX7 50 (TX7 20).1 (TX7 20).2.1 (TX7 20).2.2.1 ∈ wsX7_drift := by decide +kernel
  refine jr_aload_n cx dX7_drift_0 0 rfl rfl ?_
  refine jr_iload_n cx dX7_drift_1 1 rfl rfl ?_
  by_cases hh : ¬ b < 0 ∧ ¬ nI nb - 1 < b
  · obtain ⟨d, hd, rfl⟩ := has_nat (by omega) hh; have ed : (nI d).toNatClampNeg = d := cl_nI (by omega)
    rcases sLast_nat (pLM g (nI d) 100000) n with ec | ⟨c, hc, ec, pc1⟩
    · refine jr_vi [.int (nI d)] 1 cx dX7_drift_2 (c_X7_askedTwo_s1 E g h nb hnb hsb n hn hs d hd hh ec) (by decide) rfl rfl gX7_drift_X7_askedTwo rfl (by decide +kernel) ⟨Nat.le_of_ble_eq_true rfl, Nat.le_of_ble_eq_true rfl⟩ rfl rfl (Nat.le_of_ble_eq_true rfl) ?_
      refine jr_istore_n (L' := [(2, .int (-4)), (0, .ref (E.1 7)), (1, .int (nI d))]) cx dX7_drift_5 rfl (by decide) rfl ?_
      refine jr_iload_n cx dX7_drift_6 0 rfl rfl ?_
      refine jr_if_ge (tgt := 14) cx dX7_drift_7 (by decide) (fun c7 => absurd c7 (by decide)) (fun c7 => ?_)
      refine jr_iload_n cx dX7_drift_10 0 rfl rfl ?_
      refine jr_goto (tgt := 59) cx dX7_drift_11 (by decide) ?_
      exact jr_ri (by simp only [dDrift, ed, if_pos hh, if_pos ec]; try rfl) (by simp only [dDrift, ed, if_pos hh, if_pos ec]; rw [ec]; try rfl) (by simp only [dDrift, ed, if_pos hh, if_pos ec]; try rfl) (hR 59 _ dX7_drift_59)
    · have q9 : ¬ sLast (pLM g (nI d) 100000) n = -9 := fun q => absurd (show nI c < 0 by rw [← ec, q]; decide) (nI_pos (by omega)); have ecl : (sLast (pLM g (nI d) 100000) n).toNatClampNeg = c := by rw [ec]; exact cl_nI (by omega)
      rcases sLast_nat (pLM g (nI d) 100000) c with ea | ⟨a, ha, ea, pa1⟩
      · refine jr_vi [.int (nI d)] 1 cx dX7_drift_2 (c_X7_askedTwo_s2 E g h nb hnb hsb n hn hs d hd hh c hc ec ea) (by decide) rfl rfl gX7_drift_X7_askedTwo rfl (by decide +kernel) ⟨Nat.le_of_ble_eq_true rfl, Nat.le_of_ble_eq_true rfl⟩ rfl rfl (Nat.le_of_ble_eq_true rfl) ?_
        refine jr_istore_n (L' := [(2, .int (-4)), (0, .ref (E.1 7)), (1, .int (nI d))]) cx dX7_drift_5 rfl (by decide) rfl ?_
        refine jr_iload_n cx dX7_drift_6 0 rfl rfl ?_
        refine jr_if_ge (tgt := 14) cx dX7_drift_7 (by decide) (fun c7 => absurd c7 (by decide)) (fun c7 => ?_)
        refine jr_iload_n cx dX7_drift_10 0 rfl rfl ?_
        refine jr_goto (tgt := 59) cx dX7_drift_11 (by decide) ?_
        exact jr_ri (by simp only [dDrift, ed, ecl, if_pos hh, if_neg q9, if_pos ea]; try rfl) (by simp only [dDrift, ed, ecl, if_pos hh, if_neg q9, if_pos ea]; rw [ec]; try rfl) (by simp only [dDrift, ed, ecl, if_pos hh, if_neg q9, if_pos ea]; try rfl) (hR 59 _ dX7_drift_59)
      · have q8 : ¬ sLast (pLM g (nI d) 100000) c = -9 := fun q => absurd (show nI a < 0 by rw [← ea, q]; decide) (nI_pos (by omega)); have eal : (sLast (pLM g (nI d) 100000) c).toNatClampNeg = a := by rw [ea]; exact cl_nI (by omega)
        by_cases hz : g 25 c = g 25 a
        · refine jr_vi [.int (nI d)] 1 cx dX7_drift_2 (c_X7_askedTwo_no E g h nb hnb hsb n hn hs d hd hh c hc ec a ha ea hz) (by decide) rfl rfl gX7_drift_X7_askedTwo rfl (by decide +kernel) ⟨Nat.le_of_ble_eq_true rfl, Nat.le_of_ble_eq_true rfl⟩ rfl rfl (Nat.le_of_ble_eq_true rfl) ?_
          refine jr_istore_n (L' := [(2, .int (-3)), (0, .ref (E.1 7)), (1, .int (nI d))]) cx dX7_drift_5 rfl (by decide) rfl ?_
          refine jr_iload_n cx dX7_drift_6 0 rfl rfl ?_
          refine jr_if_ge (tgt := 14) cx dX7_drift_7 (by decide) (fun c7 => absurd c7 (by decide)) (fun c7 => ?_)
          refine jr_iload_n cx dX7_drift_10 0 rfl rfl ?_
          refine jr_goto (tgt := 59) cx dX7_drift_11 (by decide) ?_
          exact jr_ri (by simp only [dDrift, ed, ecl, eal, if_pos hh, if_neg q9, if_neg q8, if_pos hz]; try rfl) (by simp only [dDrift, ed, ecl, eal, if_pos hh, if_neg q9, if_neg q8, if_pos hz]; try rfl) (by simp only [dDrift, ed, ecl, eal, if_pos hh, if_neg q9, if_neg q8, if_pos hz]; try rfl) (hR 59 _ dX7_drift_59)
        · refine jr_vi [.int (nI d)] 1 cx dX7_drift_2 (c_X7_askedTwo_ok E g h nb hnb hsb n hn hs d hd hh c hc ec a ha ea hz) (by decide) rfl rfl gX7_drift_X7_askedTwo rfl (by decide +kernel) ⟨Nat.le_of_ble_eq_true rfl, Nat.le_of_ble_eq_true rfl⟩ rfl rfl (Nat.le_of_ble_eq_true rfl) ?_
          refine jr_istore_n (L' := [(2, .int 0), (0, .ref (E.1 7)), (1, .int (nI d))]) cx dX7_drift_5 rfl (by decide) rfl ?_
          refine jr_iload_n cx dX7_drift_6 0 rfl rfl ?_
          refine jr_if_ge (tgt := 14) cx dX7_drift_7 (by decide) (fun c7 => ?_) (fun c7 => absurd c7 (by decide))
          refine jr_aload_n cx dX7_drift_14 1 rfl rfl ?_
          refine jr_aload_n cx dX7_drift_15 1 rfl rfl ?_
          refine jr_get (f := 21) (v := .ref (E.1 26)) cx dX7_drift_16 (by decide) rfl rfl hinX7 (by decide) mf_53 rfl ?_
          refine jr_aload_n cx dX7_drift_19 1 rfl rfl ?_
          refine jr_get (f := 25) (v := .int ((lsM g (nI c) (nI a)) 7 25)) cx dX7_drift_20 (by decide) rfl rfl hinX7 (by decide) mf_186 rfl ?_
          refine jr_top (show _ = nI c from rfl) ?_
          refine jr_iald cx dX7_drift_23 (Or.inl ⟨by decide, by decide⟩) c rfl (show _ < 40 by omega) ?_
          refine jr_aload_n cx dX7_drift_24 1 rfl rfl ?_
          refine jr_get (f := 21) (v := .ref (E.1 26)) cx dX7_drift_25 (by decide) rfl rfl hinX7 (by decide) mf_53 rfl ?_
          refine jr_aload_n cx dX7_drift_28 1 rfl rfl ?_
          refine jr_get (f := 26) (v := .int ((lsM g (nI c) (nI a)) 7 26)) cx dX7_drift_29 (by decide) rfl rfl hinX7 (by decide) mf_189 rfl ?_
          refine jr_top (show _ = nI a from rfl) ?_
          refine jr_iald cx dX7_drift_32 (Or.inl ⟨by decide, by decide⟩) a rfl (show _ < 40 by omega) ?_
          refine jr_isub cx dX7_drift_33 ?_
          refine jr_i2l cx dX7_drift_34 ?_
          refine jr_aload_n cx dX7_drift_35 1 rfl rfl ?_
          refine jr_get (f := 20) (v := .ref (E.1 25)) cx dX7_drift_36 (by decide) rfl rfl hinX7 (by decide) mf_50 rfl ?_
          refine jr_aload_n cx dX7_drift_39 1 rfl rfl ?_
          refine jr_get (f := 25) (v := .int ((lsM g (nI c) (nI a)) 7 25)) cx dX7_drift_40 (by decide) rfl rfl hinX7 (by decide) mf_186 rfl ?_
          refine jr_top (show _ = nI c from rfl) ?_
          refine jr_iald cx dX7_drift_43 (Or.inl ⟨by decide, by decide⟩) c rfl (show _ < 40 by omega) ?_
          refine jr_aload_n cx dX7_drift_44 1 rfl rfl ?_
          refine jr_get (f := 20) (v := .ref (E.1 25)) cx dX7_drift_45 (by decide) rfl rfl hinX7 (by decide) mf_50 rfl ?_
          refine jr_aload_n cx dX7_drift_48 1 rfl rfl ?_
          refine jr_get (f := 26) (v := .int ((lsM g (nI c) (nI a)) 7 26)) cx dX7_drift_49 (by decide) rfl rfl hinX7 (by decide) mf_189 rfl ?_
          refine jr_top (show _ = nI a from rfl) ?_
          refine jr_iald cx dX7_drift_52 (Or.inl ⟨by decide, by decide⟩) a rfl (show _ < 40 by omega) ?_
          refine jr_isub cx dX7_drift_53 ?_
          refine jr_i2l cx dX7_drift_54 ?_
          refine jr_iconst (v := 1) cx dX7_drift_55 (by decide) ?_
          refine jr_vi [.long (Int32.toInt64 (((lsM g (nI c) (nI a)) 26 c) - ((lsM g (nI c) (nI a)) 26 a))), .long (Int32.toInt64 (((lsM g (nI c) (nI a)) 25 c) - ((lsM g (nI c) (nI a)) 25 a))), .int 1] 3 cx dX7_drift_56 (c_X7_tell E (lsM g (nI c) (nI a)) h (Int32.toInt64 (((lsM g (nI c) (nI a)) 26 c) - ((lsM g (nI c) (nI a)) 26 a))) (Int32.toInt64 (((lsM g (nI c) (nI a)) 25 c) - ((lsM g (nI c) (nI a)) 25 a))) 1 (dr_bd (hof c hc).1 (hof a (by omega)).1 (by decide)) (dr_bd (hof c hc).2 (hof a (by omega)).2 (by decide)) (wz (fun q => hz (sub0.mp q)))) (by decide) rfl rfl gX7_drift_X7_tell rfl (by decide +kernel) ⟨Nat.le_of_ble_eq_true rfl, Nat.le_of_ble_eq_true rfl⟩ rfl rfl (Nat.le_of_ble_eq_true rfl) ?_
          exact jr_ri (by simp only [dDrift, ed, ecl, eal, if_pos hh, if_neg q9, if_neg q8, if_neg hz]; try rfl) (by simp only [dDrift, ed, ecl, eal, if_pos hh, if_neg q9, if_neg q8, if_neg hz]; try rfl) (by simp only [dDrift, ed, ecl, eal, if_pos hh, if_neg q9, if_neg q8, if_neg hz]; try rfl) (hR 59 _ dX7_drift_59)
  · refine jr_vi [.int b] 1 cx dX7_drift_2 (c_X7_askedTwo_bad E g h b nb hnb hsb n hn hs hh) (by decide) rfl rfl gX7_drift_X7_askedTwo rfl (by decide +kernel) ⟨Nat.le_of_ble_eq_true rfl, Nat.le_of_ble_eq_true rfl⟩ rfl rfl (Nat.le_of_ble_eq_true rfl) ?_
    refine jr_istore_n (L' := [(2, .int (-1)), (0, .ref (E.1 7)), (1, .int b)]) cx dX7_drift_5 rfl (by decide) rfl ?_
    refine jr_iload_n cx dX7_drift_6 0 rfl rfl ?_
    refine jr_if_ge (tgt := 14) cx dX7_drift_7 (by decide) (fun c7 => absurd c7 (by decide)) (fun c7 => ?_)
    refine jr_iload_n cx dX7_drift_10 0 rfl rfl ?_
    refine jr_goto (tgt := 59) cx dX7_drift_11 (by decide) ?_
    exact jr_ri (by simp only [dDrift, if_neg hh]; try rfl) (by simp only [dDrift, if_neg hh]; try rfl) (by simp only [dDrift, if_neg hh]; try rfl) (hR 59 _ dX7_drift_59)
def dwt (o r c d : Int64) : Int64 := if abL (o * d) ≤ r * d then (if c = 0 then 100001 else (if 0 < c then r * d - o * d else r * d + o * d) / abL c + 1) else 0
theorem abL_ne {c : Int64} (h : ¬ c = 0) : ¬ abL c = 0 := by
  unfold abL
  split
  · exact h
  · intro q
    apply h
    have h2 : -(-c) = -0 := by rw [q]
    rw [Int64.neg_neg] at h2
    rw [h2]; decide
set_option maxHeartbeats 4000000 in
set_option maxRecDepth 100000 in
theorem c_X6_daysWithin (E : mm_E) (g : mm_I) (h : mm_L) (o r c d : Int64) : Cl E yX6_daysWithin wsX6_daysWithin 1 23 [.long o, .long r, .long c, .long d] g h (dwt o r c d) g h := by
  refine ci_l (bytes := cX6_daysWithin) (maxL := 14) (by decide) rfl (Nat.le_of_ble_eq_true rfl) (fun X cx hR => ?_)
  change Cx E X cX6_daysWithin RX6 wsX6_daysWithin 14 1 23 at cx
  change JJ E X g h 0 [(0, .long o), (2, .long r), (4, .long c), (6, .long d)] []
  have ml_mabs_long : Cond.methodLink RX6 153 Lib.MathLoose.abs_long.x ∈ wsX6_daysWithin := by decide +kernel
  have mst_mabs_long : Cond.static Lib.MathLoose.abs_long.x ∈ wsX6_daysWithin := by decide +kernel
  have mi_math : Cond.initialized "java/lang/Math" ∈ wsX6_daysWithin := by decide +kernel
  have mco_mabs_long : Cond.code Lib.MathLoose.abs_long.x Lib.MathLoose.abs_long.code 2 (some .long) ∈ wsX6_daysWithin := by first | decide +kernel | (unfold wsX6_daysWithin; simp)
  have mc_234 : Cond.constantLong RX6 234 100001 ∈ wsX6_daysWithin := by decide +kernel
  refine jr_lload_n cx dX6_daysWithin_0 0 rfl rfl ?_
  refine jr_lload cx dX6_daysWithin_1 3 rfl ?_
  refine jr_lmul cx dX6_daysWithin_3 ?_
  refine jr_lstore (L' := [(8, .long (o * d)), (0, .long o), (2, .long r), (4, .long c), (6, .long d)]) cx dX6_daysWithin_4 (by decide) rfl ?_
  refine jr_lload_n cx dX6_daysWithin_6 2 rfl rfl ?_
  refine jr_lload cx dX6_daysWithin_7 4 rfl ?_
  refine jr_lmul cx dX6_daysWithin_9 ?_
  refine jr_lstore (L' := [(10, .long (r * d)), (8, .long (o * d)), (0, .long o), (2, .long r), (4, .long c), (6, .long d)]) cx dX6_daysWithin_10 (by decide) rfl ?_
  refine jr_lload cx dX6_daysWithin_12 1 rfl ?_
  refine jr_mabs_long cx dX6_daysWithin_14 ml_mabs_long mst_mabs_long mi_math mco_mabs_long (by decide) (Nat.le_of_ble_eq_true rfl) ?_
  refine jr_topl (absL_abL (o * d)) ?_
  refine jr_lload cx dX6_daysWithin_17 0 rfl ?_
  refine jr_lcmp cx dX6_daysWithin_19 ?_
  refine jr_lif_le (tgt := 25) cx dX6_daysWithin_20 (by decide) (fun c20 => ?_) (fun c20 => ?_)
  · refine jr_lload cx dX6_daysWithin_25 4 rfl ?_
    refine jr_lconst (v := 0) cx dX6_daysWithin_27 (by decide) ?_
    refine jr_lcmp cx dX6_daysWithin_28 ?_
    refine jr_lif_ne (tgt := 36) cx dX6_daysWithin_29 (by decide) (fun c29 => ?_) (fun c29 => ?_)
    · refine jr_lload cx dX6_daysWithin_36 4 rfl ?_
      refine jr_lconst (v := 0) cx dX6_daysWithin_38 (by decide) ?_
      refine jr_lcmp cx dX6_daysWithin_39 ?_
      refine jr_lif_le (tgt := 51) cx dX6_daysWithin_40 (by decide) (fun c40 => ?_) (fun c40 => ?_)
      · refine jr_lload cx dX6_daysWithin_51 0 rfl ?_
        refine jr_lload cx dX6_daysWithin_53 1 rfl ?_
        refine jr_ladd cx dX6_daysWithin_55 ?_
        refine jr_lstore (L' := [(12, .long ((r * d) + (o * d))), (10, .long (r * d)), (8, .long (o * d)), (0, .long o), (2, .long r), (4, .long c), (6, .long d)]) cx dX6_daysWithin_56 (by decide) rfl ?_
        refine jr_lload cx dX6_daysWithin_58 0 rfl ?_
        refine jr_lload cx dX6_daysWithin_60 5 rfl ?_
        refine jr_mabs_long cx dX6_daysWithin_62 ml_mabs_long mst_mabs_long mi_math mco_mabs_long (by decide) (Nat.le_of_ble_eq_true rfl) ?_
        refine jr_topl (absL_abL c) ?_
        refine jr_ldiv cx dX6_daysWithin_65 (abL_ne c29) ?_
        refine jr_lconst (v := 1) cx dX6_daysWithin_66 (by decide) ?_
        refine jr_ladd cx dX6_daysWithin_67 ?_
        exact jr_rl (by simp only [dwt, if_pos c20, if_neg c29, if_neg (fun q => absurd c40 (Int64.not_le.mpr q))]) (by rfl) (by rfl) (hR 68 _ dX6_daysWithin_68)
      · refine jr_lload cx dX6_daysWithin_43 0 rfl ?_
        refine jr_lload cx dX6_daysWithin_45 1 rfl ?_
        refine jr_lsub cx dX6_daysWithin_47 ?_
        refine jr_goto (tgt := 56) cx dX6_daysWithin_48 (by decide) ?_
        refine jr_lstore (L' := [(12, .long ((r * d) - (o * d))), (10, .long (r * d)), (8, .long (o * d)), (0, .long o), (2, .long r), (4, .long c), (6, .long d)]) cx dX6_daysWithin_56 (by decide) rfl ?_
        refine jr_lload cx dX6_daysWithin_58 0 rfl ?_
        refine jr_lload cx dX6_daysWithin_60 5 rfl ?_
        refine jr_mabs_long cx dX6_daysWithin_62 ml_mabs_long mst_mabs_long mi_math mco_mabs_long (by decide) (Nat.le_of_ble_eq_true rfl) ?_
        refine jr_topl (absL_abL c) ?_
        refine jr_ldiv cx dX6_daysWithin_65 (abL_ne c29) ?_
        refine jr_lconst (v := 1) cx dX6_daysWithin_66 (by decide) ?_
        refine jr_ladd cx dX6_daysWithin_67 ?_
        exact jr_rl (by simp only [dwt, if_pos c20, if_neg c29, if_pos (Int64.not_le.mp c40)]) (by rfl) (by rfl) (hR 68 _ dX6_daysWithin_68)
    · refine jr_ldc2 cx dX6_daysWithin_32 mc_234 ?_
      exact jr_rl (by simp only [dwt, if_pos c20, if_pos c29]) (by rfl) (by rfl) (hR 35 _ dX6_daysWithin_35)
  · refine jr_lconst (v := 0) cx dX6_daysWithin_23 (by decide) ?_
    exact jr_rl (by simp only [dwt, if_neg c20]) (by rfl) (by rfl) (hR 24 _ dX6_daysWithin_24)
def duC (g : mm_I) (d c a : Nat) : Int32 :=
  let up := (g (53 + c) 7 - g (53 + a) 7).toInt64
  let lo := (g (53 + c) 3 - g (53 + a) 3).toInt64
  let rm := (g 12 d - g (53 + c) 4).toInt64
  let wt := if 0 ≤ lo then dwt (g (53 + c) 7).toInt64 rm up lo else dwt (g (53 + c) 7).toInt64 rm (-up) (-lo)
  (if 100001 < (g (53 + c) 3).toInt64 + wt then 100001 else (g (53 + c) 3).toInt64 + wt).toInt32
def dFst (p : Nat → Bool) : Nat → Nat → Nat
  | 0, d => d
  | k + 1, d => if p d then d else dFst p k (d + 1)
def duP (g : mm_I) (d c a : Nat) (t : Nat) : Bool := decide (¬ abL ((g 26 c).toInt64 * (g 25 c - g 25 a).toInt64 + (g 26 c - g 26 a).toInt64 * (nI t - g 25 c).toInt64) + (g 27 c).toInt64 * abL (g 25 c - g 25 a).toInt64 ≤ (g 21 d).toInt64 * abL (g 25 c - g 25 a).toInt64)
def duM (g : mm_I) (d c a : Nat) : Int32 := nI (dFst (duP g d c a) (100001 - (g 25 c).toNatClampNeg) (g 25 c).toNatClampNeg)
set_option maxHeartbeats 4000000 in
set_option maxRecDepth 100000 in
theorem c_X6_due (E : mm_E) (g : mm_I) (h : mm_L) (b : Int32) (nb : Nat) (hnb : nb ≤ 16) (hsb : g 3 2 = nI nb) (n : Nat) (hn : n ≤ 40) (hs : g 4 1 = nI n) : Ci E yX6_due wsX6_due 5 115 [.ref (E.1 0), .int b] g h (dDrift nb b (fun d => sLast (pLU g (nI d) 100000) n) (fun d c => sLast (pLU g (nI d) 100000) c) (fun c a => g (53 + c) 3 - g (53 + a) 3 = 0) (-1) (fun _ => -4) (fun _ _ _ => -3) (duC g)) (dDrift nb b (fun d => sLast (pLU g (nI d) 100000) n) (fun d c => sLast (pLU g (nI d) 100000) c) (fun c a => g (53 + c) 3 - g (53 + a) 3 = 0) g (fun _ => g) (fun _ _ _ => rfM g 4) (fun _ _ _ => g)) h := by
  refine ci_i (bytes := cX6_due) (maxL := 13) (by decide) rfl (Nat.le_of_ble_eq_true rfl) (fun X cx hR => ?_)
  change Cx E X cX6_due RX6 wsX6_due 13 5 115 at cx
  change JJ E X g h 0 [(0, .ref (E.1 0)), (1, .int b)] []
  have hinX6 : ∀ w ∈ u_ws RX6 TX6 9, w ∈ wsX6_due := by decide +kernel
  have mf_33 : Cond.fieldLink RX6 33 (TX6 3).1 (TX6 3).2.1 (TX6 3).2.2.1 ∈ wsX6_due := by decide +kernel
  have mc_75 : Cond.constant RX6 75 100000 ∈ wsX6_due := by decide +kernel
  have mf_26 : Cond.fieldLink RX6 26 (TX6 2).1 (TX6 2).2.1 (TX6 2).2.2.1 ∈ wsX6_due := by decide +kernel
  have mc_234 : Cond.constantLong RX6 234 100001 ∈ wsX6_due := by decide +kernel
  have ml_mmin_long : Cond.methodLink RX6 236 Lib.MathLoose.min_long.x ∈ wsX6_due := by decide +kernel
  have mst_mmin_long : Cond.static Lib.MathLoose.min_long.x ∈ wsX6_due := by decide +kernel
  have mi_math : Cond.initialized "java/lang/Math" ∈ wsX6_due := by decide +kernel
  have mco_mmin_long : Cond.code Lib.MathLoose.min_long.x Lib.MathLoose.min_long.code 4 (some .long) ∈ wsX6_due := by first | decide +kernel | (unfold wsX6_due; simp)
  refine jr_aload_n cx dX6_due_0 0 rfl rfl ?_
  refine jr_iload_n cx dX6_due_1 1 rfl rfl ?_
  by_cases hh : ¬ b < 0 ∧ ¬ nI nb - 1 < b
  · obtain ⟨d, hd, rfl⟩ := has_nat (by omega) hh; have ed : (nI d).toNatClampNeg = d := cl_nI (by omega)
    rcases sLast_nat (pLU g (nI d) 100000) n with ec | ⟨c, hc, ec, pc1⟩
    · refine jr_vi [.int (nI d)] 1 cx dX6_due_2 (c_X6_driftRefusal_s1 E g h nb hnb hsb n hn hs d hd hh ec) (by decide) rfl rfl gX6_due_X6_driftRefusal rfl (by decide +kernel) ⟨Nat.le_of_ble_eq_true rfl, Nat.le_of_ble_eq_true rfl⟩ rfl rfl (Nat.le_of_ble_eq_true rfl) ?_
      refine jr_istore_n (L' := [(2, .int (-4)), (0, .ref (E.1 0)), (1, .int (nI d))]) cx dX6_due_5 rfl (by decide) rfl ?_
      refine jr_iload_n cx dX6_due_6 0 rfl rfl ?_
      refine jr_if_eq (tgt := 12) cx dX6_due_7 (by decide) (fun c7 => absurd c7 (by decide)) (fun c7 => ?_)
      refine jr_iload_n cx dX6_due_10 0 rfl rfl ?_
      exact jr_ri (by simp only [dDrift, ed, if_pos hh, if_pos ec]) (by simp only [dDrift, ed, if_pos hh, if_pos ec]; try rfl) (by rfl) (hR 11 _ dX6_due_11)
    · have q9 : ¬ sLast (pLU g (nI d) 100000) n = -9 := fun q => absurd (show nI c < 0 by rw [← ec, q]; decide) (nI_pos (by omega)); have ecl : (sLast (pLU g (nI d) 100000) n).toNatClampNeg = c := by rw [ec]; exact cl_nI (by omega)
      rcases sLast_nat (pLU g (nI d) 100000) c with ea | ⟨a, ha, ea, pa1⟩
      · refine jr_vi [.int (nI d)] 1 cx dX6_due_2 (c_X6_driftRefusal_s2 E g h nb hnb hsb n hn hs d hd hh c hc ec ea) (by decide) rfl rfl gX6_due_X6_driftRefusal rfl (by decide +kernel) ⟨Nat.le_of_ble_eq_true rfl, Nat.le_of_ble_eq_true rfl⟩ rfl rfl (Nat.le_of_ble_eq_true rfl) ?_
        refine jr_istore_n (L' := [(2, .int (-4)), (0, .ref (E.1 0)), (1, .int (nI d))]) cx dX6_due_5 rfl (by decide) rfl ?_
        refine jr_iload_n cx dX6_due_6 0 rfl rfl ?_
        refine jr_if_eq (tgt := 12) cx dX6_due_7 (by decide) (fun c7 => absurd c7 (by decide)) (fun c7 => ?_)
        refine jr_iload_n cx dX6_due_10 0 rfl rfl ?_
        exact jr_ri (by simp only [dDrift, ed, ecl, if_pos hh, if_neg q9, if_pos ea]) (by simp only [dDrift, ed, ecl, if_pos hh, if_neg q9, if_pos ea]; try rfl) (by rfl) (hR 11 _ dX6_due_11)
      · have q8 : ¬ sLast (pLU g (nI d) 100000) c = -9 := fun q => absurd (show nI a < 0 by rw [← ea, q]; decide) (nI_pos (by omega)); have eal : (sLast (pLU g (nI d) 100000) c).toNatClampNeg = a := by rw [ea]; exact cl_nI (by omega)
        by_cases hz : g (53 + c) 3 - g (53 + a) 3 = 0
        · refine jr_vi [.int (nI d)] 1 cx dX6_due_2 (c_X6_driftRefusal_no E g h nb hnb hsb n hn hs d hd hh c hc ec a ha ea hz) (by decide) rfl rfl gX6_due_X6_driftRefusal rfl (by decide +kernel) ⟨Nat.le_of_ble_eq_true rfl, Nat.le_of_ble_eq_true rfl⟩ rfl rfl (Nat.le_of_ble_eq_true rfl) ?_
          refine jr_istore_n (L' := [(2, .int (-3)), (0, .ref (E.1 0)), (1, .int (nI d))]) cx dX6_due_5 rfl (by decide) rfl ?_
          refine jr_iload_n cx dX6_due_6 0 rfl rfl ?_
          refine jr_if_eq (tgt := 12) cx dX6_due_7 (by decide) (fun c7 => absurd c7 (by decide)) (fun c7 => ?_)
          refine jr_iload_n cx dX6_due_10 0 rfl rfl ?_
          exact jr_ri (by simp only [dDrift, ed, ecl, eal, if_pos hh, if_neg q9, if_neg q8, if_pos hz]) (by simp only [dDrift, ed, ecl, eal, if_pos hh, if_neg q9, if_neg q8, if_pos hz]; try rfl) (by rfl) (hR 11 _ dX6_due_11)
        · refine jr_vi [.int (nI d)] 1 cx dX6_due_2 (c_X6_driftRefusal_ok E g h nb hnb hsb n hn hs d hd hh c hc ec a ha ea hz) (by decide) rfl rfl gX6_due_X6_driftRefusal rfl (by decide +kernel) ⟨Nat.le_of_ble_eq_true rfl, Nat.le_of_ble_eq_true rfl⟩ rfl rfl (Nat.le_of_ble_eq_true rfl) ?_
          refine jr_istore_n (L' := [(2, .int 0), (0, .ref (E.1 0)), (1, .int (nI d))]) cx dX6_due_5 rfl (by decide) rfl ?_
          refine jr_iload_n cx dX6_due_6 0 rfl rfl ?_
          refine jr_if_eq (tgt := 12) cx dX6_due_7 (by decide) (fun c7 => ?_) (fun c7 => absurd c7 (by decide))
          refine jr_aload_n cx dX6_due_12 1 rfl rfl ?_
          refine jr_get (f := 3) (v := .ref (E.1 4)) cx dX6_due_13 (by decide) rfl rfl hinX6 (by decide) mf_33 rfl ?_
          refine jr_iload_n cx dX6_due_16 2 rfl rfl ?_
          refine jr_vi [.int (nI d)] 1 cx dX6_due_17 (c_X1_latestOf E g h (nI d) n hn hs) (by decide) rfl rfl gX6_due_X1_latestOf rfl (by decide +kernel) ⟨Nat.le_of_ble_eq_true rfl, Nat.le_of_ble_eq_true rfl⟩ rfl rfl (Nat.le_of_ble_eq_true rfl) ?_
          refine jr_top ec ?_
          refine jr_istore_n (L' := [(3, .int (nI c)), (2, .int 0), (0, .ref (E.1 0)), (1, .int (nI d))]) cx dX6_due_20 rfl (by decide) rfl ?_
          refine jr_aload_n cx dX6_due_21 2 rfl rfl ?_
          refine jr_get (f := 3) (v := .ref (E.1 4)) cx dX6_due_22 (by decide) rfl rfl hinX6 (by decide) mf_33 rfl ?_
          refine jr_iload_n cx dX6_due_25 3 rfl rfl ?_
          refine jr_ldc cx dX6_due_26 mc_75 ?_
          refine jr_iload_n cx dX6_due_28 0 rfl rfl ?_
          refine jr_vi [.int (nI d), .int 100000, .int (nI c)] 3 cx dX6_due_29 (c_X1_lastUntil E g h (nI d) 100000 c n hn hs (by omega)) (by decide) rfl rfl gX6_due_X1_lastUntil rfl (by decide +kernel) ⟨Nat.le_of_ble_eq_true rfl, Nat.le_of_ble_eq_true rfl⟩ rfl rfl (Nat.le_of_ble_eq_true rfl) ?_
          refine jr_top ea ?_
          refine jr_istore (L' := [(4, .int (nI a)), (3, .int (nI c)), (2, .int 0), (0, .ref (E.1 0)), (1, .int (nI d))]) cx dX6_due_32 (by decide) rfl ?_
          refine jr_aload_n cx dX6_due_34 3 rfl rfl ?_
          refine jr_get (f := 3) (v := .ref (E.1 4)) cx dX6_due_35 (by decide) rfl rfl hinX6 (by decide) mf_33 rfl ?_
          refine jr_bipush (v := 7) cx dX6_due_38 (by decide) ?_
          refine jr_iload cx dX6_due_40 0 rfl ?_
          refine jr_iload_n cx dX6_due_42 1 rfl rfl ?_
          refine jr_vi [.int 7, .int (nI a), .int (nI c)] 3 cx dX6_due_43 (c_X1_rise E g h 7 a c (by decide) (by omega) (by omega)) (by decide) rfl rfl gX6_due_X1_rise rfl (by decide +kernel) ⟨Nat.le_of_ble_eq_true rfl, Nat.le_of_ble_eq_true rfl⟩ rfl rfl (Nat.le_of_ble_eq_true rfl) ?_
          refine jr_i2l cx dX6_due_46 ?_
          refine jr_lstore (L' := [(5, .long (Int32.toInt64 (g (53 + c) 7 - g (53 + a) 7))), (4, .int (nI a)), (3, .int (nI c)), (2, .int 0), (0, .ref (E.1 0)), (1, .int (nI d))]) cx dX6_due_47 (by decide) rfl ?_
          refine jr_aload_n cx dX6_due_49 4 rfl rfl ?_
          refine jr_get (f := 3) (v := .ref (E.1 4)) cx dX6_due_50 (by decide) rfl rfl hinX6 (by decide) mf_33 rfl ?_
          refine jr_iconst (v := 3) cx dX6_due_53 (by decide) ?_
          refine jr_iload cx dX6_due_54 1 rfl ?_
          refine jr_iload_n cx dX6_due_56 2 rfl rfl ?_
          refine jr_vi [.int 3, .int (nI a), .int (nI c)] 3 cx dX6_due_57 (c_X1_rise E g h 3 a c (by decide) (by omega) (by omega)) (by decide) rfl rfl gX6_due_X1_rise rfl (by decide +kernel) ⟨Nat.le_of_ble_eq_true rfl, Nat.le_of_ble_eq_true rfl⟩ rfl rfl (Nat.le_of_ble_eq_true rfl) ?_
          refine jr_i2l cx dX6_due_60 ?_
          refine jr_lstore (L' := [(7, .long (Int32.toInt64 (g (53 + c) 3 - g (53 + a) 3))), (5, .long (Int32.toInt64 (g (53 + c) 7 - g (53 + a) 7))), (4, .int (nI a)), (3, .int (nI c)), (2, .int 0), (0, .ref (E.1 0)), (1, .int (nI d))]) cx dX6_due_61 (by decide) rfl ?_
          refine jr_aload_n cx dX6_due_63 5 rfl rfl ?_
          refine jr_get (f := 2) (v := .ref (E.1 3)) cx dX6_due_64 (by decide) rfl rfl hinX6 (by decide) mf_26 rfl ?_
          refine jr_iload_n cx dX6_due_67 6 rfl rfl ?_
          refine jr_vi [.int (nI d)] 1 cx dX6_due_68 (c_X0_toleranceOf E g h d (by omega)) (by decide) rfl rfl gX6_due_X0_toleranceOf rfl (by decide +kernel) ⟨Nat.le_of_ble_eq_true rfl, Nat.le_of_ble_eq_true rfl⟩ rfl rfl (Nat.le_of_ble_eq_true rfl) ?_
          refine jr_aload_n cx dX6_due_71 5 rfl rfl ?_
          refine jr_get (f := 3) (v := .ref (E.1 4)) cx dX6_due_72 (by decide) rfl rfl hinX6 (by decide) mf_33 rfl ?_
          refine jr_iload_n cx dX6_due_75 3 rfl rfl ?_
          refine jr_iconst (v := 4) cx dX6_due_76 (by decide) ?_
          refine jr_vi [.int (nI c), .int 4] 2 cx dX6_due_77 (c_X1_fact E g h c 4 (by omega) (by omega)) (by decide) rfl rfl gX6_due_X1_fact rfl (by decide +kernel) ⟨Nat.le_of_ble_eq_true rfl, Nat.le_of_ble_eq_true rfl⟩ rfl rfl (Nat.le_of_ble_eq_true rfl) ?_
          refine jr_isub cx dX6_due_80 ?_
          refine jr_i2l cx dX6_due_81 ?_
          refine jr_lstore (L' := [(9, .long (Int32.toInt64 ((g 12 d) - (g (53 + c) 4)))), (7, .long (Int32.toInt64 (g (53 + c) 3 - g (53 + a) 3))), (5, .long (Int32.toInt64 (g (53 + c) 7 - g (53 + a) 7))), (4, .int (nI a)), (3, .int (nI c)), (2, .int 0), (0, .ref (E.1 0)), (1, .int (nI d))]) cx dX6_due_82 (by decide) rfl ?_
          refine jr_lload cx dX6_due_84 1 rfl ?_
          refine jr_lconst (v := 0) cx dX6_due_86 (by decide) ?_
          refine jr_lcmp cx dX6_due_87 ?_
          refine jr_lif_ge (tgt := 116) cx dX6_due_88 (by decide) (fun c88 => ?_) (fun c88 => ?_)
          · refine jr_aload_n cx dX6_due_116 6 rfl rfl ?_
            refine jr_get (f := 3) (v := .ref (E.1 4)) cx dX6_due_117 (by decide) rfl rfl hinX6 (by decide) mf_33 rfl ?_
            refine jr_iload_n cx dX6_due_120 4 rfl rfl ?_
            refine jr_bipush (v := 7) cx dX6_due_121 (by decide) ?_
            refine jr_vi [.int (nI c), .int 7] 2 cx dX6_due_123 (c_X1_fact E g h c 7 (by omega) (by omega)) (by decide) rfl rfl gX6_due_X1_fact rfl (by decide +kernel) ⟨Nat.le_of_ble_eq_true rfl, Nat.le_of_ble_eq_true rfl⟩ rfl rfl (Nat.le_of_ble_eq_true rfl) ?_
            refine jr_i2l cx dX6_due_126 ?_
            refine jr_lload cx dX6_due_127 0 rfl ?_
            refine jr_lload cx dX6_due_129 2 rfl ?_
            refine jr_lload cx dX6_due_131 1 rfl ?_
            refine jr_sl [.long (Int32.toInt64 (g (53 + c) 7)), .long (Int32.toInt64 ((g 12 d) - (g (53 + c) 4))), .long (Int32.toInt64 (g (53 + c) 7 - g (53 + a) 7)), .long (Int32.toInt64 (g (53 + c) 3 - g (53 + a) 3))] 4 cx dX6_due_133 (c_X6_daysWithin E g h (Int32.toInt64 (g (53 + c) 7)) (Int32.toInt64 ((g 12 d) - (g (53 + c) 4))) (Int32.toInt64 (g (53 + c) 7 - g (53 + a) 7)) (Int32.toInt64 (g (53 + c) 3 - g (53 + a) 3))) gX6_due_X6_daysWithin rfl (by decide +kernel) ⟨Nat.le_of_ble_eq_true rfl, Nat.le_of_ble_eq_true rfl⟩ rfl rfl (Nat.le_of_ble_eq_true rfl) ?_
            refine jr_lstore (L' := [(11, .long (dwt (Int32.toInt64 (g (53 + c) 7)) (Int32.toInt64 ((g 12 d) - (g (53 + c) 4))) (Int32.toInt64 (g (53 + c) 7 - g (53 + a) 7)) (Int32.toInt64 (g (53 + c) 3 - g (53 + a) 3)))), (9, .long (Int32.toInt64 ((g 12 d) - (g (53 + c) 4)))), (7, .long (Int32.toInt64 (g (53 + c) 3 - g (53 + a) 3))), (5, .long (Int32.toInt64 (g (53 + c) 7 - g (53 + a) 7))), (4, .int (nI a)), (3, .int (nI c)), (2, .int 0), (0, .ref (E.1 0)), (1, .int (nI d))]) cx dX6_due_136 (by decide) rfl ?_
            refine jr_aload_n cx dX6_due_138 7 rfl rfl ?_
            refine jr_get (f := 3) (v := .ref (E.1 4)) cx dX6_due_139 (by decide) rfl rfl hinX6 (by decide) mf_33 rfl ?_
            refine jr_iload_n cx dX6_due_142 5 rfl rfl ?_
            refine jr_iconst (v := 3) cx dX6_due_143 (by decide) ?_
            refine jr_vi [.int (nI c), .int 3] 2 cx dX6_due_144 (c_X1_fact E g h c 3 (by omega) (by omega)) (by decide) rfl rfl gX6_due_X1_fact rfl (by decide +kernel) ⟨Nat.le_of_ble_eq_true rfl, Nat.le_of_ble_eq_true rfl⟩ rfl rfl (Nat.le_of_ble_eq_true rfl) ?_
            refine jr_i2l cx dX6_due_147 ?_
            refine jr_lload cx dX6_due_148 0 rfl ?_
            refine jr_ladd cx dX6_due_150 ?_
            refine jr_ldc2 cx dX6_due_151 mc_234 ?_
            refine jr_mmin_long cx dX6_due_154 ml_mmin_long mst_mmin_long mi_math mco_mmin_long (by decide) (Nat.le_of_ble_eq_true rfl) ?_
            refine jr_l2i cx dX6_due_157 ?_
            exact jr_ri (by simp only [dDrift, ed, ecl, eal, if_pos hh, if_neg q9, if_neg q8, if_neg hz]; unfold duC; simp only [if_pos c88]) (by simp only [dDrift, ed, ecl, eal, if_pos hh, if_neg q9, if_neg q8, if_neg hz]; try rfl) (by rfl) (hR 158 _ dX6_due_158)
          · refine jr_aload_n cx dX6_due_91 6 rfl rfl ?_
            refine jr_get (f := 3) (v := .ref (E.1 4)) cx dX6_due_92 (by decide) rfl rfl hinX6 (by decide) mf_33 rfl ?_
            refine jr_iload_n cx dX6_due_95 4 rfl rfl ?_
            refine jr_bipush (v := 7) cx dX6_due_96 (by decide) ?_
            refine jr_vi [.int (nI c), .int 7] 2 cx dX6_due_98 (c_X1_fact E g h c 7 (by omega) (by omega)) (by decide) rfl rfl gX6_due_X1_fact rfl (by decide +kernel) ⟨Nat.le_of_ble_eq_true rfl, Nat.le_of_ble_eq_true rfl⟩ rfl rfl (Nat.le_of_ble_eq_true rfl) ?_
            refine jr_i2l cx dX6_due_101 ?_
            refine jr_lload cx dX6_due_102 0 rfl ?_
            refine jr_lload cx dX6_due_104 2 rfl ?_
            refine jr_lneg cx dX6_due_106 ?_
            refine jr_lload cx dX6_due_107 1 rfl ?_
            refine jr_lneg cx dX6_due_109 ?_
            refine jr_sl [.long (Int32.toInt64 (g (53 + c) 7)), .long (Int32.toInt64 ((g 12 d) - (g (53 + c) 4))), .long (-(Int32.toInt64 (g (53 + c) 7 - g (53 + a) 7))), .long (-(Int32.toInt64 (g (53 + c) 3 - g (53 + a) 3)))] 4 cx dX6_due_110 (c_X6_daysWithin E g h (Int32.toInt64 (g (53 + c) 7)) (Int32.toInt64 ((g 12 d) - (g (53 + c) 4))) (-(Int32.toInt64 (g (53 + c) 7 - g (53 + a) 7))) (-(Int32.toInt64 (g (53 + c) 3 - g (53 + a) 3)))) gX6_due_X6_daysWithin rfl (by decide +kernel) ⟨Nat.le_of_ble_eq_true rfl, Nat.le_of_ble_eq_true rfl⟩ rfl rfl (Nat.le_of_ble_eq_true rfl) ?_
            refine jr_goto (tgt := 136) cx dX6_due_113 (by decide) ?_
            refine jr_lstore (L' := [(11, .long (dwt (Int32.toInt64 (g (53 + c) 7)) (Int32.toInt64 ((g 12 d) - (g (53 + c) 4))) (-(Int32.toInt64 (g (53 + c) 7 - g (53 + a) 7))) (-(Int32.toInt64 (g (53 + c) 3 - g (53 + a) 3))))), (9, .long (Int32.toInt64 ((g 12 d) - (g (53 + c) 4)))), (7, .long (Int32.toInt64 (g (53 + c) 3 - g (53 + a) 3))), (5, .long (Int32.toInt64 (g (53 + c) 7 - g (53 + a) 7))), (4, .int (nI a)), (3, .int (nI c)), (2, .int 0), (0, .ref (E.1 0)), (1, .int (nI d))]) cx dX6_due_136 (by decide) rfl ?_
            refine jr_aload_n cx dX6_due_138 7 rfl rfl ?_
            refine jr_get (f := 3) (v := .ref (E.1 4)) cx dX6_due_139 (by decide) rfl rfl hinX6 (by decide) mf_33 rfl ?_
            refine jr_iload_n cx dX6_due_142 5 rfl rfl ?_
            refine jr_iconst (v := 3) cx dX6_due_143 (by decide) ?_
            refine jr_vi [.int (nI c), .int 3] 2 cx dX6_due_144 (c_X1_fact E g h c 3 (by omega) (by omega)) (by decide) rfl rfl gX6_due_X1_fact rfl (by decide +kernel) ⟨Nat.le_of_ble_eq_true rfl, Nat.le_of_ble_eq_true rfl⟩ rfl rfl (Nat.le_of_ble_eq_true rfl) ?_
            refine jr_i2l cx dX6_due_147 ?_
            refine jr_lload cx dX6_due_148 0 rfl ?_
            refine jr_ladd cx dX6_due_150 ?_
            refine jr_ldc2 cx dX6_due_151 mc_234 ?_
            refine jr_mmin_long cx dX6_due_154 ml_mmin_long mst_mmin_long mi_math mco_mmin_long (by decide) (Nat.le_of_ble_eq_true rfl) ?_
            refine jr_l2i cx dX6_due_157 ?_
            exact jr_ri (by simp only [dDrift, ed, ecl, eal, if_pos hh, if_neg q9, if_neg q8, if_neg hz]; unfold duC; simp only [if_neg c88]) (by simp only [dDrift, ed, ecl, eal, if_pos hh, if_neg q9, if_neg q8, if_neg hz]; try rfl) (by rfl) (hR 158 _ dX6_due_158)
  · refine jr_vi [.int b] 1 cx dX6_due_2 (c_X6_driftRefusal_bad E g h b nb hnb hsb n hn hs hh) (by decide) rfl rfl gX6_due_X6_driftRefusal rfl (by decide +kernel) ⟨Nat.le_of_ble_eq_true rfl, Nat.le_of_ble_eq_true rfl⟩ rfl rfl (Nat.le_of_ble_eq_true rfl) ?_
    refine jr_istore_n (L' := [(2, .int (-1)), (0, .ref (E.1 0)), (1, .int b)]) cx dX6_due_5 rfl (by decide) rfl ?_
    refine jr_iload_n cx dX6_due_6 0 rfl rfl ?_
    refine jr_if_eq (tgt := 12) cx dX6_due_7 (by decide) (fun c7 => absurd c7 (by decide)) (fun c7 => ?_)
    refine jr_iload_n cx dX6_due_10 0 rfl rfl ?_
    exact jr_ri (by simp only [dDrift, if_neg hh]) (by simp only [dDrift, if_neg hh]; try rfl) (by rfl) (hR 11 _ dX6_due_11)
set_option maxHeartbeats 4000000 in
set_option maxRecDepth 100000 in
theorem c_X7_due (E : mm_E) (g : mm_I) (h : mm_L) (b : Int32) (nb : Nat) (hnb : nb ≤ 16) (hsb : g 7 13 = nI nb) (n : Nat) (hn : n ≤ 40) (hs : g 7 16 = nI n) (hday : ∀ c, c < n → ∃ t, t ≤ 100000 ∧ g 25 c = nI t) : Ci E yX7_due wsX7_due 4 111 [.ref (E.1 7), .int b] g h (dDrift nb b (fun d => sLast (pLM g (nI d) 100000) n) (fun d c => sLast (pLM g (nI d) 100000) c) (fun c a => g 25 c = g 25 a) (-1) (fun _ => -4) (fun _ _ _ => -3) (duM g)) (dDrift nb b (fun d => sLast (pLM g (nI d) 100000) n) (fun d c => sLast (pLM g (nI d) 100000) c) (fun c a => g 25 c = g 25 a) g (fun d => lsM g (sLast (pLM g (nI d) 100000) n) (-9)) (fun _ c a => mtM (lsM g (nI c) (nI a)) 4) (fun _ c a => lsM g (nI c) (nI a))) h := by
  refine ci_i (bytes := cX7_due) (maxL := 10) (by decide) rfl (Nat.le_of_ble_eq_true rfl) (fun X cx hR => ?_)
  change Cx E X cX7_due RX7 wsX7_due 10 4 111 at cx
  change JJ E X g h 0 [(0, .ref (E.1 7)), (1, .int b)] []
  have hinX7 : ∀ w ∈ u_ws RX7 TX7 30, w ∈ wsX7_due := by decide +kernel
  have mf_53 : Cond.fieldLink RX7 53 (TX7 21).1 (TX7 21).2.1 (TX7 21).2.2.1 ∈ wsX7_due := by decide +kernel
  have mf_186 : Cond.fieldLink RX7 186 (TX7 25).1 (TX7 25).2.1 (TX7 25).2.2.1 ∈ wsX7_due := by decide +kernel
  have mf_189 : Cond.fieldLink RX7 189 (TX7 26).1 (TX7 26).2.1 (TX7 26).2.2.1 ∈ wsX7_due := by decide +kernel
  have mf_50 : Cond.fieldLink RX7 50 (TX7 20).1 (TX7 20).2.1 (TX7 20).2.2.1 ∈ wsX7_due := by decide +kernel
  have mc_106 : Cond.constant RX7 106 100000 ∈ wsX7_due := by decide +kernel
  have mc_195 : Cond.constant RX7 195 100001 ∈ wsX7_due := by decide +kernel
  have mf_56 : Cond.fieldLink RX7 56 (TX7 22).1 (TX7 22).2.1 (TX7 22).2.2.1 ∈ wsX7_due := by decide +kernel
  have mf_38 : Cond.fieldLink RX7 38 (TX7 15).1 (TX7 15).2.1 (TX7 15).2.2.1 ∈ wsX7_due := by decide +kernel
  refine jr_aload_n cx dX7_due_0 0 rfl rfl ?_
  refine jr_iload_n cx dX7_due_1 1 rfl rfl ?_
  by_cases hh : ¬ b < 0 ∧ ¬ nI nb - 1 < b
  · obtain ⟨d, hd, rfl⟩ := has_nat (by omega) hh; have ed : (nI d).toNatClampNeg = d := cl_nI (by omega)
    rcases sLast_nat (pLM g (nI d) 100000) n with ec | ⟨c, hc, ec, pc1⟩
    · refine jr_vi [.int (nI d)] 1 cx dX7_due_2 (c_X7_askedTwo_s1 E g h nb hnb hsb n hn hs d hd hh ec) (by decide) rfl rfl gX7_due_X7_askedTwo rfl (by decide +kernel) ⟨Nat.le_of_ble_eq_true rfl, Nat.le_of_ble_eq_true rfl⟩ rfl rfl (Nat.le_of_ble_eq_true rfl) ?_
      refine jr_istore_n (L' := [(2, .int (-4)), (0, .ref (E.1 7)), (1, .int (nI d))]) cx dX7_due_5 rfl (by decide) rfl ?_
      refine jr_iload_n cx dX7_due_6 0 rfl rfl ?_
      refine jr_if_ge (tgt := 12) cx dX7_due_7 (by decide) (fun c7 => absurd c7 (by decide)) (fun c7 => ?_)
      refine jr_iload_n cx dX7_due_10 0 rfl rfl ?_
      exact jr_ri (by simp only [dDrift, ed, if_pos hh, if_pos ec]; try rfl) (by simp only [dDrift, ed, if_pos hh, if_pos ec]; rw [ec]; try rfl) (by rfl) (hR 11 _ dX7_due_11)
    · have q9 : ¬ sLast (pLM g (nI d) 100000) n = -9 := fun q => absurd (show nI c < 0 by rw [← ec, q]; decide) (nI_pos (by omega)); have ecl : (sLast (pLM g (nI d) 100000) n).toNatClampNeg = c := by rw [ec]; exact cl_nI (by omega)
      rcases sLast_nat (pLM g (nI d) 100000) c with ea | ⟨a, ha, ea, pa1⟩
      · refine jr_vi [.int (nI d)] 1 cx dX7_due_2 (c_X7_askedTwo_s2 E g h nb hnb hsb n hn hs d hd hh c hc ec ea) (by decide) rfl rfl gX7_due_X7_askedTwo rfl (by decide +kernel) ⟨Nat.le_of_ble_eq_true rfl, Nat.le_of_ble_eq_true rfl⟩ rfl rfl (Nat.le_of_ble_eq_true rfl) ?_
        refine jr_istore_n (L' := [(2, .int (-4)), (0, .ref (E.1 7)), (1, .int (nI d))]) cx dX7_due_5 rfl (by decide) rfl ?_
        refine jr_iload_n cx dX7_due_6 0 rfl rfl ?_
        refine jr_if_ge (tgt := 12) cx dX7_due_7 (by decide) (fun c7 => absurd c7 (by decide)) (fun c7 => ?_)
        refine jr_iload_n cx dX7_due_10 0 rfl rfl ?_
        exact jr_ri (by simp only [dDrift, ed, ecl, if_pos hh, if_neg q9, if_pos ea]; try rfl) (by simp only [dDrift, ed, ecl, if_pos hh, if_neg q9, if_pos ea]; rw [ec]; try rfl) (by rfl) (hR 11 _ dX7_due_11)
      · have q8 : ¬ sLast (pLM g (nI d) 100000) c = -9 := fun q => absurd (show nI a < 0 by rw [← ea, q]; decide) (nI_pos (by omega)); have eal : (sLast (pLM g (nI d) 100000) c).toNatClampNeg = a := by rw [ea]; exact cl_nI (by omega)
        by_cases hz : g 25 c = g 25 a
        · refine jr_vi [.int (nI d)] 1 cx dX7_due_2 (c_X7_askedTwo_no E g h nb hnb hsb n hn hs d hd hh c hc ec a ha ea hz) (by decide) rfl rfl gX7_due_X7_askedTwo rfl (by decide +kernel) ⟨Nat.le_of_ble_eq_true rfl, Nat.le_of_ble_eq_true rfl⟩ rfl rfl (Nat.le_of_ble_eq_true rfl) ?_
          refine jr_istore_n (L' := [(2, .int (-3)), (0, .ref (E.1 7)), (1, .int (nI d))]) cx dX7_due_5 rfl (by decide) rfl ?_
          refine jr_iload_n cx dX7_due_6 0 rfl rfl ?_
          refine jr_if_ge (tgt := 12) cx dX7_due_7 (by decide) (fun c7 => absurd c7 (by decide)) (fun c7 => ?_)
          refine jr_iload_n cx dX7_due_10 0 rfl rfl ?_
          exact jr_ri (by simp only [dDrift, ed, ecl, eal, if_pos hh, if_neg q9, if_neg q8, if_pos hz]; try rfl) (by simp only [dDrift, ed, ecl, eal, if_pos hh, if_neg q9, if_neg q8, if_pos hz]; try rfl) (by rfl) (hR 11 _ dX7_due_11)
        · refine jr_vi [.int (nI d)] 1 cx dX7_due_2 (c_X7_askedTwo_ok E g h nb hnb hsb n hn hs d hd hh c hc ec a ha ea hz) (by decide) rfl rfl gX7_due_X7_askedTwo rfl (by decide +kernel) ⟨Nat.le_of_ble_eq_true rfl, Nat.le_of_ble_eq_true rfl⟩ rfl rfl (Nat.le_of_ble_eq_true rfl) ?_
          refine jr_istore_n (L' := [(2, .int 0), (0, .ref (E.1 7)), (1, .int (nI d))]) cx dX7_due_5 rfl (by decide) rfl ?_
          refine jr_iload_n cx dX7_due_6 0 rfl rfl ?_
          refine jr_if_ge (tgt := 12) cx dX7_due_7 (by decide) (fun c7 => ?_) (fun c7 => absurd c7 (by decide))
          obtain ⟨t0, ht0, et⟩ := hday c hc; have edl : (g 25 c).toNatClampNeg = t0 := by rw [et]; exact nI_clamp (by omega)
          refine jr_aload_n cx dX7_due_12 1 rfl rfl ?_
          refine jr_get (f := 21) (v := .ref (E.1 26)) cx dX7_due_13 (by decide) rfl rfl hinX7 (by decide) mf_53 rfl ?_
          refine jr_aload_n cx dX7_due_16 1 rfl rfl ?_
          refine jr_get (f := 25) (v := .int ((lsM g (nI c) (nI a)) 7 25)) cx dX7_due_17 (by decide) rfl rfl hinX7 (by decide) mf_186 rfl ?_
          refine jr_top (show _ = nI c from rfl) ?_
          refine jr_iald cx dX7_due_20 (Or.inl ⟨by decide, by decide⟩) c rfl (show _ < 40 by omega) ?_
          refine jr_top (show _ = g 26 c from rfl) ?_
          refine jr_aload_n cx dX7_due_21 1 rfl rfl ?_
          refine jr_get (f := 21) (v := .ref (E.1 26)) cx dX7_due_22 (by decide) rfl rfl hinX7 (by decide) mf_53 rfl ?_
          refine jr_aload_n cx dX7_due_25 1 rfl rfl ?_
          refine jr_get (f := 26) (v := .int ((lsM g (nI c) (nI a)) 7 26)) cx dX7_due_26 (by decide) rfl rfl hinX7 (by decide) mf_189 rfl ?_
          refine jr_top (show _ = nI a from rfl) ?_
          refine jr_iald cx dX7_due_29 (Or.inl ⟨by decide, by decide⟩) a rfl (show _ < 40 by omega) ?_
          refine jr_top (show _ = g 26 a from rfl) ?_
          refine jr_isub cx dX7_due_30 ?_
          refine jr_i2l cx dX7_due_31 ?_
          refine jr_lstore_n (L' := [(3, .long (Int32.toInt64 ((g 26 c) - (g 26 a)))), (2, .int 0), (0, .ref (E.1 7)), (1, .int (nI d))]) cx dX7_due_32 rfl (by decide) rfl ?_
          refine jr_aload_n cx dX7_due_33 2 rfl rfl ?_
          refine jr_get (f := 20) (v := .ref (E.1 25)) cx dX7_due_34 (by decide) rfl rfl hinX7 (by decide) mf_50 rfl ?_
          refine jr_aload_n cx dX7_due_37 2 rfl rfl ?_
          refine jr_get (f := 25) (v := .int ((lsM g (nI c) (nI a)) 7 25)) cx dX7_due_38 (by decide) rfl rfl hinX7 (by decide) mf_186 rfl ?_
          refine jr_top (show _ = nI c from rfl) ?_
          refine jr_iald cx dX7_due_41 (Or.inl ⟨by decide, by decide⟩) c rfl (show _ < 40 by omega) ?_
          refine jr_top (show _ = nI t0 from et) ?_
          refine jr_aload_n cx dX7_due_42 2 rfl rfl ?_
          refine jr_get (f := 20) (v := .ref (E.1 25)) cx dX7_due_43 (by decide) rfl rfl hinX7 (by decide) mf_50 rfl ?_
          refine jr_aload_n cx dX7_due_46 2 rfl rfl ?_
          refine jr_get (f := 26) (v := .int ((lsM g (nI c) (nI a)) 7 26)) cx dX7_due_47 (by decide) rfl rfl hinX7 (by decide) mf_189 rfl ?_
          refine jr_top (show _ = nI a from rfl) ?_
          refine jr_iald cx dX7_due_50 (Or.inl ⟨by decide, by decide⟩) a rfl (show _ < 40 by omega) ?_
          refine jr_top (show _ = g 25 a from rfl) ?_
          refine jr_isub cx dX7_due_51 ?_
          refine jr_i2l cx dX7_due_52 ?_
          refine jr_lstore (L' := [(5, .long (Int32.toInt64 ((nI t0) - (g 25 a)))), (3, .long (Int32.toInt64 ((g 26 c) - (g 26 a)))), (2, .int 0), (0, .ref (E.1 7)), (1, .int (nI d))]) cx dX7_due_53 (by decide) rfl ?_
          refine jr_aload_n cx dX7_due_55 3 rfl rfl ?_
          refine jr_get (f := 20) (v := .ref (E.1 25)) cx dX7_due_56 (by decide) rfl rfl hinX7 (by decide) mf_50 rfl ?_
          refine jr_aload_n cx dX7_due_59 3 rfl rfl ?_
          refine jr_get (f := 25) (v := .int ((lsM g (nI c) (nI a)) 7 25)) cx dX7_due_60 (by decide) rfl rfl hinX7 (by decide) mf_186 rfl ?_
          refine jr_top (show _ = nI c from rfl) ?_
          refine jr_iald cx dX7_due_63 (Or.inl ⟨by decide, by decide⟩) c rfl (show _ < 40 by omega) ?_
          refine jr_top (show _ = nI t0 from et) ?_
          refine jr_istore (L' := [(7, .int (nI t0)), (5, .long (Int32.toInt64 ((nI t0) - (g 25 a)))), (3, .long (Int32.toInt64 ((g 26 c) - (g 26 a)))), (2, .int 0), (0, .ref (E.1 7)), (1, .int (nI d))]) cx dX7_due_64 (by decide) rfl ?_
          have key1 : ∀ (fu1 : Nat) (t : Nat), 100002 ≤ t + fu1 → (t ≤ 100001) → (dFst (duP g d c a) (100001 - t) t = dFst (duP g d c a) (100001 - t0) t0) → JJ E X (lsM g (nI c) (nI a)) h 66 [(0, .ref (E.1 7)), (1, .int (nI d)), (3, .long (Int32.toInt64 ((g 26 c) - (g 26 a)))), (5, .long (Int32.toInt64 ((nI t0) - (g 25 a)))), (7, .int (nI t))] [] := by
            intro fu1
            induction fu1 with
            | zero => intro t hfu1 h1 h3; exfalso; omega
            | succ fu1 ih1 =>
              intro t hfu1 h1 h3
              refine jr_iload cx dX7_due_66 4 rfl ?_
              refine jr_ldc cx dX7_due_68 mc_106 ?_
              refine jr_icmp_gt (tgt := 152) cx dX7_due_70 (by decide) (fun c70 => ?_) (fun c70 => ?_)
              · have n70 : 100000 < t := (nI_ltI (a := 100000) (b := t) (by omega) (by omega)).mp c70
                refine jr_ldc cx dX7_due_152 mc_195 ?_
                exact jr_ri (by simp only [dDrift, ed, ecl, eal, if_pos hh, if_neg q9, if_neg q8, if_neg hz]; unfold duM; rw [edl, ← h3]; rw [show 100001 - t = 0 by omega]; show 100001 = nI t; rw [show t = 100001 by omega]; rfl; try rfl) (by simp only [dDrift, ed, ecl, eal, if_pos hh, if_neg q9, if_neg q8, if_neg hz]; try rfl) (by rfl) (hR 154 _ dX7_due_154)
              · have n70 : ¬ (100000 < t) := fun qq9 => c70 ((nI_ltI (a := 100000) (b := t) (by omega) (by omega)).mpr qq9)
                refine jr_aload_n cx dX7_due_73 0 rfl rfl ?_
                refine jr_get (f := 21) (v := .ref (E.1 26)) cx dX7_due_74 (by decide) rfl rfl hinX7 (by decide) mf_53 rfl ?_
                refine jr_aload_n cx dX7_due_77 0 rfl rfl ?_
                refine jr_get (f := 25) (v := .int ((lsM g (nI c) (nI a)) 7 25)) cx dX7_due_78 (by decide) rfl rfl hinX7 (by decide) mf_186 rfl ?_
                refine jr_top (show _ = nI c from rfl) ?_
                refine jr_iald cx dX7_due_81 (Or.inl ⟨by decide, by decide⟩) c rfl (show _ < 40 by omega) ?_
                refine jr_top (show _ = g 26 c from rfl) ?_
                refine jr_i2l cx dX7_due_82 ?_
                refine jr_lload cx dX7_due_83 3 rfl ?_
                refine jr_lmul cx dX7_due_85 ?_
                refine jr_lload_n cx dX7_due_86 2 rfl rfl ?_
                refine jr_iload cx dX7_due_87 4 rfl ?_
                refine jr_aload_n cx dX7_due_89 0 rfl rfl ?_
                refine jr_get (f := 20) (v := .ref (E.1 25)) cx dX7_due_90 (by decide) rfl rfl hinX7 (by decide) mf_50 rfl ?_
                refine jr_aload_n cx dX7_due_93 0 rfl rfl ?_
                refine jr_get (f := 25) (v := .int ((lsM g (nI c) (nI a)) 7 25)) cx dX7_due_94 (by decide) rfl rfl hinX7 (by decide) mf_186 rfl ?_
                refine jr_top (show _ = nI c from rfl) ?_
                refine jr_iald cx dX7_due_97 (Or.inl ⟨by decide, by decide⟩) c rfl (show _ < 40 by omega) ?_
                refine jr_top (show _ = nI t0 from et) ?_
                refine jr_isub cx dX7_due_98 ?_
                refine jr_i2l cx dX7_due_99 ?_
                refine jr_lmul cx dX7_due_100 ?_
                refine jr_ladd cx dX7_due_101 ?_
                refine jr_sl [.long (((Int32.toInt64 (g 26 c)) * (Int32.toInt64 ((nI t0) - (g 25 a)))) + ((Int32.toInt64 ((g 26 c) - (g 26 a))) * (Int32.toInt64 ((nI t) - (nI t0)))))] 1 cx dX7_due_102 (c_X7_size E (lsM g (nI c) (nI a)) h (((Int32.toInt64 (g 26 c)) * (Int32.toInt64 ((nI t0) - (g 25 a)))) + ((Int32.toInt64 ((g 26 c) - (g 26 a))) * (Int32.toInt64 ((nI t) - (nI t0)))))) gX7_due_X7_size rfl (by decide +kernel) ⟨Nat.le_of_ble_eq_true rfl, Nat.le_of_ble_eq_true rfl⟩ rfl rfl (Nat.le_of_ble_eq_true rfl) ?_
                refine jr_lstore (L' := [(8, .long (abL (((Int32.toInt64 (g 26 c)) * (Int32.toInt64 ((nI t0) - (g 25 a)))) + ((Int32.toInt64 ((g 26 c) - (g 26 a))) * (Int32.toInt64 ((nI t) - (nI t0))))))), (0, .ref (E.1 7)), (1, .int (nI d)), (3, .long (Int32.toInt64 ((g 26 c) - (g 26 a)))), (5, .long (Int32.toInt64 ((nI t0) - (g 25 a)))), (7, .int (nI t))]) cx dX7_due_105 (by decide) rfl ?_
                refine jr_lload cx dX7_due_107 0 rfl ?_
                refine jr_aload_n cx dX7_due_109 1 rfl rfl ?_
                refine jr_get (f := 22) (v := .ref (E.1 27)) cx dX7_due_110 (by decide) rfl rfl hinX7 (by decide) mf_56 rfl ?_
                refine jr_aload_n cx dX7_due_113 1 rfl rfl ?_
                refine jr_get (f := 25) (v := .int ((lsM g (nI c) (nI a)) 7 25)) cx dX7_due_114 (by decide) rfl rfl hinX7 (by decide) mf_186 rfl ?_
                refine jr_top (show _ = nI c from rfl) ?_
                refine jr_iald cx dX7_due_117 (Or.inl ⟨by decide, by decide⟩) c rfl (show _ < 40 by omega) ?_
                refine jr_top (show _ = g 27 c from rfl) ?_
                refine jr_i2l cx dX7_due_118 ?_
                refine jr_lload cx dX7_due_119 4 rfl ?_
                refine jr_sl [.long (Int32.toInt64 ((nI t0) - (g 25 a)))] 1 cx dX7_due_121 (c_X7_size E (lsM g (nI c) (nI a)) h (Int32.toInt64 ((nI t0) - (g 25 a)))) gX7_due_X7_size rfl (by decide +kernel) ⟨Nat.le_of_ble_eq_true rfl, Nat.le_of_ble_eq_true rfl⟩ rfl rfl (Nat.le_of_ble_eq_true rfl) ?_
                refine jr_lmul cx dX7_due_124 ?_
                refine jr_ladd cx dX7_due_125 ?_
                refine jr_aload_n cx dX7_due_126 1 rfl rfl ?_
                refine jr_get (f := 15) (v := .ref (E.1 21)) cx dX7_due_127 (by decide) rfl rfl hinX7 (by decide) mf_38 rfl ?_
                refine jr_iload_n cx dX7_due_130 2 rfl rfl ?_
                refine jr_iald cx dX7_due_131 (Or.inl ⟨by decide, by decide⟩) d rfl (show _ < 16 by omega) ?_
                refine jr_top (show _ = g 21 d from rfl) ?_
                refine jr_i2l cx dX7_due_132 ?_
                refine jr_lload cx dX7_due_133 4 rfl ?_
                refine jr_sl [.long (Int32.toInt64 ((nI t0) - (g 25 a)))] 1 cx dX7_due_135 (c_X7_size E (lsM g (nI c) (nI a)) h (Int32.toInt64 ((nI t0) - (g 25 a)))) gX7_due_X7_size rfl (by decide +kernel) ⟨Nat.le_of_ble_eq_true rfl, Nat.le_of_ble_eq_true rfl⟩ rfl rfl (Nat.le_of_ble_eq_true rfl) ?_
                refine jr_lmul cx dX7_due_138 ?_
                refine jr_lcmp cx dX7_due_139 ?_
                refine jr_lif_le (tgt := 146) cx dX7_due_140 (by decide) (fun c140 => ?_) (fun c140 => ?_)
                · refine jr_iinc (n := 5) (v := nI (t + 1)) (L' := [(7, .int (nI (t + 1))), (8, .long (abL (((Int32.toInt64 (g 26 c)) * (Int32.toInt64 ((nI t0) - (g 25 a)))) + ((Int32.toInt64 ((g 26 c) - (g 26 a))) * (Int32.toInt64 ((nI t) - (nI t0))))))), (0, .ref (E.1 7)), (1, .int (nI d)), (3, .long (Int32.toInt64 ((g 26 c) - (g 26 a)))), (5, .long (Int32.toInt64 ((nI t0) - (g 25 a))))]) cx dX7_due_146 rfl (nI_1 _) (by decide) rfl ?_
                  refine jr_goto (tgt := 66) cx dX7_due_149 (by decide) ?_
                  refine jr_pick (L' := [(0, .ref (E.1 7)), (1, .int (nI d)), (3, .long (Int32.toInt64 ((g 26 c) - (g 26 a)))), (5, .long (Int32.toInt64 ((nI t0) - (g 25 a)))), (7, .int (nI (t + 1)))]) [2, 3, 4, 5, 0] rfl ?_
                  exact ih1 (t + 1) (by omega) (by omega) (by rw [← h3, show 100001 - t = (100001 - (t + 1)) + 1 by omega, dFst, if_neg (by unfold duP; rw [et]; exact fun q => (of_decide_eq_true q) c140)])
                · refine jr_iload cx dX7_due_143 5 rfl ?_
                  exact jr_ri (by simp only [dDrift, ed, ecl, eal, if_pos hh, if_neg q9, if_neg q8, if_neg hz]; unfold duM; rw [edl, ← h3]; rw [show 100001 - t = (100001 - (t + 1)) + 1 by omega, dFst, if_pos (by unfold duP; rw [et]; exact decide_eq_true c140)]; try rfl) (by simp only [dDrift, ed, ecl, eal, if_pos hh, if_neg q9, if_neg q8, if_neg hz]; try rfl) (by rfl) (hR 145 _ dX7_due_145)
          refine jr_pick (L' := [(0, .ref (E.1 7)), (1, .int (nI d)), (3, .long (Int32.toInt64 ((g 26 c) - (g 26 a)))), (5, .long (Int32.toInt64 ((nI t0) - (g 25 a)))), (7, .int (nI t0))]) [4, 5, 2, 1, 0] rfl ?_
          exact key1 (100002) t0 (by omega) (by omega) rfl
  · refine jr_vi [.int b] 1 cx dX7_due_2 (c_X7_askedTwo_bad E g h b nb hnb hsb n hn hs hh) (by decide) rfl rfl gX7_due_X7_askedTwo rfl (by decide +kernel) ⟨Nat.le_of_ble_eq_true rfl, Nat.le_of_ble_eq_true rfl⟩ rfl rfl (Nat.le_of_ble_eq_true rfl) ?_
    refine jr_istore_n (L' := [(2, .int (-1)), (0, .ref (E.1 7)), (1, .int b)]) cx dX7_due_5 rfl (by decide) rfl ?_
    refine jr_iload_n cx dX7_due_6 0 rfl rfl ?_
    refine jr_if_ge (tgt := 12) cx dX7_due_7 (by decide) (fun c7 => absurd c7 (by decide)) (fun c7 => ?_)
    refine jr_iload_n cx dX7_due_10 0 rfl rfl ?_
    exact jr_ri (by simp only [dDrift, if_neg hh]; try rfl) (by simp only [dDrift, if_neg hh]; try rfl) (by rfl) (hR 11 _ dX7_due_11)
