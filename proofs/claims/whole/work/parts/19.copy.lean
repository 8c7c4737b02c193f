theorem fit_nat2 {n z : Nat} {i : Int32} (hn : n ≤ 40) (hz : z ≤ 40) (h : cFit (nI n) i (nI z)) : ∃ a : Nat, i = nI a ∧ a + z ≤ n := by
  obtain ⟨a, b, h1, h2, h3⟩ := fit_nat hn h
  have : z = b := (nI_eq (by omega) (by omega)).mp h2
  exact ⟨a, h1, by omega⟩
theorem fit_long {n : Nat} {i z : Int32} (hn : n ≤ 40) (hi : ¬ i < 0) (hz : 0 ≤ z) : (nI n).toInt64 < i.toInt64 + z.toInt64 ↔ ¬ cFit (nI n) i z := by
  obtain ⟨a, ha, rfl⟩ := nI_of hi
  obtain ⟨b, hb, rfl⟩ := nI_of (Int32.not_lt.mpr hz)
  have h1 : BdI (nI a) (2 ^ 31) := by unfold BdI; rw [nI_toInt ha]; omega
  have h2 : BdI (nI b) (2 ^ 31) := by unfold BdI; rw [nI_toInt hb]; omega
  rw [fa_lt64, addV h1.L h2.L (by decide), toL, toL, toL, nI_toInt ha, nI_toInt hb, nI_toInt (show n < 2 ^ 31 by omega)]
  constructor
  · intro q r
    obtain ⟨a2, b2, e1, e2, h3⟩ := fit_nat hn r
    have e3 : a = a2 := (nI_eq ha (by omega)).mp e1
    have e4 : b = b2 := (nI_eq hb (by omega)).mp e2
    omega
  · intro q
    rcases Nat.lt_or_ge n (a + b) with r | r
    · omega
    · exact absurd (fit_of hn r) q
def putM (g : mm_I) (k : Nat) (F : Nat → Int32) (a i : Nat) : mm_I := fun q => if q = k then fb_put (g k) F a i else g q
theorem putM_0 (g : mm_I) (k : Nat) (F : Nat → Int32) (a : Nat) : putM g k F a 0 = g := by
  funext q; unfold putM; split
  · subst_vars; rw [fb_put_0]
  · rfl
theorem putM_s (g : mm_I) (k : Nat) (F : Nat → Int32) (a i : Nat) : up2 (putM g k F a i) k (a + i) (F i) = putM g k F a (i + 1) := by
  funext q; unfold up2 putM
  by_cases e : q = k
  · simp only [e, if_true]
    exact fb_put_succ _ _ _ _
  · simp only [e, if_false]
def cpMM (g : mm_I) (p a q b z : Nat) : mm_I := putM (putM g 16 (fun x => g 15 (40 * p + a + x)) 0 z) 15 (fun x => g 15 (40 * p + a + x)) (40 * q + b) z
theorem cp_rd {g : mm_I} {F : Nat → Int32} {k2 a z i m : Nat} (h : i < z) : putM (putM g 16 F 0 z) 15 F a m 16 i = F i := by
  show (putM g 16 F 0 z) 16 i = F i
  show fb_put (g 16) F 0 z i = F i
  rw [fb_put_in (by omega) (by omega)]
  rfl
set_option maxHeartbeats 4000000 in
set_option maxRecDepth 100000 in
theorem c_X6_copy (E : mm_E) (g : mm_I) (h : mm_L) (r i t j z : Int32) (hsz : ∀ j, j < 6 → g 9 j = -1 ∨ ∃ n, n ≤ 40 ∧ g 9 j = nI n) : Ci E yX6_copy wsX6_copy 2 85 [.ref (E.1 0), .int r, .int i, .int t, .int j, .int z] g h (dCopy (fun j => g 9 j = -1) (g 9) r i t j z (-1) (-3) (-3) (-3) (fun _ _ _ _ _ => 1)) (dCopy (fun j => g 9 j = -1) (g 9) r i t j z g (rfM g 5) (rfM g 1) (rfM g 2) (fun p a q b z => cpM g (39 + p) (39 + q) a b z)) h := by
  refine ci_i (bytes := cX6_copy) (maxL := 6) (by decide) rfl (Nat.le_of_ble_eq_true rfl) (fun X cx hR => ?_)
  change Cx E X cX6_copy RX6 wsX6_copy 6 2 85 at cx
  change JJ E X g h 0 [(0, .ref (E.1 0)), (1, .int r), (2, .int i), (3, .int t), (4, .int j), (5, .int z)] []
  have hinX6 : ∀ w ∈ u_ws RX6 TX6 9, w ∈ wsX6_copy := by decide +kernel
  have mf_10 : Cond.fieldLink RX6 10 (TX6 0).1 (TX6 0).2.1 (TX6 0).2.2.1 ∈ wsX6_copy := by decide +kernel
  refine jr_iload_n cx dX6_copy_0 1 rfl rfl ?_
  refine jr_si [.int r] 1 cx dX6_copy_1 (c_X6_isRow E g h r) gX6_copy_X6_isRow rfl (by decide +kernel) ⟨Nat.le_of_ble_eq_true rfl, Nat.le_of_ble_eq_true rfl⟩ rfl rfl (Nat.le_of_ble_eq_true rfl) ?_
  refine jr_bif_eq (tgt := 14) cx dX6_copy_4 (by decide) (fun c4 => ?_) (fun c4 => ?_)
  · refine jr_iconst (v := (-1)) cx dX6_copy_14 (by decide) ?_
    exact jr_ri (by simp only [dCopy, ite_self, if_neg c4]) (by simp only [dCopy, ite_self, if_neg c4]) (by rfl) (hR 15 _ dX6_copy_15)
  · obtain ⟨p, hp, rfl⟩ := to_nat (M := 5) rfl c4; have ep : (nI p).toNatClampNeg = p := cl_nI (by omega)
    refine jr_iload_n cx dX6_copy_7 3 rfl rfl ?_
    refine jr_si [.int t] 1 cx dX6_copy_8 (c_X6_isRow E g h t) gX6_copy_X6_isRow rfl (by decide +kernel) ⟨Nat.le_of_ble_eq_true rfl, Nat.le_of_ble_eq_true rfl⟩ rfl rfl (Nat.le_of_ble_eq_true rfl) ?_
    refine jr_bif_ne (tgt := 16) cx dX6_copy_11 (by decide) (fun c11 => ?_) (fun c11 => ?_)
    · obtain ⟨q, hq, rfl⟩ := to_nat (M := 5) rfl c11; have eq : (nI q).toNatClampNeg = q := cl_nI (by omega)
      refine jr_iload cx dX6_copy_16 5 rfl ?_
      refine jr_if_ge (tgt := 27) cx dX6_copy_18 (by decide) (fun c18 => ?_) (fun c18 => ?_)
      · refine jr_aload_n cx dX6_copy_27 0 rfl rfl ?_
        refine jr_get (f := 0) (v := .ref (E.1 1)) cx dX6_copy_28 (by decide) rfl rfl hinX6 (by decide) mf_10 rfl ?_
        refine jr_iload_n cx dX6_copy_31 1 rfl rfl ?_
        refine jr_vi [.int (nI p)] 1 cx dX6_copy_32 (c_X4_isMissing E g h p (by omega)) (by decide) rfl rfl gX6_copy_X4_isMissing rfl (by decide +kernel) ⟨Nat.le_of_ble_eq_true rfl, Nat.le_of_ble_eq_true rfl⟩ rfl rfl (Nat.le_of_ble_eq_true rfl) ?_
        refine jr_bif_ne (tgt := 49) cx dX6_copy_35 (by decide) (fun c35 => ?_) (fun c35 => ?_)
        · refine jr_aload_n cx dX6_copy_49 0 rfl rfl ?_
          refine jr_iconst (v := 1) cx dX6_copy_50 (by decide) ?_
          refine jr_vi [.int 1] 1 cx dX6_copy_51 (c_X6_refuse E g h 1 (by decide) (by decide)) (by decide) rfl rfl gX6_copy_X6_refuse rfl (by decide +kernel) ⟨Nat.le_of_ble_eq_true rfl, Nat.le_of_ble_eq_true rfl⟩ rfl rfl (Nat.le_of_ble_eq_true rfl) ?_
          exact jr_ri (by simp only [dCopy, ite_self, if_pos c4, if_pos c11, if_pos c18, if_pos c35, ep, eq]) (by simp only [dCopy, ite_self, if_pos c4, if_pos c11, if_pos c18, if_pos c35, ep, eq]) (by rfl) (hR 54 _ dX6_copy_54)
        · obtain ⟨n, hn, hs⟩ : ∃ n, n ≤ 40 ∧ g 9 p = nI n := (hsz p (by omega)).resolve_left c35
          refine jr_aload_n cx dX6_copy_38 0 rfl rfl ?_
          refine jr_get (f := 0) (v := .ref (E.1 1)) cx dX6_copy_39 (by decide) rfl rfl hinX6 (by decide) mf_10 rfl ?_
          refine jr_iload_n cx dX6_copy_42 3 rfl rfl ?_
          refine jr_vi [.int (nI q)] 1 cx dX6_copy_43 (c_X4_isMissing E g h q (by omega)) (by decide) rfl rfl gX6_copy_X4_isMissing rfl (by decide +kernel) ⟨Nat.le_of_ble_eq_true rfl, Nat.le_of_ble_eq_true rfl⟩ rfl rfl (Nat.le_of_ble_eq_true rfl) ?_
          refine jr_bif_eq (tgt := 55) cx dX6_copy_46 (by decide) (fun c46 => ?_) (fun c46 => ?_)
          · obtain ⟨m, hm, hs2⟩ : ∃ m, m ≤ 40 ∧ g 9 q = nI m := (hsz q (by omega)).resolve_left c46
            refine jr_aload_n cx dX6_copy_55 0 rfl rfl ?_
            refine jr_get (f := 0) (v := .ref (E.1 1)) cx dX6_copy_56 (by decide) rfl rfl hinX6 (by decide) mf_10 rfl ?_
            refine jr_iload_n cx dX6_copy_59 1 rfl rfl ?_
            refine jr_iload_n cx dX6_copy_60 2 rfl rfl ?_
            refine jr_iload cx dX6_copy_61 5 rfl ?_
            refine jr_vi [.int (nI p), .int i, .int z] 3 cx dX6_copy_63 (c_X4_hasPlaces E g h p (by omega) i z) (by decide) rfl rfl gX6_copy_X4_hasPlaces rfl (by decide +kernel) ⟨Nat.le_of_ble_eq_true rfl, Nat.le_of_ble_eq_true rfl⟩ rfl rfl (Nat.le_of_ble_eq_true rfl) ?_
            refine jr_bif_eq (tgt := 84) cx dX6_copy_66 (by decide) (fun c66 => ?_) (fun c66 => ?_)
            · refine jr_aload_n cx dX6_copy_84 0 rfl rfl ?_
              refine jr_iconst (v := 2) cx dX6_copy_85 (by decide) ?_
              refine jr_vi [.int 2] 1 cx dX6_copy_86 (c_X6_refuse E g h 2 (by decide) (by decide)) (by decide) rfl rfl gX6_copy_X6_refuse rfl (by decide +kernel) ⟨Nat.le_of_ble_eq_true rfl, Nat.le_of_ble_eq_true rfl⟩ rfl rfl (Nat.le_of_ble_eq_true rfl) ?_
              exact jr_ri (by simp only [dCopy, ite_self, if_pos c4, if_pos c11, if_pos c18, if_neg c35, if_neg c46, if_neg c66, ep, eq]) (by simp only [dCopy, ite_self, if_pos c4, if_pos c11, if_pos c18, if_neg c35, if_neg c46, if_neg c66, ep, eq]) (by rfl) (hR 89 _ dX6_copy_89)
            · obtain ⟨a, zz, rfl, rfl, hf1⟩ := fit_nat hn (hs ▸ c66); have ea : (nI a).toNatClampNeg = a := cl_nI (by omega); have ez : (nI zz).toNatClampNeg = zz := cl_nI (by omega)
              refine jr_aload_n cx dX6_copy_69 0 rfl rfl ?_
              refine jr_get (f := 0) (v := .ref (E.1 1)) cx dX6_copy_70 (by decide) rfl rfl hinX6 (by decide) mf_10 rfl ?_
              refine jr_iload_n cx dX6_copy_73 3 rfl rfl ?_
              refine jr_iload cx dX6_copy_74 4 rfl ?_
              refine jr_iload cx dX6_copy_76 5 rfl ?_
              refine jr_vi [.int (nI q), .int j, .int (nI zz)] 3 cx dX6_copy_78 (c_X4_hasPlaces E g h q (by omega) j (nI zz)) (by decide) rfl rfl gX6_copy_X4_hasPlaces rfl (by decide +kernel) ⟨Nat.le_of_ble_eq_true rfl, Nat.le_of_ble_eq_true rfl⟩ rfl rfl (Nat.le_of_ble_eq_true rfl) ?_
              refine jr_bif_ne (tgt := 90) cx dX6_copy_81 (by decide) (fun c81 => ?_) (fun c81 => ?_)
              · obtain ⟨bb, rfl, hf2⟩ := fit_nat2 hm (by omega) (hs2 ▸ c81); have eb : (nI bb).toNatClampNeg = bb := cl_nI (by omega)
                refine jr_aload_n cx dX6_copy_90 0 rfl rfl ?_
                refine jr_get (f := 0) (v := .ref (E.1 1)) cx dX6_copy_91 (by decide) rfl rfl hinX6 (by decide) mf_10 rfl ?_
                refine jr_iload_n cx dX6_copy_94 1 rfl rfl ?_
                refine jr_iload_n cx dX6_copy_95 2 rfl rfl ?_
                refine jr_iload_n cx dX6_copy_96 3 rfl rfl ?_
                refine jr_iload cx dX6_copy_97 4 rfl ?_
                refine jr_iload cx dX6_copy_99 5 rfl ?_
                refine jr_vv [.int (nI p), .int (nI a), .int (nI q), .int (nI bb), .int (nI zz)] 5 cx dX6_copy_101 (c_X4_carry E g h p q (by omega) (by omega) a bb zz (by omega) (by omega)) (by decide) rfl rfl gX6_copy_X4_carry rfl (by decide +kernel) ⟨Nat.le_of_ble_eq_true rfl, Nat.le_of_ble_eq_true rfl⟩ rfl rfl (Nat.le_of_ble_eq_true rfl) ?_
                refine jr_iconst (v := 1) cx dX6_copy_104 (by decide) ?_
                exact jr_ri (by simp only [dCopy, ite_self, if_pos c4, if_pos c11, if_pos c18, if_neg c35, if_neg c46, if_pos c66, if_pos c81, ep, eq, ea, ez, eb]) (by simp only [dCopy, ite_self, if_pos c4, if_pos c11, if_pos c18, if_neg c35, if_neg c46, if_pos c66, if_pos c81, ep, eq, ea, ez, eb]) (by rfl) (hR 105 _ dX6_copy_105)
              · refine jr_aload_n cx dX6_copy_84 0 rfl rfl ?_
                refine jr_iconst (v := 2) cx dX6_copy_85 (by decide) ?_
                refine jr_vi [.int 2] 1 cx dX6_copy_86 (c_X6_refuse E g h 2 (by decide) (by decide)) (by decide) rfl rfl gX6_copy_X6_refuse rfl (by decide +kernel) ⟨Nat.le_of_ble_eq_true rfl, Nat.le_of_ble_eq_true rfl⟩ rfl rfl (Nat.le_of_ble_eq_true rfl) ?_
                exact jr_ri (by simp only [dCopy, ite_self, if_pos c4, if_pos c11, if_pos c18, if_neg c35, if_neg c46, if_pos c66, if_neg c81, ep, eq, ea, ez]) (by simp only [dCopy, ite_self, if_pos c4, if_pos c11, if_pos c18, if_neg c35, if_neg c46, if_pos c66, if_neg c81, ep, eq, ea, ez]) (by rfl) (hR 89 _ dX6_copy_89)
          · refine jr_aload_n cx dX6_copy_49 0 rfl rfl ?_
            refine jr_iconst (v := 1) cx dX6_copy_50 (by decide) ?_
            refine jr_vi [.int 1] 1 cx dX6_copy_51 (c_X6_refuse E g h 1 (by decide) (by decide)) (by decide) rfl rfl gX6_copy_X6_refuse rfl (by decide +kernel) ⟨Nat.le_of_ble_eq_true rfl, Nat.le_of_ble_eq_true rfl⟩ rfl rfl (Nat.le_of_ble_eq_true rfl) ?_
            exact jr_ri (by simp only [dCopy, ite_self, if_pos c4, if_pos c11, if_pos c18, if_neg c35, if_pos c46, ep, eq]) (by simp only [dCopy, ite_self, if_pos c4, if_pos c11, if_pos c18, if_neg c35, if_pos c46, ep, eq]) (by rfl) (hR 54 _ dX6_copy_54)
      · refine jr_aload_n cx dX6_copy_21 0 rfl rfl ?_
        refine jr_iconst (v := 5) cx dX6_copy_22 (by decide) ?_
        refine jr_vi [.int 5] 1 cx dX6_copy_23 (c_X6_refuse E g h 5 (by decide) (by decide)) (by decide) rfl rfl gX6_copy_X6_refuse rfl (by decide +kernel) ⟨Nat.le_of_ble_eq_true rfl, Nat.le_of_ble_eq_true rfl⟩ rfl rfl (Nat.le_of_ble_eq_true rfl) ?_
        exact jr_ri (by simp only [dCopy, ite_self, if_pos c4, if_pos c11, if_neg c18, ep, eq]) (by simp only [dCopy, ite_self, if_pos c4, if_pos c11, if_neg c18, ep, eq]) (by rfl) (hR 26 _ dX6_copy_26)
    · refine jr_iconst (v := (-1)) cx dX6_copy_14 (by decide) ?_
      exact jr_ri (by simp only [dCopy, ite_self, if_pos c4, if_neg c11, ep]) (by simp only [dCopy, ite_self, if_pos c4, if_neg c11, ep]) (by rfl) (hR 15 _ dX6_copy_15)
set_option maxHeartbeats 4000000 in
set_option maxRecDepth 100000 in
theorem c_X7_copy (E : mm_E) (g : mm_I) (h : mm_L) (r i t j z : Int32) (hsz : ∀ j, j < 6 → g 14 j < 0 ∨ ∃ n, n ≤ 40 ∧ g 14 j = nI n) : Ci E yX7_copy wsX7_copy 2 42 [.ref (E.1 7), .int r, .int i, .int t, .int j, .int z] g h (dCopy (fun j => g 14 j < 0) (g 14) r i t j z (-1) (-3) (-3) (-3) (fun _ _ _ _ _ => 1)) (dCopy (fun j => g 14 j < 0) (g 14) r i t j z g (mtM g 5) (mtM g 1) (mtM g 2) (fun p a q b z => cpMM g p a q b z)) h := by
  refine ci_i (bytes := cX7_copy) (maxL := 7) (by decide) rfl (Nat.le_of_ble_eq_true rfl) (fun X cx hR => ?_)
  change Cx E X cX7_copy RX7 wsX7_copy 7 2 42 at cx
  change JJ E X g h 0 [(0, .ref (E.1 7)), (1, .int r), (2, .int i), (3, .int t), (4, .int j), (5, .int z)] []
  have hinX7 : ∀ w ∈ u_ws RX7 TX7 30, w ∈ wsX7_copy := by decide +kernel
  have mf_17 : Cond.fieldLink RX7 17 (TX7 5).1 (TX7 5).2.1 (TX7 5).2.2.1 ∈ wsX7_copy := by decide +kernel
  have mf_20 : Cond.fieldLink RX7 20 (TX7 6).1 (TX7 6).2.1 (TX7 6).2.2.1 ∈ wsX7_copy := by decide +kernel
  have mf_23 : Cond.fieldLink RX7 23 (TX7 7).1 (TX7 7).2.1 (TX7 7).2.2.1 ∈ wsX7_copy := by decide +kernel
  refine jr_iload_n cx dX7_copy_0 1 rfl rfl ?_
  refine jr_si [.int r] 1 cx dX7_copy_1 (c_X7_isRow E g h r) gX7_copy_X7_isRow rfl (by decide +kernel) ⟨Nat.le_of_ble_eq_true rfl, Nat.le_of_ble_eq_true rfl⟩ rfl rfl (Nat.le_of_ble_eq_true rfl) ?_
  refine jr_bif_eq (tgt := 14) cx dX7_copy_4 (by decide) (fun c4 => ?_) (fun c4 => ?_)
  · refine jr_iconst (v := (-1)) cx dX7_copy_14 (by decide) ?_
    exact jr_ri (by simp only [dCopy, ite_self, if_neg c4]) (by simp only [dCopy, ite_self, if_neg c4]) (by rfl) (hR 15 _ dX7_copy_15)
  · obtain ⟨p, hp, rfl⟩ := to_nat (M := 5) rfl c4; have ep : (nI p).toNatClampNeg = p := cl_nI (by omega)
    refine jr_iload_n cx dX7_copy_7 3 rfl rfl ?_
    refine jr_si [.int t] 1 cx dX7_copy_8 (c_X7_isRow E g h t) gX7_copy_X7_isRow rfl (by decide +kernel) ⟨Nat.le_of_ble_eq_true rfl, Nat.le_of_ble_eq_true rfl⟩ rfl rfl (Nat.le_of_ble_eq_true rfl) ?_
    refine jr_bif_ne (tgt := 16) cx dX7_copy_11 (by decide) (fun c11 => ?_) (fun c11 => ?_)
    · obtain ⟨q, hq, rfl⟩ := to_nat (M := 5) rfl c11; have eq : (nI q).toNatClampNeg = q := cl_nI (by omega)
      refine jr_iload cx dX7_copy_16 5 rfl ?_
      refine jr_if_ge (tgt := 27) cx dX7_copy_18 (by decide) (fun c18 => ?_) (fun c18 => ?_)
      · refine jr_aload_n cx dX7_copy_27 0 rfl rfl ?_
        refine jr_get (f := 5) (v := .ref (E.1 14)) cx dX7_copy_28 (by decide) rfl rfl hinX7 (by decide) mf_17 rfl ?_
        refine jr_iload_n cx dX7_copy_31 1 rfl rfl ?_
        refine jr_iald cx dX7_copy_32 (Or.inl ⟨by decide, by decide⟩) p rfl (show _ < 6 by omega) ?_
        refine jr_if_lt (tgt := 45) cx dX7_copy_33 (by decide) (fun c33 => ?_) (fun c33 => ?_)
        · refine jr_aload_n cx dX7_copy_45 0 rfl rfl ?_
          refine jr_iconst (v := 1) cx dX7_copy_46 (by decide) ?_
          refine jr_vi [.int 1] 1 cx dX7_copy_47 (c_X7_meets E g h 1 (by decide)) (by decide) rfl rfl gX7_copy_X7_meets rfl (by decide +kernel) ⟨Nat.le_of_ble_eq_true rfl, Nat.le_of_ble_eq_true rfl⟩ rfl rfl (Nat.le_of_ble_eq_true rfl) ?_
          exact jr_ri (by simp only [dCopy, ite_self, if_pos c4, if_pos c11, if_pos c18, if_pos c33, ep, eq]) (by simp only [dCopy, ite_self, if_pos c4, if_pos c11, if_pos c18, if_pos c33, ep, eq]) (by rfl) (hR 50 _ dX7_copy_50)
        · obtain ⟨n, hn, hs⟩ : ∃ n, n ≤ 40 ∧ g 14 p = nI n := (hsz p (by omega)).resolve_left c33
          refine jr_aload_n cx dX7_copy_36 0 rfl rfl ?_
          refine jr_get (f := 5) (v := .ref (E.1 14)) cx dX7_copy_37 (by decide) rfl rfl hinX7 (by decide) mf_17 rfl ?_
          refine jr_iload_n cx dX7_copy_40 3 rfl rfl ?_
          refine jr_iald cx dX7_copy_41 (Or.inl ⟨by decide, by decide⟩) q rfl (show _ < 6 by omega) ?_
          refine jr_if_ge (tgt := 51) cx dX7_copy_42 (by decide) (fun c42 => ?_) (fun c42 => ?_)
          · have p42 : ¬ g 14 q < 0 := Int32.not_lt.mpr c42; obtain ⟨m, hm, hs2⟩ : ∃ m, m ≤ 40 ∧ g 14 q = nI m := (hsz q (by omega)).resolve_left p42
            refine jr_iload_n cx dX7_copy_51 2 rfl rfl ?_
            refine jr_if_lt (tgt := 95) cx dX7_copy_52 (by decide) (fun c52 => ?_) (fun c52 => ?_)
            · have p1 : ¬ cFit (g 14 p) i z := fun q => q.1.1 c52
              refine jr_aload_n cx dX7_copy_95 0 rfl rfl ?_
              refine jr_iconst (v := 2) cx dX7_copy_96 (by decide) ?_
              refine jr_vi [.int 2] 1 cx dX7_copy_97 (c_X7_meets E g h 2 (by decide)) (by decide) rfl rfl gX7_copy_X7_meets rfl (by decide +kernel) ⟨Nat.le_of_ble_eq_true rfl, Nat.le_of_ble_eq_true rfl⟩ rfl rfl (Nat.le_of_ble_eq_true rfl) ?_
              exact jr_ri (by simp only [dCopy, ite_self, if_pos c4, if_pos c11, if_pos c18, if_neg c33, if_neg p42, if_neg p1, ep, eq]) (by simp only [dCopy, ite_self, if_pos c4, if_pos c11, if_pos c18, if_neg c33, if_neg p42, if_neg p1, ep, eq]) (by rfl) (hR 100 _ dX7_copy_100)
            · refine jr_iload cx dX7_copy_55 4 rfl ?_
              refine jr_if_lt (tgt := 95) cx dX7_copy_57 (by decide) (fun c57 => ?_) (fun c57 => ?_)
              · have p2 : ¬ cFit (g 14 q) j z := fun q => q.1.1 c57
                refine jr_aload_n cx dX7_copy_95 0 rfl rfl ?_
                refine jr_iconst (v := 2) cx dX7_copy_96 (by decide) ?_
                refine jr_vi [.int 2] 1 cx dX7_copy_97 (c_X7_meets E g h 2 (by decide)) (by decide) rfl rfl gX7_copy_X7_meets rfl (by decide +kernel) ⟨Nat.le_of_ble_eq_true rfl, Nat.le_of_ble_eq_true rfl⟩ rfl rfl (Nat.le_of_ble_eq_true rfl) ?_
                exact jr_ri (by simp only [dCopy, ite_self, if_pos c4, if_pos c11, if_pos c18, if_neg c33, if_neg p42, if_neg p2, ep, eq]) (by simp only [dCopy, ite_self, if_pos c4, if_pos c11, if_pos c18, if_neg c33, if_neg p42, if_neg p2, ep, eq]) (by rfl) (hR 100 _ dX7_copy_100)
              · refine jr_iload_n cx dX7_copy_60 2 rfl rfl ?_
                refine jr_i2l cx dX7_copy_61 ?_
                refine jr_iload cx dX7_copy_62 5 rfl ?_
                refine jr_i2l cx dX7_copy_64 ?_
                refine jr_ladd cx dX7_copy_65 ?_
                refine jr_aload_n cx dX7_copy_66 0 rfl rfl ?_
                refine jr_get (f := 5) (v := .ref (E.1 14)) cx dX7_copy_67 (by decide) rfl rfl hinX7 (by decide) mf_17 rfl ?_
                refine jr_iload_n cx dX7_copy_70 1 rfl rfl ?_
                refine jr_iald cx dX7_copy_71 (Or.inl ⟨by decide, by decide⟩) p rfl (show _ < 6 by omega) ?_
                refine jr_i2l cx dX7_copy_72 ?_
                refine jr_lcmp cx dX7_copy_73 ?_
                refine jr_lif_gt (tgt := 95) cx dX7_copy_74 (by decide) (fun c74 => ?_) (fun c74 => ?_)
                · have p1 : ¬ cFit (g 14 p) i z := by rw [hs]; rw [hs] at c74; exact (fit_long hn c52 c18).mp c74
                  refine jr_aload_n cx dX7_copy_95 0 rfl rfl ?_
                  refine jr_iconst (v := 2) cx dX7_copy_96 (by decide) ?_
                  refine jr_vi [.int 2] 1 cx dX7_copy_97 (c_X7_meets E g h 2 (by decide)) (by decide) rfl rfl gX7_copy_X7_meets rfl (by decide +kernel) ⟨Nat.le_of_ble_eq_true rfl, Nat.le_of_ble_eq_true rfl⟩ rfl rfl (Nat.le_of_ble_eq_true rfl) ?_
                  exact jr_ri (by simp only [dCopy, ite_self, if_pos c4, if_pos c11, if_pos c18, if_neg c33, if_neg p42, if_neg p1, ep, eq]) (by simp only [dCopy, ite_self, if_pos c4, if_pos c11, if_pos c18, if_neg c33, if_neg p42, if_neg p1, ep, eq]) (by rfl) (hR 100 _ dX7_copy_100)
                · have p1 : cFit (g 14 p) i z := Classical.byContradiction fun q => c74 (by rw [hs]; exact (fit_long hn c52 c18).mpr (by rw [← hs]; exact q))
                  refine jr_iload cx dX7_copy_77 4 rfl ?_
                  refine jr_i2l cx dX7_copy_79 ?_
                  refine jr_iload cx dX7_copy_80 5 rfl ?_
                  refine jr_i2l cx dX7_copy_82 ?_
                  refine jr_ladd cx dX7_copy_83 ?_
                  refine jr_aload_n cx dX7_copy_84 0 rfl rfl ?_
                  refine jr_get (f := 5) (v := .ref (E.1 14)) cx dX7_copy_85 (by decide) rfl rfl hinX7 (by decide) mf_17 rfl ?_
                  refine jr_iload_n cx dX7_copy_88 3 rfl rfl ?_
                  refine jr_iald cx dX7_copy_89 (Or.inl ⟨by decide, by decide⟩) q rfl (show _ < 6 by omega) ?_
                  refine jr_i2l cx dX7_copy_90 ?_
                  refine jr_lcmp cx dX7_copy_91 ?_
                  refine jr_lif_le (tgt := 101) cx dX7_copy_92 (by decide) (fun c92 => ?_) (fun c92 => ?_)
                  · have p2 : cFit (g 14 q) j z := Classical.byContradiction fun q => absurd c92 (Int64.not_le.mpr (by rw [hs2]; exact (fit_long hm c57 c18).mpr (by rw [← hs2]; exact q)))
                    obtain ⟨a, zz, rfl, rfl, hf1⟩ := fit_nat hn (hs ▸ p1); have ea : (nI a).toNatClampNeg = a := cl_nI (by omega); have ez : (nI zz).toNatClampNeg = zz := cl_nI (by omega)
                    obtain ⟨bb, rfl, hf2⟩ := fit_nat2 hm (by omega) (hs2 ▸ p2); have eb : (nI bb).toNatClampNeg = bb := cl_nI (by omega)
                    refine jr_iconst (v := 0) cx dX7_copy_101 (by decide) ?_
                    refine jr_istore (L' := [(6, .int 0), (0, .ref (E.1 7)), (1, .int (nI p)), (2, .int (nI a)), (3, .int (nI q)), (4, .int (nI bb)), (5, .int (nI zz))]) cx dX7_copy_102 (by decide) rfl ?_
                    have key1 : ∀ (fu1 : Nat) (i : Nat), zz + 1 ≤ i + fu1 → (i ≤ zz) → JJ E X (putM g 16 (fun x => g 15 (40 * p + a + x)) 0 i) h 104 [(0, .ref (E.1 7)), (1, .int (nI p)), (2, .int (nI a)), (3, .int (nI q)), (4, .int (nI bb)), (5, .int (nI zz)), (6, .int (nI i))] [] := by
                      intro fu1
                      induction fu1 with
                      | zero => intro i hfu1 h1; exfalso; omega
                      | succ fu1 ih1 =>
                        intro i hfu1 h1
                        refine jr_iload cx dX7_copy_104 6 rfl ?_
                        refine jr_iload cx dX7_copy_106 5 rfl ?_
                        refine jr_icmp_ge (tgt := 138) cx dX7_copy_108 (by decide) (fun c108 => ?_) (fun c108 => ?_)
                        · have n108 : zz ≤ i := (nI_leI (a := zz) (b := i) (by omega) (by omega)).mp c108
                          refine jr_iconst (v := 0) cx dX7_copy_138 (by decide) ?_
                          refine jr_istore (L' := [(6, .int 0), (0, .ref (E.1 7)), (1, .int (nI p)), (2, .int (nI a)), (3, .int (nI q)), (4, .int (nI bb)), (5, .int (nI zz))]) cx dX7_copy_139 (by decide) rfl ?_
                          have key2 : ∀ (fu2 : Nat) (k : Nat), zz + 1 ≤ k + fu2 → (k ≤ zz) → JJ E X (putM (putM g 16 (fun x => g 15 (40 * p + a + x)) 0 zz) 15 (fun x => g 15 (40 * p + a + x)) (40 * q + bb) k) h 141 [(0, .ref (E.1 7)), (1, .int (nI p)), (2, .int (nI a)), (3, .int (nI q)), (4, .int (nI bb)), (5, .int (nI zz)), (6, .int (nI k))] [] := by
                            intro fu2
                            induction fu2 with
                            | zero => intro k hfu2 h2; exfalso; omega
                            | succ fu2 ih2 =>
                              intro k hfu2 h2
                              refine jr_iload cx dX7_copy_141 6 rfl ?_
                              refine jr_iload cx dX7_copy_143 5 rfl ?_
                              refine jr_icmp_ge (tgt := 176) cx dX7_copy_145 (by decide) (fun c145 => ?_) (fun c145 => ?_)
                              · have n145 : zz ≤ k := (nI_leI (a := zz) (b := k) (by omega) (by omega)).mp c145
                                refine jr_iconst (v := 1) cx dX7_copy_176 (by decide) ?_
                                exact jr_ri (by simp only [dCopy, ite_self, if_pos c4, if_pos c11, if_pos c18, if_neg c33, if_neg p42, if_pos p1, if_pos p2, ep, eq, ea, ez, eb]) (by simp only [dCopy, ite_self, if_pos c4, if_pos c11, if_pos c18, if_neg c33, if_neg p42, if_pos p1, if_pos p2, ep, eq, ea, ez, eb]; rw [show k = zz by omega]; try rfl) (by rfl) (hR 177 _ dX7_copy_177)
                              · have n145 : ¬ (zz ≤ k) := fun qq9 => c145 ((nI_leI (a := zz) (b := k) (by omega) (by omega)).mpr qq9)
                                refine jr_aload_n cx dX7_copy_148 0 rfl rfl ?_
                                refine jr_get (f := 6) (v := .ref (E.1 15)) cx dX7_copy_149 (by decide) rfl rfl hinX7 (by decide) mf_20 rfl ?_
                                refine jr_bipush (v := 40) cx dX7_copy_152 (by decide) ?_
                                refine jr_iload_n cx dX7_copy_154 3 rfl rfl ?_
                                refine jr_imul cx dX7_copy_155 ?_
                                refine jr_top (show (40 : Int32) * (nI q) = nI (40 * q) from pk_mul 40 q) ?_
                                refine jr_iload cx dX7_copy_156 4 rfl ?_
                                refine jr_iadd cx dX7_copy_158 ?_
                                refine jr_top (show (nI (40 * q) : Int32) + (nI bb) = nI ((40 * q) + bb) from nI_add (40 * q) bb) ?_
                                refine jr_iload cx dX7_copy_159 6 rfl ?_
                                refine jr_iadd cx dX7_copy_161 ?_
                                refine jr_top (show (nI ((40 * q) + bb) : Int32) + (nI k) = nI (((40 * q) + bb) + k) from nI_add ((40 * q) + bb) k) ?_
                                refine jr_aload_n cx dX7_copy_162 0 rfl rfl ?_
                                refine jr_get (f := 7) (v := .ref (E.1 16)) cx dX7_copy_163 (by decide) rfl rfl hinX7 (by decide) mf_23 rfl ?_
                                refine jr_iload cx dX7_copy_166 6 rfl ?_
                                refine jr_iald cx dX7_copy_168 (Or.inl ⟨by decide, by decide⟩) k rfl (show _ < 40 by omega) ?_
                                refine jr_top (show _ = g 15 (40 * p + a + k) from cp_rd (k2 := 0) (F := (fun x => g 15 (40 * p + a + x))) (by omega)) ?_
                                refine jr_iast cx dX7_copy_169 (Or.inl ⟨by decide, by decide⟩) (((40 * q) + bb) + k) rfl (show _ < 240 by omega) ?_
                                refine jr_iinc (n := 6) (v := nI (k + 1)) (L' := [(6, .int (nI (k + 1))), (0, .ref (E.1 7)), (1, .int (nI p)), (2, .int (nI a)), (3, .int (nI q)), (4, .int (nI bb)), (5, .int (nI zz))]) cx dX7_copy_170 rfl (nI_1 _) (by decide) rfl ?_
                                refine jr_goto (tgt := 141) cx dX7_copy_173 (by decide) ?_
                                refine jr_pick (L' := [(0, .ref (E.1 7)), (1, .int (nI p)), (2, .int (nI a)), (3, .int (nI q)), (4, .int (nI bb)), (5, .int (nI zz)), (6, .int (nI (k + 1)))]) [1, 2, 3, 4, 5, 6, 0] rfl ?_
                                refine jr_mem (g' := putM (putM g 16 (fun x => g 15 (40 * p + a + x)) 0 zz) 15 (fun x => g 15 (40 * p + a + x)) (40 * q + bb) (k + 1)) (h' := h) (by exact putM_s _ 15 (fun x => g 15 (40 * p + a + x)) (40 * q + bb) k) (by rfl) ?_
                                exact ih2 (k + 1) (by omega) (by omega)
                          refine jr_pick (L' := [(0, .ref (E.1 7)), (1, .int (nI p)), (2, .int (nI a)), (3, .int (nI q)), (4, .int (nI bb)), (5, .int (nI zz)), (6, .int 0)]) [1, 2, 3, 4, 5, 6, 0] rfl ?_
                          have e6 : (0 : Int32) = (nI 0) := by rfl
                          refine jr_loc (lc_n (lc_n (lc_n (lc_n (lc_n (lc_n (lc_i e6 rfl))))))) ?_
                          refine jr_mem (g' := putM (putM g 16 (fun x => g 15 (40 * p + a + x)) 0 zz) 15 (fun x => g 15 (40 * p + a + x)) (40 * q + bb) 0) (h' := h) (by rw [show i = zz by omega]; exact (putM_0 _ _ _ _).symm) (by rfl) ?_
                          exact key2 (zz + 1) 0 (by omega) (by omega)
                        · have n108 : ¬ (zz ≤ i) := fun qq9 => c108 ((nI_leI (a := zz) (b := i) (by omega) (by omega)).mpr qq9)
                          refine jr_aload_n cx dX7_copy_111 0 rfl rfl ?_
                          refine jr_get (f := 7) (v := .ref (E.1 16)) cx dX7_copy_112 (by decide) rfl rfl hinX7 (by decide) mf_23 rfl ?_
                          refine jr_iload cx dX7_copy_115 6 rfl ?_
                          refine jr_aload_n cx dX7_copy_117 0 rfl rfl ?_
                          refine jr_get (f := 6) (v := .ref (E.1 15)) cx dX7_copy_118 (by decide) rfl rfl hinX7 (by decide) mf_20 rfl ?_
                          refine jr_bipush (v := 40) cx dX7_copy_121 (by decide) ?_
                          refine jr_iload_n cx dX7_copy_123 1 rfl rfl ?_
                          refine jr_imul cx dX7_copy_124 ?_
                          refine jr_top (show (40 : Int32) * (nI p) = nI (40 * p) from pk_mul 40 p) ?_
                          refine jr_iload_n cx dX7_copy_125 2 rfl rfl ?_
                          refine jr_iadd cx dX7_copy_126 ?_
                          refine jr_top (show (nI (40 * p) : Int32) + (nI a) = nI ((40 * p) + a) from nI_add (40 * p) a) ?_
                          refine jr_iload cx dX7_copy_127 6 rfl ?_
                          refine jr_iadd cx dX7_copy_129 ?_
                          refine jr_top (show (nI ((40 * p) + a) : Int32) + (nI i) = nI (((40 * p) + a) + i) from nI_add ((40 * p) + a) i) ?_
                          refine jr_iald cx dX7_copy_130 (Or.inl ⟨by decide, by decide⟩) (((40 * p) + a) + i) rfl (show _ < 240 by omega) ?_
                          refine jr_top (show _ = g 15 (40 * p + a + i) from rfl) ?_
                          refine jr_iast cx dX7_copy_131 (Or.inl ⟨by decide, by decide⟩) i rfl (show _ < 40 by omega) ?_
                          refine jr_iinc (n := 6) (v := nI (i + 1)) (L' := [(6, .int (nI (i + 1))), (0, .ref (E.1 7)), (1, .int (nI p)), (2, .int (nI a)), (3, .int (nI q)), (4, .int (nI bb)), (5, .int (nI zz))]) cx dX7_copy_132 rfl (nI_1 _) (by decide) rfl ?_
                          refine jr_goto (tgt := 104) cx dX7_copy_135 (by decide) ?_
                          refine jr_pick (L' := [(0, .ref (E.1 7)), (1, .int (nI p)), (2, .int (nI a)), (3, .int (nI q)), (4, .int (nI bb)), (5, .int (nI zz)), (6, .int (nI (i + 1)))]) [1, 2, 3, 4, 5, 6, 0] rfl ?_
                          refine jr_mem (g' := putM g 16 (fun x => g 15 (40 * p + a + x)) 0 (i + 1)) (h' := h) (by exact (show up2 (putM g 16 (fun x => g 15 (40 * p + a + x)) 0 i) 16 i (g 15 (40 * p + a + i)) = putM g 16 (fun x => g 15 (40 * p + a + x)) 0 (i + 1) from by have := putM_s g 16 (fun x => g 15 (40 * p + a + x)) 0 i; rw [Nat.zero_add] at this; exact this)) (by rfl) ?_
                          exact ih1 (i + 1) (by omega) (by omega)
                    refine jr_pick (L' := [(0, .ref (E.1 7)), (1, .int (nI p)), (2, .int (nI a)), (3, .int (nI q)), (4, .int (nI bb)), (5, .int (nI zz)), (6, .int 0)]) [1, 2, 3, 4, 5, 6, 0] rfl ?_
                    have e6 : (0 : Int32) = (nI 0) := by rfl
                    refine jr_loc (lc_n (lc_n (lc_n (lc_n (lc_n (lc_n (lc_i e6 rfl))))))) ?_
                    refine jr_mem (g' := putM g 16 (fun x => g 15 (40 * p + a + x)) 0 0) (h' := h) (by exact (putM_0 _ _ _ _).symm) (by rfl) ?_
                    exact key1 (zz + 1) 0 (by omega) (by omega)
                  · have p2 : ¬ cFit (g 14 q) j z := by rw [hs2]; exact (fit_long hm c57 c18).mp (Int64.not_le.mp (by rw [← hs2]; exact c92))
                    refine jr_aload_n cx dX7_copy_95 0 rfl rfl ?_
                    refine jr_iconst (v := 2) cx dX7_copy_96 (by decide) ?_
                    refine jr_vi [.int 2] 1 cx dX7_copy_97 (c_X7_meets E g h 2 (by decide)) (by decide) rfl rfl gX7_copy_X7_meets rfl (by decide +kernel) ⟨Nat.le_of_ble_eq_true rfl, Nat.le_of_ble_eq_true rfl⟩ rfl rfl (Nat.le_of_ble_eq_true rfl) ?_
                    exact jr_ri (by simp only [dCopy, ite_self, if_pos c4, if_pos c11, if_pos c18, if_neg c33, if_neg p42, if_pos p1, if_neg p2, ep, eq]) (by simp only [dCopy, ite_self, if_pos c4, if_pos c11, if_pos c18, if_neg c33, if_neg p42, if_pos p1, if_neg p2, ep, eq]) (by rfl) (hR 100 _ dX7_copy_100)
          · have p42 : g 14 q < 0 := Int32.not_le.mp c42
            refine jr_aload_n cx dX7_copy_45 0 rfl rfl ?_
            refine jr_iconst (v := 1) cx dX7_copy_46 (by decide) ?_
            refine jr_vi [.int 1] 1 cx dX7_copy_47 (c_X7_meets E g h 1 (by decide)) (by decide) rfl rfl gX7_copy_X7_meets rfl (by decide +kernel) ⟨Nat.le_of_ble_eq_true rfl, Nat.le_of_ble_eq_true rfl⟩ rfl rfl (Nat.le_of_ble_eq_true rfl) ?_
            exact jr_ri (by simp only [dCopy, ite_self, if_pos c4, if_pos c11, if_pos c18, if_neg c33, if_pos p42, ep, eq]) (by simp only [dCopy, ite_self, if_pos c4, if_pos c11, if_pos c18, if_neg c33, if_pos p42, ep, eq]) (by rfl) (hR 50 _ dX7_copy_50)
      · refine jr_aload_n cx dX7_copy_21 0 rfl rfl ?_
        refine jr_iconst (v := 5) cx dX7_copy_22 (by decide) ?_
        refine jr_vi [.int 5] 1 cx dX7_copy_23 (c_X7_meets E g h 5 (by decide)) (by decide) rfl rfl gX7_copy_X7_meets rfl (by decide +kernel) ⟨Nat.le_of_ble_eq_true rfl, Nat.le_of_ble_eq_true rfl⟩ rfl rfl (Nat.le_of_ble_eq_true rfl) ?_
        exact jr_ri (by simp only [dCopy, ite_self, if_pos c4, if_pos c11, if_neg c18, ep, eq]) (by simp only [dCopy, ite_self, if_pos c4, if_pos c11, if_neg c18, ep, eq]) (by rfl) (hR 26 _ dX7_copy_26)
    · refine jr_iconst (v := (-1)) cx dX7_copy_14 (by decide) ?_
      exact jr_ri (by simp only [dCopy, ite_self, if_pos c4, if_neg c11, ep]) (by simp only [dCopy, ite_self, if_pos c4, if_neg c11, ep]) (by rfl) (hR 15 _ dX7_copy_15)
def dCmp {α : Type} (ms : Nat → Prop) [DecidablePred ms] (sz : Nat → Nat) (held : Nat → Nat) (r i : Int32) (bad nothing size none : α) (ok : Nat → Nat → α) : α :=
  if ¬ r < 0 ∧ ¬ 5 < r then (if ms r.toNatClampNeg then nothing else if 4 ≤ sz r.toNatClampNeg ∧ sz r.toNatClampNeg % 2 = 0 ∧ held r.toNatClampNeg = sz r.toNatClampNeg then (if ¬ i < 0 ∧ ¬ nI (sz r.toNatClampNeg / 2 - 2) < i then ok r.toNatClampNeg i.toNatClampNeg else none) else size) else bad
def cpU (f : Nat → Int32) (n d : Nat) : Int64 := (f (d + 1) + f (n - 1 - (d + 1)) - (f 0 + f (n - 1 - 0))).toInt64
def cpV (f : Nat → Int32) (n d : Nat) : Int64 := (f (1 + d)).toInt64 + (f (n - 2 - d)).toInt64 - (f 0).toInt64 - (f (n - 1)).toInt64
theorem bd32 (x : Int32) : BdI x (2 ^ 31) := by unfold BdI; have := fb_rng x; omega
theorem sHeld_s {f : Nat → Int32} {i : Nat} : sHeld f (i + 1) = i + 1 ↔ sHeld f i = i ∧ ¬ f i = -9 := by
  have h := sHeld_le f i
  show (if f i = -9 then sHeld f i else sHeld f i + 1) = i + 1 ↔ _
  split
  · rename_i q; constructor
    · intro z; omega
    · intro z; exact absurd q z.2
  · rename_i q; constructor
    · intro z; exact ⟨by omega, q⟩
    · intro z; omega
set_option maxHeartbeats 4000000 in
set_option maxRecDepth 100000 in
theorem c_X6_compare (E : mm_E) (g : mm_I) (h : mm_L) (r i : Int32) (hsz : ∀ j, j < 6 → g 9 j = -1 ∨ ∃ n, n ≤ 40 ∧ g 9 j = nI n) : Ci E yX6_compare wsX6_compare 3 81 [.ref (E.1 0), .int r, .int i] g h (dCmp (fun j => g 9 j = -1) (fun j => (g 9 j).toNatClampNeg) (fun j => sHeld (g (39 + j)) (g 9 j).toNatClampNeg) r i (-1) (-3) (-3) (-9) (fun _ _ => 1)) (dCmp (fun j => g 9 j = -1) (fun j => (g 9 j).toNatClampNeg) (fun j => sHeld (g (39 + j)) (g 9 j).toNatClampNeg) r i g (rfM g 1) (rfM g 5) g (fun _ _ => g)) (dCmp (fun j => g 9 j = -1) (fun j => (g 9 j).toNatClampNeg) (fun j => sHeld (g (39 + j)) (g 9 j).toNatClampNeg) r i h h h h (fun j d => tlC h (cpU (g (39 + j)) (g 9 j).toNatClampNeg d) 2)) := by
  refine ci_i (bytes := cX6_compare) (maxL := 5) (by decide) rfl (Nat.le_of_ble_eq_true rfl) (fun X cx hR => ?_)
  change Cx E X cX6_compare RX6 wsX6_compare 5 3 81 at cx
  change JJ E X g h 0 [(0, .ref (E.1 0)), (1, .int r), (2, .int i)] []
  have hinX6 : ∀ w ∈ u_ws RX6 TX6 9, w ∈ wsX6_compare := by decide +kernel
  have mf_10 : Cond.fieldLink RX6 10 (TX6 0).1 (TX6 0).2.1 (TX6 0).2.2.1 ∈ wsX6_compare := by decide +kernel
  have mf_47 : Cond.fieldLink RX6 47 (TX6 5).1 (TX6 5).2.1 (TX6 5).2.2.1 ∈ wsX6_compare := by decide +kernel
  have mc_194 : Cond.constantLong RX6 194 2 ∈ wsX6_compare := by decide +kernel
  refine jr_iload_n cx dX6_compare_0 1 rfl rfl ?_
  refine jr_si [.int r] 1 cx dX6_compare_1 (c_X6_isRow E g h r) gX6_compare_X6_isRow rfl (by decide +kernel) ⟨Nat.le_of_ble_eq_true rfl, Nat.le_of_ble_eq_true rfl⟩ rfl rfl (Nat.le_of_ble_eq_true rfl) ?_
  refine jr_bif_ne (tgt := 9) cx dX6_compare_4 (by decide) (fun c4 => ?_) (fun c4 => ?_)
  · obtain ⟨j, hj, rfl⟩ := to_nat (M := 5) rfl c4; have ej : (nI j).toNatClampNeg = j := cl_nI (by omega)
    refine jr_aload_n cx dX6_compare_9 0 rfl rfl ?_
    refine jr_get (f := 0) (v := .ref (E.1 1)) cx dX6_compare_10 (by decide) rfl rfl hinX6 (by decide) mf_10 rfl ?_
    refine jr_iload_n cx dX6_compare_13 1 rfl rfl ?_
    refine jr_vi [.int (nI j)] 1 cx dX6_compare_14 (c_X4_isMissing E g h j (by omega)) (by decide) rfl rfl gX6_compare_X4_isMissing rfl (by decide +kernel) ⟨Nat.le_of_ble_eq_true rfl, Nat.le_of_ble_eq_true rfl⟩ rfl rfl (Nat.le_of_ble_eq_true rfl) ?_
    refine jr_bif_eq (tgt := 26) cx dX6_compare_17 (by decide) (fun c17 => ?_) (fun c17 => ?_)
    · obtain ⟨n, hn, hs⟩ : ∃ n, n ≤ 40 ∧ g 9 j = nI n := (hsz j (by omega)).resolve_left c17
      have en : (g 9 j).toNatClampNeg = n := by rw [hs]; exact cl_nI (by omega)
      have hhl := sHeld_le (g (39 + j)) n
      refine jr_aload_n cx dX6_compare_26 0 rfl rfl ?_
      refine jr_get (f := 0) (v := .ref (E.1 1)) cx dX6_compare_27 (by decide) rfl rfl hinX6 (by decide) mf_10 rfl ?_
      refine jr_iload_n cx dX6_compare_30 1 rfl rfl ?_
      refine jr_vi [.int (nI j)] 1 cx dX6_compare_31 (c_X4_sizeOf E g h j (by omega)) (by decide) rfl rfl gX6_compare_X4_sizeOf rfl (by decide +kernel) ⟨Nat.le_of_ble_eq_true rfl, Nat.le_of_ble_eq_true rfl⟩ rfl rfl (Nat.le_of_ble_eq_true rfl) ?_
      refine jr_top hs ?_
      refine jr_istore_n (L' := [(3, .int (nI n)), (0, .ref (E.1 0)), (1, .int (nI j)), (2, .int i)]) cx dX6_compare_34 rfl (by decide) rfl ?_
      refine jr_iload_n cx dX6_compare_35 0 rfl rfl ?_
      refine jr_iconst (v := 4) cx dX6_compare_36 (by decide) ?_
      refine jr_icmp_lt (tgt := 58) cx dX6_compare_37 (by decide) (fun c37 => ?_) (fun c37 => ?_)
      · have n37 : n < 4 := (nI_ltI (a := n) (b := 4) (by omega) (by omega)).mp c37
        refine jr_aload_n cx dX6_compare_58 1 rfl rfl ?_
        refine jr_iconst (v := 5) cx dX6_compare_59 (by decide) ?_
        refine jr_vi [.int 5] 1 cx dX6_compare_60 (c_X6_refuse E g h 5 (by decide) (by decide)) (by decide) rfl rfl gX6_compare_X6_refuse rfl (by decide +kernel) ⟨Nat.le_of_ble_eq_true rfl, Nat.le_of_ble_eq_true rfl⟩ rfl rfl (Nat.le_of_ble_eq_true rfl) ?_
        exact jr_ri (by simp only [dCmp, ite_self, en, if_pos c4, if_neg c17, ej]; all_goals rw [if_neg (fun q => by omega)]; try rfl) (by simp only [dCmp, ite_self, en, if_pos c4, if_neg c17, ej]; all_goals rw [if_neg (fun q => by omega)]; try rfl) (by simp only [dCmp, ite_self, en, if_pos c4, if_neg c17, ej]; all_goals rw [if_neg (fun q => by omega)]; try rfl) (hR 63 _ dX6_compare_63)
      · have n37 : ¬ (n < 4) := fun qq9 => c37 ((nI_ltI (a := n) (b := 4) (by omega) (by omega)).mpr qq9)
        refine jr_iload_n cx dX6_compare_40 0 rfl rfl ?_
        refine jr_iconst (v := 2) cx dX6_compare_41 (by decide) ?_
        refine jr_irem cx dX6_compare_42 (by decide) ?_
        refine jr_top (show _ = nI (n % 2) from pk_rem (d := 2) (by omega) (by decide) (by decide)) ?_
        refine jr_if_ne (tgt := 58) cx dX6_compare_43 (by decide) (fun c43 => ?_) (fun c43 => ?_)
        · have n43 : ¬ (n % 2 = 0) := fun qq9 => c43 ((nI_eq (a := n % 2) (b := 0) (by omega) (by omega)).mpr qq9)
          refine jr_aload_n cx dX6_compare_58 1 rfl rfl ?_
          refine jr_iconst (v := 5) cx dX6_compare_59 (by decide) ?_
          refine jr_vi [.int 5] 1 cx dX6_compare_60 (c_X6_refuse E g h 5 (by decide) (by decide)) (by decide) rfl rfl gX6_compare_X6_refuse rfl (by decide +kernel) ⟨Nat.le_of_ble_eq_true rfl, Nat.le_of_ble_eq_true rfl⟩ rfl rfl (Nat.le_of_ble_eq_true rfl) ?_
          exact jr_ri (by simp only [dCmp, ite_self, en, if_pos c4, if_neg c17, ej]; all_goals rw [if_neg (fun q => by omega)]; try rfl) (by simp only [dCmp, ite_self, en, if_pos c4, if_neg c17, ej]; all_goals rw [if_neg (fun q => by omega)]; try rfl) (by simp only [dCmp, ite_self, en, if_pos c4, if_neg c17, ej]; all_goals rw [if_neg (fun q => by omega)]; try rfl) (hR 63 _ dX6_compare_63)
        · have n43 : n % 2 = 0 := (nI_eq (a := n % 2) (b := 0) (by omega) (by omega)).mp c43
          refine jr_aload_n cx dX6_compare_46 1 rfl rfl ?_
          refine jr_get (f := 0) (v := .ref (E.1 1)) cx dX6_compare_47 (by decide) rfl rfl hinX6 (by decide) mf_10 rfl ?_
          refine jr_iload_n cx dX6_compare_50 2 rfl rfl ?_
          refine jr_vi [.int (nI j)] 1 cx dX6_compare_51 (c_X4_heldCount E g h j (by omega) n hn hs) (by decide) rfl rfl gX6_compare_X4_heldCount rfl (by decide +kernel) ⟨Nat.le_of_ble_eq_true rfl, Nat.le_of_ble_eq_true rfl⟩ rfl rfl (Nat.le_of_ble_eq_true rfl) ?_
          refine jr_iload_n cx dX6_compare_54 0 rfl rfl ?_
          refine jr_icmp_eq (tgt := 64) cx dX6_compare_55 (by decide) (fun c55 => ?_) (fun c55 => ?_)
          · have n55 : sHeld (g (39 + j)) n = n := (nI_eq (a := sHeld (g (39 + j)) n) (b := n) (by omega) (by omega)).mp c55
            refine jr_iload_n cx dX6_compare_64 0 rfl rfl ?_
            refine jr_iconst (v := 2) cx dX6_compare_65 (by decide) ?_
            refine jr_idiv cx dX6_compare_66 (by decide) ?_
            refine jr_top (show _ = nI (n / 2) from pk_div (d := 2) (by omega) (by decide) (by decide)) ?_
            refine jr_iconst (v := 1) cx dX6_compare_67 (by decide) ?_
            refine jr_isub cx dX6_compare_68 ?_
            refine jr_top (show (nI (n / 2) : Int32) - 1 = nI ((n / 2) - 1) from pk_sub (a := n / 2) (b := 1) (by omega)) ?_
            refine jr_istore (L' := [(4, .int (nI ((n / 2) - 1))), (3, .int (nI n)), (0, .ref (E.1 0)), (1, .int (nI j)), (2, .int i)]) cx dX6_compare_69 (by decide) rfl ?_
            refine jr_iload_n cx dX6_compare_71 4 rfl rfl ?_
            refine jr_iconst (v := 0) cx dX6_compare_72 (by decide) ?_
            refine jr_iload cx dX6_compare_73 0 rfl ?_
            refine jr_iconst (v := 1) cx dX6_compare_75 (by decide) ?_
            refine jr_isub cx dX6_compare_76 ?_
            refine jr_top (show _ = nI (n / 2 - 2) by rw [show n / 2 - 2 = n / 2 - 1 - 1 by omega]; exact pk_sub (b := 1) (by omega)) ?_
            refine jr_si [.int i, .int 0, .int (nI (n / 2 - 2))] 3 cx dX6_compare_77 (c_X6_isBetween E g h i 0 (nI (n / 2 - 2))) gX6_compare_X6_isBetween rfl (by decide +kernel) ⟨Nat.le_of_ble_eq_true rfl, Nat.le_of_ble_eq_true rfl⟩ rfl rfl (Nat.le_of_ble_eq_true rfl) ?_
            refine jr_bif_ne (tgt := 86) cx dX6_compare_80 (by decide) (fun c80 => ?_) (fun c80 => ?_)
            · obtain ⟨d, hd, rfl⟩ := nI_of2 (n := n / 2 - 2) (nI_toInt (by omega)) c80.1 (Int32.not_lt.mp c80.2); have ed : (nI d).toNatClampNeg = d := cl_nI (by omega)
              refine jr_aload_n cx dX6_compare_86 2 rfl rfl ?_
              refine jr_get (f := 5) (v := .ref (E.1 6)) cx dX6_compare_87 (by decide) rfl rfl hinX6 (by decide) mf_47 rfl ?_
              refine jr_aload_n cx dX6_compare_90 2 rfl rfl ?_
              refine jr_get (f := 0) (v := .ref (E.1 1)) cx dX6_compare_91 (by decide) rfl rfl hinX6 (by decide) mf_10 rfl ?_
              refine jr_iload_n cx dX6_compare_94 3 rfl rfl ?_
              refine jr_iload_n cx dX6_compare_95 4 rfl rfl ?_
              refine jr_iconst (v := 1) cx dX6_compare_96 (by decide) ?_
              refine jr_iadd cx dX6_compare_97 ?_
              refine jr_top (show (nI d : Int32) + 1 = nI (d + 1) from nI_add d 1) ?_
              refine jr_vi [.int (nI j), .int (nI (d + 1))] 2 cx dX6_compare_98 (c_X4_mirrorSum E g h j (by omega) n (d + 1) hn (by omega) hs) (by decide) rfl rfl gX6_compare_X4_mirrorSum rfl (by decide +kernel) ⟨Nat.le_of_ble_eq_true rfl, Nat.le_of_ble_eq_true rfl⟩ rfl rfl (Nat.le_of_ble_eq_true rfl) ?_
              refine jr_aload_n cx dX6_compare_101 2 rfl rfl ?_
              refine jr_get (f := 0) (v := .ref (E.1 1)) cx dX6_compare_102 (by decide) rfl rfl hinX6 (by decide) mf_10 rfl ?_
              refine jr_iload_n cx dX6_compare_105 3 rfl rfl ?_
              refine jr_iconst (v := 0) cx dX6_compare_106 (by decide) ?_
              refine jr_vi [.int (nI j), .int 0] 2 cx dX6_compare_107 (c_X4_mirrorSum E g h j (by omega) n 0 hn (by omega) hs) (by decide) rfl rfl gX6_compare_X4_mirrorSum rfl (by decide +kernel) ⟨Nat.le_of_ble_eq_true rfl, Nat.le_of_ble_eq_true rfl⟩ rfl rfl (Nat.le_of_ble_eq_true rfl) ?_
              refine jr_isub cx dX6_compare_110 ?_
              refine jr_i2l cx dX6_compare_111 ?_
              refine jr_ldc2 cx dX6_compare_112 mc_194 ?_
              refine jr_vv [.long (Int32.toInt64 ((g (39 + j) (d + 1) + g (39 + j) (n - 1 - (d + 1))) - (g (39 + j) 0 + g (39 + j) (n - 1 - 0)))), .long 2] 2 cx dX6_compare_115 (c_X2_tell E g h (Int32.toInt64 ((g (39 + j) (d + 1) + g (39 + j) (n - 1 - (d + 1))) - (g (39 + j) 0 + g (39 + j) (n - 1 - 0)))) 2 ((bd32 _).L.lt (by decide)) (by decide) (by decide)) (by decide) rfl rfl gX6_compare_X2_tell rfl (by decide +kernel) ⟨Nat.le_of_ble_eq_true rfl, Nat.le_of_ble_eq_true rfl⟩ rfl rfl (Nat.le_of_ble_eq_true rfl) ?_
              refine jr_iconst (v := 1) cx dX6_compare_118 (by decide) ?_
              exact jr_ri (by simp only [dCmp, ite_self, en, if_pos c4, if_neg c17, ej]; all_goals rw [if_pos ⟨by omega, by omega, n55⟩]; all_goals rw [if_pos c80]; all_goals try rw [ed]; try rfl) (by simp only [dCmp, ite_self, en, if_pos c4, if_neg c17, ej]; all_goals rw [if_pos ⟨by omega, by omega, n55⟩]; all_goals rw [if_pos c80]; all_goals try rw [ed]; try rfl) (by simp only [dCmp, ite_self, en, if_pos c4, if_neg c17, ej]; all_goals rw [if_pos ⟨by omega, by omega, n55⟩]; all_goals rw [if_pos c80]; all_goals try rw [ed]; try rfl) (hR 119 _ dX6_compare_119)
            · refine jr_bipush (v := (-9)) cx dX6_compare_83 (by decide) ?_
              exact jr_ri (by simp only [dCmp, ite_self, en, if_pos c4, if_neg c17, ej]; all_goals rw [if_pos ⟨by omega, by omega, n55⟩]; all_goals rw [if_neg c80]; try rfl) (by simp only [dCmp, ite_self, en, if_pos c4, if_neg c17, ej]; all_goals rw [if_pos ⟨by omega, by omega, n55⟩]; all_goals rw [if_neg c80]; try rfl) (by simp only [dCmp, ite_self, en, if_pos c4, if_neg c17, ej]; all_goals rw [if_pos ⟨by omega, by omega, n55⟩]; all_goals rw [if_neg c80]; try rfl) (hR 85 _ dX6_compare_85)
          · have n55 : ¬ (sHeld (g (39 + j)) n = n) := fun qq9 => c55 ((nI_eq (a := sHeld (g (39 + j)) n) (b := n) (by omega) (by omega)).mpr qq9)
            refine jr_aload_n cx dX6_compare_58 1 rfl rfl ?_
            refine jr_iconst (v := 5) cx dX6_compare_59 (by decide) ?_
            refine jr_vi [.int 5] 1 cx dX6_compare_60 (c_X6_refuse E g h 5 (by decide) (by decide)) (by decide) rfl rfl gX6_compare_X6_refuse rfl (by decide +kernel) ⟨Nat.le_of_ble_eq_true rfl, Nat.le_of_ble_eq_true rfl⟩ rfl rfl (Nat.le_of_ble_eq_true rfl) ?_
            exact jr_ri (by simp only [dCmp, ite_self, en, if_pos c4, if_neg c17, ej]; all_goals rw [if_neg (fun q => n55 q.2.2)]; try rfl) (by simp only [dCmp, ite_self, en, if_pos c4, if_neg c17, ej]; all_goals rw [if_neg (fun q => n55 q.2.2)]; try rfl) (by simp only [dCmp, ite_self, en, if_pos c4, if_neg c17, ej]; all_goals rw [if_neg (fun q => n55 q.2.2)]; try rfl) (hR 63 _ dX6_compare_63)
    · refine jr_aload_n cx dX6_compare_20 0 rfl rfl ?_
      refine jr_iconst (v := 1) cx dX6_compare_21 (by decide) ?_
      refine jr_vi [.int 1] 1 cx dX6_compare_22 (c_X6_refuse E g h 1 (by decide) (by decide)) (by decide) rfl rfl gX6_compare_X6_refuse rfl (by decide +kernel) ⟨Nat.le_of_ble_eq_true rfl, Nat.le_of_ble_eq_true rfl⟩ rfl rfl (Nat.le_of_ble_eq_true rfl) ?_
      exact jr_ri (by simp only [dCmp, ite_self, if_pos c4, if_pos c17, ej]; try rfl) (by simp only [dCmp, ite_self, if_pos c4, if_pos c17, ej]; try rfl) (by simp only [dCmp, ite_self, if_pos c4, if_pos c17, ej]; try rfl) (hR 25 _ dX6_compare_25)
  · refine jr_iconst (v := (-1)) cx dX6_compare_7 (by decide) ?_
    exact jr_ri (by simp only [dCmp, ite_self, if_neg c4]; try rfl) (by simp only [dCmp, ite_self, if_neg c4]; try rfl) (by simp only [dCmp, ite_self, if_neg c4]; try rfl) (hR 8 _ dX6_compare_8)
set_option maxHeartbeats 4000000 in
set_option maxRecDepth 100000 in
theorem c_X7_compare (E : mm_E) (g : mm_I) (h : mm_L) (r i : Int32) (hsz : ∀ j, j < 6 → g 14 j < 0 ∨ ∃ n, n ≤ 40 ∧ g 14 j = nI n) : Ci E yX7_compare wsX7_compare 3 77 [.ref (E.1 7), .int r, .int i] g h (dCmp (fun j => g 14 j < 0) (fun j => (g 14 j).toNatClampNeg) (fun j => sHeld (fun q => g 15 (40 * j + q)) (g 14 j).toNatClampNeg) r i (-1) (-3) (-3) (-9) (fun _ _ => 1)) (dCmp (fun j => g 14 j < 0) (fun j => (g 14 j).toNatClampNeg) (fun j => sHeld (fun q => g 15 (40 * j + q)) (g 14 j).toNatClampNeg) r i g (mtM g 1) (mtM g 5) g (fun _ _ => g)) (dCmp (fun j => g 14 j < 0) (fun j => (g 14 j).toNatClampNeg) (fun j => sHeld (fun q => g 15 (40 * j + q)) (g 14 j).toNatClampNeg) r i h h h h (fun j d => tlM h (cpV (fun q => g 15 (40 * j + q)) (g 14 j).toNatClampNeg d) 2)) := by
  refine ci_i (bytes := cX7_compare) (maxL := 9) (by decide) rfl (Nat.le_of_ble_eq_true rfl) (fun X cx hR => ?_)
  change Cx E X cX7_compare RX7 wsX7_compare 9 3 77 at cx
  change JJ E X g h 0 [(0, .ref (E.1 7)), (1, .int r), (2, .int i)] []
  have hinX7 : ∀ w ∈ u_ws RX7 TX7 30, w ∈ wsX7_compare := by decide +kernel
  have mf_17 : Cond.fieldLink RX7 17 (TX7 5).1 (TX7 5).2.1 (TX7 5).2.2.1 ∈ wsX7_compare := by decide +kernel
  have mf_20 : Cond.fieldLink RX7 20 (TX7 6).1 (TX7 6).2.1 (TX7 6).2.2.1 ∈ wsX7_compare := by decide +kernel
  have mc_175 : Cond.constantLong RX7 175 2 ∈ wsX7_compare := by decide +kernel
  refine jr_aload_n cx dX7_compare_0 0 rfl rfl ?_
  refine jr_iload_n cx dX7_compare_1 1 rfl rfl ?_
  by_cases hr : ¬ r < 0 ∧ ¬ 5 < r
  · obtain ⟨j, hj, rfl⟩ := to_nat (M := 5) rfl hr; have ej : (nI j).toNatClampNeg = j := cl_nI (by omega)
    by_cases hm : g 14 j < 0
    · refine jr_vi [.int (nI j)] 1 cx dX7_compare_2 (c_X7_looked_ms E g h j (by omega) hr hm) (by decide) rfl rfl gX7_compare_X7_looked rfl (by decide +kernel) ⟨Nat.le_of_ble_eq_true rfl, Nat.le_of_ble_eq_true rfl⟩ rfl rfl (Nat.le_of_ble_eq_true rfl) ?_
      refine jr_istore_n (L' := [(3, .int (-3)), (0, .ref (E.1 7)), (1, .int (nI j)), (2, .int i)]) cx dX7_compare_5 rfl (by decide) rfl ?_
      refine jr_iload_n cx dX7_compare_6 0 rfl rfl ?_
      refine jr_if_ge (tgt := 12) cx dX7_compare_7 (by decide) (fun c7 => absurd c7 (by decide)) (fun c7 => ?_)
      refine jr_iload_n cx dX7_compare_10 0 rfl rfl ?_
      exact jr_ri (by simp only [dCmp, ite_self, if_pos hr, if_pos hm, ej]; try rfl) (by simp only [dCmp, ite_self, if_pos hr, if_pos hm, ej]; try rfl) (by simp only [dCmp, ite_self, if_pos hr, if_pos hm, ej]; try rfl) (hR 11 _ dX7_compare_11)
    · obtain ⟨n, hn, hs⟩ : ∃ n, n ≤ 40 ∧ g 14 j = nI n := (hsz j (by omega)).resolve_left hm
      have en : (g 14 j).toNatClampNeg = n := by rw [hs]; exact cl_nI (by omega)
      have hhl := sHeld_le (fun q => g 15 (40 * j + q))
      refine jr_vi [.int (nI j)] 1 cx dX7_compare_2 (c_X7_looked_ok E g h j (by omega) hr hm) (by decide) rfl rfl gX7_compare_X7_looked rfl (by decide +kernel) ⟨Nat.le_of_ble_eq_true rfl, Nat.le_of_ble_eq_true rfl⟩ rfl rfl (Nat.le_of_ble_eq_true rfl) ?_
      refine jr_istore_n (L' := [(3, .int 0), (0, .ref (E.1 7)), (1, .int (nI j)), (2, .int i)]) cx dX7_compare_5 rfl (by decide) rfl ?_
      refine jr_iload_n cx dX7_compare_6 0 rfl rfl ?_
      refine jr_if_ge (tgt := 12) cx dX7_compare_7 (by decide) (fun c7 => ?_) (fun c7 => absurd c7 (by decide))
      refine jr_aload_n cx dX7_compare_12 1 rfl rfl ?_
      refine jr_get (f := 5) (v := .ref (E.1 14)) cx dX7_compare_13 (by decide) rfl rfl hinX7 (by decide) mf_17 rfl ?_
      refine jr_iload_n cx dX7_compare_16 2 rfl rfl ?_
      refine jr_iald cx dX7_compare_17 (Or.inl ⟨by decide, by decide⟩) j rfl (show _ < 6 by omega) ?_
      refine jr_top hs ?_
      refine jr_istore (L' := [(4, .int (nI n)), (3, .int 0), (0, .ref (E.1 7)), (1, .int (nI j)), (2, .int i)]) cx dX7_compare_18 (by decide) rfl ?_
      refine jr_iload cx dX7_compare_20 0 rfl ?_
      refine jr_iconst (v := 4) cx dX7_compare_22 (by decide) ?_
      refine jr_icmp_lt (tgt := 37) cx dX7_compare_23 (by decide) (fun c23 => ?_) (fun c23 => ?_)
      · have n23 : n < 4 := (nI_ltI (a := n) (b := 4) (by omega) (by omega)).mp c23
        refine jr_iconst (v := 0) cx dX7_compare_37 (by decide) ?_
        refine jr_istore (L' := [(5, .int 0), (4, .int (nI n)), (3, .int 0), (0, .ref (E.1 7)), (1, .int (nI j)), (2, .int i)]) cx dX7_compare_38 (by decide) rfl ?_
        refine jr_iconst (v := 0) cx dX7_compare_40 (by decide) ?_
        refine jr_istore (L' := [(6, .int 0), (5, .int 0), (4, .int (nI n)), (3, .int 0), (0, .ref (E.1 7)), (1, .int (nI j)), (2, .int i)]) cx dX7_compare_41 (by decide) rfl ?_
        have key1 : ∀ (fu1 : Nat) (k : Nat), n + 1 ≤ k + fu1 → (k ≤ n) → JJ E X g h 43 [(0, .ref (E.1 7)), (1, .int (nI j)), (2, .int i), (4, .int (nI n)), (5, .int (bI ((4 ≤ n ∧ n % 2 = 0) ∧ sHeld (fun q => g 15 (40 * j + q)) k = k))), (6, .int (nI k))] [] := by
          intro fu1
          induction fu1 with
          | zero => intro k hfu1 h1; exfalso; omega
          | succ fu1 ih1 =>
            intro k hfu1 h1
            refine jr_iload cx dX7_compare_43 5 rfl ?_
            refine jr_iload cx dX7_compare_45 3 rfl ?_
            refine jr_icmp_ge (tgt := 85) cx dX7_compare_47 (by decide) (fun c47 => ?_) (fun c47 => ?_)
            · have n47 : n ≤ k := (nI_leI (a := n) (b := k) (by omega) (by omega)).mp c47
              refine jr_iload cx dX7_compare_85 4 rfl ?_
              refine jr_bif_ne (tgt := 96) cx dX7_compare_87 (by decide) (fun c87 => ?_) (fun c87 => ?_)
              · rw [show k = n by omega] at c87
                refine jr_iload_n cx dX7_compare_96 2 rfl rfl ?_
                refine jr_iconst (v := 0) cx dX7_compare_97 (by decide) ?_
                refine jr_iload cx dX7_compare_98 3 rfl ?_
                refine jr_iconst (v := 2) cx dX7_compare_100 (by decide) ?_
                refine jr_idiv cx dX7_compare_101 (by decide) ?_
                refine jr_top (show _ = nI (n / 2) from pk_div (d := 2) (by omega) (by decide) (by decide)) ?_
                refine jr_iconst (v := 2) cx dX7_compare_102 (by decide) ?_
                refine jr_isub cx dX7_compare_103 ?_
                refine jr_top (show (nI (n / 2) : Int32) - 2 = nI ((n / 2) - 2) from pk_sub (a := n / 2) (b := 2) (by omega)) ?_
                refine jr_si [.int i, .int 0, .int (nI ((n / 2) - 2))] 3 cx dX7_compare_104 (c_X7_in E g h i 0 (nI ((n / 2) - 2))) gX7_compare_X7_in rfl (by decide +kernel) ⟨Nat.le_of_ble_eq_true rfl, Nat.le_of_ble_eq_true rfl⟩ rfl rfl (Nat.le_of_ble_eq_true rfl) ?_
                refine jr_bif_ne (tgt := 113) cx dX7_compare_107 (by decide) (fun c107 => ?_) (fun c107 => ?_)
                · obtain ⟨d, hd, rfl⟩ := nI_of2 (n := n / 2 - 2) (nI_toInt (by omega)) c107.1 (Int32.not_lt.mp c107.2); have ed : (nI d).toNatClampNeg = d := cl_nI (by omega)
                  refine jr_bipush (v := 40) cx dX7_compare_113 (by decide) ?_
                  refine jr_iload_n cx dX7_compare_115 1 rfl rfl ?_
                  refine jr_imul cx dX7_compare_116 ?_
                  refine jr_top (show (40 : Int32) * (nI j) = nI (40 * j) from pk_mul 40 j) ?_
                  refine jr_istore (L' := [(6, .int (nI (40 * j))), (0, .ref (E.1 7)), (1, .int (nI j)), (2, .int (nI d)), (4, .int (nI n)), (5, .int (bI ((4 ≤ n ∧ n % 2 = 0) ∧ sHeld (fun q => g 15 (40 * j + q)) k = k)))]) cx dX7_compare_117 (by decide) rfl ?_
                  refine jr_aload_n cx dX7_compare_119 1 rfl rfl ?_
                  refine jr_get (f := 6) (v := .ref (E.1 15)) cx dX7_compare_120 (by decide) rfl rfl hinX7 (by decide) mf_20 rfl ?_
                  refine jr_iload cx dX7_compare_123 0 rfl ?_
                  refine jr_iconst (v := 1) cx dX7_compare_125 (by decide) ?_
                  refine jr_iadd cx dX7_compare_126 ?_
                  refine jr_top (show (nI (40 * j) : Int32) + 1 = nI ((40 * j) + 1) from nI_add (40 * j) 1) ?_
                  refine jr_iload_n cx dX7_compare_127 3 rfl rfl ?_
                  refine jr_iadd cx dX7_compare_128 ?_
                  refine jr_top (show (nI ((40 * j) + 1) : Int32) + (nI d) = nI (((40 * j) + 1) + d) from nI_add ((40 * j) + 1) d) ?_
                  refine jr_iald cx dX7_compare_129 (Or.inl ⟨by decide, by decide⟩) (((40 * j) + 1) + d) rfl (show _ < 240 by omega) ?_
                  refine jr_top (show _ = (fun q => g 15 (40 * j + q)) (1 + d) by show _ = g 15 (40 * j + (1 + d)); rw [Nat.add_assoc]) ?_
                  refine jr_i2l cx dX7_compare_130 ?_
                  refine jr_aload_n cx dX7_compare_131 1 rfl rfl ?_
                  refine jr_get (f := 6) (v := .ref (E.1 15)) cx dX7_compare_132 (by decide) rfl rfl hinX7 (by decide) mf_20 rfl ?_
                  refine jr_iload cx dX7_compare_135 0 rfl ?_
                  refine jr_iload cx dX7_compare_137 4 rfl ?_
                  refine jr_iadd cx dX7_compare_139 ?_
                  refine jr_top (show (nI (40 * j) : Int32) + (nI n) = nI ((40 * j) + n) from nI_add (40 * j) n) ?_
                  refine jr_iconst (v := 2) cx dX7_compare_140 (by decide) ?_
                  refine jr_isub cx dX7_compare_141 ?_
                  refine jr_top (show (nI ((40 * j) + n) : Int32) - 2 = nI (((40 * j) + n) - 2) from pk_sub (a := (40 * j) + n) (b := 2) (by omega)) ?_
                  refine jr_iload_n cx dX7_compare_142 3 rfl rfl ?_
                  refine jr_isub cx dX7_compare_143 ?_
                  refine jr_top (show (nI (((40 * j) + n) - 2) : Int32) - (nI d) = nI ((((40 * j) + n) - 2) - d) from pk_sub (a := ((40 * j) + n) - 2) (b := d) (by omega)) ?_
                  refine jr_iald cx dX7_compare_144 (Or.inl ⟨by decide, by decide⟩) ((((40 * j) + n) - 2) - d) rfl (show _ < 240 by omega) ?_
                  refine jr_top (show _ = (fun q => g 15 (40 * j + q)) (n - 2 - d) by show _ = g 15 (40 * j + (n - 2 - d)); rw [show 40 * j + n - 2 - d = 40 * j + (n - 2 - d) by omega]) ?_
                  refine jr_i2l cx dX7_compare_145 ?_
                  refine jr_ladd cx dX7_compare_146 ?_
                  refine jr_aload_n cx dX7_compare_147 1 rfl rfl ?_
                  refine jr_get (f := 6) (v := .ref (E.1 15)) cx dX7_compare_148 (by decide) rfl rfl hinX7 (by decide) mf_20 rfl ?_
                  refine jr_iload cx dX7_compare_151 0 rfl ?_
                  refine jr_iald cx dX7_compare_153 (Or.inl ⟨by decide, by decide⟩) (40 * j) rfl (show _ < 240 by omega) ?_
                  refine jr_top (show _ = (fun q => g 15 (40 * j + q)) 0 from rfl) ?_
                  refine jr_i2l cx dX7_compare_154 ?_
                  refine jr_lsub cx dX7_compare_155 ?_
                  refine jr_aload_n cx dX7_compare_156 1 rfl rfl ?_
                  refine jr_get (f := 6) (v := .ref (E.1 15)) cx dX7_compare_157 (by decide) rfl rfl hinX7 (by decide) mf_20 rfl ?_
                  refine jr_iload cx dX7_compare_160 0 rfl ?_
                  refine jr_iload cx dX7_compare_162 4 rfl ?_
                  refine jr_iadd cx dX7_compare_164 ?_
                  refine jr_top (show (nI (40 * j) : Int32) + (nI n) = nI ((40 * j) + n) from nI_add (40 * j) n) ?_
                  refine jr_iconst (v := 1) cx dX7_compare_165 (by decide) ?_
                  refine jr_isub cx dX7_compare_166 ?_
                  refine jr_top (show (nI ((40 * j) + n) : Int32) - 1 = nI (((40 * j) + n) - 1) from pk_sub (a := (40 * j) + n) (b := 1) (by omega)) ?_
                  refine jr_iald cx dX7_compare_167 (Or.inl ⟨by decide, by decide⟩) (((40 * j) + n) - 1) rfl (show _ < 240 by omega) ?_
                  refine jr_top (show _ = (fun q => g 15 (40 * j + q)) (n - 1) by show _ = g 15 (40 * j + (n - 1)); rw [show 40 * j + n - 1 = 40 * j + (n - 1) by omega]) ?_
                  refine jr_i2l cx dX7_compare_168 ?_
                  refine jr_lsub cx dX7_compare_169 ?_
                  refine jr_lstore (L' := [(7, .long ((((Int32.toInt64 ((fun q => g 15 (40 * j + q)) (1 + d))) + (Int32.toInt64 ((fun q => g 15 (40 * j + q)) (n - 2 - d)))) - (Int32.toInt64 ((fun q => g 15 (40 * j + q)) 0))) - (Int32.toInt64 ((fun q => g 15 (40 * j + q)) (n - 1))))), (6, .int (nI (40 * j))), (0, .ref (E.1 7)), (1, .int (nI j)), (2, .int (nI d)), (4, .int (nI n)), (5, .int (bI ((4 ≤ n ∧ n % 2 = 0) ∧ sHeld (fun q => g 15 (40 * j + q)) k = k)))]) cx dX7_compare_170 (by decide) rfl ?_
                  refine jr_aload_n cx dX7_compare_172 2 rfl rfl ?_
                  refine jr_lload cx dX7_compare_173 0 rfl ?_
                  refine jr_ldc2 cx dX7_compare_175 mc_175 ?_
                  refine jr_iconst (v := 1) cx dX7_compare_178 (by decide) ?_
                  refine jr_vi [.long ((((Int32.toInt64 ((fun q => g 15 (40 * j + q)) (1 + d))) + (Int32.toInt64 ((fun q => g 15 (40 * j + q)) (n - 2 - d)))) - (Int32.toInt64 ((fun q => g 15 (40 * j + q)) 0))) - (Int32.toInt64 ((fun q => g 15 (40 * j + q)) (n - 1)))), .long 2, .int 1] 3 cx dX7_compare_179 (c_X7_tell E g h ((((Int32.toInt64 ((fun q => g 15 (40 * j + q)) (1 + d))) + (Int32.toInt64 ((fun q => g 15 (40 * j + q)) (n - 2 - d)))) - (Int32.toInt64 ((fun q => g 15 (40 * j + q)) 0))) - (Int32.toInt64 ((fun q => g 15 (40 * j + q)) (n - 1)))) 2 1 ((((bd32 _).L.add (bd32 _).L (by decide)).sub (bd32 _).L (by decide)).sub (bd32 _).L (by decide) |>.lt (by decide)) (by decide) (by decide)) (by decide) rfl rfl gX7_compare_X7_tell rfl (by decide +kernel) ⟨Nat.le_of_ble_eq_true rfl, Nat.le_of_ble_eq_true rfl⟩ rfl rfl (Nat.le_of_ble_eq_true rfl) ?_
                  exact jr_ri (by simp only [dCmp, ite_self, en, if_pos hr, if_neg hm, ej]; all_goals rw [if_pos ⟨c87.1.1, c87.1.2, c87.2⟩]; all_goals rw [if_pos c107]; all_goals try rw [ed]; try rfl) (by simp only [dCmp, ite_self, en, if_pos hr, if_neg hm, ej]; all_goals rw [if_pos ⟨c87.1.1, c87.1.2, c87.2⟩]; all_goals rw [if_pos c107]; all_goals try rw [ed]; try rfl) (by simp only [dCmp, ite_self, en, if_pos hr, if_neg hm, ej]; all_goals rw [if_pos ⟨c87.1.1, c87.1.2, c87.2⟩]; all_goals rw [if_pos c107]; all_goals try rw [ed]; try rfl) (hR 182 _ dX7_compare_182)
                · refine jr_bipush (v := (-9)) cx dX7_compare_110 (by decide) ?_
                  exact jr_ri (by simp only [dCmp, ite_self, en, if_pos hr, if_neg hm, ej]; all_goals rw [if_pos ⟨c87.1.1, c87.1.2, c87.2⟩]; all_goals rw [if_neg c107]; try rfl) (by simp only [dCmp, ite_self, en, if_pos hr, if_neg hm, ej]; all_goals rw [if_pos ⟨c87.1.1, c87.1.2, c87.2⟩]; all_goals rw [if_neg c107]; try rfl) (by simp only [dCmp, ite_self, en, if_pos hr, if_neg hm, ej]; all_goals rw [if_pos ⟨c87.1.1, c87.1.2, c87.2⟩]; all_goals rw [if_neg c107]; try rfl) (hR 112 _ dX7_compare_112)
              · rw [show k = n by omega] at c87
                refine jr_aload_n cx dX7_compare_90 0 rfl rfl ?_
                refine jr_iconst (v := 5) cx dX7_compare_91 (by decide) ?_
                refine jr_vi [.int 5] 1 cx dX7_compare_92 (c_X7_meets E g h 5 (by decide)) (by decide) rfl rfl gX7_compare_X7_meets rfl (by decide +kernel) ⟨Nat.le_of_ble_eq_true rfl, Nat.le_of_ble_eq_true rfl⟩ rfl rfl (Nat.le_of_ble_eq_true rfl) ?_
                exact jr_ri (by simp only [dCmp, ite_self, en, if_pos hr, if_neg hm, ej]; all_goals rw [if_neg (fun q => c87 ⟨⟨q.1, q.2.1⟩, q.2.2⟩)]; try rfl) (by simp only [dCmp, ite_self, en, if_pos hr, if_neg hm, ej]; all_goals rw [if_neg (fun q => c87 ⟨⟨q.1, q.2.1⟩, q.2.2⟩)]; try rfl) (by simp only [dCmp, ite_self, en, if_pos hr, if_neg hm, ej]; all_goals rw [if_neg (fun q => c87 ⟨⟨q.1, q.2.1⟩, q.2.2⟩)]; try rfl) (hR 95 _ dX7_compare_95)
            · have n47 : ¬ (n ≤ k) := fun qq9 => c47 ((nI_leI (a := n) (b := k) (by omega) (by omega)).mpr qq9)
              refine jr_iload cx dX7_compare_50 4 rfl ?_
              refine jr_bif_eq (tgt := 76) cx dX7_compare_52 (by decide) (fun c52 => ?_) (fun c52 => ?_)
              · refine jr_iconst (v := 0) cx dX7_compare_76 (by decide) ?_
                refine jr_istore (L' := [(5, .int 0), (0, .ref (E.1 7)), (1, .int (nI j)), (2, .int i), (4, .int (nI n)), (6, .int (nI k))]) cx dX7_compare_77 (by decide) rfl ?_
                refine jr_iinc (n := 5) (v := nI (k + 1)) (L' := [(6, .int (nI (k + 1))), (5, .int 0), (0, .ref (E.1 7)), (1, .int (nI j)), (2, .int i), (4, .int (nI n))]) cx dX7_compare_79 rfl (nI_1 _) (by decide) rfl ?_
                refine jr_goto (tgt := 43) cx dX7_compare_82 (by decide) ?_
                refine jr_pick (L' := [(0, .ref (E.1 7)), (1, .int (nI j)), (2, .int i), (4, .int (nI n)), (5, .int 0), (6, .int (nI (k + 1)))]) [2, 3, 4, 5, 1, 0] rfl ?_
                have e5 : (0 : Int32) = (bI ((4 ≤ n ∧ n % 2 = 0) ∧ sHeld (fun q => g 15 (40 * j + q)) (k + 1) = (k + 1))) := by exact (bI_f (fun q => c52 ⟨q.1, ((sHeld_s (f := (fun q => g 15 (40 * j + q))) (i := k)).mp q.2).1⟩)).symm
                refine jr_loc (lc_n (lc_n (lc_n (lc_n (lc_i e5 (lc_n rfl)))))) ?_
                exact ih1 (k + 1) (by omega) (by omega)
              · refine jr_aload_n cx dX7_compare_55 0 rfl rfl ?_
                refine jr_get (f := 6) (v := .ref (E.1 15)) cx dX7_compare_56 (by decide) rfl rfl hinX7 (by decide) mf_20 rfl ?_
                refine jr_bipush (v := 40) cx dX7_compare_59 (by decide) ?_
                refine jr_iload_n cx dX7_compare_61 1 rfl rfl ?_
                refine jr_imul cx dX7_compare_62 ?_
                refine jr_top (show (40 : Int32) * (nI j) = nI (40 * j) from pk_mul 40 j) ?_
                refine jr_iload cx dX7_compare_63 5 rfl ?_
                refine jr_iadd cx dX7_compare_65 ?_
                refine jr_top (show (nI (40 * j) : Int32) + (nI k) = nI ((40 * j) + k) from nI_add (40 * j) k) ?_
                refine jr_iald cx dX7_compare_66 (Or.inl ⟨by decide, by decide⟩) ((40 * j) + k) rfl (show _ < 240 by omega) ?_
                refine jr_bipush (v := (-9)) cx dX7_compare_67 (by decide) ?_
                refine jr_icmp_eq (tgt := 76) cx dX7_compare_69 (by decide) (fun c69 => ?_) (fun c69 => ?_)
                · refine jr_iconst (v := 0) cx dX7_compare_76 (by decide) ?_
                  refine jr_istore (L' := [(5, .int 0), (0, .ref (E.1 7)), (1, .int (nI j)), (2, .int i), (4, .int (nI n)), (6, .int (nI k))]) cx dX7_compare_77 (by decide) rfl ?_
                  refine jr_iinc (n := 5) (v := nI (k + 1)) (L' := [(6, .int (nI (k + 1))), (5, .int 0), (0, .ref (E.1 7)), (1, .int (nI j)), (2, .int i), (4, .int (nI n))]) cx dX7_compare_79 rfl (nI_1 _) (by decide) rfl ?_
                  refine jr_goto (tgt := 43) cx dX7_compare_82 (by decide) ?_
                  refine jr_pick (L' := [(0, .ref (E.1 7)), (1, .int (nI j)), (2, .int i), (4, .int (nI n)), (5, .int 0), (6, .int (nI (k + 1)))]) [2, 3, 4, 5, 1, 0] rfl ?_
                  have e5 : (0 : Int32) = (bI ((4 ≤ n ∧ n % 2 = 0) ∧ sHeld (fun q => g 15 (40 * j + q)) (k + 1) = (k + 1))) := by exact (bI_f (fun q => ((sHeld_s (f := (fun q => g 15 (40 * j + q))) (i := k)).mp q.2).2 c69)).symm
                  refine jr_loc (lc_n (lc_n (lc_n (lc_n (lc_i e5 (lc_n rfl)))))) ?_
                  exact ih1 (k + 1) (by omega) (by omega)
                · refine jr_iconst (v := 1) cx dX7_compare_72 (by decide) ?_
                  refine jr_goto (tgt := 77) cx dX7_compare_73 (by decide) ?_
                  refine jr_istore (L' := [(5, .int 1), (0, .ref (E.1 7)), (1, .int (nI j)), (2, .int i), (4, .int (nI n)), (6, .int (nI k))]) cx dX7_compare_77 (by decide) rfl ?_
                  refine jr_iinc (n := 5) (v := nI (k + 1)) (L' := [(6, .int (nI (k + 1))), (5, .int 1), (0, .ref (E.1 7)), (1, .int (nI j)), (2, .int i), (4, .int (nI n))]) cx dX7_compare_79 rfl (nI_1 _) (by decide) rfl ?_
                  refine jr_goto (tgt := 43) cx dX7_compare_82 (by decide) ?_
                  refine jr_pick (L' := [(0, .ref (E.1 7)), (1, .int (nI j)), (2, .int i), (4, .int (nI n)), (5, .int 1), (6, .int (nI (k + 1)))]) [2, 3, 4, 5, 1, 0] rfl ?_
                  have e5 : (1 : Int32) = (bI ((4 ≤ n ∧ n % 2 = 0) ∧ sHeld (fun q => g 15 (40 * j + q)) (k + 1) = (k + 1))) := by exact (bI_t ⟨c52.1, (sHeld_s (f := (fun q => g 15 (40 * j + q))) (i := k)).mpr ⟨c52.2, c69⟩⟩).symm
                  refine jr_loc (lc_n (lc_n (lc_n (lc_n (lc_i e5 (lc_n rfl)))))) ?_
                  exact ih1 (k + 1) (by omega) (by omega)
        refine jr_pick (L' := [(0, .ref (E.1 7)), (1, .int (nI j)), (2, .int i), (4, .int (nI n)), (5, .int 0), (6, .int 0)]) [4, 5, 6, 2, 1, 0] rfl ?_
        have e5 : (0 : Int32) = (bI ((4 ≤ n ∧ n % 2 = 0) ∧ sHeld (fun q => g 15 (40 * j + q)) 0 = 0)) := by exact (bI_f (fun q => by omega)).symm
        have e6 : (0 : Int32) = (nI 0) := by rfl
        refine jr_loc (lc_n (lc_n (lc_n (lc_n (lc_i e5 (lc_i e6 rfl)))))) ?_
        exact key1 (n + 1) 0 (by omega) (by omega)
      · have n23 : ¬ (n < 4) := fun qq9 => c23 ((nI_ltI (a := n) (b := 4) (by omega) (by omega)).mpr qq9)
        refine jr_iload cx dX7_compare_26 0 rfl ?_
        refine jr_iconst (v := 2) cx dX7_compare_28 (by decide) ?_
        refine jr_irem cx dX7_compare_29 (by decide) ?_
        refine jr_top (show _ = nI (n % 2) from pk_rem (d := 2) (by omega) (by decide) (by decide)) ?_
        refine jr_if_ne (tgt := 37) cx dX7_compare_30 (by decide) (fun c30 => ?_) (fun c30 => ?_)
        · have n30 : ¬ (n % 2 = 0) := fun qq9 => c30 ((nI_eq (a := n % 2) (b := 0) (by omega) (by omega)).mpr qq9)
          refine jr_iconst (v := 0) cx dX7_compare_37 (by decide) ?_
          refine jr_istore (L' := [(5, .int 0), (4, .int (nI n)), (3, .int 0), (0, .ref (E.1 7)), (1, .int (nI j)), (2, .int i)]) cx dX7_compare_38 (by decide) rfl ?_
          refine jr_iconst (v := 0) cx dX7_compare_40 (by decide) ?_
          refine jr_istore (L' := [(6, .int 0), (5, .int 0), (4, .int (nI n)), (3, .int 0), (0, .ref (E.1 7)), (1, .int (nI j)), (2, .int i)]) cx dX7_compare_41 (by decide) rfl ?_
          have key2 : ∀ (fu2 : Nat) (k : Nat), n + 1 ≤ k + fu2 → (k ≤ n) → JJ E X g h 43 [(0, .ref (E.1 7)), (1, .int (nI j)), (2, .int i), (4, .int (nI n)), (5, .int (bI ((4 ≤ n ∧ n % 2 = 0) ∧ sHeld (fun q => g 15 (40 * j + q)) k = k))), (6, .int (nI k))] [] := by
            intro fu2
            induction fu2 with
            | zero => intro k hfu2 h1; exfalso; omega
            | succ fu2 ih2 =>
              intro k hfu2 h1
              refine jr_iload cx dX7_compare_43 5 rfl ?_
              refine jr_iload cx dX7_compare_45 3 rfl ?_
              refine jr_icmp_ge (tgt := 85) cx dX7_compare_47 (by decide) (fun c47 => ?_) (fun c47 => ?_)
              · have n47 : n ≤ k := (nI_leI (a := n) (b := k) (by omega) (by omega)).mp c47
                refine jr_iload cx dX7_compare_85 4 rfl ?_
                refine jr_bif_ne (tgt := 96) cx dX7_compare_87 (by decide) (fun c87 => ?_) (fun c87 => ?_)
                · rw [show k = n by omega] at c87
                  refine jr_iload_n cx dX7_compare_96 2 rfl rfl ?_
                  refine jr_iconst (v := 0) cx dX7_compare_97 (by decide) ?_
                  refine jr_iload cx dX7_compare_98 3 rfl ?_
                  refine jr_iconst (v := 2) cx dX7_compare_100 (by decide) ?_
                  refine jr_idiv cx dX7_compare_101 (by decide) ?_
                  refine jr_top (show _ = nI (n / 2) from pk_div (d := 2) (by omega) (by decide) (by decide)) ?_
                  refine jr_iconst (v := 2) cx dX7_compare_102 (by decide) ?_
                  refine jr_isub cx dX7_compare_103 ?_
                  refine jr_top (show (nI (n / 2) : Int32) - 2 = nI ((n / 2) - 2) from pk_sub (a := n / 2) (b := 2) (by omega)) ?_
                  refine jr_si [.int i, .int 0, .int (nI ((n / 2) - 2))] 3 cx dX7_compare_104 (c_X7_in E g h i 0 (nI ((n / 2) - 2))) gX7_compare_X7_in rfl (by decide +kernel) ⟨Nat.le_of_ble_eq_true rfl, Nat.le_of_ble_eq_true rfl⟩ rfl rfl (Nat.le_of_ble_eq_true rfl) ?_
                  refine jr_bif_ne (tgt := 113) cx dX7_compare_107 (by decide) (fun c107 => ?_) (fun c107 => ?_)
                  · obtain ⟨d, hd, rfl⟩ := nI_of2 (n := n / 2 - 2) (nI_toInt (by omega)) c107.1 (Int32.not_lt.mp c107.2); have ed : (nI d).toNatClampNeg = d := cl_nI (by omega)
                    refine jr_bipush (v := 40) cx dX7_compare_113 (by decide) ?_
                    refine jr_iload_n cx dX7_compare_115 1 rfl rfl ?_
                    refine jr_imul cx dX7_compare_116 ?_
                    refine jr_top (show (40 : Int32) * (nI j) = nI (40 * j) from pk_mul 40 j) ?_
                    refine jr_istore (L' := [(6, .int (nI (40 * j))), (0, .ref (E.1 7)), (1, .int (nI j)), (2, .int (nI d)), (4, .int (nI n)), (5, .int (bI ((4 ≤ n ∧ n % 2 = 0) ∧ sHeld (fun q => g 15 (40 * j + q)) k = k)))]) cx dX7_compare_117 (by decide) rfl ?_
                    refine jr_aload_n cx dX7_compare_119 1 rfl rfl ?_
                    refine jr_get (f := 6) (v := .ref (E.1 15)) cx dX7_compare_120 (by decide) rfl rfl hinX7 (by decide) mf_20 rfl ?_
                    refine jr_iload cx dX7_compare_123 0 rfl ?_
                    refine jr_iconst (v := 1) cx dX7_compare_125 (by decide) ?_
                    refine jr_iadd cx dX7_compare_126 ?_
                    refine jr_top (show (nI (40 * j) : Int32) + 1 = nI ((40 * j) + 1) from nI_add (40 * j) 1) ?_
                    refine jr_iload_n cx dX7_compare_127 3 rfl rfl ?_
                    refine jr_iadd cx dX7_compare_128 ?_
                    refine jr_top (show (nI ((40 * j) + 1) : Int32) + (nI d) = nI (((40 * j) + 1) + d) from nI_add ((40 * j) + 1) d) ?_
                    refine jr_iald cx dX7_compare_129 (Or.inl ⟨by decide, by decide⟩) (((40 * j) + 1) + d) rfl (show _ < 240 by omega) ?_
                    refine jr_top (show _ = (fun q => g 15 (40 * j + q)) (1 + d) by show _ = g 15 (40 * j + (1 + d)); rw [Nat.add_assoc]) ?_
                    refine jr_i2l cx dX7_compare_130 ?_
                    refine jr_aload_n cx dX7_compare_131 1 rfl rfl ?_
                    refine jr_get (f := 6) (v := .ref (E.1 15)) cx dX7_compare_132 (by decide) rfl rfl hinX7 (by decide) mf_20 rfl ?_
                    refine jr_iload cx dX7_compare_135 0 rfl ?_
                    refine jr_iload cx dX7_compare_137 4 rfl ?_
                    refine jr_iadd cx dX7_compare_139 ?_
                    refine jr_top (show (nI (40 * j) : Int32) + (nI n) = nI ((40 * j) + n) from nI_add (40 * j) n) ?_
                    refine jr_iconst (v := 2) cx dX7_compare_140 (by decide) ?_
                    refine jr_isub cx dX7_compare_141 ?_
                    refine jr_top (show (nI ((40 * j) + n) : Int32) - 2 = nI (((40 * j) + n) - 2) from pk_sub (a := (40 * j) + n) (b := 2) (by omega)) ?_
                    refine jr_iload_n cx dX7_compare_142 3 rfl rfl ?_
                    refine jr_isub cx dX7_compare_143 ?_
                    refine jr_top (show (nI (((40 * j) + n) - 2) : Int32) - (nI d) = nI ((((40 * j) + n) - 2) - d) from pk_sub (a := ((40 * j) + n) - 2) (b := d) (by omega)) ?_
                    refine jr_iald cx dX7_compare_144 (Or.inl ⟨by decide, by decide⟩) ((((40 * j) + n) - 2) - d) rfl (show _ < 240 by omega) ?_
                    refine jr_top (show _ = (fun q => g 15 (40 * j + q)) (n - 2 - d) by show _ = g 15 (40 * j + (n - 2 - d)); rw [show 40 * j + n - 2 - d = 40 * j + (n - 2 - d) by omega]) ?_
                    refine jr_i2l cx dX7_compare_145 ?_
                    refine jr_ladd cx dX7_compare_146 ?_
                    refine jr_aload_n cx dX7_compare_147 1 rfl rfl ?_
                    refine jr_get (f := 6) (v := .ref (E.1 15)) cx dX7_compare_148 (by decide) rfl rfl hinX7 (by decide) mf_20 rfl ?_
                    refine jr_iload cx dX7_compare_151 0 rfl ?_
                    refine jr_iald cx dX7_compare_153 (Or.inl ⟨by decide, by decide⟩) (40 * j) rfl (show _ < 240 by omega) ?_
                    refine jr_top (show _ = (fun q => g 15 (40 * j + q)) 0 from rfl) ?_
                    refine jr_i2l cx dX7_compare_154 ?_
                    refine jr_lsub cx dX7_compare_155 ?_
                    refine jr_aload_n cx dX7_compare_156 1 rfl rfl ?_
                    refine jr_get (f := 6) (v := .ref (E.1 15)) cx dX7_compare_157 (by decide) rfl rfl hinX7 (by decide) mf_20 rfl ?_
                    refine jr_iload cx dX7_compare_160 0 rfl ?_
                    refine jr_iload cx dX7_compare_162 4 rfl ?_
                    refine jr_iadd cx dX7_compare_164 ?_
                    refine jr_top (show (nI (40 * j) : Int32) + (nI n) = nI ((40 * j) + n) from nI_add (40 * j) n) ?_
                    refine jr_iconst (v := 1) cx dX7_compare_165 (by decide) ?_
                    refine jr_isub cx dX7_compare_166 ?_
                    refine jr_top (show (nI ((40 * j) + n) : Int32) - 1 = nI (((40 * j) + n) - 1) from pk_sub (a := (40 * j) + n) (b := 1) (by omega)) ?_
                    refine jr_iald cx dX7_compare_167 (Or.inl ⟨by decide, by decide⟩) (((40 * j) + n) - 1) rfl (show _ < 240 by omega) ?_
                    refine jr_top (show _ = (fun q => g 15 (40 * j + q)) (n - 1) by show _ = g 15 (40 * j + (n - 1)); rw [show 40 * j + n - 1 = 40 * j + (n - 1) by omega]) ?_
                    refine jr_i2l cx dX7_compare_168 ?_
                    refine jr_lsub cx dX7_compare_169 ?_
                    refine jr_lstore (L' := [(7, .long ((((Int32.toInt64 ((fun q => g 15 (40 * j + q)) (1 + d))) + (Int32.toInt64 ((fun q => g 15 (40 * j + q)) (n - 2 - d)))) - (Int32.toInt64 ((fun q => g 15 (40 * j + q)) 0))) - (Int32.toInt64 ((fun q => g 15 (40 * j + q)) (n - 1))))), (6, .int (nI (40 * j))), (0, .ref (E.1 7)), (1, .int (nI j)), (2, .int (nI d)), (4, .int (nI n)), (5, .int (bI ((4 ≤ n ∧ n % 2 = 0) ∧ sHeld (fun q => g 15 (40 * j + q)) k = k)))]) cx dX7_compare_170 (by decide) rfl ?_
                    refine jr_aload_n cx dX7_compare_172 2 rfl rfl ?_
                    refine jr_lload cx dX7_compare_173 0 rfl ?_
                    refine jr_ldc2 cx dX7_compare_175 mc_175 ?_
                    refine jr_iconst (v := 1) cx dX7_compare_178 (by decide) ?_
                    refine jr_vi [.long ((((Int32.toInt64 ((fun q => g 15 (40 * j + q)) (1 + d))) + (Int32.toInt64 ((fun q => g 15 (40 * j + q)) (n - 2 - d)))) - (Int32.toInt64 ((fun q => g 15 (40 * j + q)) 0))) - (Int32.toInt64 ((fun q => g 15 (40 * j + q)) (n - 1)))), .long 2, .int 1] 3 cx dX7_compare_179 (c_X7_tell E g h ((((Int32.toInt64 ((fun q => g 15 (40 * j + q)) (1 + d))) + (Int32.toInt64 ((fun q => g 15 (40 * j + q)) (n - 2 - d)))) - (Int32.toInt64 ((fun q => g 15 (40 * j + q)) 0))) - (Int32.toInt64 ((fun q => g 15 (40 * j + q)) (n - 1)))) 2 1 ((((bd32 _).L.add (bd32 _).L (by decide)).sub (bd32 _).L (by decide)).sub (bd32 _).L (by decide) |>.lt (by decide)) (by decide) (by decide)) (by decide) rfl rfl gX7_compare_X7_tell rfl (by decide +kernel) ⟨Nat.le_of_ble_eq_true rfl, Nat.le_of_ble_eq_true rfl⟩ rfl rfl (Nat.le_of_ble_eq_true rfl) ?_
                    exact jr_ri (by simp only [dCmp, ite_self, en, if_pos hr, if_neg hm, ej]; all_goals rw [if_pos ⟨c87.1.1, c87.1.2, c87.2⟩]; all_goals rw [if_pos c107]; all_goals try rw [ed]; try rfl) (by simp only [dCmp, ite_self, en, if_pos hr, if_neg hm, ej]; all_goals rw [if_pos ⟨c87.1.1, c87.1.2, c87.2⟩]; all_goals rw [if_pos c107]; all_goals try rw [ed]; try rfl) (by simp only [dCmp, ite_self, en, if_pos hr, if_neg hm, ej]; all_goals rw [if_pos ⟨c87.1.1, c87.1.2, c87.2⟩]; all_goals rw [if_pos c107]; all_goals try rw [ed]; try rfl) (hR 182 _ dX7_compare_182)
                  · refine jr_bipush (v := (-9)) cx dX7_compare_110 (by decide) ?_
                    exact jr_ri (by simp only [dCmp, ite_self, en, if_pos hr, if_neg hm, ej]; all_goals rw [if_pos ⟨c87.1.1, c87.1.2, c87.2⟩]; all_goals rw [if_neg c107]; try rfl) (by simp only [dCmp, ite_self, en, if_pos hr, if_neg hm, ej]; all_goals rw [if_pos ⟨c87.1.1, c87.1.2, c87.2⟩]; all_goals rw [if_neg c107]; try rfl) (by simp only [dCmp, ite_self, en, if_pos hr, if_neg hm, ej]; all_goals rw [if_pos ⟨c87.1.1, c87.1.2, c87.2⟩]; all_goals rw [if_neg c107]; try rfl) (hR 112 _ dX7_compare_112)
                · rw [show k = n by omega] at c87
                  refine jr_aload_n cx dX7_compare_90 0 rfl rfl ?_
                  refine jr_iconst (v := 5) cx dX7_compare_91 (by decide) ?_
                  refine jr_vi [.int 5] 1 cx dX7_compare_92 (c_X7_meets E g h 5 (by decide)) (by decide) rfl rfl gX7_compare_X7_meets rfl (by decide +kernel) ⟨Nat.le_of_ble_eq_true rfl, Nat.le_of_ble_eq_true rfl⟩ rfl rfl (Nat.le_of_ble_eq_true rfl) ?_
                  exact jr_ri (by simp only [dCmp, ite_self, en, if_pos hr, if_neg hm, ej]; all_goals rw [if_neg (fun q => c87 ⟨⟨q.1, q.2.1⟩, q.2.2⟩)]; try rfl) (by simp only [dCmp, ite_self, en, if_pos hr, if_neg hm, ej]; all_goals rw [if_neg (fun q => c87 ⟨⟨q.1, q.2.1⟩, q.2.2⟩)]; try rfl) (by simp only [dCmp, ite_self, en, if_pos hr, if_neg hm, ej]; all_goals rw [if_neg (fun q => c87 ⟨⟨q.1, q.2.1⟩, q.2.2⟩)]; try rfl) (hR 95 _ dX7_compare_95)
              · have n47 : ¬ (n ≤ k) := fun qq9 => c47 ((nI_leI (a := n) (b := k) (by omega) (by omega)).mpr qq9)
                refine jr_iload cx dX7_compare_50 4 rfl ?_
                refine jr_bif_eq (tgt := 76) cx dX7_compare_52 (by decide) (fun c52 => ?_) (fun c52 => ?_)
                · refine jr_iconst (v := 0) cx dX7_compare_76 (by decide) ?_
                  refine jr_istore (L' := [(5, .int 0), (0, .ref (E.1 7)), (1, .int (nI j)), (2, .int i), (4, .int (nI n)), (6, .int (nI k))]) cx dX7_compare_77 (by decide) rfl ?_
                  refine jr_iinc (n := 5) (v := nI (k + 1)) (L' := [(6, .int (nI (k + 1))), (5, .int 0), (0, .ref (E.1 7)), (1, .int (nI j)), (2, .int i), (4, .int (nI n))]) cx dX7_compare_79 rfl (nI_1 _) (by decide) rfl ?_
                  refine jr_goto (tgt := 43) cx dX7_compare_82 (by decide) ?_
                  refine jr_pick (L' := [(0, .ref (E.1 7)), (1, .int (nI j)), (2, .int i), (4, .int (nI n)), (5, .int 0), (6, .int (nI (k + 1)))]) [2, 3, 4, 5, 1, 0] rfl ?_
                  have e5 : (0 : Int32) = (bI ((4 ≤ n ∧ n % 2 = 0) ∧ sHeld (fun q => g 15 (40 * j + q)) (k + 1) = (k + 1))) := by exact (bI_f (fun q => c52 ⟨q.1, ((sHeld_s (f := (fun q => g 15 (40 * j + q))) (i := k)).mp q.2).1⟩)).symm
                  refine jr_loc (lc_n (lc_n (lc_n (lc_n (lc_i e5 (lc_n rfl)))))) ?_
                  exact ih2 (k + 1) (by omega) (by omega)
                · refine jr_aload_n cx dX7_compare_55 0 rfl rfl ?_
                  refine jr_get (f := 6) (v := .ref (E.1 15)) cx dX7_compare_56 (by decide) rfl rfl hinX7 (by decide) mf_20 rfl ?_
                  refine jr_bipush (v := 40) cx dX7_compare_59 (by decide) ?_
                  refine jr_iload_n cx dX7_compare_61 1 rfl rfl ?_
                  refine jr_imul cx dX7_compare_62 ?_
                  refine jr_top (show (40 : Int32) * (nI j) = nI (40 * j) from pk_mul 40 j) ?_
                  refine jr_iload cx dX7_compare_63 5 rfl ?_
                  refine jr_iadd cx dX7_compare_65 ?_
                  refine jr_top (show (nI (40 * j) : Int32) + (nI k) = nI ((40 * j) + k) from nI_add (40 * j) k) ?_
                  refine jr_iald cx dX7_compare_66 (Or.inl ⟨by decide, by decide⟩) ((40 * j) + k) rfl (show _ < 240 by omega) ?_
                  refine jr_bipush (v := (-9)) cx dX7_compare_67 (by decide) ?_
                  refine jr_icmp_eq (tgt := 76) cx dX7_compare_69 (by decide) (fun c69 => ?_) (fun c69 => ?_)
                  · refine jr_iconst (v := 0) cx dX7_compare_76 (by decide) ?_
                    refine jr_istore (L' := [(5, .int 0), (0, .ref (E.1 7)), (1, .int (nI j)), (2, .int i), (4, .int (nI n)), (6, .int (nI k))]) cx dX7_compare_77 (by decide) rfl ?_
                    refine jr_iinc (n := 5) (v := nI (k + 1)) (L' := [(6, .int (nI (k + 1))), (5, .int 0), (0, .ref (E.1 7)), (1, .int (nI j)), (2, .int i), (4, .int (nI n))]) cx dX7_compare_79 rfl (nI_1 _) (by decide) rfl ?_
                    refine jr_goto (tgt := 43) cx dX7_compare_82 (by decide) ?_
                    refine jr_pick (L' := [(0, .ref (E.1 7)), (1, .int (nI j)), (2, .int i), (4, .int (nI n)), (5, .int 0), (6, .int (nI (k + 1)))]) [2, 3, 4, 5, 1, 0] rfl ?_
                    have e5 : (0 : Int32) = (bI ((4 ≤ n ∧ n % 2 = 0) ∧ sHeld (fun q => g 15 (40 * j + q)) (k + 1) = (k + 1))) := by exact (bI_f (fun q => ((sHeld_s (f := (fun q => g 15 (40 * j + q))) (i := k)).mp q.2).2 c69)).symm
                    refine jr_loc (lc_n (lc_n (lc_n (lc_n (lc_i e5 (lc_n rfl)))))) ?_
                    exact ih2 (k + 1) (by omega) (by omega)
                  · refine jr_iconst (v := 1) cx dX7_compare_72 (by decide) ?_
                    refine jr_goto (tgt := 77) cx dX7_compare_73 (by decide) ?_
                    refine jr_istore (L' := [(5, .int 1), (0, .ref (E.1 7)), (1, .int (nI j)), (2, .int i), (4, .int (nI n)), (6, .int (nI k))]) cx dX7_compare_77 (by decide) rfl ?_
                    refine jr_iinc (n := 5) (v := nI (k + 1)) (L' := [(6, .int (nI (k + 1))), (5, .int 1), (0, .ref (E.1 7)), (1, .int (nI j)), (2, .int i), (4, .int (nI n))]) cx dX7_compare_79 rfl (nI_1 _) (by decide) rfl ?_
                    refine jr_goto (tgt := 43) cx dX7_compare_82 (by decide) ?_
                    refine jr_pick (L' := [(0, .ref (E.1 7)), (1, .int (nI j)), (2, .int i), (4, .int (nI n)), (5, .int 1), (6, .int (nI (k + 1)))]) [2, 3, 4, 5, 1, 0] rfl ?_
                    have e5 : (1 : Int32) = (bI ((4 ≤ n ∧ n % 2 = 0) ∧ sHeld (fun q => g 15 (40 * j + q)) (k + 1) = (k + 1))) := by exact (bI_t ⟨c52.1, (sHeld_s (f := (fun q => g 15 (40 * j + q))) (i := k)).mpr ⟨c52.2, c69⟩⟩).symm
                    refine jr_loc (lc_n (lc_n (lc_n (lc_n (lc_i e5 (lc_n rfl)))))) ?_
                    exact ih2 (k + 1) (by omega) (by omega)
          refine jr_pick (L' := [(0, .ref (E.1 7)), (1, .int (nI j)), (2, .int i), (4, .int (nI n)), (5, .int 0), (6, .int 0)]) [4, 5, 6, 2, 1, 0] rfl ?_
          have e5 : (0 : Int32) = (bI ((4 ≤ n ∧ n % 2 = 0) ∧ sHeld (fun q => g 15 (40 * j + q)) 0 = 0)) := by exact (bI_f (fun q => by omega)).symm
          have e6 : (0 : Int32) = (nI 0) := by rfl
          refine jr_loc (lc_n (lc_n (lc_n (lc_n (lc_i e5 (lc_i e6 rfl)))))) ?_
          exact key2 (n + 1) 0 (by omega) (by omega)
        · have n30 : n % 2 = 0 := (nI_eq (a := n % 2) (b := 0) (by omega) (by omega)).mp c30
          refine jr_iconst (v := 1) cx dX7_compare_33 (by decide) ?_
          refine jr_goto (tgt := 38) cx dX7_compare_34 (by decide) ?_
          refine jr_istore (L' := [(5, .int 1), (4, .int (nI n)), (3, .int 0), (0, .ref (E.1 7)), (1, .int (nI j)), (2, .int i)]) cx dX7_compare_38 (by decide) rfl ?_
          refine jr_iconst (v := 0) cx dX7_compare_40 (by decide) ?_
          refine jr_istore (L' := [(6, .int 0), (5, .int 1), (4, .int (nI n)), (3, .int 0), (0, .ref (E.1 7)), (1, .int (nI j)), (2, .int i)]) cx dX7_compare_41 (by decide) rfl ?_
          have key3 : ∀ (fu3 : Nat) (k : Nat), n + 1 ≤ k + fu3 → (k ≤ n) → JJ E X g h 43 [(0, .ref (E.1 7)), (1, .int (nI j)), (2, .int i), (4, .int (nI n)), (5, .int (bI ((4 ≤ n ∧ n % 2 = 0) ∧ sHeld (fun q => g 15 (40 * j + q)) k = k))), (6, .int (nI k))] [] := by
            intro fu3
            induction fu3 with
            | zero => intro k hfu3 h1; exfalso; omega
            | succ fu3 ih3 =>
              intro k hfu3 h1
              refine jr_iload cx dX7_compare_43 5 rfl ?_
              refine jr_iload cx dX7_compare_45 3 rfl ?_
              refine jr_icmp_ge (tgt := 85) cx dX7_compare_47 (by decide) (fun c47 => ?_) (fun c47 => ?_)
              · have n47 : n ≤ k := (nI_leI (a := n) (b := k) (by omega) (by omega)).mp c47
                refine jr_iload cx dX7_compare_85 4 rfl ?_
                refine jr_bif_ne (tgt := 96) cx dX7_compare_87 (by decide) (fun c87 => ?_) (fun c87 => ?_)
                · rw [show k = n by omega] at c87
                  refine jr_iload_n cx dX7_compare_96 2 rfl rfl ?_
                  refine jr_iconst (v := 0) cx dX7_compare_97 (by decide) ?_
                  refine jr_iload cx dX7_compare_98 3 rfl ?_
                  refine jr_iconst (v := 2) cx dX7_compare_100 (by decide) ?_
                  refine jr_idiv cx dX7_compare_101 (by decide) ?_
                  refine jr_top (show _ = nI (n / 2) from pk_div (d := 2) (by omega) (by decide) (by decide)) ?_
                  refine jr_iconst (v := 2) cx dX7_compare_102 (by decide) ?_
                  refine jr_isub cx dX7_compare_103 ?_
                  refine jr_top (show (nI (n / 2) : Int32) - 2 = nI ((n / 2) - 2) from pk_sub (a := n / 2) (b := 2) (by omega)) ?_
                  refine jr_si [.int i, .int 0, .int (nI ((n / 2) - 2))] 3 cx dX7_compare_104 (c_X7_in E g h i 0 (nI ((n / 2) - 2))) gX7_compare_X7_in rfl (by decide +kernel) ⟨Nat.le_of_ble_eq_true rfl, Nat.le_of_ble_eq_true rfl⟩ rfl rfl (Nat.le_of_ble_eq_true rfl) ?_
                  refine jr_bif_ne (tgt := 113) cx dX7_compare_107 (by decide) (fun c107 => ?_) (fun c107 => ?_)
                  · obtain ⟨d, hd, rfl⟩ := nI_of2 (n := n / 2 - 2) (nI_toInt (by omega)) c107.1 (Int32.not_lt.mp c107.2); have ed : (nI d).toNatClampNeg = d := cl_nI (by omega)
                    refine jr_bipush (v := 40) cx dX7_compare_113 (by decide) ?_
                    refine jr_iload_n cx dX7_compare_115 1 rfl rfl ?_
                    refine jr_imul cx dX7_compare_116 ?_
                    refine jr_top (show (40 : Int32) * (nI j) = nI (40 * j) from pk_mul 40 j) ?_
                    refine jr_istore (L' := [(6, .int (nI (40 * j))), (0, .ref (E.1 7)), (1, .int (nI j)), (2, .int (nI d)), (4, .int (nI n)), (5, .int (bI ((4 ≤ n ∧ n % 2 = 0) ∧ sHeld (fun q => g 15 (40 * j + q)) k = k)))]) cx dX7_compare_117 (by decide) rfl ?_
                    refine jr_aload_n cx dX7_compare_119 1 rfl rfl ?_
                    refine jr_get (f := 6) (v := .ref (E.1 15)) cx dX7_compare_120 (by decide) rfl rfl hinX7 (by decide) mf_20 rfl ?_
                    refine jr_iload cx dX7_compare_123 0 rfl ?_
                    refine jr_iconst (v := 1) cx dX7_compare_125 (by decide) ?_
                    refine jr_iadd cx dX7_compare_126 ?_
                    refine jr_top (show (nI (40 * j) : Int32) + 1 = nI ((40 * j) + 1) from nI_add (40 * j) 1) ?_
                    refine jr_iload_n cx dX7_compare_127 3 rfl rfl ?_
                    refine jr_iadd cx dX7_compare_128 ?_
                    refine jr_top (show (nI ((40 * j) + 1) : Int32) + (nI d) = nI (((40 * j) + 1) + d) from nI_add ((40 * j) + 1) d) ?_
                    refine jr_iald cx dX7_compare_129 (Or.inl ⟨by decide, by decide⟩) (((40 * j) + 1) + d) rfl (show _ < 240 by omega) ?_
                    refine jr_top (show _ = (fun q => g 15 (40 * j + q)) (1 + d) by show _ = g 15 (40 * j + (1 + d)); rw [Nat.add_assoc]) ?_
                    refine jr_i2l cx dX7_compare_130 ?_
                    refine jr_aload_n cx dX7_compare_131 1 rfl rfl ?_
                    refine jr_get (f := 6) (v := .ref (E.1 15)) cx dX7_compare_132 (by decide) rfl rfl hinX7 (by decide) mf_20 rfl ?_
                    refine jr_iload cx dX7_compare_135 0 rfl ?_
                    refine jr_iload cx dX7_compare_137 4 rfl ?_
                    refine jr_iadd cx dX7_compare_139 ?_
                    refine jr_top (show (nI (40 * j) : Int32) + (nI n) = nI ((40 * j) + n) from nI_add (40 * j) n) ?_
                    refine jr_iconst (v := 2) cx dX7_compare_140 (by decide) ?_
                    refine jr_isub cx dX7_compare_141 ?_
                    refine jr_top (show (nI ((40 * j) + n) : Int32) - 2 = nI (((40 * j) + n) - 2) from pk_sub (a := (40 * j) + n) (b := 2) (by omega)) ?_
                    refine jr_iload_n cx dX7_compare_142 3 rfl rfl ?_
                    refine jr_isub cx dX7_compare_143 ?_
                    refine jr_top (show (nI (((40 * j) + n) - 2) : Int32) - (nI d) = nI ((((40 * j) + n) - 2) - d) from pk_sub (a := ((40 * j) + n) - 2) (b := d) (by omega)) ?_
                    refine jr_iald cx dX7_compare_144 (Or.inl ⟨by decide, by decide⟩) ((((40 * j) + n) - 2) - d) rfl (show _ < 240 by omega) ?_
                    refine jr_top (show _ = (fun q => g 15 (40 * j + q)) (n - 2 - d) by show _ = g 15 (40 * j + (n - 2 - d)); rw [show 40 * j + n - 2 - d = 40 * j + (n - 2 - d) by omega]) ?_
                    refine jr_i2l cx dX7_compare_145 ?_
                    refine jr_ladd cx dX7_compare_146 ?_
                    refine jr_aload_n cx dX7_compare_147 1 rfl rfl ?_
                    refine jr_get (f := 6) (v := .ref (E.1 15)) cx dX7_compare_148 (by decide) rfl rfl hinX7 (by decide) mf_20 rfl ?_
                    refine jr_iload cx dX7_compare_151 0 rfl ?_
                    refine jr_iald cx dX7_compare_153 (Or.inl ⟨by decide, by decide⟩) (40 * j) rfl (show _ < 240 by omega) ?_
                    refine jr_top (show _ = (fun q => g 15 (40 * j + q)) 0 from rfl) ?_
                    refine jr_i2l cx dX7_compare_154 ?_
                    refine jr_lsub cx dX7_compare_155 ?_
                    refine jr_aload_n cx dX7_compare_156 1 rfl rfl ?_
                    refine jr_get (f := 6) (v := .ref (E.1 15)) cx dX7_compare_157 (by decide) rfl rfl hinX7 (by decide) mf_20 rfl ?_
                    refine jr_iload cx dX7_compare_160 0 rfl ?_
                    refine jr_iload cx dX7_compare_162 4 rfl ?_
                    refine jr_iadd cx dX7_compare_164 ?_
                    refine jr_top (show (nI (40 * j) : Int32) + (nI n) = nI ((40 * j) + n) from nI_add (40 * j) n) ?_
                    refine jr_iconst (v := 1) cx dX7_compare_165 (by decide) ?_
                    refine jr_isub cx dX7_compare_166 ?_
                    refine jr_top (show (nI ((40 * j) + n) : Int32) - 1 = nI (((40 * j) + n) - 1) from pk_sub (a := (40 * j) + n) (b := 1) (by omega)) ?_
                    refine jr_iald cx dX7_compare_167 (Or.inl ⟨by decide, by decide⟩) (((40 * j) + n) - 1) rfl (show _ < 240 by omega) ?_
                    refine jr_top (show _ = (fun q => g 15 (40 * j + q)) (n - 1) by show _ = g 15 (40 * j + (n - 1)); rw [show 40 * j + n - 1 = 40 * j + (n - 1) by omega]) ?_
                    refine jr_i2l cx dX7_compare_168 ?_
                    refine jr_lsub cx dX7_compare_169 ?_
                    refine jr_lstore (L' := [(7, .long ((((Int32.toInt64 ((fun q => g 15 (40 * j + q)) (1 + d))) + (Int32.toInt64 ((fun q => g 15 (40 * j + q)) (n - 2 - d)))) - (Int32.toInt64 ((fun q => g 15 (40 * j + q)) 0))) - (Int32.toInt64 ((fun q => g 15 (40 * j + q)) (n - 1))))), (6, .int (nI (40 * j))), (0, .ref (E.1 7)), (1, .int (nI j)), (2, .int (nI d)), (4, .int (nI n)), (5, .int (bI ((4 ≤ n ∧ n % 2 = 0) ∧ sHeld (fun q => g 15 (40 * j + q)) k = k)))]) cx dX7_compare_170 (by decide) rfl ?_
                    refine jr_aload_n cx dX7_compare_172 2 rfl rfl ?_
                    refine jr_lload cx dX7_compare_173 0 rfl ?_
                    refine jr_ldc2 cx dX7_compare_175 mc_175 ?_
                    refine jr_iconst (v := 1) cx dX7_compare_178 (by decide) ?_
                    refine jr_vi [.long ((((Int32.toInt64 ((fun q => g 15 (40 * j + q)) (1 + d))) + (Int32.toInt64 ((fun q => g 15 (40 * j + q)) (n - 2 - d)))) - (Int32.toInt64 ((fun q => g 15 (40 * j + q)) 0))) - (Int32.toInt64 ((fun q => g 15 (40 * j + q)) (n - 1)))), .long 2, .int 1] 3 cx dX7_compare_179 (c_X7_tell E g h ((((Int32.toInt64 ((fun q => g 15 (40 * j + q)) (1 + d))) + (Int32.toInt64 ((fun q => g 15 (40 * j + q)) (n - 2 - d)))) - (Int32.toInt64 ((fun q => g 15 (40 * j + q)) 0))) - (Int32.toInt64 ((fun q => g 15 (40 * j + q)) (n - 1)))) 2 1 ((((bd32 _).L.add (bd32 _).L (by decide)).sub (bd32 _).L (by decide)).sub (bd32 _).L (by decide) |>.lt (by decide)) (by decide) (by decide)) (by decide) rfl rfl gX7_compare_X7_tell rfl (by decide +kernel) ⟨Nat.le_of_ble_eq_true rfl, Nat.le_of_ble_eq_true rfl⟩ rfl rfl (Nat.le_of_ble_eq_true rfl) ?_
                    exact jr_ri (by simp only [dCmp, ite_self, en, if_pos hr, if_neg hm, ej]; all_goals rw [if_pos ⟨c87.1.1, c87.1.2, c87.2⟩]; all_goals rw [if_pos c107]; all_goals try rw [ed]; try rfl) (by simp only [dCmp, ite_self, en, if_pos hr, if_neg hm, ej]; all_goals rw [if_pos ⟨c87.1.1, c87.1.2, c87.2⟩]; all_goals rw [if_pos c107]; all_goals try rw [ed]; try rfl) (by simp only [dCmp, ite_self, en, if_pos hr, if_neg hm, ej]; all_goals rw [if_pos ⟨c87.1.1, c87.1.2, c87.2⟩]; all_goals rw [if_pos c107]; all_goals try rw [ed]; try rfl) (hR 182 _ dX7_compare_182)
                  · refine jr_bipush (v := (-9)) cx dX7_compare_110 (by decide) ?_
                    exact jr_ri (by simp only [dCmp, ite_self, en, if_pos hr, if_neg hm, ej]; all_goals rw [if_pos ⟨c87.1.1, c87.1.2, c87.2⟩]; all_goals rw [if_neg c107]; try rfl) (by simp only [dCmp, ite_self, en, if_pos hr, if_neg hm, ej]; all_goals rw [if_pos ⟨c87.1.1, c87.1.2, c87.2⟩]; all_goals rw [if_neg c107]; try rfl) (by simp only [dCmp, ite_self, en, if_pos hr, if_neg hm, ej]; all_goals rw [if_pos ⟨c87.1.1, c87.1.2, c87.2⟩]; all_goals rw [if_neg c107]; try rfl) (hR 112 _ dX7_compare_112)
                · rw [show k = n by omega] at c87
                  refine jr_aload_n cx dX7_compare_90 0 rfl rfl ?_
                  refine jr_iconst (v := 5) cx dX7_compare_91 (by decide) ?_
                  refine jr_vi [.int 5] 1 cx dX7_compare_92 (c_X7_meets E g h 5 (by decide)) (by decide) rfl rfl gX7_compare_X7_meets rfl (by decide +kernel) ⟨Nat.le_of_ble_eq_true rfl, Nat.le_of_ble_eq_true rfl⟩ rfl rfl (Nat.le_of_ble_eq_true rfl) ?_
                  exact jr_ri (by simp only [dCmp, ite_self, en, if_pos hr, if_neg hm, ej]; all_goals rw [if_neg (fun q => c87 ⟨⟨q.1, q.2.1⟩, q.2.2⟩)]; try rfl) (by simp only [dCmp, ite_self, en, if_pos hr, if_neg hm, ej]; all_goals rw [if_neg (fun q => c87 ⟨⟨q.1, q.2.1⟩, q.2.2⟩)]; try rfl) (by simp only [dCmp, ite_self, en, if_pos hr, if_neg hm, ej]; all_goals rw [if_neg (fun q => c87 ⟨⟨q.1, q.2.1⟩, q.2.2⟩)]; try rfl) (hR 95 _ dX7_compare_95)
              · have n47 : ¬ (n ≤ k) := fun qq9 => c47 ((nI_leI (a := n) (b := k) (by omega) (by omega)).mpr qq9)
                refine jr_iload cx dX7_compare_50 4 rfl ?_
                refine jr_bif_eq (tgt := 76) cx dX7_compare_52 (by decide) (fun c52 => ?_) (fun c52 => ?_)
                · refine jr_iconst (v := 0) cx dX7_compare_76 (by decide) ?_
                  refine jr_istore (L' := [(5, .int 0), (0, .ref (E.1 7)), (1, .int (nI j)), (2, .int i), (4, .int (nI n)), (6, .int (nI k))]) cx dX7_compare_77 (by decide) rfl ?_
                  refine jr_iinc (n := 5) (v := nI (k + 1)) (L' := [(6, .int (nI (k + 1))), (5, .int 0), (0, .ref (E.1 7)), (1, .int (nI j)), (2, .int i), (4, .int (nI n))]) cx dX7_compare_79 rfl (nI_1 _) (by decide) rfl ?_
                  refine jr_goto (tgt := 43) cx dX7_compare_82 (by decide) ?_
                  refine jr_pick (L' := [(0, .ref (E.1 7)), (1, .int (nI j)), (2, .int i), (4, .int (nI n)), (5, .int 0), (6, .int (nI (k + 1)))]) [2, 3, 4, 5, 1, 0] rfl ?_
                  have e5 : (0 : Int32) = (bI ((4 ≤ n ∧ n % 2 = 0) ∧ sHeld (fun q => g 15 (40 * j + q)) (k + 1) = (k + 1))) := by exact (bI_f (fun q => c52 ⟨q.1, ((sHeld_s (f := (fun q => g 15 (40 * j + q))) (i := k)).mp q.2).1⟩)).symm
                  refine jr_loc (lc_n (lc_n (lc_n (lc_n (lc_i e5 (lc_n rfl)))))) ?_
                  exact ih3 (k + 1) (by omega) (by omega)
                · refine jr_aload_n cx dX7_compare_55 0 rfl rfl ?_
                  refine jr_get (f := 6) (v := .ref (E.1 15)) cx dX7_compare_56 (by decide) rfl rfl hinX7 (by decide) mf_20 rfl ?_
                  refine jr_bipush (v := 40) cx dX7_compare_59 (by decide) ?_
                  refine jr_iload_n cx dX7_compare_61 1 rfl rfl ?_
                  refine jr_imul cx dX7_compare_62 ?_
                  refine jr_top (show (40 : Int32) * (nI j) = nI (40 * j) from pk_mul 40 j) ?_
                  refine jr_iload cx dX7_compare_63 5 rfl ?_
                  refine jr_iadd cx dX7_compare_65 ?_
                  refine jr_top (show (nI (40 * j) : Int32) + (nI k) = nI ((40 * j) + k) from nI_add (40 * j) k) ?_
                  refine jr_iald cx dX7_compare_66 (Or.inl ⟨by decide, by decide⟩) ((40 * j) + k) rfl (show _ < 240 by omega) ?_
                  refine jr_bipush (v := (-9)) cx dX7_compare_67 (by decide) ?_
                  refine jr_icmp_eq (tgt := 76) cx dX7_compare_69 (by decide) (fun c69 => ?_) (fun c69 => ?_)
                  · refine jr_iconst (v := 0) cx dX7_compare_76 (by decide) ?_
                    refine jr_istore (L' := [(5, .int 0), (0, .ref (E.1 7)), (1, .int (nI j)), (2, .int i), (4, .int (nI n)), (6, .int (nI k))]) cx dX7_compare_77 (by decide) rfl ?_
                    refine jr_iinc (n := 5) (v := nI (k + 1)) (L' := [(6, .int (nI (k + 1))), (5, .int 0), (0, .ref (E.1 7)), (1, .int (nI j)), (2, .int i), (4, .int (nI n))]) cx dX7_compare_79 rfl (nI_1 _) (by decide) rfl ?_
                    refine jr_goto (tgt := 43) cx dX7_compare_82 (by decide) ?_
                    refine jr_pick (L' := [(0, .ref (E.1 7)), (1, .int (nI j)), (2, .int i), (4, .int (nI n)), (5, .int 0), (6, .int (nI (k + 1)))]) [2, 3, 4, 5, 1, 0] rfl ?_
                    have e5 : (0 : Int32) = (bI ((4 ≤ n ∧ n % 2 = 0) ∧ sHeld (fun q => g 15 (40 * j + q)) (k + 1) = (k + 1))) := by exact (bI_f (fun q => ((sHeld_s (f := (fun q => g 15 (40 * j + q))) (i := k)).mp q.2).2 c69)).symm
                    refine jr_loc (lc_n (lc_n (lc_n (lc_n (lc_i e5 (lc_n rfl)))))) ?_
                    exact ih3 (k + 1) (by omega) (by omega)
                  · refine jr_iconst (v := 1) cx dX7_compare_72 (by decide) ?_
                    refine jr_goto (tgt := 77) cx dX7_compare_73 (by decide) ?_
                    refine jr_istore (L' := [(5, .int 1), (0, .ref (E.1 7)), (1, .int (nI j)), (2, .int i), (4, .int (nI n)), (6, .int (nI k))]) cx dX7_compare_77 (by decide) rfl ?_
                    refine jr_iinc (n := 5) (v := nI (k + 1)) (L' := [(6, .int (nI (k + 1))), (5, .int 1), (0, .ref (E.1 7)), (1, .int (nI j)), (2, .int i), (4, .int (nI n))]) cx dX7_compare_79 rfl (nI_1 _) (by decide) rfl ?_
                    refine jr_goto (tgt := 43) cx dX7_compare_82 (by decide) ?_
                    refine jr_pick (L' := [(0, .ref (E.1 7)), (1, .int (nI j)), (2, .int i), (4, .int (nI n)), (5, .int 1), (6, .int (nI (k + 1)))]) [2, 3, 4, 5, 1, 0] rfl ?_
                    have e5 : (1 : Int32) = (bI ((4 ≤ n ∧ n % 2 = 0) ∧ sHeld (fun q => g 15 (40 * j + q)) (k + 1) = (k + 1))) := by exact (bI_t ⟨c52.1, (sHeld_s (f := (fun q => g 15 (40 * j + q))) (i := k)).mpr ⟨c52.2, c69⟩⟩).symm
                    refine jr_loc (lc_n (lc_n (lc_n (lc_n (lc_i e5 (lc_n rfl)))))) ?_
                    exact ih3 (k + 1) (by omega) (by omega)
          refine jr_pick (L' := [(0, .ref (E.1 7)), (1, .int (nI j)), (2, .int i), (4, .int (nI n)), (5, .int 1), (6, .int 0)]) [4, 5, 6, 2, 1, 0] rfl ?_
          have e5 : (1 : Int32) = (bI ((4 ≤ n ∧ n % 2 = 0) ∧ sHeld (fun q => g 15 (40 * j + q)) 0 = 0)) := by exact (bI_t ⟨⟨by omega, by omega⟩, rfl⟩).symm
          have e6 : (0 : Int32) = (nI 0) := by rfl
          refine jr_loc (lc_n (lc_n (lc_n (lc_n (lc_i e5 (lc_i e6 rfl)))))) ?_
          exact key3 (n + 1) 0 (by omega) (by omega)
  · refine jr_vi [.int r] 1 cx dX7_compare_2 (c_X7_looked_bad E g h r hr) (by decide) rfl rfl gX7_compare_X7_looked rfl (by decide +kernel) ⟨Nat.le_of_ble_eq_true rfl, Nat.le_of_ble_eq_true rfl⟩ rfl rfl (Nat.le_of_ble_eq_true rfl) ?_
    refine jr_istore_n (L' := [(3, .int (-1)), (0, .ref (E.1 7)), (1, .int r), (2, .int i)]) cx dX7_compare_5 rfl (by decide) rfl ?_
    refine jr_iload_n cx dX7_compare_6 0 rfl rfl ?_
    refine jr_if_ge (tgt := 12) cx dX7_compare_7 (by decide) (fun c7 => absurd c7 (by decide)) (fun c7 => ?_)
    refine jr_iload_n cx dX7_compare_10 0 rfl rfl ?_
    exact jr_ri (by simp only [dCmp, ite_self, if_neg hr]; try rfl) (by simp only [dCmp, ite_self, if_neg hr]; try rfl) (by simp only [dCmp, ite_self, if_neg hr]; try rfl) (hR 11 _ dX7_compare_11)
