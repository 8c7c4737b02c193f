theorem sLast_nat (p : Nat → Prop) [DecidablePred p] : ∀ n, sLast p n = -9 ∨ ∃ c, c < n ∧ sLast p n = nI c ∧ p c
  | 0 => Or.inl rfl
  | n + 1 => by
    unfold sLast
    split
    · rename_i q; exact Or.inr ⟨n, by omega, rfl, q⟩
    · rcases sLast_nat p n with h | ⟨c, h1, h2, h3⟩
      · exact Or.inl h
      · exact Or.inr ⟨c, by omega, h2, h3⟩
theorem sLast_neg {p : Nat → Prop} [DecidablePred p] {n : Nat} (hn : n ≤ 40) : sLast p n < 0 ↔ sLast p n = -9 := by
  rcases sLast_nat p n with h | ⟨c, h1, h2, h3⟩
  · rw [h]; decide
  · rw [h2]
    exact ⟨fun q => absurd q (nI_pos (by omega)), fun q => absurd (show nI c < 0 by rw [q]; decide) (nI_pos (by omega))⟩
def dCert {α : Type} (nb n : Nat) (b y ba d o e L : Int32) (bad full state : α) (ok : Int32 → α) : α :=
  if ¬ b < 0 ∧ ¬ nI nb - 1 < b then (if y = -9 ∨ (¬ y < 0 ∧ ¬ nI nb - 1 < y) then (if y = b then bad else if ¬ ba < 0 ∧ ¬ 7 < ba then (if ¬ d < 0 ∧ ¬ 100000 < d then (if inY o then (if ¬ e < 0 ∧ ¬ 10000 < e then (if n = 40 then full else if ¬ y = -9 ∧ L = -9 then state else ok (if y = -9 then -9 else L)) else bad) else bad) else bad) else bad) else bad) else bad
def adCM (g : mm_I) (n : Nat) (b y ba d o e r : Int32) : mm_I := up2 (up2 (up2 (up2 (up2 (up2 (up2 (up2 g 22 n b) 23 n y) 24 n ba) 25 n d) 26 n o) 27 n e) 28 n r) 7 16 (nI (n + 1))
set_option maxHeartbeats 4000000 in
set_option maxRecDepth 100000 in
theorem c_X6_certify (E : mm_E) (g : mm_I) (h : mm_L) (b y ba d o e : Int32) (nb : Nat) (hnb : nb ≤ 16) (hsb : g 3 2 = nI nb) (n : Nat) (hn : n ≤ 40) (hs : g 4 1 = nI n) : Ci E yX6_certify wsX6_certify 2 47 [.ref (E.1 0), .int b, .int y, .int ba, .int d, .int o, .int e] g h (dCert nb n b y ba d o e (sLast (pLU g y d) n) (-1) (-2) (-4) (fun _ => nI n)) (dCert nb n b y ba d o e (sLast (pLU g y d) n) g g g (fun r => adC g n b y ba d o e r)) h := by
  refine ci_i (bytes := cX6_certify) (maxL := 8) (by decide) rfl (Nat.le_of_ble_eq_true rfl) (fun X cx hR => ?_)
  change Cx E X cX6_certify RX6 wsX6_certify 8 2 47 at cx
  change JJ E X g h 0 [(0, .ref (E.1 0)), (1, .int b), (2, .int y), (3, .int ba), (4, .int d), (5, .int o), (6, .int e)] []
  have hinX6 : ∀ w ∈ u_ws RX6 TX6 9, w ∈ wsX6_certify := by decide +kernel
  have mf_26 : Cond.fieldLink RX6 26 (TX6 2).1 (TX6 2).2.1 (TX6 2).2.2.1 ∈ wsX6_certify := by decide +kernel
  have mf_33 : Cond.fieldLink RX6 33 (TX6 3).1 (TX6 3).2.1 (TX6 3).2.2.1 ∈ wsX6_certify := by decide +kernel
  refine jr_aload_n cx dX6_certify_0 0 rfl rfl ?_
  refine jr_get (f := 2) (v := .ref (E.1 3)) cx dX6_certify_1 (by decide) rfl rfl hinX6 (by decide) mf_26 rfl ?_
  refine jr_iload_n cx dX6_certify_4 1 rfl rfl ?_
  refine jr_vi [.int b] 1 cx dX6_certify_5 (c_X0_has E g h b nb hnb hsb) (by decide) rfl rfl gX6_certify_X0_has rfl (by decide +kernel) ⟨Nat.le_of_ble_eq_true rfl, Nat.le_of_ble_eq_true rfl⟩ rfl rfl (Nat.le_of_ble_eq_true rfl) ?_
  refine jr_bif_eq (tgt := 71) cx dX6_certify_8 (by decide) (fun c8 => ?_) (fun c8 => ?_)
  · refine jr_iconst (v := (-1)) cx dX6_certify_71 (by decide) ?_
    exact jr_ri (by simp only [dCert, ite_self, if_neg c8]; try rfl) (by simp only [dCert, ite_self, if_neg c8]; try rfl) (by rfl) (hR 72 _ dX6_certify_72)
  · obtain ⟨z, hz, rfl⟩ := has_nat (by omega) c8; have ed : (nI z).toNatClampNeg = z := cl_nI (by omega)
    refine jr_iload_n cx dX6_certify_11 2 rfl rfl ?_
    refine jr_bipush (v := (-9)) cx dX6_certify_12 (by decide) ?_
    refine jr_icmp_eq (tgt := 28) cx dX6_certify_14 (by decide) (fun c14 => ?_) (fun c14 => ?_)
    · have pby : y = -9 ∨ (¬ y < 0 ∧ ¬ nI nb - 1 < y) := Or.inl c14
      refine jr_iload_n cx dX6_certify_28 2 rfl rfl ?_
      refine jr_iload_n cx dX6_certify_29 1 rfl rfl ?_
      refine jr_icmp_eq (tgt := 71) cx dX6_certify_30 (by decide) (fun c30 => ?_) (fun c30 => ?_)
      · refine jr_iconst (v := (-1)) cx dX6_certify_71 (by decide) ?_
        exact jr_ri (by simp only [dCert, ite_self, if_pos c8, if_pos pby, if_pos c30, ed]; try rfl) (by simp only [dCert, ite_self, if_pos c8, if_pos pby, if_pos c30, ed]; try rfl) (by rfl) (hR 72 _ dX6_certify_72)
      · refine jr_iload_n cx dX6_certify_33 3 rfl rfl ?_
        refine jr_si [.int ba] 1 cx dX6_certify_34 (c_X6_isBath E g h ba) gX6_certify_X6_isBath rfl (by decide +kernel) ⟨Nat.le_of_ble_eq_true rfl, Nat.le_of_ble_eq_true rfl⟩ rfl rfl (Nat.le_of_ble_eq_true rfl) ?_
        refine jr_bif_eq (tgt := 71) cx dX6_certify_37 (by decide) (fun c37 => ?_) (fun c37 => ?_)
        · refine jr_iconst (v := (-1)) cx dX6_certify_71 (by decide) ?_
          exact jr_ri (by simp only [dCert, ite_self, if_pos c8, if_pos pby, if_neg c30, if_neg c37, ed]; try rfl) (by simp only [dCert, ite_self, if_pos c8, if_pos pby, if_neg c30, if_neg c37, ed]; try rfl) (by rfl) (hR 72 _ dX6_certify_72)
        · refine jr_iload cx dX6_certify_40 4 rfl ?_
          refine jr_si [.int d] 1 cx dX6_certify_42 (c_X6_isDay E g h d) gX6_certify_X6_isDay rfl (by decide +kernel) ⟨Nat.le_of_ble_eq_true rfl, Nat.le_of_ble_eq_true rfl⟩ rfl rfl (Nat.le_of_ble_eq_true rfl) ?_
          refine jr_bif_eq (tgt := 71) cx dX6_certify_45 (by decide) (fun c45 => ?_) (fun c45 => ?_)
          · refine jr_iconst (v := (-1)) cx dX6_certify_71 (by decide) ?_
            exact jr_ri (by simp only [dCert, ite_self, if_pos c8, if_pos pby, if_neg c30, if_pos c37, if_neg c45, ed]; try rfl) (by simp only [dCert, ite_self, if_pos c8, if_pos pby, if_neg c30, if_pos c37, if_neg c45, ed]; try rfl) (by rfl) (hR 72 _ dX6_certify_72)
          · refine jr_iload cx dX6_certify_48 5 rfl ?_
            refine jr_sipush (v := 10000) cx dX6_certify_50 (by decide) ?_
            refine jr_si [.int o, .int 10000] 2 cx dX6_certify_53 (c_X6_isWithin E g h o 10000) gX6_certify_X6_isWithin rfl (by decide +kernel) ⟨Nat.le_of_ble_eq_true rfl, Nat.le_of_ble_eq_true rfl⟩ rfl rfl (Nat.le_of_ble_eq_true rfl) ?_
            refine jr_bif_eq (tgt := 71) cx dX6_certify_56 (by decide) (fun c56 => ?_) (fun c56 => ?_)
            · refine jr_iconst (v := (-1)) cx dX6_certify_71 (by decide) ?_
              exact jr_ri (by simp only [dCert, ite_self, if_pos c8, if_pos pby, if_neg c30, if_pos c37, if_pos c45, if_neg c56, ed]; try rfl) (by simp only [dCert, ite_self, if_pos c8, if_pos pby, if_neg c30, if_pos c37, if_pos c45, if_neg c56, ed]; try rfl) (by rfl) (hR 72 _ dX6_certify_72)
            · refine jr_iload cx dX6_certify_59 6 rfl ?_
              refine jr_iconst (v := 0) cx dX6_certify_61 (by decide) ?_
              refine jr_sipush (v := 10000) cx dX6_certify_62 (by decide) ?_
              refine jr_si [.int e, .int 0, .int 10000] 3 cx dX6_certify_65 (c_X6_isBetween E g h e 0 10000) gX6_certify_X6_isBetween rfl (by decide +kernel) ⟨Nat.le_of_ble_eq_true rfl, Nat.le_of_ble_eq_true rfl⟩ rfl rfl (Nat.le_of_ble_eq_true rfl) ?_
              refine jr_bif_ne (tgt := 73) cx dX6_certify_68 (by decide) (fun c68 => ?_) (fun c68 => ?_)
              · refine jr_aload_n cx dX6_certify_73 0 rfl rfl ?_
                refine jr_get (f := 3) (v := .ref (E.1 4)) cx dX6_certify_74 (by decide) rfl rfl hinX6 (by decide) mf_33 rfl ?_
                refine jr_vi [] 0 cx dX6_certify_77 (c_X1_size E g h ) (by decide) rfl rfl gX6_certify_X1_size rfl (by decide +kernel) ⟨Nat.le_of_ble_eq_true rfl, Nat.le_of_ble_eq_true rfl⟩ rfl rfl (Nat.le_of_ble_eq_true rfl) ?_
                refine jr_top hs ?_
                refine jr_bipush (v := 40) cx dX6_certify_80 (by decide) ?_
                refine jr_icmp_lt (tgt := 88) cx dX6_certify_82 (by decide) (fun c82 => ?_) (fun c82 => ?_)
                · have n82 : n < 40 := (nI_ltI (a := n) (b := 40) (by omega) (by omega)).mp c82
                  refine jr_iload_n cx dX6_certify_88 2 rfl rfl ?_
                  refine jr_bipush (v := (-9)) cx dX6_certify_89 (by decide) ?_
                  refine jr_icmp_ne (tgt := 99) cx dX6_certify_91 (by decide) (fun c91 => ?_) (fun c91 => ?_)
                  · exact absurd c14 c91
                  · refine jr_bipush (v := (-9)) cx dX6_certify_94 (by decide) ?_
                    refine jr_goto (tgt := 116) cx dX6_certify_96 (by decide) ?_
                    refine jr_istore (L' := [(7, .int (-9)), (0, .ref (E.1 0)), (1, .int (nI z)), (2, .int y), (3, .int ba), (4, .int d), (5, .int o), (6, .int e)]) cx dX6_certify_116 (by decide) rfl ?_
                    refine jr_iload_n cx dX6_certify_118 3 rfl rfl ?_
                    refine jr_bipush (v := (-9)) cx dX6_certify_119 (by decide) ?_
                    refine jr_icmp_eq (tgt := 134) cx dX6_certify_121 (by decide) (fun c121 => ?_) (fun c121 => ?_)
                    · refine jr_aload_n cx dX6_certify_134 1 rfl rfl ?_
                      refine jr_get (f := 3) (v := .ref (E.1 4)) cx dX6_certify_135 (by decide) rfl rfl hinX6 (by decide) mf_33 rfl ?_
                      refine jr_iload_n cx dX6_certify_138 2 rfl rfl ?_
                      refine jr_iload_n cx dX6_certify_139 3 rfl rfl ?_
                      refine jr_iload_n cx dX6_certify_140 4 rfl rfl ?_
                      refine jr_iload cx dX6_certify_141 5 rfl ?_
                      refine jr_iload cx dX6_certify_143 6 rfl ?_
                      refine jr_iload cx dX6_certify_145 7 rfl ?_
                      refine jr_iload cx dX6_certify_147 0 rfl ?_
                      refine jr_vi [.int (nI z), .int y, .int ba, .int d, .int o, .int e, .int (-9)] 7 cx dX6_certify_149 (c_X1_add E g h (nI z) y ba d o e (-9) n (by omega) hs) (by decide) rfl rfl gX6_certify_X1_add rfl (by decide +kernel) ⟨Nat.le_of_ble_eq_true rfl, Nat.le_of_ble_eq_true rfl⟩ rfl rfl (Nat.le_of_ble_eq_true rfl) ?_
                      exact jr_ri (by simp only [dCert, ite_self, if_pos c8, if_pos pby, if_neg c30, if_pos c37, if_pos c45, if_pos c56, if_pos c68, ed]; rw [if_neg (by omega)]; rw [if_neg (fun q => q.1 c91)]; try rw [if_pos c91]; try rfl) (by simp only [dCert, ite_self, if_pos c8, if_pos pby, if_neg c30, if_pos c37, if_pos c45, if_pos c56, if_pos c68, ed]; rw [if_neg (by omega)]; rw [if_neg (fun q => q.1 c91)]; try rw [if_pos c91]; try rfl) (by rfl) (hR 152 _ dX6_certify_152)
                    · exact absurd c14 c121
                · have n82 : ¬ (n < 40) := fun zz => c82 ((nI_ltI (a := n) (b := 40) (by omega) (by omega)).mpr zz)
                  refine jr_bipush (v := (-2)) cx dX6_certify_85 (by decide) ?_
                  exact jr_ri (by simp only [dCert, ite_self, if_pos c8, if_pos pby, if_neg c30, if_pos c37, if_pos c45, if_pos c56, if_pos c68, ed]; rw [if_pos (by omega)]; try rfl) (by simp only [dCert, ite_self, if_pos c8, if_pos pby, if_neg c30, if_pos c37, if_pos c45, if_pos c56, if_pos c68, ed]; rw [if_pos (by omega)]; try rfl) (by rfl) (hR 87 _ dX6_certify_87)
              · refine jr_iconst (v := (-1)) cx dX6_certify_71 (by decide) ?_
                exact jr_ri (by simp only [dCert, ite_self, if_pos c8, if_pos pby, if_neg c30, if_pos c37, if_pos c45, if_pos c56, if_neg c68, ed]; try rfl) (by simp only [dCert, ite_self, if_pos c8, if_pos pby, if_neg c30, if_pos c37, if_pos c45, if_pos c56, if_neg c68, ed]; try rfl) (by rfl) (hR 72 _ dX6_certify_72)
    · refine jr_aload_n cx dX6_certify_17 0 rfl rfl ?_
      refine jr_get (f := 2) (v := .ref (E.1 3)) cx dX6_certify_18 (by decide) rfl rfl hinX6 (by decide) mf_26 rfl ?_
      refine jr_iload_n cx dX6_certify_21 2 rfl rfl ?_
      refine jr_vi [.int y] 1 cx dX6_certify_22 (c_X0_has E g h y nb hnb hsb) (by decide) rfl rfl gX6_certify_X0_has rfl (by decide +kernel) ⟨Nat.le_of_ble_eq_true rfl, Nat.le_of_ble_eq_true rfl⟩ rfl rfl (Nat.le_of_ble_eq_true rfl) ?_
      refine jr_bif_eq (tgt := 71) cx dX6_certify_25 (by decide) (fun c25 => ?_) (fun c25 => ?_)
      · have pby : ¬ (y = -9 ∨ (¬ y < 0 ∧ ¬ nI nb - 1 < y)) := fun q => q.elim c14 c25
        refine jr_iconst (v := (-1)) cx dX6_certify_71 (by decide) ?_
        exact jr_ri (by simp only [dCert, ite_self, if_pos c8, if_neg pby, ed]; try rfl) (by simp only [dCert, ite_self, if_pos c8, if_neg pby, ed]; try rfl) (by rfl) (hR 72 _ dX6_certify_72)
      · have pby : y = -9 ∨ (¬ y < 0 ∧ ¬ nI nb - 1 < y) := Or.inr c25
        refine jr_iload_n cx dX6_certify_28 2 rfl rfl ?_
        refine jr_iload_n cx dX6_certify_29 1 rfl rfl ?_
        refine jr_icmp_eq (tgt := 71) cx dX6_certify_30 (by decide) (fun c30 => ?_) (fun c30 => ?_)
        · refine jr_iconst (v := (-1)) cx dX6_certify_71 (by decide) ?_
          exact jr_ri (by simp only [dCert, ite_self, if_pos c8, if_pos pby, if_pos c30, ed]; try rfl) (by simp only [dCert, ite_self, if_pos c8, if_pos pby, if_pos c30, ed]; try rfl) (by rfl) (hR 72 _ dX6_certify_72)
        · refine jr_iload_n cx dX6_certify_33 3 rfl rfl ?_
          refine jr_si [.int ba] 1 cx dX6_certify_34 (c_X6_isBath E g h ba) gX6_certify_X6_isBath rfl (by decide +kernel) ⟨Nat.le_of_ble_eq_true rfl, Nat.le_of_ble_eq_true rfl⟩ rfl rfl (Nat.le_of_ble_eq_true rfl) ?_
          refine jr_bif_eq (tgt := 71) cx dX6_certify_37 (by decide) (fun c37 => ?_) (fun c37 => ?_)
          · refine jr_iconst (v := (-1)) cx dX6_certify_71 (by decide) ?_
            exact jr_ri (by simp only [dCert, ite_self, if_pos c8, if_pos pby, if_neg c30, if_neg c37, ed]; try rfl) (by simp only [dCert, ite_self, if_pos c8, if_pos pby, if_neg c30, if_neg c37, ed]; try rfl) (by rfl) (hR 72 _ dX6_certify_72)
          · refine jr_iload cx dX6_certify_40 4 rfl ?_
            refine jr_si [.int d] 1 cx dX6_certify_42 (c_X6_isDay E g h d) gX6_certify_X6_isDay rfl (by decide +kernel) ⟨Nat.le_of_ble_eq_true rfl, Nat.le_of_ble_eq_true rfl⟩ rfl rfl (Nat.le_of_ble_eq_true rfl) ?_
            refine jr_bif_eq (tgt := 71) cx dX6_certify_45 (by decide) (fun c45 => ?_) (fun c45 => ?_)
            · refine jr_iconst (v := (-1)) cx dX6_certify_71 (by decide) ?_
              exact jr_ri (by simp only [dCert, ite_self, if_pos c8, if_pos pby, if_neg c30, if_pos c37, if_neg c45, ed]; try rfl) (by simp only [dCert, ite_self, if_pos c8, if_pos pby, if_neg c30, if_pos c37, if_neg c45, ed]; try rfl) (by rfl) (hR 72 _ dX6_certify_72)
            · refine jr_iload cx dX6_certify_48 5 rfl ?_
              refine jr_sipush (v := 10000) cx dX6_certify_50 (by decide) ?_
              refine jr_si [.int o, .int 10000] 2 cx dX6_certify_53 (c_X6_isWithin E g h o 10000) gX6_certify_X6_isWithin rfl (by decide +kernel) ⟨Nat.le_of_ble_eq_true rfl, Nat.le_of_ble_eq_true rfl⟩ rfl rfl (Nat.le_of_ble_eq_true rfl) ?_
              refine jr_bif_eq (tgt := 71) cx dX6_certify_56 (by decide) (fun c56 => ?_) (fun c56 => ?_)
              · refine jr_iconst (v := (-1)) cx dX6_certify_71 (by decide) ?_
                exact jr_ri (by simp only [dCert, ite_self, if_pos c8, if_pos pby, if_neg c30, if_pos c37, if_pos c45, if_neg c56, ed]; try rfl) (by simp only [dCert, ite_self, if_pos c8, if_pos pby, if_neg c30, if_pos c37, if_pos c45, if_neg c56, ed]; try rfl) (by rfl) (hR 72 _ dX6_certify_72)
              · refine jr_iload cx dX6_certify_59 6 rfl ?_
                refine jr_iconst (v := 0) cx dX6_certify_61 (by decide) ?_
                refine jr_sipush (v := 10000) cx dX6_certify_62 (by decide) ?_
                refine jr_si [.int e, .int 0, .int 10000] 3 cx dX6_certify_65 (c_X6_isBetween E g h e 0 10000) gX6_certify_X6_isBetween rfl (by decide +kernel) ⟨Nat.le_of_ble_eq_true rfl, Nat.le_of_ble_eq_true rfl⟩ rfl rfl (Nat.le_of_ble_eq_true rfl) ?_
                refine jr_bif_ne (tgt := 73) cx dX6_certify_68 (by decide) (fun c68 => ?_) (fun c68 => ?_)
                · refine jr_aload_n cx dX6_certify_73 0 rfl rfl ?_
                  refine jr_get (f := 3) (v := .ref (E.1 4)) cx dX6_certify_74 (by decide) rfl rfl hinX6 (by decide) mf_33 rfl ?_
                  refine jr_vi [] 0 cx dX6_certify_77 (c_X1_size E g h ) (by decide) rfl rfl gX6_certify_X1_size rfl (by decide +kernel) ⟨Nat.le_of_ble_eq_true rfl, Nat.le_of_ble_eq_true rfl⟩ rfl rfl (Nat.le_of_ble_eq_true rfl) ?_
                  refine jr_top hs ?_
                  refine jr_bipush (v := 40) cx dX6_certify_80 (by decide) ?_
                  refine jr_icmp_lt (tgt := 88) cx dX6_certify_82 (by decide) (fun c82 => ?_) (fun c82 => ?_)
                  · have n82 : n < 40 := (nI_ltI (a := n) (b := 40) (by omega) (by omega)).mp c82
                    refine jr_iload_n cx dX6_certify_88 2 rfl rfl ?_
                    refine jr_bipush (v := (-9)) cx dX6_certify_89 (by decide) ?_
                    refine jr_icmp_ne (tgt := 99) cx dX6_certify_91 (by decide) (fun c91 => ?_) (fun c91 => ?_)
                    · refine jr_aload_n cx dX6_certify_99 0 rfl rfl ?_
                      refine jr_get (f := 3) (v := .ref (E.1 4)) cx dX6_certify_100 (by decide) rfl rfl hinX6 (by decide) mf_33 rfl ?_
                      refine jr_iload_n cx dX6_certify_103 2 rfl rfl ?_
                      refine jr_iload cx dX6_certify_104 4 rfl ?_
                      refine jr_aload_n cx dX6_certify_106 0 rfl rfl ?_
                      refine jr_get (f := 3) (v := .ref (E.1 4)) cx dX6_certify_107 (by decide) rfl rfl hinX6 (by decide) mf_33 rfl ?_
                      refine jr_vi [] 0 cx dX6_certify_110 (c_X1_size E g h ) (by decide) rfl rfl gX6_certify_X1_size rfl (by decide +kernel) ⟨Nat.le_of_ble_eq_true rfl, Nat.le_of_ble_eq_true rfl⟩ rfl rfl (Nat.le_of_ble_eq_true rfl) ?_
                      refine jr_top hs ?_
                      refine jr_vi [.int y, .int d, .int (nI n)] 3 cx dX6_certify_113 (c_X1_lastUntil E g h y d n n hn hs (Nat.le_refl n)) (by decide) rfl rfl gX6_certify_X1_lastUntil rfl (by decide +kernel) ⟨Nat.le_of_ble_eq_true rfl, Nat.le_of_ble_eq_true rfl⟩ rfl rfl (Nat.le_of_ble_eq_true rfl) ?_
                      refine jr_istore (L' := [(7, .int (sLast (pLU g y d) n)), (0, .ref (E.1 0)), (1, .int (nI z)), (2, .int y), (3, .int ba), (4, .int d), (5, .int o), (6, .int e)]) cx dX6_certify_116 (by decide) rfl ?_
                      refine jr_iload_n cx dX6_certify_118 3 rfl rfl ?_
                      refine jr_bipush (v := (-9)) cx dX6_certify_119 (by decide) ?_
                      refine jr_icmp_eq (tgt := 134) cx dX6_certify_121 (by decide) (fun c121 => ?_) (fun c121 => ?_)
                      · exact absurd c121 c14
                      · refine jr_iload cx dX6_certify_124 0 rfl ?_
                        refine jr_bipush (v := (-9)) cx dX6_certify_126 (by decide) ?_
                        refine jr_icmp_ne (tgt := 134) cx dX6_certify_128 (by decide) (fun c128 => ?_) (fun c128 => ?_)
                        · have p128 := c128
                          refine jr_aload_n cx dX6_certify_134 1 rfl rfl ?_
                          refine jr_get (f := 3) (v := .ref (E.1 4)) cx dX6_certify_135 (by decide) rfl rfl hinX6 (by decide) mf_33 rfl ?_
                          refine jr_iload_n cx dX6_certify_138 2 rfl rfl ?_
                          refine jr_iload_n cx dX6_certify_139 3 rfl rfl ?_
                          refine jr_iload_n cx dX6_certify_140 4 rfl rfl ?_
                          refine jr_iload cx dX6_certify_141 5 rfl ?_
                          refine jr_iload cx dX6_certify_143 6 rfl ?_
                          refine jr_iload cx dX6_certify_145 7 rfl ?_
                          refine jr_iload cx dX6_certify_147 0 rfl ?_
                          refine jr_vi [.int (nI z), .int y, .int ba, .int d, .int o, .int e, .int (sLast (pLU g y d) n)] 7 cx dX6_certify_149 (c_X1_add E g h (nI z) y ba d o e (sLast (pLU g y d) n) n (by omega) hs) (by decide) rfl rfl gX6_certify_X1_add rfl (by decide +kernel) ⟨Nat.le_of_ble_eq_true rfl, Nat.le_of_ble_eq_true rfl⟩ rfl rfl (Nat.le_of_ble_eq_true rfl) ?_
                          exact jr_ri (by simp only [dCert, ite_self, if_pos c8, if_pos pby, if_neg c30, if_pos c37, if_pos c45, if_pos c56, if_pos c68, ed]; rw [if_neg (by omega)]; rw [if_neg (fun q => p128 q.2)]; try rw [if_neg c91]; try rfl) (by simp only [dCert, ite_self, if_pos c8, if_pos pby, if_neg c30, if_pos c37, if_pos c45, if_pos c56, if_pos c68, ed]; rw [if_neg (by omega)]; rw [if_neg (fun q => p128 q.2)]; try rw [if_neg c91]; try rfl) (by rfl) (hR 152 _ dX6_certify_152)
                        · have p128 := c128
                          refine jr_bipush (v := (-4)) cx dX6_certify_131 (by decide) ?_
                          exact jr_ri (by simp only [dCert, ite_self, if_pos c8, if_pos pby, if_neg c30, if_pos c37, if_pos c45, if_pos c56, if_pos c68, ed]; rw [if_neg (by omega)]; rw [if_pos ⟨c91, p128⟩]; try rfl) (by simp only [dCert, ite_self, if_pos c8, if_pos pby, if_neg c30, if_pos c37, if_pos c45, if_pos c56, if_pos c68, ed]; rw [if_neg (by omega)]; rw [if_pos ⟨c91, p128⟩]; try rfl) (by rfl) (hR 133 _ dX6_certify_133)
                    · exact absurd c91 c14
                  · have n82 : ¬ (n < 40) := fun zz => c82 ((nI_ltI (a := n) (b := 40) (by omega) (by omega)).mpr zz)
                    refine jr_bipush (v := (-2)) cx dX6_certify_85 (by decide) ?_
                    exact jr_ri (by simp only [dCert, ite_self, if_pos c8, if_pos pby, if_neg c30, if_pos c37, if_pos c45, if_pos c56, if_pos c68, ed]; rw [if_pos (by omega)]; try rfl) (by simp only [dCert, ite_self, if_pos c8, if_pos pby, if_neg c30, if_pos c37, if_pos c45, if_pos c56, if_pos c68, ed]; rw [if_pos (by omega)]; try rfl) (by rfl) (hR 87 _ dX6_certify_87)
                · refine jr_iconst (v := (-1)) cx dX6_certify_71 (by decide) ?_
                  exact jr_ri (by simp only [dCert, ite_self, if_pos c8, if_pos pby, if_neg c30, if_pos c37, if_pos c45, if_pos c56, if_neg c68, ed]; try rfl) (by simp only [dCert, ite_self, if_pos c8, if_pos pby, if_neg c30, if_pos c37, if_pos c45, if_pos c56, if_neg c68, ed]; try rfl) (by rfl) (hR 72 _ dX6_certify_72)
set_option maxHeartbeats 4000000 in
set_option maxRecDepth 100000 in
theorem c_X7_certify (E : mm_E) (g : mm_I) (h : mm_L) (b y ba d o e : Int32) (nb : Nat) (hnb : nb ≤ 16) (hsb : g 7 13 = nI nb) (n : Nat) (hn : n ≤ 40) (hs : g 7 16 = nI n) : Ci E yX7_certify wsX7_certify 2 43 [.ref (E.1 7), .int b, .int y, .int ba, .int d, .int o, .int e] g h (dCert nb n b y ba d o e (sLast (pLM g y d) n) (-1) (-2) (-4) (fun _ => nI n)) (dCert nb n b y ba d o e (sLast (pLM g y d) n) g g g (fun r => adCM g n b y ba d o e r)) h := by
  refine ci_i (bytes := cX7_certify) (maxL := 8) (by decide) rfl (Nat.le_of_ble_eq_true rfl) (fun X cx hR => ?_)
  change Cx E X cX7_certify RX7 wsX7_certify 8 2 43 at cx
  change JJ E X g h 0 [(0, .ref (E.1 7)), (1, .int b), (2, .int y), (3, .int ba), (4, .int d), (5, .int o), (6, .int e)] []
  have hinX7 : ∀ w ∈ u_ws RX7 TX7 30, w ∈ wsX7_certify := by decide +kernel
  have mf_147 : Cond.fieldLink RX7 147 (TX7 16).1 (TX7 16).2.1 (TX7 16).2.2.1 ∈ wsX7_certify := by decide +kernel
  have mf_41 : Cond.fieldLink RX7 41 (TX7 17).1 (TX7 17).2.1 (TX7 17).2.2.1 ∈ wsX7_certify := by decide +kernel
  have mf_44 : Cond.fieldLink RX7 44 (TX7 18).1 (TX7 18).2.1 (TX7 18).2.2.1 ∈ wsX7_certify := by decide +kernel
  have mf_47 : Cond.fieldLink RX7 47 (TX7 19).1 (TX7 19).2.1 (TX7 19).2.2.1 ∈ wsX7_certify := by decide +kernel
  have mf_50 : Cond.fieldLink RX7 50 (TX7 20).1 (TX7 20).2.1 (TX7 20).2.2.1 ∈ wsX7_certify := by decide +kernel
  have mf_53 : Cond.fieldLink RX7 53 (TX7 21).1 (TX7 21).2.1 (TX7 21).2.2.1 ∈ wsX7_certify := by decide +kernel
  have mf_56 : Cond.fieldLink RX7 56 (TX7 22).1 (TX7 22).2.1 (TX7 22).2.2.1 ∈ wsX7_certify := by decide +kernel
  have mf_59 : Cond.fieldLink RX7 59 (TX7 23).1 (TX7 23).2.1 (TX7 23).2.2.1 ∈ wsX7_certify := by decide +kernel
  refine jr_aload_n cx dX7_certify_0 0 rfl rfl ?_
  refine jr_iload_n cx dX7_certify_1 1 rfl rfl ?_
  refine jr_vi [.int b] 1 cx dX7_certify_2 (c_X7_isBulb E g h b nb hnb hsb) (by decide) rfl rfl gX7_certify_X7_isBulb rfl (by decide +kernel) ⟨Nat.le_of_ble_eq_true rfl, Nat.le_of_ble_eq_true rfl⟩ rfl rfl (Nat.le_of_ble_eq_true rfl) ?_
  refine jr_bif_eq (tgt := 71) cx dX7_certify_5 (by decide) (fun c5 => ?_) (fun c5 => ?_)
  · refine jr_iconst (v := (-1)) cx dX7_certify_71 (by decide) ?_
    exact jr_ri (by simp only [dCert, ite_self, if_neg c5]; try rfl) (by simp only [dCert, ite_self, if_neg c5]; try rfl) (by rfl) (hR 72 _ dX7_certify_72)
  · obtain ⟨z, hz, rfl⟩ := has_nat (by omega) c5; have ed : (nI z).toNatClampNeg = z := cl_nI (by omega)
    refine jr_iload_n cx dX7_certify_8 2 rfl rfl ?_
    refine jr_bipush (v := (-9)) cx dX7_certify_9 (by decide) ?_
    refine jr_icmp_eq (tgt := 22) cx dX7_certify_11 (by decide) (fun c11 => ?_) (fun c11 => ?_)
    · have pby : y = -9 ∨ (¬ y < 0 ∧ ¬ nI nb - 1 < y) := Or.inl c11
      refine jr_iload_n cx dX7_certify_22 2 rfl rfl ?_
      refine jr_iload_n cx dX7_certify_23 1 rfl rfl ?_
      refine jr_icmp_eq (tgt := 71) cx dX7_certify_24 (by decide) (fun c24 => ?_) (fun c24 => ?_)
      · refine jr_iconst (v := (-1)) cx dX7_certify_71 (by decide) ?_
        exact jr_ri (by simp only [dCert, ite_self, if_pos c5, if_pos pby, if_pos c24, ed]; try rfl) (by simp only [dCert, ite_self, if_pos c5, if_pos pby, if_pos c24, ed]; try rfl) (by rfl) (hR 72 _ dX7_certify_72)
      · refine jr_iload_n cx dX7_certify_27 3 rfl rfl ?_
        refine jr_iconst (v := 0) cx dX7_certify_28 (by decide) ?_
        refine jr_bipush (v := 7) cx dX7_certify_29 (by decide) ?_
        refine jr_si [.int ba, .int 0, .int 7] 3 cx dX7_certify_31 (c_X7_in E g h ba 0 7) gX7_certify_X7_in rfl (by decide +kernel) ⟨Nat.le_of_ble_eq_true rfl, Nat.le_of_ble_eq_true rfl⟩ rfl rfl (Nat.le_of_ble_eq_true rfl) ?_
        refine jr_bif_eq (tgt := 71) cx dX7_certify_34 (by decide) (fun c34 => ?_) (fun c34 => ?_)
        · refine jr_iconst (v := (-1)) cx dX7_certify_71 (by decide) ?_
          exact jr_ri (by simp only [dCert, ite_self, if_pos c5, if_pos pby, if_neg c24, if_neg c34, ed]; try rfl) (by simp only [dCert, ite_self, if_pos c5, if_pos pby, if_neg c24, if_neg c34, ed]; try rfl) (by rfl) (hR 72 _ dX7_certify_72)
        · refine jr_iload cx dX7_certify_37 4 rfl ?_
          refine jr_si [.int d] 1 cx dX7_certify_39 (c_X7_isDay E g h d) gX7_certify_X7_isDay rfl (by decide +kernel) ⟨Nat.le_of_ble_eq_true rfl, Nat.le_of_ble_eq_true rfl⟩ rfl rfl (Nat.le_of_ble_eq_true rfl) ?_
          refine jr_bif_eq (tgt := 71) cx dX7_certify_42 (by decide) (fun c42 => ?_) (fun c42 => ?_)
          · refine jr_iconst (v := (-1)) cx dX7_certify_71 (by decide) ?_
            exact jr_ri (by simp only [dCert, ite_self, if_pos c5, if_pos pby, if_neg c24, if_pos c34, if_neg c42, ed]; try rfl) (by simp only [dCert, ite_self, if_pos c5, if_pos pby, if_neg c24, if_pos c34, if_neg c42, ed]; try rfl) (by rfl) (hR 72 _ dX7_certify_72)
          · refine jr_iload cx dX7_certify_45 5 rfl ?_
            refine jr_sipush (v := (-10000)) cx dX7_certify_47 (by decide) ?_
            refine jr_sipush (v := 10000) cx dX7_certify_50 (by decide) ?_
            refine jr_si [.int o, .int (-10000), .int 10000] 3 cx dX7_certify_53 (c_X7_in E g h o (-10000) 10000) gX7_certify_X7_in rfl (by decide +kernel) ⟨Nat.le_of_ble_eq_true rfl, Nat.le_of_ble_eq_true rfl⟩ rfl rfl (Nat.le_of_ble_eq_true rfl) ?_
            refine jr_bif_eq (tgt := 71) cx dX7_certify_56 (by decide) (fun c56 => ?_) (fun c56 => ?_)
            · refine jr_iconst (v := (-1)) cx dX7_certify_71 (by decide) ?_
              exact jr_ri (by simp only [dCert, ite_self, if_pos c5, if_pos pby, if_neg c24, if_pos c34, if_pos c42, if_neg c56, ed]; try rfl) (by simp only [dCert, ite_self, if_pos c5, if_pos pby, if_neg c24, if_pos c34, if_pos c42, if_neg c56, ed]; try rfl) (by rfl) (hR 72 _ dX7_certify_72)
            · refine jr_iload cx dX7_certify_59 6 rfl ?_
              refine jr_iconst (v := 0) cx dX7_certify_61 (by decide) ?_
              refine jr_sipush (v := 10000) cx dX7_certify_62 (by decide) ?_
              refine jr_si [.int e, .int 0, .int 10000] 3 cx dX7_certify_65 (c_X7_in E g h e 0 10000) gX7_certify_X7_in rfl (by decide +kernel) ⟨Nat.le_of_ble_eq_true rfl, Nat.le_of_ble_eq_true rfl⟩ rfl rfl (Nat.le_of_ble_eq_true rfl) ?_
              refine jr_bif_ne (tgt := 73) cx dX7_certify_68 (by decide) (fun c68 => ?_) (fun c68 => ?_)
              · refine jr_aload_n cx dX7_certify_73 0 rfl rfl ?_
                refine jr_get (f := 16) (v := .int (g 7 16)) cx dX7_certify_74 (by decide) rfl rfl hinX7 (by decide) mf_147 rfl ?_
                refine jr_top hs ?_
                refine jr_bipush (v := 40) cx dX7_certify_77 (by decide) ?_
                refine jr_icmp_ne (tgt := 85) cx dX7_certify_79 (by decide) (fun c79 => ?_) (fun c79 => ?_)
                · have n79 : ¬ (n = 40) := fun zz => c79 ((nI_eq (a := n) (b := 40) (by omega) (by omega)).mpr zz)
                  refine jr_iload_n cx dX7_certify_85 2 rfl rfl ?_
                  refine jr_bipush (v := (-9)) cx dX7_certify_86 (by decide) ?_
                  refine jr_icmp_ne (tgt := 96) cx dX7_certify_88 (by decide) (fun c88 => ?_) (fun c88 => ?_)
                  · exact absurd c11 c88
                  · refine jr_bipush (v := (-9)) cx dX7_certify_91 (by decide) ?_
                    refine jr_goto (tgt := 107) cx dX7_certify_93 (by decide) ?_
                    refine jr_istore (L' := [(7, .int (-9)), (0, .ref (E.1 7)), (1, .int (nI z)), (2, .int y), (3, .int ba), (4, .int d), (5, .int o), (6, .int e)]) cx dX7_certify_107 (by decide) rfl ?_
                    refine jr_iload_n cx dX7_certify_109 3 rfl rfl ?_
                    refine jr_bipush (v := (-9)) cx dX7_certify_110 (by decide) ?_
                    refine jr_icmp_eq (tgt := 123) cx dX7_certify_112 (by decide) (fun c112 => ?_) (fun c112 => ?_)
                    · refine jr_aload_n cx dX7_certify_123 1 rfl rfl ?_
                      refine jr_get (f := 17) (v := .ref (E.1 22)) cx dX7_certify_124 (by decide) rfl rfl hinX7 (by decide) mf_41 rfl ?_
                      refine jr_aload_n cx dX7_certify_127 1 rfl rfl ?_
                      refine jr_get (f := 16) (v := .int (g 7 16)) cx dX7_certify_128 (by decide) rfl rfl hinX7 (by decide) mf_147 rfl ?_
                      refine jr_top hs ?_
                      refine jr_iload_n cx dX7_certify_131 2 rfl rfl ?_
                      refine jr_iast cx dX7_certify_132 (Or.inl ⟨by decide, by decide⟩) n rfl (show _ < 40 by omega) ?_
                      refine jr_aload_n cx dX7_certify_133 1 rfl rfl ?_
                      refine jr_get (f := 18) (v := .ref (E.1 23)) cx dX7_certify_134 (by decide) rfl rfl hinX7 (by decide) mf_44 rfl ?_
                      refine jr_aload_n cx dX7_certify_137 1 rfl rfl ?_
                      refine jr_get (f := 16) (v := .int ((up2 g 22 n (nI z)) 7 16)) cx dX7_certify_138 (by decide) rfl rfl hinX7 (by decide) mf_147 rfl ?_
                      refine jr_top (show _ = nI n from hs) ?_
                      refine jr_iload_n cx dX7_certify_141 3 rfl rfl ?_
                      refine jr_iast cx dX7_certify_142 (Or.inl ⟨by decide, by decide⟩) n rfl (show _ < 40 by omega) ?_
                      refine jr_aload_n cx dX7_certify_143 1 rfl rfl ?_
                      refine jr_get (f := 19) (v := .ref (E.1 24)) cx dX7_certify_144 (by decide) rfl rfl hinX7 (by decide) mf_47 rfl ?_
                      refine jr_aload_n cx dX7_certify_147 1 rfl rfl ?_
                      refine jr_get (f := 16) (v := .int ((up2 (up2 g 22 n (nI z)) 23 n y) 7 16)) cx dX7_certify_148 (by decide) rfl rfl hinX7 (by decide) mf_147 rfl ?_
                      refine jr_top (show _ = nI n from hs) ?_
                      refine jr_iload_n cx dX7_certify_151 4 rfl rfl ?_
                      refine jr_iast cx dX7_certify_152 (Or.inl ⟨by decide, by decide⟩) n rfl (show _ < 40 by omega) ?_
                      refine jr_aload_n cx dX7_certify_153 1 rfl rfl ?_
                      refine jr_get (f := 20) (v := .ref (E.1 25)) cx dX7_certify_154 (by decide) rfl rfl hinX7 (by decide) mf_50 rfl ?_
                      refine jr_aload_n cx dX7_certify_157 1 rfl rfl ?_
                      refine jr_get (f := 16) (v := .int ((up2 (up2 (up2 g 22 n (nI z)) 23 n y) 24 n ba) 7 16)) cx dX7_certify_158 (by decide) rfl rfl hinX7 (by decide) mf_147 rfl ?_
                      refine jr_top (show _ = nI n from hs) ?_
                      refine jr_iload cx dX7_certify_161 5 rfl ?_
                      refine jr_iast cx dX7_certify_163 (Or.inl ⟨by decide, by decide⟩) n rfl (show _ < 40 by omega) ?_
                      refine jr_aload_n cx dX7_certify_164 1 rfl rfl ?_
                      refine jr_get (f := 21) (v := .ref (E.1 26)) cx dX7_certify_165 (by decide) rfl rfl hinX7 (by decide) mf_53 rfl ?_
                      refine jr_aload_n cx dX7_certify_168 1 rfl rfl ?_
                      refine jr_get (f := 16) (v := .int ((up2 (up2 (up2 (up2 g 22 n (nI z)) 23 n y) 24 n ba) 25 n d) 7 16)) cx dX7_certify_169 (by decide) rfl rfl hinX7 (by decide) mf_147 rfl ?_
                      refine jr_top (show _ = nI n from hs) ?_
                      refine jr_iload cx dX7_certify_172 6 rfl ?_
                      refine jr_iast cx dX7_certify_174 (Or.inl ⟨by decide, by decide⟩) n rfl (show _ < 40 by omega) ?_
                      refine jr_aload_n cx dX7_certify_175 1 rfl rfl ?_
                      refine jr_get (f := 22) (v := .ref (E.1 27)) cx dX7_certify_176 (by decide) rfl rfl hinX7 (by decide) mf_56 rfl ?_
                      refine jr_aload_n cx dX7_certify_179 1 rfl rfl ?_
                      refine jr_get (f := 16) (v := .int ((up2 (up2 (up2 (up2 (up2 g 22 n (nI z)) 23 n y) 24 n ba) 25 n d) 26 n o) 7 16)) cx dX7_certify_180 (by decide) rfl rfl hinX7 (by decide) mf_147 rfl ?_
                      refine jr_top (show _ = nI n from hs) ?_
                      refine jr_iload cx dX7_certify_183 7 rfl ?_
                      refine jr_iast cx dX7_certify_185 (Or.inl ⟨by decide, by decide⟩) n rfl (show _ < 40 by omega) ?_
                      refine jr_aload_n cx dX7_certify_186 1 rfl rfl ?_
                      refine jr_get (f := 23) (v := .ref (E.1 28)) cx dX7_certify_187 (by decide) rfl rfl hinX7 (by decide) mf_59 rfl ?_
                      refine jr_aload_n cx dX7_certify_190 1 rfl rfl ?_
                      refine jr_get (f := 16) (v := .int ((up2 (up2 (up2 (up2 (up2 (up2 g 22 n (nI z)) 23 n y) 24 n ba) 25 n d) 26 n o) 27 n e) 7 16)) cx dX7_certify_191 (by decide) rfl rfl hinX7 (by decide) mf_147 rfl ?_
                      refine jr_top (show _ = nI n from hs) ?_
                      refine jr_iload cx dX7_certify_194 0 rfl ?_
                      refine jr_iast cx dX7_certify_196 (Or.inl ⟨by decide, by decide⟩) n rfl (show _ < 40 by omega) ?_
                      refine jr_aload_n cx dX7_certify_197 1 rfl rfl ?_
                      refine jr_dup cx dX7_certify_198 rfl ?_
                      refine jr_get (f := 16) (v := .int ((up2 (up2 (up2 (up2 (up2 (up2 (up2 g 22 n (nI z)) 23 n y) 24 n ba) 25 n d) 26 n o) 27 n e) 28 n (-9)) 7 16)) cx dX7_certify_199 (by decide) rfl rfl hinX7 (by decide) mf_147 rfl ?_
                      refine jr_top (show _ = nI n from hs) ?_
                      refine jr_iconst (v := 1) cx dX7_certify_202 (by decide) ?_
                      refine jr_iadd cx dX7_certify_203 ?_
                      refine jr_top (show (nI n : Int32) + 1 = nI (n + 1) from nI_add n 1) ?_
                      refine jr_put_X7_16 cx dX7_certify_204 hinX7 mf_147 ?_
                      refine jr_aload_n cx dX7_certify_207 1 rfl rfl ?_
                      refine jr_get (f := 16) (v := .int ((up2 (up2 (up2 (up2 (up2 (up2 (up2 (up2 g 22 n (nI z)) 23 n y) 24 n ba) 25 n d) 26 n o) 27 n e) 28 n (-9)) 7 16 (nI (n + 1))) 7 16)) cx dX7_certify_208 (by decide) rfl rfl hinX7 (by decide) mf_147 rfl ?_
                      refine jr_top (show _ = nI (n + 1) from rfl) ?_
                      refine jr_iconst (v := 1) cx dX7_certify_211 (by decide) ?_
                      refine jr_isub cx dX7_certify_212 ?_
                      refine jr_top (nI_pred n) ?_
                      exact jr_ri (by simp only [dCert, ite_self, if_pos c5, if_pos pby, if_neg c24, if_pos c34, if_pos c42, if_pos c56, if_pos c68, ed]; rw [if_neg (by omega)]; rw [if_neg (fun q => q.1 c88)]; try rw [if_pos c88]; try rfl) (by simp only [dCert, ite_self, if_pos c5, if_pos pby, if_neg c24, if_pos c34, if_pos c42, if_pos c56, if_pos c68, ed]; rw [if_neg (by omega)]; rw [if_neg (fun q => q.1 c88)]; try rw [if_pos c88]; try rfl) (by rfl) (hR 213 _ dX7_certify_213)
                    · exact absurd c11 c112
                · have n79 : n = 40 := (nI_eq (a := n) (b := 40) (by omega) (by omega)).mp c79
                  refine jr_bipush (v := (-2)) cx dX7_certify_82 (by decide) ?_
                  exact jr_ri (by simp only [dCert, ite_self, if_pos c5, if_pos pby, if_neg c24, if_pos c34, if_pos c42, if_pos c56, if_pos c68, ed]; rw [if_pos (by omega)]; try rfl) (by simp only [dCert, ite_self, if_pos c5, if_pos pby, if_neg c24, if_pos c34, if_pos c42, if_pos c56, if_pos c68, ed]; rw [if_pos (by omega)]; try rfl) (by rfl) (hR 84 _ dX7_certify_84)
              · refine jr_iconst (v := (-1)) cx dX7_certify_71 (by decide) ?_
                exact jr_ri (by simp only [dCert, ite_self, if_pos c5, if_pos pby, if_neg c24, if_pos c34, if_pos c42, if_pos c56, if_neg c68, ed]; try rfl) (by simp only [dCert, ite_self, if_pos c5, if_pos pby, if_neg c24, if_pos c34, if_pos c42, if_pos c56, if_neg c68, ed]; try rfl) (by rfl) (hR 72 _ dX7_certify_72)
    · refine jr_aload_n cx dX7_certify_14 0 rfl rfl ?_
      refine jr_iload_n cx dX7_certify_15 2 rfl rfl ?_
      refine jr_vi [.int y] 1 cx dX7_certify_16 (c_X7_isBulb E g h y nb hnb hsb) (by decide) rfl rfl gX7_certify_X7_isBulb rfl (by decide +kernel) ⟨Nat.le_of_ble_eq_true rfl, Nat.le_of_ble_eq_true rfl⟩ rfl rfl (Nat.le_of_ble_eq_true rfl) ?_
      refine jr_bif_eq (tgt := 71) cx dX7_certify_19 (by decide) (fun c19 => ?_) (fun c19 => ?_)
      · have pby : ¬ (y = -9 ∨ (¬ y < 0 ∧ ¬ nI nb - 1 < y)) := fun q => q.elim c11 c19
        refine jr_iconst (v := (-1)) cx dX7_certify_71 (by decide) ?_
        exact jr_ri (by simp only [dCert, ite_self, if_pos c5, if_neg pby, ed]; try rfl) (by simp only [dCert, ite_self, if_pos c5, if_neg pby, ed]; try rfl) (by rfl) (hR 72 _ dX7_certify_72)
      · have pby : y = -9 ∨ (¬ y < 0 ∧ ¬ nI nb - 1 < y) := Or.inr c19
        refine jr_iload_n cx dX7_certify_22 2 rfl rfl ?_
        refine jr_iload_n cx dX7_certify_23 1 rfl rfl ?_
        refine jr_icmp_eq (tgt := 71) cx dX7_certify_24 (by decide) (fun c24 => ?_) (fun c24 => ?_)
        · refine jr_iconst (v := (-1)) cx dX7_certify_71 (by decide) ?_
          exact jr_ri (by simp only [dCert, ite_self, if_pos c5, if_pos pby, if_pos c24, ed]; try rfl) (by simp only [dCert, ite_self, if_pos c5, if_pos pby, if_pos c24, ed]; try rfl) (by rfl) (hR 72 _ dX7_certify_72)
        · refine jr_iload_n cx dX7_certify_27 3 rfl rfl ?_
          refine jr_iconst (v := 0) cx dX7_certify_28 (by decide) ?_
          refine jr_bipush (v := 7) cx dX7_certify_29 (by decide) ?_
          refine jr_si [.int ba, .int 0, .int 7] 3 cx dX7_certify_31 (c_X7_in E g h ba 0 7) gX7_certify_X7_in rfl (by decide +kernel) ⟨Nat.le_of_ble_eq_true rfl, Nat.le_of_ble_eq_true rfl⟩ rfl rfl (Nat.le_of_ble_eq_true rfl) ?_
          refine jr_bif_eq (tgt := 71) cx dX7_certify_34 (by decide) (fun c34 => ?_) (fun c34 => ?_)
          · refine jr_iconst (v := (-1)) cx dX7_certify_71 (by decide) ?_
            exact jr_ri (by simp only [dCert, ite_self, if_pos c5, if_pos pby, if_neg c24, if_neg c34, ed]; try rfl) (by simp only [dCert, ite_self, if_pos c5, if_pos pby, if_neg c24, if_neg c34, ed]; try rfl) (by rfl) (hR 72 _ dX7_certify_72)
          · refine jr_iload cx dX7_certify_37 4 rfl ?_
            refine jr_si [.int d] 1 cx dX7_certify_39 (c_X7_isDay E g h d) gX7_certify_X7_isDay rfl (by decide +kernel) ⟨Nat.le_of_ble_eq_true rfl, Nat.le_of_ble_eq_true rfl⟩ rfl rfl (Nat.le_of_ble_eq_true rfl) ?_
            refine jr_bif_eq (tgt := 71) cx dX7_certify_42 (by decide) (fun c42 => ?_) (fun c42 => ?_)
            · refine jr_iconst (v := (-1)) cx dX7_certify_71 (by decide) ?_
              exact jr_ri (by simp only [dCert, ite_self, if_pos c5, if_pos pby, if_neg c24, if_pos c34, if_neg c42, ed]; try rfl) (by simp only [dCert, ite_self, if_pos c5, if_pos pby, if_neg c24, if_pos c34, if_neg c42, ed]; try rfl) (by rfl) (hR 72 _ dX7_certify_72)
            · refine jr_iload cx dX7_certify_45 5 rfl ?_
              refine jr_sipush (v := (-10000)) cx dX7_certify_47 (by decide) ?_
              refine jr_sipush (v := 10000) cx dX7_certify_50 (by decide) ?_
              refine jr_si [.int o, .int (-10000), .int 10000] 3 cx dX7_certify_53 (c_X7_in E g h o (-10000) 10000) gX7_certify_X7_in rfl (by decide +kernel) ⟨Nat.le_of_ble_eq_true rfl, Nat.le_of_ble_eq_true rfl⟩ rfl rfl (Nat.le_of_ble_eq_true rfl) ?_
              refine jr_bif_eq (tgt := 71) cx dX7_certify_56 (by decide) (fun c56 => ?_) (fun c56 => ?_)
              · refine jr_iconst (v := (-1)) cx dX7_certify_71 (by decide) ?_
                exact jr_ri (by simp only [dCert, ite_self, if_pos c5, if_pos pby, if_neg c24, if_pos c34, if_pos c42, if_neg c56, ed]; try rfl) (by simp only [dCert, ite_self, if_pos c5, if_pos pby, if_neg c24, if_pos c34, if_pos c42, if_neg c56, ed]; try rfl) (by rfl) (hR 72 _ dX7_certify_72)
              · refine jr_iload cx dX7_certify_59 6 rfl ?_
                refine jr_iconst (v := 0) cx dX7_certify_61 (by decide) ?_
                refine jr_sipush (v := 10000) cx dX7_certify_62 (by decide) ?_
                refine jr_si [.int e, .int 0, .int 10000] 3 cx dX7_certify_65 (c_X7_in E g h e 0 10000) gX7_certify_X7_in rfl (by decide +kernel) ⟨Nat.le_of_ble_eq_true rfl, Nat.le_of_ble_eq_true rfl⟩ rfl rfl (Nat.le_of_ble_eq_true rfl) ?_
                refine jr_bif_ne (tgt := 73) cx dX7_certify_68 (by decide) (fun c68 => ?_) (fun c68 => ?_)
                · refine jr_aload_n cx dX7_certify_73 0 rfl rfl ?_
                  refine jr_get (f := 16) (v := .int (g 7 16)) cx dX7_certify_74 (by decide) rfl rfl hinX7 (by decide) mf_147 rfl ?_
                  refine jr_top hs ?_
                  refine jr_bipush (v := 40) cx dX7_certify_77 (by decide) ?_
                  refine jr_icmp_ne (tgt := 85) cx dX7_certify_79 (by decide) (fun c79 => ?_) (fun c79 => ?_)
                  · have n79 : ¬ (n = 40) := fun zz => c79 ((nI_eq (a := n) (b := 40) (by omega) (by omega)).mpr zz)
                    refine jr_iload_n cx dX7_certify_85 2 rfl rfl ?_
                    refine jr_bipush (v := (-9)) cx dX7_certify_86 (by decide) ?_
                    refine jr_icmp_ne (tgt := 96) cx dX7_certify_88 (by decide) (fun c88 => ?_) (fun c88 => ?_)
                    · refine jr_aload_n cx dX7_certify_96 0 rfl rfl ?_
                      refine jr_iload_n cx dX7_certify_97 2 rfl rfl ?_
                      refine jr_iload cx dX7_certify_98 4 rfl ?_
                      refine jr_aload_n cx dX7_certify_100 0 rfl rfl ?_
                      refine jr_get (f := 16) (v := .int (g 7 16)) cx dX7_certify_101 (by decide) rfl rfl hinX7 (by decide) mf_147 rfl ?_
                      refine jr_top hs ?_
                      refine jr_vi [.int y, .int d, .int (nI n)] 3 cx dX7_certify_104 (c_X7_lastOf E g h y d n hn) (by decide) rfl rfl gX7_certify_X7_lastOf rfl (by decide +kernel) ⟨Nat.le_of_ble_eq_true rfl, Nat.le_of_ble_eq_true rfl⟩ rfl rfl (Nat.le_of_ble_eq_true rfl) ?_
                      refine jr_istore (L' := [(7, .int (sLast (pLM g y d) n)), (0, .ref (E.1 7)), (1, .int (nI z)), (2, .int y), (3, .int ba), (4, .int d), (5, .int o), (6, .int e)]) cx dX7_certify_107 (by decide) rfl ?_
                      refine jr_iload_n cx dX7_certify_109 3 rfl rfl ?_
                      refine jr_bipush (v := (-9)) cx dX7_certify_110 (by decide) ?_
                      refine jr_icmp_eq (tgt := 123) cx dX7_certify_112 (by decide) (fun c112 => ?_) (fun c112 => ?_)
                      · exact absurd c112 c11
                      · refine jr_iload cx dX7_certify_115 0 rfl ?_
                        refine jr_if_ge (tgt := 123) cx dX7_certify_117 (by decide) (fun c117 => ?_) (fun c117 => ?_)
                        · have p117 : ¬ sLast (pLM g y d) n = -9 := fun q => absurd ((sLast_neg hn).mpr q) (Int32.not_lt.mpr c117)
                          refine jr_aload_n cx dX7_certify_123 1 rfl rfl ?_
                          refine jr_get (f := 17) (v := .ref (E.1 22)) cx dX7_certify_124 (by decide) rfl rfl hinX7 (by decide) mf_41 rfl ?_
                          refine jr_aload_n cx dX7_certify_127 1 rfl rfl ?_
                          refine jr_get (f := 16) (v := .int (g 7 16)) cx dX7_certify_128 (by decide) rfl rfl hinX7 (by decide) mf_147 rfl ?_
                          refine jr_top hs ?_
                          refine jr_iload_n cx dX7_certify_131 2 rfl rfl ?_
                          refine jr_iast cx dX7_certify_132 (Or.inl ⟨by decide, by decide⟩) n rfl (show _ < 40 by omega) ?_
                          refine jr_aload_n cx dX7_certify_133 1 rfl rfl ?_
                          refine jr_get (f := 18) (v := .ref (E.1 23)) cx dX7_certify_134 (by decide) rfl rfl hinX7 (by decide) mf_44 rfl ?_
                          refine jr_aload_n cx dX7_certify_137 1 rfl rfl ?_
                          refine jr_get (f := 16) (v := .int ((up2 g 22 n (nI z)) 7 16)) cx dX7_certify_138 (by decide) rfl rfl hinX7 (by decide) mf_147 rfl ?_
                          refine jr_top (show _ = nI n from hs) ?_
                          refine jr_iload_n cx dX7_certify_141 3 rfl rfl ?_
                          refine jr_iast cx dX7_certify_142 (Or.inl ⟨by decide, by decide⟩) n rfl (show _ < 40 by omega) ?_
                          refine jr_aload_n cx dX7_certify_143 1 rfl rfl ?_
                          refine jr_get (f := 19) (v := .ref (E.1 24)) cx dX7_certify_144 (by decide) rfl rfl hinX7 (by decide) mf_47 rfl ?_
                          refine jr_aload_n cx dX7_certify_147 1 rfl rfl ?_
                          refine jr_get (f := 16) (v := .int ((up2 (up2 g 22 n (nI z)) 23 n y) 7 16)) cx dX7_certify_148 (by decide) rfl rfl hinX7 (by decide) mf_147 rfl ?_
                          refine jr_top (show _ = nI n from hs) ?_
                          refine jr_iload_n cx dX7_certify_151 4 rfl rfl ?_
                          refine jr_iast cx dX7_certify_152 (Or.inl ⟨by decide, by decide⟩) n rfl (show _ < 40 by omega) ?_
                          refine jr_aload_n cx dX7_certify_153 1 rfl rfl ?_
                          refine jr_get (f := 20) (v := .ref (E.1 25)) cx dX7_certify_154 (by decide) rfl rfl hinX7 (by decide) mf_50 rfl ?_
                          refine jr_aload_n cx dX7_certify_157 1 rfl rfl ?_
                          refine jr_get (f := 16) (v := .int ((up2 (up2 (up2 g 22 n (nI z)) 23 n y) 24 n ba) 7 16)) cx dX7_certify_158 (by decide) rfl rfl hinX7 (by decide) mf_147 rfl ?_
                          refine jr_top (show _ = nI n from hs) ?_
                          refine jr_iload cx dX7_certify_161 5 rfl ?_
                          refine jr_iast cx dX7_certify_163 (Or.inl ⟨by decide, by decide⟩) n rfl (show _ < 40 by omega) ?_
                          refine jr_aload_n cx dX7_certify_164 1 rfl rfl ?_
                          refine jr_get (f := 21) (v := .ref (E.1 26)) cx dX7_certify_165 (by decide) rfl rfl hinX7 (by decide) mf_53 rfl ?_
                          refine jr_aload_n cx dX7_certify_168 1 rfl rfl ?_
                          refine jr_get (f := 16) (v := .int ((up2 (up2 (up2 (up2 g 22 n (nI z)) 23 n y) 24 n ba) 25 n d) 7 16)) cx dX7_certify_169 (by decide) rfl rfl hinX7 (by decide) mf_147 rfl ?_
                          refine jr_top (show _ = nI n from hs) ?_
                          refine jr_iload cx dX7_certify_172 6 rfl ?_
                          refine jr_iast cx dX7_certify_174 (Or.inl ⟨by decide, by decide⟩) n rfl (show _ < 40 by omega) ?_
                          refine jr_aload_n cx dX7_certify_175 1 rfl rfl ?_
                          refine jr_get (f := 22) (v := .ref (E.1 27)) cx dX7_certify_176 (by decide) rfl rfl hinX7 (by decide) mf_56 rfl ?_
                          refine jr_aload_n cx dX7_certify_179 1 rfl rfl ?_
                          refine jr_get (f := 16) (v := .int ((up2 (up2 (up2 (up2 (up2 g 22 n (nI z)) 23 n y) 24 n ba) 25 n d) 26 n o) 7 16)) cx dX7_certify_180 (by decide) rfl rfl hinX7 (by decide) mf_147 rfl ?_
                          refine jr_top (show _ = nI n from hs) ?_
                          refine jr_iload cx dX7_certify_183 7 rfl ?_
                          refine jr_iast cx dX7_certify_185 (Or.inl ⟨by decide, by decide⟩) n rfl (show _ < 40 by omega) ?_
                          refine jr_aload_n cx dX7_certify_186 1 rfl rfl ?_
                          refine jr_get (f := 23) (v := .ref (E.1 28)) cx dX7_certify_187 (by decide) rfl rfl hinX7 (by decide) mf_59 rfl ?_
                          refine jr_aload_n cx dX7_certify_190 1 rfl rfl ?_
                          refine jr_get (f := 16) (v := .int ((up2 (up2 (up2 (up2 (up2 (up2 g 22 n (nI z)) 23 n y) 24 n ba) 25 n d) 26 n o) 27 n e) 7 16)) cx dX7_certify_191 (by decide) rfl rfl hinX7 (by decide) mf_147 rfl ?_
                          refine jr_top (show _ = nI n from hs) ?_
                          refine jr_iload cx dX7_certify_194 0 rfl ?_
                          refine jr_iast cx dX7_certify_196 (Or.inl ⟨by decide, by decide⟩) n rfl (show _ < 40 by omega) ?_
                          refine jr_aload_n cx dX7_certify_197 1 rfl rfl ?_
                          refine jr_dup cx dX7_certify_198 rfl ?_
                          refine jr_get (f := 16) (v := .int ((up2 (up2 (up2 (up2 (up2 (up2 (up2 g 22 n (nI z)) 23 n y) 24 n ba) 25 n d) 26 n o) 27 n e) 28 n (sLast (pLM g y d) n)) 7 16)) cx dX7_certify_199 (by decide) rfl rfl hinX7 (by decide) mf_147 rfl ?_
                          refine jr_top (show _ = nI n from hs) ?_
                          refine jr_iconst (v := 1) cx dX7_certify_202 (by decide) ?_
                          refine jr_iadd cx dX7_certify_203 ?_
                          refine jr_top (show (nI n : Int32) + 1 = nI (n + 1) from nI_add n 1) ?_
                          refine jr_put_X7_16 cx dX7_certify_204 hinX7 mf_147 ?_
                          refine jr_aload_n cx dX7_certify_207 1 rfl rfl ?_
                          refine jr_get (f := 16) (v := .int ((up2 (up2 (up2 (up2 (up2 (up2 (up2 (up2 g 22 n (nI z)) 23 n y) 24 n ba) 25 n d) 26 n o) 27 n e) 28 n (sLast (pLM g y d) n)) 7 16 (nI (n + 1))) 7 16)) cx dX7_certify_208 (by decide) rfl rfl hinX7 (by decide) mf_147 rfl ?_
                          refine jr_top (show _ = nI (n + 1) from rfl) ?_
                          refine jr_iconst (v := 1) cx dX7_certify_211 (by decide) ?_
                          refine jr_isub cx dX7_certify_212 ?_
                          refine jr_top (nI_pred n) ?_
                          exact jr_ri (by simp only [dCert, ite_self, if_pos c5, if_pos pby, if_neg c24, if_pos c34, if_pos c42, if_pos c56, if_pos c68, ed]; rw [if_neg (by omega)]; rw [if_neg (fun q => p117 q.2)]; try rw [if_neg c88]; try rfl) (by simp only [dCert, ite_self, if_pos c5, if_pos pby, if_neg c24, if_pos c34, if_pos c42, if_pos c56, if_pos c68, ed]; rw [if_neg (by omega)]; rw [if_neg (fun q => p117 q.2)]; try rw [if_neg c88]; try rfl) (by rfl) (hR 213 _ dX7_certify_213)
                        · have p117 : sLast (pLM g y d) n = -9 := (sLast_neg hn).mp (Int32.not_le.mp c117)
                          refine jr_bipush (v := (-4)) cx dX7_certify_120 (by decide) ?_
                          exact jr_ri (by simp only [dCert, ite_self, if_pos c5, if_pos pby, if_neg c24, if_pos c34, if_pos c42, if_pos c56, if_pos c68, ed]; rw [if_neg (by omega)]; rw [if_pos ⟨c88, p117⟩]; try rfl) (by simp only [dCert, ite_self, if_pos c5, if_pos pby, if_neg c24, if_pos c34, if_pos c42, if_pos c56, if_pos c68, ed]; rw [if_neg (by omega)]; rw [if_pos ⟨c88, p117⟩]; try rfl) (by rfl) (hR 122 _ dX7_certify_122)
                    · exact absurd c88 c11
                  · have n79 : n = 40 := (nI_eq (a := n) (b := 40) (by omega) (by omega)).mp c79
                    refine jr_bipush (v := (-2)) cx dX7_certify_82 (by decide) ?_
                    exact jr_ri (by simp only [dCert, ite_self, if_pos c5, if_pos pby, if_neg c24, if_pos c34, if_pos c42, if_pos c56, if_pos c68, ed]; rw [if_pos (by omega)]; try rfl) (by simp only [dCert, ite_self, if_pos c5, if_pos pby, if_neg c24, if_pos c34, if_pos c42, if_pos c56, if_pos c68, ed]; rw [if_pos (by omega)]; try rfl) (by rfl) (hR 84 _ dX7_certify_84)
                · refine jr_iconst (v := (-1)) cx dX7_certify_71 (by decide) ?_
                  exact jr_ri (by simp only [dCert, ite_self, if_pos c5, if_pos pby, if_neg c24, if_pos c34, if_pos c42, if_pos c56, if_neg c68, ed]; try rfl) (by simp only [dCert, ite_self, if_pos c5, if_pos pby, if_neg c24, if_pos c34, if_pos c42, if_pos c56, if_neg c68, ed]; try rfl) (by rfl) (hR 72 _ dX7_certify_72)
def dCf {α : Type} (n : Nat) (c q : Int32) (bad : α) (ok : Nat → Nat → α) : α := if ¬ c < 0 ∧ ¬ nI n - 1 < c then (if ¬ q < 0 ∧ ¬ 6 < q then ok c.toNatClampNeg q.toNatClampNeg else bad) else bad
def fM (g : mm_I) (c q : Nat) : Int32 := if q = 0 then g 22 c else if q = 1 then g 23 c else if q = 2 then g 24 c else if q = 3 then g 25 c else if q = 4 then g 27 c else if q = 5 then bI (¬ g 31 c = 0) else g 28 c
set_option maxHeartbeats 4000000 in
set_option maxRecDepth 100000 in
theorem c_X6_certificate (E : mm_E) (g : mm_I) (h : mm_L) (c q : Int32) (n : Nat) (hn : n ≤ 40) (hs : g 4 1 = nI n) : Ci E yX6_certificate wsX6_certificate 2 43 [.ref (E.1 0), .int c, .int q] g h (dCf n c q (-1) (fun d k => g (53 + d) k)) g h := by
  refine ci_i (bytes := cX6_certificate) (maxL := 3) (by decide) rfl (Nat.le_of_ble_eq_true rfl) (fun X cx hR => ?_)
  change Cx E X cX6_certificate RX6 wsX6_certificate 3 2 43 at cx
  change JJ E X g h 0 [(0, .ref (E.1 0)), (1, .int c), (2, .int q)] []
  have hinX6 : ∀ w ∈ u_ws RX6 TX6 9, w ∈ wsX6_certificate := by decide +kernel
  have mf_33 : Cond.fieldLink RX6 33 (TX6 3).1 (TX6 3).2.1 (TX6 3).2.2.1 ∈ wsX6_certificate := by decide +kernel
  refine jr_aload_n cx dX6_certificate_0 0 rfl rfl ?_
  refine jr_get (f := 3) (v := .ref (E.1 4)) cx dX6_certificate_1 (by decide) rfl rfl hinX6 (by decide) mf_33 rfl ?_
  refine jr_iload_n cx dX6_certificate_4 1 rfl rfl ?_
  refine jr_vi [.int c] 1 cx dX6_certificate_5 (c_X1_has E g h c n hn hs) (by decide) rfl rfl gX6_certificate_X1_has rfl (by decide +kernel) ⟨Nat.le_of_ble_eq_true rfl, Nat.le_of_ble_eq_true rfl⟩ rfl rfl (Nat.le_of_ble_eq_true rfl) ?_
  refine jr_bif_eq (tgt := 21) cx dX6_certificate_8 (by decide) (fun c8 => ?_) (fun c8 => ?_)
  · refine jr_iconst (v := (-1)) cx dX6_certificate_21 (by decide) ?_
    exact jr_ri (by simp only [dCf, ite_self, if_neg c8]) (by rfl) (by rfl) (hR 22 _ dX6_certificate_22)
  · obtain ⟨d, hd, rfl⟩ := has_nat (by omega) c8; have ed : (nI d).toNatClampNeg = d := cl_nI (by omega)
    refine jr_iload_n cx dX6_certificate_11 2 rfl rfl ?_
    refine jr_iconst (v := 0) cx dX6_certificate_12 (by decide) ?_
    refine jr_bipush (v := 6) cx dX6_certificate_13 (by decide) ?_
    refine jr_si [.int q, .int 0, .int 6] 3 cx dX6_certificate_15 (c_X6_isBetween E g h q 0 6) gX6_certificate_X6_isBetween rfl (by decide +kernel) ⟨Nat.le_of_ble_eq_true rfl, Nat.le_of_ble_eq_true rfl⟩ rfl rfl (Nat.le_of_ble_eq_true rfl) ?_
    refine jr_bif_ne (tgt := 23) cx dX6_certificate_18 (by decide) (fun c18 => ?_) (fun c18 => ?_)
    · obtain ⟨k, hk, rfl⟩ := to_nat (M := 6) rfl c18; have ek : (nI k).toNatClampNeg = k := cl_nI (by omega)
      refine jr_aload_n cx dX6_certificate_23 0 rfl rfl ?_
      refine jr_get (f := 3) (v := .ref (E.1 4)) cx dX6_certificate_24 (by decide) rfl rfl hinX6 (by decide) mf_33 rfl ?_
      refine jr_iload_n cx dX6_certificate_27 1 rfl rfl ?_
      refine jr_iload_n cx dX6_certificate_28 2 rfl rfl ?_
      refine jr_vi [.int (nI d), .int (nI k)] 2 cx dX6_certificate_29 (c_X1_fact E g h d k (by omega) (by omega)) (by decide) rfl rfl gX6_certificate_X1_fact rfl (by decide +kernel) ⟨Nat.le_of_ble_eq_true rfl, Nat.le_of_ble_eq_true rfl⟩ rfl rfl (Nat.le_of_ble_eq_true rfl) ?_
      exact jr_ri (by simp only [dCf, ite_self, if_pos c8, if_pos c18, ed, ek]) (by rfl) (by rfl) (hR 32 _ dX6_certificate_32)
    · refine jr_iconst (v := (-1)) cx dX6_certificate_21 (by decide) ?_
      exact jr_ri (by simp only [dCf, ite_self, if_pos c8, if_neg c18, ed]) (by rfl) (by rfl) (hR 22 _ dX6_certificate_22)
theorem k6 {k : Nat} (hk : k < 7) (t0 : ¬ nI k = 0) (t1 : ¬ nI k = 1) (t2 : ¬ nI k = 2) (t3 : ¬ nI k = 3) (t4 : ¬ nI k = 4) (t5 : ¬ nI k = 5) : k = 6 := by
  have h : ∀ j : Nat, j < 6 → k = j → nI k = nI j := fun j _ e => by rw [e]
  rcases (show k = 0 ∨ k = 1 ∨ k = 2 ∨ k = 3 ∨ k = 4 ∨ k = 5 ∨ k = 6 by omega) with z | z | z | z | z | z | z
  · exact absurd (h 0 (by decide) z) t0
  · exact absurd (h 1 (by decide) z) t1
  · exact absurd (h 2 (by decide) z) t2
  · exact absurd (h 3 (by decide) z) t3
  · exact absurd (h 4 (by decide) z) t4
  · exact absurd (h 5 (by decide) z) t5
  · exact z
set_option maxHeartbeats 4000000 in
set_option maxRecDepth 100000 in
theorem c_X7_tellsOf (E : mm_E) (g : mm_I) (h : mm_L) (c k : Nat) (hc : c < 40) (hk : k < 7) : Ci E yX7_tellsOf wsX7_tellsOf 0 0 [.ref (E.1 7), .int (nI c), .int (nI k)] g h (fM g c k) g h := by
  refine ci_i (bytes := cX7_tellsOf) (maxL := 3) (by decide) rfl (Nat.le_of_ble_eq_true rfl) (fun X cx hR => ?_)
  change Cx E X cX7_tellsOf RX7 wsX7_tellsOf 3 0 0 at cx
  change JJ E X g h 0 [(0, .ref (E.1 7)), (1, .int (nI c)), (2, .int (nI k))] []
  have hinX7 : ∀ w ∈ u_ws RX7 TX7 30, w ∈ wsX7_tellsOf := by decide +kernel
  have mf_41 : Cond.fieldLink RX7 41 (TX7 17).1 (TX7 17).2.1 (TX7 17).2.2.1 ∈ wsX7_tellsOf := by decide +kernel
  have mf_44 : Cond.fieldLink RX7 44 (TX7 18).1 (TX7 18).2.1 (TX7 18).2.2.1 ∈ wsX7_tellsOf := by decide +kernel
  have mf_47 : Cond.fieldLink RX7 47 (TX7 19).1 (TX7 19).2.1 (TX7 19).2.2.1 ∈ wsX7_tellsOf := by decide +kernel
  have mf_50 : Cond.fieldLink RX7 50 (TX7 20).1 (TX7 20).2.1 (TX7 20).2.2.1 ∈ wsX7_tellsOf := by decide +kernel
  have mf_56 : Cond.fieldLink RX7 56 (TX7 22).1 (TX7 22).2.1 (TX7 22).2.2.1 ∈ wsX7_tellsOf := by decide +kernel
  have mf_62 : Cond.fieldLink RX7 62 (TX7 24).1 (TX7 24).2.1 (TX7 24).2.2.1 ∈ wsX7_tellsOf := by decide +kernel
  have mf_59 : Cond.fieldLink RX7 59 (TX7 23).1 (TX7 23).2.1 (TX7 23).2.2.1 ∈ wsX7_tellsOf := by decide +kernel
  refine jr_iload_n cx dX7_tellsOf_0 2 rfl rfl ?_
  by_cases t1_0 : nI k = 0
  · refine jr_tableIn (off := 39) (tgt := 40) cx dX7_tellsOf_1 (by rw [t1_0]; decide) (by rw [t1_0]; decide) (by rw [t1_0]; rfl) (by decide) ?_
    refine jr_aload_n cx dX7_tellsOf_40 0 rfl rfl ?_
    refine jr_get (f := 17) (v := .ref (E.1 22)) cx dX7_tellsOf_41 (by decide) rfl rfl hinX7 (by decide) mf_41 rfl ?_
    refine jr_iload_n cx dX7_tellsOf_44 1 rfl rfl ?_
    refine jr_iald cx dX7_tellsOf_45 (Or.inl ⟨by decide, by decide⟩) c rfl (show _ < 40 by omega) ?_
    exact jr_ri (by have z : k = 0 := (nI_eq (by omega) (by decide)).mp t1_0; subst z; unfold fM; simp only [if_true, if_false]) (by rfl) (by rfl) (hR 46 _ dX7_tellsOf_46)
  · by_cases t1_1 : nI k = 1
    · refine jr_tableIn (off := 46) (tgt := 47) cx dX7_tellsOf_1 (by rw [t1_1]; decide) (by rw [t1_1]; decide) (by rw [t1_1]; rfl) (by decide) ?_
      refine jr_aload_n cx dX7_tellsOf_47 0 rfl rfl ?_
      refine jr_get (f := 18) (v := .ref (E.1 23)) cx dX7_tellsOf_48 (by decide) rfl rfl hinX7 (by decide) mf_44 rfl ?_
      refine jr_iload_n cx dX7_tellsOf_51 1 rfl rfl ?_
      refine jr_iald cx dX7_tellsOf_52 (Or.inl ⟨by decide, by decide⟩) c rfl (show _ < 40 by omega) ?_
      exact jr_ri (by have z : k = 1 := (nI_eq (by omega) (by decide)).mp t1_1; subst z; unfold fM; simp only [if_true, show ¬ (1 = 0) by decide, if_false]) (by rfl) (by rfl) (hR 53 _ dX7_tellsOf_53)
    · by_cases t1_2 : nI k = 2
      · refine jr_tableIn (off := 53) (tgt := 54) cx dX7_tellsOf_1 (by rw [t1_2]; decide) (by rw [t1_2]; decide) (by rw [t1_2]; rfl) (by decide) ?_
        refine jr_aload_n cx dX7_tellsOf_54 0 rfl rfl ?_
        refine jr_get (f := 19) (v := .ref (E.1 24)) cx dX7_tellsOf_55 (by decide) rfl rfl hinX7 (by decide) mf_47 rfl ?_
        refine jr_iload_n cx dX7_tellsOf_58 1 rfl rfl ?_
        refine jr_iald cx dX7_tellsOf_59 (Or.inl ⟨by decide, by decide⟩) c rfl (show _ < 40 by omega) ?_
        exact jr_ri (by have z : k = 2 := (nI_eq (by omega) (by decide)).mp t1_2; subst z; unfold fM; simp only [if_true, show ¬ (2 = 0) by decide, show ¬ (2 = 1) by decide, if_false]) (by rfl) (by rfl) (hR 60 _ dX7_tellsOf_60)
      · by_cases t1_3 : nI k = 3
        · refine jr_tableIn (off := 60) (tgt := 61) cx dX7_tellsOf_1 (by rw [t1_3]; decide) (by rw [t1_3]; decide) (by rw [t1_3]; rfl) (by decide) ?_
          refine jr_aload_n cx dX7_tellsOf_61 0 rfl rfl ?_
          refine jr_get (f := 20) (v := .ref (E.1 25)) cx dX7_tellsOf_62 (by decide) rfl rfl hinX7 (by decide) mf_50 rfl ?_
          refine jr_iload_n cx dX7_tellsOf_65 1 rfl rfl ?_
          refine jr_iald cx dX7_tellsOf_66 (Or.inl ⟨by decide, by decide⟩) c rfl (show _ < 40 by omega) ?_
          exact jr_ri (by have z : k = 3 := (nI_eq (by omega) (by decide)).mp t1_3; subst z; unfold fM; simp only [if_true, show ¬ (3 = 0) by decide, show ¬ (3 = 1) by decide, show ¬ (3 = 2) by decide, if_false]) (by rfl) (by rfl) (hR 67 _ dX7_tellsOf_67)
        · by_cases t1_4 : nI k = 4
          · refine jr_tableIn (off := 67) (tgt := 68) cx dX7_tellsOf_1 (by rw [t1_4]; decide) (by rw [t1_4]; decide) (by rw [t1_4]; rfl) (by decide) ?_
            refine jr_aload_n cx dX7_tellsOf_68 0 rfl rfl ?_
            refine jr_get (f := 22) (v := .ref (E.1 27)) cx dX7_tellsOf_69 (by decide) rfl rfl hinX7 (by decide) mf_56 rfl ?_
            refine jr_iload_n cx dX7_tellsOf_72 1 rfl rfl ?_
            refine jr_iald cx dX7_tellsOf_73 (Or.inl ⟨by decide, by decide⟩) c rfl (show _ < 40 by omega) ?_
            exact jr_ri (by have z : k = 4 := (nI_eq (by omega) (by decide)).mp t1_4; subst z; unfold fM; simp only [if_true, show ¬ (4 = 0) by decide, show ¬ (4 = 1) by decide, show ¬ (4 = 2) by decide, show ¬ (4 = 3) by decide, if_false]) (by rfl) (by rfl) (hR 74 _ dX7_tellsOf_74)
          · by_cases t1_5 : nI k = 5
            · refine jr_tableIn (off := 74) (tgt := 75) cx dX7_tellsOf_1 (by rw [t1_5]; decide) (by rw [t1_5]; decide) (by rw [t1_5]; rfl) (by decide) ?_
              refine jr_aload_n cx dX7_tellsOf_75 0 rfl rfl ?_
              refine jr_get (f := 24) (v := .ref (E.1 31)) cx dX7_tellsOf_76 (by decide) rfl rfl hinX7 (by decide) mf_62 rfl ?_
              refine jr_iload_n cx dX7_tellsOf_79 1 rfl rfl ?_
              refine jr_zald cx dX7_tellsOf_80 (Or.inl rfl) c rfl (show _ < 40 by omega) ?_
              refine jr_if_eq (tgt := 88) cx dX7_tellsOf_81 (by decide) (fun c81 => ?_) (fun c81 => ?_)
              · refine jr_iconst (v := 0) cx dX7_tellsOf_88 (by decide) ?_
                exact jr_ri (by have z : k = 5 := (nI_eq (by omega) (by decide)).mp t1_5; subst z; unfold fM; simp only [if_true, show ¬ (5 = 0) by decide, show ¬ (5 = 1) by decide, show ¬ (5 = 2) by decide, show ¬ (5 = 3) by decide, show ¬ (5 = 4) by decide, if_false]; exact (bI_f (fun q => q c81)).symm) (by rfl) (by rfl) (hR 89 _ dX7_tellsOf_89)
              · refine jr_iconst (v := 1) cx dX7_tellsOf_84 (by decide) ?_
                refine jr_goto (tgt := 89) cx dX7_tellsOf_85 (by decide) ?_
                exact jr_ri (by have z : k = 5 := (nI_eq (by omega) (by decide)).mp t1_5; subst z; unfold fM; simp only [if_true, show ¬ (5 = 0) by decide, show ¬ (5 = 1) by decide, show ¬ (5 = 2) by decide, show ¬ (5 = 3) by decide, show ¬ (5 = 4) by decide, if_false]; exact (bI_t c81).symm) (by rfl) (by rfl) (hR 89 _ dX7_tellsOf_89)
            · refine jr_tableOut (tgt := 90) cx dX7_tellsOf_1 (by have q0 : ¬ (nI k).toInt = 0 := fun z => t1_0 ((fa_eq _ 0).mpr z); have q1 : ¬ (nI k).toInt = 1 := fun z => t1_1 ((fa_eq _ 1).mpr z); have q2 : ¬ (nI k).toInt = 2 := fun z => t1_2 ((fa_eq _ 2).mpr z); have q3 : ¬ (nI k).toInt = 3 := fun z => t1_3 ((fa_eq _ 3).mpr z); have q4 : ¬ (nI k).toInt = 4 := fun z => t1_4 ((fa_eq _ 4).mpr z); have q5 : ¬ (nI k).toInt = 5 := fun z => t1_5 ((fa_eq _ 5).mpr z); omega) (by decide) ?_
              refine jr_aload_n cx dX7_tellsOf_90 0 rfl rfl ?_
              refine jr_get (f := 23) (v := .ref (E.1 28)) cx dX7_tellsOf_91 (by decide) rfl rfl hinX7 (by decide) mf_59 rfl ?_
              refine jr_iload_n cx dX7_tellsOf_94 1 rfl rfl ?_
              refine jr_iald cx dX7_tellsOf_95 (Or.inl ⟨by decide, by decide⟩) c rfl (show _ < 40 by omega) ?_
              exact jr_ri (by have z := k6 hk t1_0 t1_1 t1_2 t1_3 t1_4 t1_5; subst z; rfl) (by rfl) (by rfl) (hR 96 _ dX7_tellsOf_96)
set_option maxHeartbeats 4000000 in
set_option maxRecDepth 100000 in
theorem c_X7_certificate (E : mm_E) (g : mm_I) (h : mm_L) (c q : Int32) (n : Nat) (hn : n ≤ 40) (hs : g 7 16 = nI n) : Ci E yX7_certificate wsX7_certificate 2 43 [.ref (E.1 7), .int c, .int q] g h (dCf n c q (-1) (fM g)) g h := by
  refine ci_i (bytes := cX7_certificate) (maxL := 3) (by decide) rfl (Nat.le_of_ble_eq_true rfl) (fun X cx hR => ?_)
  change Cx E X cX7_certificate RX7 wsX7_certificate 3 2 43 at cx
  change JJ E X g h 0 [(0, .ref (E.1 7)), (1, .int c), (2, .int q)] []
  refine jr_aload_n cx dX7_certificate_0 0 rfl rfl ?_
  refine jr_iload_n cx dX7_certificate_1 1 rfl rfl ?_
  refine jr_vi [.int c] 1 cx dX7_certificate_2 (c_X7_isCertificate E g h c n hn hs) (by decide) rfl rfl gX7_certificate_X7_isCertificate rfl (by decide +kernel) ⟨Nat.le_of_ble_eq_true rfl, Nat.le_of_ble_eq_true rfl⟩ rfl rfl (Nat.le_of_ble_eq_true rfl) ?_
  refine jr_bif_eq (tgt := 27) cx dX7_certificate_5 (by decide) (fun c5 => ?_) (fun c5 => ?_)
  · refine jr_iconst (v := (-1)) cx dX7_certificate_27 (by decide) ?_
    exact jr_ri (by simp only [dCf, ite_self, if_neg c5]) (by rfl) (by rfl) (hR 28 _ dX7_certificate_28)
  · obtain ⟨d, hd, rfl⟩ := has_nat (by omega) c5; have ed : (nI d).toNatClampNeg = d := cl_nI (by omega)
    refine jr_iload_n cx dX7_certificate_8 2 rfl rfl ?_
    refine jr_iconst (v := 0) cx dX7_certificate_9 (by decide) ?_
    refine jr_bipush (v := 6) cx dX7_certificate_10 (by decide) ?_
    refine jr_si [.int q, .int 0, .int 6] 3 cx dX7_certificate_12 (c_X7_in E g h q 0 6) gX7_certificate_X7_in rfl (by decide +kernel) ⟨Nat.le_of_ble_eq_true rfl, Nat.le_of_ble_eq_true rfl⟩ rfl rfl (Nat.le_of_ble_eq_true rfl) ?_
    refine jr_bif_eq (tgt := 27) cx dX7_certificate_15 (by decide) (fun c15 => ?_) (fun c15 => ?_)
    · refine jr_iconst (v := (-1)) cx dX7_certificate_27 (by decide) ?_
      exact jr_ri (by simp only [dCf, ite_self, if_pos c5, if_neg c15, ed]) (by rfl) (by rfl) (hR 28 _ dX7_certificate_28)
    · obtain ⟨k, hk, rfl⟩ := to_nat (M := 6) rfl c15; have ek : (nI k).toNatClampNeg = k := cl_nI (by omega)
      refine jr_aload_n cx dX7_certificate_18 0 rfl rfl ?_
      refine jr_iload_n cx dX7_certificate_19 1 rfl rfl ?_
      refine jr_iload_n cx dX7_certificate_20 2 rfl rfl ?_
      refine jr_vi [.int (nI d), .int (nI k)] 2 cx dX7_certificate_21 (c_X7_tellsOf E g h d k (by omega) (by omega)) (by decide) rfl rfl gX7_certificate_X7_tellsOf rfl (by decide +kernel) ⟨Nat.le_of_ble_eq_true rfl, Nat.le_of_ble_eq_true rfl⟩ rfl rfl (Nat.le_of_ble_eq_true rfl) ?_
      refine jr_goto (tgt := 28) cx dX7_certificate_24 (by decide) ?_
      exact jr_ri (by simp only [dCf, ite_self, if_pos c5, if_pos c15, ed, ek]) (by rfl) (by rfl) (hR 28 _ dX7_certificate_28)
set_option maxHeartbeats 4000000 in
set_option maxRecDepth 100000 in
theorem c_X6_offset (E : mm_E) (g : mm_I) (h : mm_L) (c : Int32) (n : Nat) (hn : n ≤ 40) (hs : g 4 1 = nI n) : Ci E yX6_offset wsX6_offset 2 43 [.ref (E.1 0), .int c] g h (dHas n c (-1) (fun _ => 1)) g (dHas n c h (fun d => upL h 0 8 (g (53 + d) 7).toInt64)) := by
  refine ci_i (bytes := cX6_offset) (maxL := 2) (by decide) rfl (Nat.le_of_ble_eq_true rfl) (fun X cx hR => ?_)
  change Cx E X cX6_offset RX6 wsX6_offset 2 2 43 at cx
  change JJ E X g h 0 [(0, .ref (E.1 0)), (1, .int c)] []
  have hinX6 : ∀ w ∈ u_ws RX6 TX6 9, w ∈ wsX6_offset := by decide +kernel
  have mf_33 : Cond.fieldLink RX6 33 (TX6 3).1 (TX6 3).2.1 (TX6 3).2.2.1 ∈ wsX6_offset := by decide +kernel
  have mf_59 : Cond.fieldLink RX6 59 (TX6 8).1 (TX6 8).2.1 (TX6 8).2.2.1 ∈ wsX6_offset := by decide +kernel
  refine jr_aload_n cx dX6_offset_0 0 rfl rfl ?_
  refine jr_get (f := 3) (v := .ref (E.1 4)) cx dX6_offset_1 (by decide) rfl rfl hinX6 (by decide) mf_33 rfl ?_
  refine jr_iload_n cx dX6_offset_4 1 rfl rfl ?_
  refine jr_vi [.int c] 1 cx dX6_offset_5 (c_X1_has E g h c n hn hs) (by decide) rfl rfl gX6_offset_X1_has rfl (by decide +kernel) ⟨Nat.le_of_ble_eq_true rfl, Nat.le_of_ble_eq_true rfl⟩ rfl rfl (Nat.le_of_ble_eq_true rfl) ?_
  refine jr_bif_ne (tgt := 13) cx dX6_offset_8 (by decide) (fun c8 => ?_) (fun c8 => ?_)
  · obtain ⟨d, hd, rfl⟩ := has_nat (by omega) c8; have ed : (nI d).toNatClampNeg = d := cl_nI (by omega)
    refine jr_aload_n cx dX6_offset_13 0 rfl rfl ?_
    refine jr_aload_n cx dX6_offset_14 0 rfl rfl ?_
    refine jr_get (f := 3) (v := .ref (E.1 4)) cx dX6_offset_15 (by decide) rfl rfl hinX6 (by decide) mf_33 rfl ?_
    refine jr_iload_n cx dX6_offset_18 1 rfl rfl ?_
    refine jr_bipush (v := 7) cx dX6_offset_19 (by decide) ?_
    refine jr_vi [.int (nI d), .int 7] 2 cx dX6_offset_21 (c_X1_fact E g h d 7 (by omega) (by omega)) (by decide) rfl rfl gX6_offset_X1_fact rfl (by decide +kernel) ⟨Nat.le_of_ble_eq_true rfl, Nat.le_of_ble_eq_true rfl⟩ rfl rfl (Nat.le_of_ble_eq_true rfl) ?_
    refine jr_i2l cx dX6_offset_24 ?_
    refine jr_put_X6_8 cx dX6_offset_25 hinX6 mf_59 ?_
    refine jr_iconst (v := 1) cx dX6_offset_28 (by decide) ?_
    exact jr_ri (by simp only [dHas, ite_self, if_pos c8, ed]) (by rfl) (by simp only [dHas, ite_self, if_pos c8, ed]) (hR 29 _ dX6_offset_29)
  · refine jr_iconst (v := (-1)) cx dX6_offset_11 (by decide) ?_
    exact jr_ri (by simp only [dHas, ite_self, if_neg c8]) (by rfl) (by simp only [dHas, ite_self, if_neg c8]) (hR 12 _ dX6_offset_12)
set_option maxHeartbeats 4000000 in
set_option maxRecDepth 100000 in
theorem c_X7_offset (E : mm_E) (g : mm_I) (h : mm_L) (c : Int32) (n : Nat) (hn : n ≤ 40) (hs : g 7 16 = nI n) : Ci E yX7_offset wsX7_offset 2 43 [.ref (E.1 7), .int c] g h (dHas n c (-1) (fun _ => 1)) g (dHas n c h (fun d => upL h 7 2 (g 26 d).toInt64)) := by
  refine ci_i (bytes := cX7_offset) (maxL := 2) (by decide) rfl (Nat.le_of_ble_eq_true rfl) (fun X cx hR => ?_)
  change Cx E X cX7_offset RX7 wsX7_offset 2 2 43 at cx
  change JJ E X g h 0 [(0, .ref (E.1 7)), (1, .int c)] []
  have hinX7 : ∀ w ∈ u_ws RX7 TX7 30, w ∈ wsX7_offset := by decide +kernel
  have mf_53 : Cond.fieldLink RX7 53 (TX7 21).1 (TX7 21).2.1 (TX7 21).2.2.1 ∈ wsX7_offset := by decide +kernel
  refine jr_aload_n cx dX7_offset_0 0 rfl rfl ?_
  refine jr_iload_n cx dX7_offset_1 1 rfl rfl ?_
  refine jr_vi [.int c] 1 cx dX7_offset_2 (c_X7_isCertificate E g h c n hn hs) (by decide) rfl rfl gX7_offset_X7_isCertificate rfl (by decide +kernel) ⟨Nat.le_of_ble_eq_true rfl, Nat.le_of_ble_eq_true rfl⟩ rfl rfl (Nat.le_of_ble_eq_true rfl) ?_
  refine jr_bif_eq (tgt := 23) cx dX7_offset_5 (by decide) (fun c5 => ?_) (fun c5 => ?_)
  · refine jr_iconst (v := (-1)) cx dX7_offset_23 (by decide) ?_
    exact jr_ri (by simp only [dHas, ite_self, if_neg c5]) (by rfl) (by simp only [dHas, ite_self, if_neg c5]) (hR 24 _ dX7_offset_24)
  · obtain ⟨d, hd, rfl⟩ := has_nat (by omega) c5; have ed : (nI d).toNatClampNeg = d := cl_nI (by omega)
    refine jr_aload_n cx dX7_offset_8 0 rfl rfl ?_
    refine jr_aload_n cx dX7_offset_9 0 rfl rfl ?_
    refine jr_get (f := 21) (v := .ref (E.1 26)) cx dX7_offset_10 (by decide) rfl rfl hinX7 (by decide) mf_53 rfl ?_
    refine jr_iload_n cx dX7_offset_13 1 rfl rfl ?_
    refine jr_iald cx dX7_offset_14 (Or.inl ⟨by decide, by decide⟩) d rfl (show _ < 40 by omega) ?_
    refine jr_i2l cx dX7_offset_15 ?_
    refine jr_iconst (v := 1) cx dX7_offset_16 (by decide) ?_
    refine jr_vi [.long (Int32.toInt64 (g 26 d)), .int 1] 2 cx dX7_offset_17 (c_X7_ask E g h (Int32.toInt64 (g 26 d)) 1) (by decide) rfl rfl gX7_offset_X7_ask rfl (by decide +kernel) ⟨Nat.le_of_ble_eq_true rfl, Nat.le_of_ble_eq_true rfl⟩ rfl rfl (Nat.le_of_ble_eq_true rfl) ?_
    refine jr_goto (tgt := 24) cx dX7_offset_20 (by decide) ?_
    exact jr_ri (by simp only [dHas, ite_self, if_pos c5, ed]) (by rfl) (by simp only [dHas, ite_self, if_pos c5, ed]) (hR 24 _ dX7_offset_24)
def dFi {α : Type} (f : Int32) (bad : α) (ok : Nat → α) : α := if ¬ f < 1 ∧ ¬ 5 < f then ok f.toNatClampNeg else bad
theorem fi_nat {f : Int32} (h : ¬ f < 1 ∧ ¬ 5 < f) : ∃ d, d ≤ 5 ∧ f = nI d := nI_of2 (M := 5) rfl (fun q => h.1 (by rw [fa_lt] at *; have : (1 : Int32).toInt = 1 := rfl; have : (0 : Int32).toInt = 0 := rfl; omega)) (Int32.not_lt.mp h.2)
set_option maxHeartbeats 4000000 in
set_option maxRecDepth 100000 in
theorem c_X6_findings (E : mm_E) (g : mm_I) (h : mm_L) (f : Int32) : Ci E yX6_findings wsX6_findings 1 22 [.ref (E.1 0), .int f] g h (dFi f (-1) (g 8)) g h := by
  refine ci_i (bytes := cX6_findings) (maxL := 2) (by decide) rfl (Nat.le_of_ble_eq_true rfl) (fun X cx hR => ?_)
  change Cx E X cX6_findings RX6 wsX6_findings 2 1 22 at cx
  change JJ E X g h 0 [(0, .ref (E.1 0)), (1, .int f)] []
  have hinX6 : ∀ w ∈ u_ws RX6 TX6 9, w ∈ wsX6_findings := by decide +kernel
  have mf_51 : Cond.fieldLink RX6 51 (TX6 6).1 (TX6 6).2.1 (TX6 6).2.2.1 ∈ wsX6_findings := by decide +kernel
  refine jr_iload_n cx dX6_findings_0 1 rfl rfl ?_
  refine jr_iconst (v := 1) cx dX6_findings_1 (by decide) ?_
  refine jr_iconst (v := 5) cx dX6_findings_2 (by decide) ?_
  refine jr_si [.int f, .int 1, .int 5] 3 cx dX6_findings_3 (c_X6_isBetween E g h f 1 5) gX6_findings_X6_isBetween rfl (by decide +kernel) ⟨Nat.le_of_ble_eq_true rfl, Nat.le_of_ble_eq_true rfl⟩ rfl rfl (Nat.le_of_ble_eq_true rfl) ?_
  refine jr_bif_eq (tgt := 18) cx dX6_findings_6 (by decide) (fun c6 => ?_) (fun c6 => ?_)
  · refine jr_iconst (v := (-1)) cx dX6_findings_18 (by decide) ?_
    exact jr_ri (by simp only [dFi, ite_self, if_neg c6]) (by rfl) (by rfl) (hR 19 _ dX6_findings_19)
  · obtain ⟨d, hd, rfl⟩ := fi_nat c6; have ed : (nI d).toNatClampNeg = d := cl_nI (by omega)
    refine jr_aload_n cx dX6_findings_9 0 rfl rfl ?_
    refine jr_get (f := 6) (v := .ref (E.1 8)) cx dX6_findings_10 (by decide) rfl rfl hinX6 (by decide) mf_51 rfl ?_
    refine jr_iload_n cx dX6_findings_13 1 rfl rfl ?_
    refine jr_iald cx dX6_findings_14 (Or.inl ⟨by decide, by decide⟩) d rfl (show _ < 6 by omega) ?_
    refine jr_goto (tgt := 19) cx dX6_findings_15 (by decide) ?_
    exact jr_ri (by simp only [dFi, ite_self, if_pos c6, ed]) (by rfl) (by rfl) (hR 19 _ dX6_findings_19)
set_option maxHeartbeats 4000000 in
set_option maxRecDepth 100000 in
theorem c_X7_findings (E : mm_E) (g : mm_I) (h : mm_L) (f : Int32) : Ci E yX7_findings wsX7_findings 1 22 [.ref (E.1 7), .int f] g h (dFi f (-1) (g 13)) g h := by
  refine ci_i (bytes := cX7_findings) (maxL := 2) (by decide) rfl (Nat.le_of_ble_eq_true rfl) (fun X cx hR => ?_)
  change Cx E X cX7_findings RX7 wsX7_findings 2 1 22 at cx
  change JJ E X g h 0 [(0, .ref (E.1 7)), (1, .int f)] []
  have hinX7 : ∀ w ∈ u_ws RX7 TX7 30, w ∈ wsX7_findings := by decide +kernel
  have mf_7 : Cond.fieldLink RX7 7 (TX7 1).1 (TX7 1).2.1 (TX7 1).2.2.1 ∈ wsX7_findings := by decide +kernel
  refine jr_iload_n cx dX7_findings_0 1 rfl rfl ?_
  refine jr_iconst (v := 1) cx dX7_findings_1 (by decide) ?_
  refine jr_iconst (v := 5) cx dX7_findings_2 (by decide) ?_
  refine jr_si [.int f, .int 1, .int 5] 3 cx dX7_findings_3 (c_X7_in E g h f 1 5) gX7_findings_X7_in rfl (by decide +kernel) ⟨Nat.le_of_ble_eq_true rfl, Nat.le_of_ble_eq_true rfl⟩ rfl rfl (Nat.le_of_ble_eq_true rfl) ?_
  refine jr_bif_eq (tgt := 18) cx dX7_findings_6 (by decide) (fun c6 => ?_) (fun c6 => ?_)
  · refine jr_iconst (v := (-1)) cx dX7_findings_18 (by decide) ?_
    exact jr_ri (by simp only [dFi, ite_self, if_neg c6]) (by rfl) (by rfl) (hR 19 _ dX7_findings_19)
  · obtain ⟨d, hd, rfl⟩ := fi_nat c6; have ed : (nI d).toNatClampNeg = d := cl_nI (by omega)
    refine jr_aload_n cx dX7_findings_9 0 rfl rfl ?_
    refine jr_get (f := 1) (v := .ref (E.1 13)) cx dX7_findings_10 (by decide) rfl rfl hinX7 (by decide) mf_7 rfl ?_
    refine jr_iload_n cx dX7_findings_13 1 rfl rfl ?_
    refine jr_iald cx dX7_findings_14 (Or.inl ⟨by decide, by decide⟩) d rfl (show _ < 6 by omega) ?_
    refine jr_goto (tgt := 19) cx dX7_findings_15 (by decide) ?_
    exact jr_ri (by simp only [dFi, ite_self, if_pos c6, ed]) (by rfl) (by rfl) (hR 19 _ dX7_findings_19)
set_option maxHeartbeats 4000000 in
set_option maxRecDepth 100000 in
theorem c_X6_whole (E : mm_E) (g : mm_I) (h : mm_L) (c : Int32) (n : Nat) (hn : n ≤ 40) (hs : g 4 1 = nI n) : Ci E yX6_whole wsX6_whole 3 70 [.ref (E.1 0), .int c] g h (dHas n c (-1) (fun d => nI (chN (fun q => g (53 + q) 6) n 40 (nI d)))) g (dHas n c h (fun d => upL h 0 8 (chS (fun q => g (53 + q) 6) (fun q => g (53 + q) 4) n 40 (nI d)))) := by
  refine ci_i (bytes := cX6_whole) (maxL := 2) (by decide) rfl (Nat.le_of_ble_eq_true rfl) (fun X cx hR => ?_)
  change Cx E X cX6_whole RX6 wsX6_whole 2 3 70 at cx
  change JJ E X g h 0 [(0, .ref (E.1 0)), (1, .int c)] []
  have hinX6 : ∀ w ∈ u_ws RX6 TX6 9, w ∈ wsX6_whole := by decide +kernel
  have mf_33 : Cond.fieldLink RX6 33 (TX6 3).1 (TX6 3).2.1 (TX6 3).2.2.1 ∈ wsX6_whole := by decide +kernel
  have mf_59 : Cond.fieldLink RX6 59 (TX6 8).1 (TX6 8).2.1 (TX6 8).2.2.1 ∈ wsX6_whole := by decide +kernel
  refine jr_aload_n cx dX6_whole_0 0 rfl rfl ?_
  refine jr_get (f := 3) (v := .ref (E.1 4)) cx dX6_whole_1 (by decide) rfl rfl hinX6 (by decide) mf_33 rfl ?_
  refine jr_iload_n cx dX6_whole_4 1 rfl rfl ?_
  refine jr_vi [.int c] 1 cx dX6_whole_5 (c_X1_has E g h c n hn hs) (by decide) rfl rfl gX6_whole_X1_has rfl (by decide +kernel) ⟨Nat.le_of_ble_eq_true rfl, Nat.le_of_ble_eq_true rfl⟩ rfl rfl (Nat.le_of_ble_eq_true rfl) ?_
  refine jr_bif_ne (tgt := 13) cx dX6_whole_8 (by decide) (fun c8 => ?_) (fun c8 => ?_)
  · obtain ⟨d, hd, rfl⟩ := has_nat (by omega) c8; have ed : (nI d).toNatClampNeg = d := cl_nI (by omega)
    refine jr_aload_n cx dX6_whole_13 0 rfl rfl ?_
    refine jr_aload_n cx dX6_whole_14 0 rfl rfl ?_
    refine jr_get (f := 3) (v := .ref (E.1 4)) cx dX6_whole_15 (by decide) rfl rfl hinX6 (by decide) mf_33 rfl ?_
    refine jr_iload_n cx dX6_whole_18 1 rfl rfl ?_
    refine jr_vl [.int (nI d)] 1 cx dX6_whole_19 (c_X1_squaredEnds E g h d n hn hs) (by decide) rfl rfl gX6_whole_X1_squaredEnds rfl (by decide +kernel) ⟨Nat.le_of_ble_eq_true rfl, Nat.le_of_ble_eq_true rfl⟩ rfl rfl (Nat.le_of_ble_eq_true rfl) ?_
    refine jr_put_X6_8 cx dX6_whole_22 hinX6 mf_59 ?_
    refine jr_aload_n cx dX6_whole_25 0 rfl rfl ?_
    refine jr_get (f := 3) (v := .ref (E.1 4)) cx dX6_whole_26 (by decide) rfl rfl hinX6 (by decide) mf_33 rfl ?_
    refine jr_iload_n cx dX6_whole_29 1 rfl rfl ?_
    refine jr_vi [.int (nI d)] 1 cx dX6_whole_30 (c_X1_chainLength E g (upL h 0 8 (chS (fun q => g (53 + q) 6) (fun q => g (53 + q) 4) n 40 (nI d))) d n hn hs) (by decide) rfl rfl gX6_whole_X1_chainLength rfl (by decide +kernel) ⟨Nat.le_of_ble_eq_true rfl, Nat.le_of_ble_eq_true rfl⟩ rfl rfl (Nat.le_of_ble_eq_true rfl) ?_
    exact jr_ri (by simp only [dHas, ite_self, if_pos c8, ed]) (by rfl) (by simp only [dHas, ite_self, if_pos c8, ed]) (hR 33 _ dX6_whole_33)
  · refine jr_iconst (v := (-1)) cx dX6_whole_11 (by decide) ?_
    exact jr_ri (by simp only [dHas, ite_self, if_neg c8]) (by rfl) (by simp only [dHas, ite_self, if_neg c8]) (hR 12 _ dX6_whole_12)
set_option maxHeartbeats 4000000 in
set_option maxRecDepth 100000 in
theorem c_X7_whole (E : mm_E) (g : mm_I) (h : mm_L) (c : Int32) (n : Nat) (hn : n ≤ 40) (hs : g 7 16 = nI n) (hri : ∀ c, c < n → g 28 c = -9 ∨ ∃ d, d < c ∧ g 28 c = nI d) : Ci E yX7_whole wsX7_whole 2 43 [.ref (E.1 7), .int c] g h (dHas n c (-1) (fun d => nI (chN (g 28) n 40 (nI d)))) g (dHas n c h (fun d => upL h 7 2 (chS (g 28) (g 27) n 40 (nI d)))) := by
  refine ci_i (bytes := cX7_whole) (maxL := 6) (by decide) rfl (Nat.le_of_ble_eq_true rfl) (fun X cx hR => ?_)
  change Cx E X cX7_whole RX7 wsX7_whole 6 2 43 at cx
  change JJ E X g h 0 [(0, .ref (E.1 7)), (1, .int c)] []
  have hinX7 : ∀ w ∈ u_ws RX7 TX7 30, w ∈ wsX7_whole := by decide +kernel
  have mf_56 : Cond.fieldLink RX7 56 (TX7 22).1 (TX7 22).2.1 (TX7 22).2.2.1 ∈ wsX7_whole := by decide +kernel
  have mf_59 : Cond.fieldLink RX7 59 (TX7 23).1 (TX7 23).2.1 (TX7 23).2.2.1 ∈ wsX7_whole := by decide +kernel
  refine jr_aload_n cx dX7_whole_0 0 rfl rfl ?_
  refine jr_iload_n cx dX7_whole_1 1 rfl rfl ?_
  refine jr_vi [.int c] 1 cx dX7_whole_2 (c_X7_isCertificate E g h c n hn hs) (by decide) rfl rfl gX7_whole_X7_isCertificate rfl (by decide +kernel) ⟨Nat.le_of_ble_eq_true rfl, Nat.le_of_ble_eq_true rfl⟩ rfl rfl (Nat.le_of_ble_eq_true rfl) ?_
  refine jr_bif_ne (tgt := 10) cx dX7_whole_5 (by decide) (fun c5 => ?_) (fun c5 => ?_)
  · obtain ⟨d, hd, rfl⟩ := has_nat (by omega) c5; have ed : (nI d).toNatClampNeg = d := cl_nI (by omega)
    refine jr_iconst (v := 0) cx dX7_whole_10 (by decide) ?_
    refine jr_istore_n (L' := [(2, .int 0), (0, .ref (E.1 7)), (1, .int (nI d))]) cx dX7_whole_11 rfl (by decide) rfl ?_
    refine jr_lconst (v := 0) cx dX7_whole_12 (by decide) ?_
    refine jr_lstore_n (L' := [(3, .long 0), (2, .int 0), (0, .ref (E.1 7)), (1, .int (nI d))]) cx dX7_whole_13 rfl (by decide) rfl ?_
    refine jr_iload_n cx dX7_whole_14 3 rfl rfl ?_
    refine jr_istore (L' := [(5, .int (nI d)), (3, .long 0), (2, .int 0), (0, .ref (E.1 7)), (1, .int (nI d))]) cx dX7_whole_15 (by decide) rfl ?_
    have key1 : ∀ (fu1 : Nat) (k m : Nat) (v : Int64) (x : Int32), k + 1 ≤ fu1 → (k ≤ 40) → (x = -9 ∨ ∃ d, d < k ∧ d < n ∧ x = nI d) → (m + chN (g 28) n k x = chN (g 28) n 40 (nI d)) → (v + chS (g 28) (g 27) n k x = chS (g 28) (g 27) n 40 (nI d)) → JJ E X g h 17 [(0, .ref (E.1 7)), (2, .int (nI m)), (3, .long v), (5, .int x)] [] := by
      intro fu1
      induction fu1 with
      | zero => intro k m v x hfu1 h1 h2 h3 h4; exfalso; omega
      | succ fu1 ih1 =>
        intro k m v x hfu1 h1 h2 h3 h4
        refine jr_iload cx dX7_whole_17 3 rfl ?_
        refine jr_if_lt (tgt := 57) cx dX7_whole_19 (by decide) (fun c19 => ?_) (fun c19 => ?_)
        · have hx9 := ch_lt h2 hn c19; subst hx9
          refine jr_aload_n cx dX7_whole_57 0 rfl rfl ?_
          refine jr_lload_n cx dX7_whole_58 2 rfl rfl ?_
          refine jr_iload_n cx dX7_whole_59 1 rfl rfl ?_
          refine jr_vi [.long v, .int (nI m)] 2 cx dX7_whole_60 (c_X7_ask E g h v (nI m)) (by decide) rfl rfl gX7_whole_X7_ask rfl (by decide +kernel) ⟨Nat.le_of_ble_eq_true rfl, Nat.le_of_ble_eq_true rfl⟩ rfl rfl (Nat.le_of_ble_eq_true rfl) ?_
          exact jr_ri (by simp only [dHas, ite_self, if_pos c5, ed]; rw [← h3, chN_n ch_m9]; rfl) (by rfl) (by simp only [dHas, ite_self, if_pos c5, ed]; rw [← h4, chS_n ch_m9, Int64.add_zero]) (hR 63 _ dX7_whole_63)
        · obtain ⟨z, hdk, hz, rfl⟩ := ch_ge h2 c19; have hhas := (has_iff (n := n) (d := z) (by omega) (by omega)).mpr hz
          refine jr_iinc (n := 1) (v := nI (m + 1)) (L' := [(2, .int (nI (m + 1))), (0, .ref (E.1 7)), (3, .long v), (5, .int (nI z))]) cx dX7_whole_22 rfl (nI_1 _) (by decide) rfl ?_
          refine jr_lload_n cx dX7_whole_25 2 rfl rfl ?_
          refine jr_aload_n cx dX7_whole_26 1 rfl rfl ?_
          refine jr_get (f := 22) (v := .ref (E.1 27)) cx dX7_whole_27 (by decide) rfl rfl hinX7 (by decide) mf_56 rfl ?_
          refine jr_iload cx dX7_whole_30 3 rfl ?_
          refine jr_iald cx dX7_whole_32 (Or.inl ⟨by decide, by decide⟩) z rfl (show _ < 40 by omega) ?_
          refine jr_i2l cx dX7_whole_33 ?_
          refine jr_aload_n cx dX7_whole_34 1 rfl rfl ?_
          refine jr_get (f := 22) (v := .ref (E.1 27)) cx dX7_whole_35 (by decide) rfl rfl hinX7 (by decide) mf_56 rfl ?_
          refine jr_iload cx dX7_whole_38 3 rfl ?_
          refine jr_iald cx dX7_whole_40 (Or.inl ⟨by decide, by decide⟩) z rfl (show _ < 40 by omega) ?_
          refine jr_i2l cx dX7_whole_41 ?_
          refine jr_lmul cx dX7_whole_42 ?_
          refine jr_ladd cx dX7_whole_43 ?_
          refine jr_lstore_n (L' := [(3, .long (v + ((Int32.toInt64 (g 27 z)) * (Int32.toInt64 (g 27 z))))), (2, .int (nI (m + 1))), (0, .ref (E.1 7)), (5, .int (nI z))]) cx dX7_whole_44 rfl (by decide) rfl ?_
          refine jr_aload_n cx dX7_whole_45 2 rfl rfl ?_
          refine jr_get (f := 23) (v := .ref (E.1 28)) cx dX7_whole_46 (by decide) rfl rfl hinX7 (by decide) mf_59 rfl ?_
          refine jr_iload cx dX7_whole_49 3 rfl ?_
          refine jr_iald cx dX7_whole_51 (Or.inl ⟨by decide, by decide⟩) z rfl (show _ < 40 by omega) ?_
          refine jr_istore (L' := [(5, .int (g 28 z)), (3, .long (v + ((Int32.toInt64 (g 27 z)) * (Int32.toInt64 (g 27 z))))), (2, .int (nI (m + 1))), (0, .ref (E.1 7))]) cx dX7_whole_52 (by decide) rfl ?_
          refine jr_goto (tgt := 17) cx dX7_whole_54 (by decide) ?_
          refine jr_pick (L' := [(0, .ref (E.1 7)), (2, .int (nI (m + 1))), (3, .long (v + ((Int32.toInt64 (g 27 z)) * (Int32.toInt64 (g 27 z))))), (5, .int (g 28 z))]) [3, 2, 1, 0] rfl ?_
          have e3 : (v + ((Int32.toInt64 (g 27 z)) * (Int32.toInt64 (g 27 z))) : Int64) = (v + Int32.toInt64 (g 27 z) * Int32.toInt64 (g 27 z)) := by rfl
          have e5 : (g 28 z : Int32) = (g 28 z) := by rfl
          refine jr_loc (lc_n (lc_n (lc_l e3 (lc_i e5 rfl)))) ?_
          exact ih1 (k - 1) (m + 1) (v + Int32.toInt64 (g 27 z) * Int32.toInt64 (g 27 z)) (g 28 z) (by omega) (by omega) (ch_next hri hz hdk) (by rw [← h3]; obtain ⟨k2, rfl⟩ : ∃ k2, k = k2 + 1 := ⟨k - 1, by omega⟩; rw [chN_y (by omega) hhas, Nat.add_sub_cancel]; omega) (by rw [← h4]; obtain ⟨k2, rfl⟩ : ∃ k2, k = k2 + 1 := ⟨k - 1, by omega⟩; rw [chS_y (by omega) hhas, Nat.add_sub_cancel, Int64.add_assoc])
    refine jr_pick (L' := [(0, .ref (E.1 7)), (2, .int 0), (3, .long 0), (5, .int (nI d))]) [3, 2, 1, 0] rfl ?_
    have e2 : (0 : Int32) = (nI 0) := by rfl
    have e5 : (nI d : Int32) = (nI d) := by rfl
    refine jr_loc (lc_n (lc_i e2 (lc_n (lc_i e5 rfl)))) ?_
    exact key1 (41) 40 0 0 (nI d) (by omega) (by omega) (Or.inr ⟨d, by omega, hd, rfl⟩) (Nat.zero_add _) (Int64.zero_add _)
  · refine jr_iconst (v := (-1)) cx dX7_whole_8 (by decide) ?_
    exact jr_ri (by simp only [dHas, ite_self, if_neg c5]) (by rfl) (by simp only [dHas, ite_self, if_neg c5]) (hR 9 _ dX7_whole_9)
set_option maxHeartbeats 4000000 in
set_option maxRecDepth 100000 in
theorem c_X6_resting (E : mm_E) (g : mm_I) (h : mm_L) (c : Int32) (n : Nat) (hn : n ≤ 40) (hs : g 4 1 = nI n) : Ci E yX6_resting wsX6_resting 4 90 [.ref (E.1 0), .int c] g h (dHas n c (-1) (fun d => nI (sCb (fun c => chP (fun q => g (53 + q) 6) n (fun q => decide (nI q = nI d)) 40 (g (53 + c) 6)) (d + 1) (n - (d + 1))))) g h := by
  refine ci_i (bytes := cX6_resting) (maxL := 2) (by decide) rfl (Nat.le_of_ble_eq_true rfl) (fun X cx hR => ?_)
  change Cx E X cX6_resting RX6 wsX6_resting 2 4 90 at cx
  change JJ E X g h 0 [(0, .ref (E.1 0)), (1, .int c)] []
  have hinX6 : ∀ w ∈ u_ws RX6 TX6 9, w ∈ wsX6_resting := by decide +kernel
  have mf_33 : Cond.fieldLink RX6 33 (TX6 3).1 (TX6 3).2.1 (TX6 3).2.2.1 ∈ wsX6_resting := by decide +kernel
  refine jr_aload_n cx dX6_resting_0 0 rfl rfl ?_
  refine jr_get (f := 3) (v := .ref (E.1 4)) cx dX6_resting_1 (by decide) rfl rfl hinX6 (by decide) mf_33 rfl ?_
  refine jr_iload_n cx dX6_resting_4 1 rfl rfl ?_
  refine jr_vi [.int c] 1 cx dX6_resting_5 (c_X1_has E g h c n hn hs) (by decide) rfl rfl gX6_resting_X1_has rfl (by decide +kernel) ⟨Nat.le_of_ble_eq_true rfl, Nat.le_of_ble_eq_true rfl⟩ rfl rfl (Nat.le_of_ble_eq_true rfl) ?_
  refine jr_bif_eq (tgt := 22) cx dX6_resting_8 (by decide) (fun c8 => ?_) (fun c8 => ?_)
  · refine jr_iconst (v := (-1)) cx dX6_resting_22 (by decide) ?_
    exact jr_ri (by simp only [dHas, ite_self, if_neg c8]) (by rfl) (by rfl) (hR 23 _ dX6_resting_23)
  · obtain ⟨d, hd, rfl⟩ := has_nat (by omega) c8; have ed : (nI d).toNatClampNeg = d := cl_nI (by omega)
    refine jr_aload_n cx dX6_resting_11 0 rfl rfl ?_
    refine jr_get (f := 3) (v := .ref (E.1 4)) cx dX6_resting_12 (by decide) rfl rfl hinX6 (by decide) mf_33 rfl ?_
    refine jr_iload_n cx dX6_resting_15 1 rfl rfl ?_
    refine jr_vi [.int (nI d)] 1 cx dX6_resting_16 (c_X1_countOver E g h d n hn hs (by omega)) (by decide) rfl rfl gX6_resting_X1_countOver rfl (by decide +kernel) ⟨Nat.le_of_ble_eq_true rfl, Nat.le_of_ble_eq_true rfl⟩ rfl rfl (Nat.le_of_ble_eq_true rfl) ?_
    refine jr_goto (tgt := 23) cx dX6_resting_19 (by decide) ?_
    exact jr_ri (by simp only [dHas, ite_self, if_pos c8, ed]) (by rfl) (by rfl) (hR 23 _ dX6_resting_23)
def dPass (nb : Nat) (b L : Int32) (ok : Nat → Nat → Int32) : Int32 := dHas nb b (-1) (fun d => if L = -9 then -4 else ok d L.toNatClampNeg)
set_option maxHeartbeats 4000000 in
set_option maxRecDepth 100000 in
theorem c_X6_passes (E : mm_E) (g : mm_I) (h : mm_L) (b : Int32) (nb : Nat) (hnb : nb ≤ 16) (hsb : g 3 2 = nI nb) (n : Nat) (hn : n ≤ 40) (hs : g 4 1 = nI n) : Ci E yX6_passes wsX6_passes 3 68 [.ref (E.1 0), .int b] g h (dPass nb b (sLast (pLU g b 100000) n) (fun d c => bI (¬ g 12 d < abI (g (53 + c) 7) + g (53 + c) 4))) g h := by
  refine ci_i (bytes := cX6_passes) (maxL := 4) (by decide) rfl (Nat.le_of_ble_eq_true rfl) (fun X cx hR => ?_)
  change Cx E X cX6_passes RX6 wsX6_passes 4 3 68 at cx
  change JJ E X g h 0 [(0, .ref (E.1 0)), (1, .int b)] []
  have hinX6 : ∀ w ∈ u_ws RX6 TX6 9, w ∈ wsX6_passes := by decide +kernel
  have mf_26 : Cond.fieldLink RX6 26 (TX6 2).1 (TX6 2).2.1 (TX6 2).2.2.1 ∈ wsX6_passes := by decide +kernel
  have mf_33 : Cond.fieldLink RX6 33 (TX6 3).1 (TX6 3).2.1 (TX6 3).2.2.1 ∈ wsX6_passes := by decide +kernel
  have ml_mabs : Cond.methodLink RX6 216 Lib.Math.abs.name ∈ wsX6_passes := by decide +kernel
  have mst_mabs : Cond.static Lib.Math.abs.name ∈ wsX6_passes := by decide +kernel
  have mi_math : Cond.initialized "java/lang/Math" ∈ wsX6_passes := by decide +kernel
  have mco_mabs : Cond.code Lib.Math.abs.name Lib.Math.abs.code 1 (some .int) ∈ wsX6_passes := by first | decide +kernel | (unfold wsX6_passes; simp)
  refine jr_aload_n cx dX6_passes_0 0 rfl rfl ?_
  refine jr_get (f := 2) (v := .ref (E.1 3)) cx dX6_passes_1 (by decide) rfl rfl hinX6 (by decide) mf_26 rfl ?_
  refine jr_iload_n cx dX6_passes_4 1 rfl rfl ?_
  refine jr_vi [.int b] 1 cx dX6_passes_5 (c_X0_has E g h b nb hnb hsb) (by decide) rfl rfl gX6_passes_X0_has rfl (by decide +kernel) ⟨Nat.le_of_ble_eq_true rfl, Nat.le_of_ble_eq_true rfl⟩ rfl rfl (Nat.le_of_ble_eq_true rfl) ?_
  refine jr_bif_ne (tgt := 13) cx dX6_passes_8 (by decide) (fun c8 => ?_) (fun c8 => ?_)
  · obtain ⟨d, hd, rfl⟩ := has_nat (by omega) c8; have ed : (nI d).toNatClampNeg = d := cl_nI (by omega)
    refine jr_aload_n cx dX6_passes_13 0 rfl rfl ?_
    refine jr_get (f := 3) (v := .ref (E.1 4)) cx dX6_passes_14 (by decide) rfl rfl hinX6 (by decide) mf_33 rfl ?_
    refine jr_iload_n cx dX6_passes_17 1 rfl rfl ?_
    refine jr_vi [.int (nI d)] 1 cx dX6_passes_18 (c_X1_latestOf E g h (nI d) n hn hs) (by decide) rfl rfl gX6_passes_X1_latestOf rfl (by decide +kernel) ⟨Nat.le_of_ble_eq_true rfl, Nat.le_of_ble_eq_true rfl⟩ rfl rfl (Nat.le_of_ble_eq_true rfl) ?_
    refine jr_istore_n (L' := [(2, .int (sLast (pLU g (nI d) 100000) n)), (0, .ref (E.1 0)), (1, .int (nI d))]) cx dX6_passes_21 rfl (by decide) rfl ?_
    refine jr_iload_n cx dX6_passes_22 0 rfl rfl ?_
    refine jr_bipush (v := (-9)) cx dX6_passes_23 (by decide) ?_
    refine jr_icmp_ne (tgt := 31) cx dX6_passes_25 (by decide) (fun c25 => ?_) (fun c25 => ?_)
    · obtain ⟨c, hc, ec⟩ : ∃ c, c < n ∧ sLast (pLU g (nI d) 100000) n = nI c := (sLast_nat _ n).elim (fun q => absurd q c25) (fun ⟨c, h1, h2, _⟩ => ⟨c, h1, h2⟩)
      have ecl : (sLast (pLU g (nI d) 100000) n).toNatClampNeg = c := by rw [ec]; exact cl_nI (by omega)
      refine jr_loc (lc_i ec rfl) ?_
      refine jr_aload_n cx dX6_passes_31 1 rfl rfl ?_
      refine jr_get (f := 3) (v := .ref (E.1 4)) cx dX6_passes_32 (by decide) rfl rfl hinX6 (by decide) mf_33 rfl ?_
      refine jr_iload_n cx dX6_passes_35 0 rfl rfl ?_
      refine jr_bipush (v := 7) cx dX6_passes_36 (by decide) ?_
      refine jr_vi [.int (nI c), .int 7] 2 cx dX6_passes_38 (c_X1_fact E g h c 7 (by omega) (by omega)) (by decide) rfl rfl gX6_passes_X1_fact rfl (by decide +kernel) ⟨Nat.le_of_ble_eq_true rfl, Nat.le_of_ble_eq_true rfl⟩ rfl rfl (Nat.le_of_ble_eq_true rfl) ?_
      refine jr_mabs cx dX6_passes_41 ml_mabs mst_mabs mi_math mco_mabs (by decide) (Nat.le_of_ble_eq_true rfl) ?_
      refine jr_aload_n cx dX6_passes_44 1 rfl rfl ?_
      refine jr_get (f := 3) (v := .ref (E.1 4)) cx dX6_passes_45 (by decide) rfl rfl hinX6 (by decide) mf_33 rfl ?_
      refine jr_iload_n cx dX6_passes_48 0 rfl rfl ?_
      refine jr_iconst (v := 4) cx dX6_passes_49 (by decide) ?_
      refine jr_vi [.int (nI c), .int 4] 2 cx dX6_passes_50 (c_X1_fact E g h c 4 (by omega) (by omega)) (by decide) rfl rfl gX6_passes_X1_fact rfl (by decide +kernel) ⟨Nat.le_of_ble_eq_true rfl, Nat.le_of_ble_eq_true rfl⟩ rfl rfl (Nat.le_of_ble_eq_true rfl) ?_
      refine jr_iadd cx dX6_passes_53 ?_
      refine jr_istore_n (L' := [(3, .int ((if 0 ≤ g (53 + c) 7 then g (53 + c) 7 else 0 - g (53 + c) 7) + (g (53 + c) 4))), (2, .int (nI c)), (0, .ref (E.1 0)), (1, .int (nI d))]) cx dX6_passes_54 rfl (by decide) rfl ?_
      refine jr_iload_n cx dX6_passes_55 0 rfl rfl ?_
      refine jr_aload_n cx dX6_passes_56 2 rfl rfl ?_
      refine jr_get (f := 2) (v := .ref (E.1 3)) cx dX6_passes_57 (by decide) rfl rfl hinX6 (by decide) mf_26 rfl ?_
      refine jr_iload_n cx dX6_passes_60 3 rfl rfl ?_
      refine jr_vi [.int (nI d)] 1 cx dX6_passes_61 (c_X0_toleranceOf E g h d (by omega)) (by decide) rfl rfl gX6_passes_X0_toleranceOf rfl (by decide +kernel) ⟨Nat.le_of_ble_eq_true rfl, Nat.le_of_ble_eq_true rfl⟩ rfl rfl (Nat.le_of_ble_eq_true rfl) ?_
      refine jr_icmp_gt (tgt := 71) cx dX6_passes_64 (by decide) (fun c64 => ?_) (fun c64 => ?_)
      · refine jr_iconst (v := 0) cx dX6_passes_71 (by decide) ?_
        exact jr_ri (by simp only [dPass, dHas, ite_self, ecl, if_pos c8, if_neg c25, ed]; first | exact (bI_f (fun q => q c64)).symm | exact (bI_t c64).symm) (by rfl) (by rfl) (hR 72 _ dX6_passes_72)
      · refine jr_iconst (v := 1) cx dX6_passes_67 (by decide) ?_
        refine jr_goto (tgt := 72) cx dX6_passes_68 (by decide) ?_
        exact jr_ri (by simp only [dPass, dHas, ite_self, ecl, if_pos c8, if_neg c25, ed]; first | exact (bI_f (fun q => q c64)).symm | exact (bI_t c64).symm) (by rfl) (by rfl) (hR 72 _ dX6_passes_72)
    · refine jr_bipush (v := (-4)) cx dX6_passes_28 (by decide) ?_
      exact jr_ri (by simp only [dPass, dHas, ite_self, if_pos c8, if_pos c25, ed]) (by rfl) (by rfl) (hR 30 _ dX6_passes_30)
  · refine jr_iconst (v := (-1)) cx dX6_passes_11 (by decide) ?_
    exact jr_ri (by simp only [dPass, dHas, ite_self, if_neg c8]) (by rfl) (by rfl) (hR 12 _ dX6_passes_12)
set_option maxHeartbeats 4000000 in
set_option maxRecDepth 100000 in
theorem c_X7_passes (E : mm_E) (g : mm_I) (h : mm_L) (b : Int32) (nb : Nat) (hnb : nb ≤ 16) (hsb : g 7 13 = nI nb) (n : Nat) (hn : n ≤ 40) (hs : g 7 16 = nI n) : Ci E yX7_passes wsX7_passes 2 46 [.ref (E.1 7), .int b] g h (dPass nb b (sLast (pLM g b 100000) n) (fun d c => bI (¬ Int32.toInt64 (g 21 d) < abL (g 26 c).toInt64 + (g 27 c).toInt64))) g h := by
  refine ci_i (bytes := cX7_passes) (maxL := 3) (by decide) rfl (Nat.le_of_ble_eq_true rfl) (fun X cx hR => ?_)
  change Cx E X cX7_passes RX7 wsX7_passes 3 2 46 at cx
  change JJ E X g h 0 [(0, .ref (E.1 7)), (1, .int b)] []
  have hinX7 : ∀ w ∈ u_ws RX7 TX7 30, w ∈ wsX7_passes := by decide +kernel
  have mf_53 : Cond.fieldLink RX7 53 (TX7 21).1 (TX7 21).2.1 (TX7 21).2.2.1 ∈ wsX7_passes := by decide +kernel
  have mf_56 : Cond.fieldLink RX7 56 (TX7 22).1 (TX7 22).2.1 (TX7 22).2.2.1 ∈ wsX7_passes := by decide +kernel
  have mf_38 : Cond.fieldLink RX7 38 (TX7 15).1 (TX7 15).2.1 (TX7 15).2.2.1 ∈ wsX7_passes := by decide +kernel
  refine jr_aload_n cx dX7_passes_0 0 rfl rfl ?_
  refine jr_iload_n cx dX7_passes_1 1 rfl rfl ?_
  refine jr_vi [.int b] 1 cx dX7_passes_2 (c_X7_isBulb E g h b nb hnb hsb) (by decide) rfl rfl gX7_passes_X7_isBulb rfl (by decide +kernel) ⟨Nat.le_of_ble_eq_true rfl, Nat.le_of_ble_eq_true rfl⟩ rfl rfl (Nat.le_of_ble_eq_true rfl) ?_
  refine jr_bif_ne (tgt := 10) cx dX7_passes_5 (by decide) (fun c5 => ?_) (fun c5 => ?_)
  · obtain ⟨d, hd, rfl⟩ := has_nat (by omega) c5; have ed : (nI d).toNatClampNeg = d := cl_nI (by omega)
    refine jr_aload_n cx dX7_passes_10 0 rfl rfl ?_
    refine jr_iload_n cx dX7_passes_11 1 rfl rfl ?_
    refine jr_vi [.int (nI d)] 1 cx dX7_passes_12 (c_X7_latestOf E g h (nI d) n hn hs) (by decide) rfl rfl gX7_passes_X7_latestOf rfl (by decide +kernel) ⟨Nat.le_of_ble_eq_true rfl, Nat.le_of_ble_eq_true rfl⟩ rfl rfl (Nat.le_of_ble_eq_true rfl) ?_
    refine jr_istore_n (L' := [(2, .int (sLast (pLM g (nI d) 100000) n)), (0, .ref (E.1 7)), (1, .int (nI d))]) cx dX7_passes_15 rfl (by decide) rfl ?_
    refine jr_iload_n cx dX7_passes_16 0 rfl rfl ?_
    refine jr_if_ge (tgt := 25) cx dX7_passes_17 (by decide) (fun c17 => ?_) (fun c17 => ?_)
    · have p17 : ¬ sLast (pLM g (nI d) 100000) n = -9 := fun q => absurd ((sLast_neg hn).mpr q) (Int32.not_lt.mpr c17)
      obtain ⟨c, hc, ec⟩ : ∃ c, c < n ∧ sLast (pLM g (nI d) 100000) n = nI c := (sLast_nat _ n).elim (fun q => absurd q p17) (fun ⟨c, h1, h2, _⟩ => ⟨c, h1, h2⟩)
      have ecl : (sLast (pLM g (nI d) 100000) n).toNatClampNeg = c := by rw [ec]; exact cl_nI (by omega)
      refine jr_loc (lc_i ec rfl) ?_
      refine jr_aload_n cx dX7_passes_25 1 rfl rfl ?_
      refine jr_get (f := 21) (v := .ref (E.1 26)) cx dX7_passes_26 (by decide) rfl rfl hinX7 (by decide) mf_53 rfl ?_
      refine jr_iload_n cx dX7_passes_29 0 rfl rfl ?_
      refine jr_iald cx dX7_passes_30 (Or.inl ⟨by decide, by decide⟩) c rfl (show _ < 40 by omega) ?_
      refine jr_i2l cx dX7_passes_31 ?_
      refine jr_sl [.long (Int32.toInt64 (g 26 c))] 1 cx dX7_passes_32 (c_X7_size E g h (Int32.toInt64 (g 26 c))) gX7_passes_X7_size rfl (by decide +kernel) ⟨Nat.le_of_ble_eq_true rfl, Nat.le_of_ble_eq_true rfl⟩ rfl rfl (Nat.le_of_ble_eq_true rfl) ?_
      refine jr_aload_n cx dX7_passes_35 1 rfl rfl ?_
      refine jr_get (f := 22) (v := .ref (E.1 27)) cx dX7_passes_36 (by decide) rfl rfl hinX7 (by decide) mf_56 rfl ?_
      refine jr_iload_n cx dX7_passes_39 0 rfl rfl ?_
      refine jr_iald cx dX7_passes_40 (Or.inl ⟨by decide, by decide⟩) c rfl (show _ < 40 by omega) ?_
      refine jr_i2l cx dX7_passes_41 ?_
      refine jr_ladd cx dX7_passes_42 ?_
      refine jr_aload_n cx dX7_passes_43 1 rfl rfl ?_
      refine jr_get (f := 15) (v := .ref (E.1 21)) cx dX7_passes_44 (by decide) rfl rfl hinX7 (by decide) mf_38 rfl ?_
      refine jr_iload_n cx dX7_passes_47 2 rfl rfl ?_
      refine jr_iald cx dX7_passes_48 (Or.inl ⟨by decide, by decide⟩) d rfl (show _ < 16 by omega) ?_
      refine jr_i2l cx dX7_passes_49 ?_
      refine jr_lcmp cx dX7_passes_50 ?_
      refine jr_lif_gt (tgt := 58) cx dX7_passes_51 (by decide) (fun c51 => ?_) (fun c51 => ?_)
      · refine jr_iconst (v := 0) cx dX7_passes_58 (by decide) ?_
        exact jr_ri (by simp only [dPass, dHas, ite_self, ecl, if_pos c5, if_neg p17, ed]; first | exact (bI_f (fun q => q c51)).symm | exact (bI_t c51).symm) (by rfl) (by rfl) (hR 59 _ dX7_passes_59)
      · refine jr_iconst (v := 1) cx dX7_passes_54 (by decide) ?_
        refine jr_goto (tgt := 59) cx dX7_passes_55 (by decide) ?_
        exact jr_ri (by simp only [dPass, dHas, ite_self, ecl, if_pos c5, if_neg p17, ed]; first | exact (bI_f (fun q => q c51)).symm | exact (bI_t c51).symm) (by rfl) (by rfl) (hR 59 _ dX7_passes_59)
    · have p17 : sLast (pLM g (nI d) 100000) n = -9 := (sLast_neg hn).mp (Int32.not_le.mp c17)
      refine jr_bipush (v := (-4)) cx dX7_passes_20 (by decide) ?_
      refine jr_goto (tgt := 59) cx dX7_passes_22 (by decide) ?_
      exact jr_ri (by simp only [dPass, dHas, ite_self, if_pos c5, if_pos p17, ed]) (by rfl) (by rfl) (hR 59 _ dX7_passes_59)
  · refine jr_iconst (v := (-1)) cx dX7_passes_8 (by decide) ?_
    exact jr_ri (by simp only [dPass, dHas, ite_self, if_neg c5]) (by rfl) (by rfl) (hR 9 _ dX7_passes_9)
def dWr {α : Type} (ba a b : Int32) (bad ok : α) : α := if ¬ ba < 0 ∧ ¬ 7 < ba then (if ¬ a < 0 ∧ ¬ 100000 < a then (if ¬ b < 0 ∧ ¬ 100000 < b then (if a ≤ b then ok else bad) else bad) else bad) else bad
abbrev mwI (ba a b : Int32) (G : mm_I) (i : Nat) : Prop := (G 24 i = ba ∧ ¬ G 25 i < a ∧ ¬ b < G 25 i) ∨ (¬ G 28 i < 0 ∧ ¬ G 31 (G 28 i).toNatClampNeg = 0)
def mwG (ba a b : Int32) (g : mm_I) : Nat → mm_I
  | 0 => g
  | i + 1 => up2 (mwG ba a b g i) 31 i (bI (¬ mwG ba a b g i 31 i = 0 ∨ mwI ba a b (mwG ba a b g i) i))
def mwN (ba a b : Int32) (g : mm_I) : Nat → Nat
  | 0 => 0
  | i + 1 => if mwI ba a b (mwG ba a b g i) i ∧ mwG ba a b g i 31 i = 0 then mwN ba a b g i + 1 else mwN ba a b g i
theorem mwN_le (ba a b : Int32) (g : mm_I) : ∀ i, mwN ba a b g i ≤ i
  | 0 => Nat.le_refl 0
  | i + 1 => by have := mwN_le ba a b g i; unfold mwN; split <;> omega
theorem mwG_o (ba a b : Int32) (g : mm_I) {k : Nat} (hk : k ≠ 31) : ∀ i, mwG ba a b g i k = g k
  | 0 => rfl
  | i + 1 => by
    have h9 := mwG_o ba a b g hk i
    unfold mwG
    rw [up2_n _ _ _ hk]; exact h9
set_option maxHeartbeats 4000000 in
set_option maxRecDepth 100000 in
theorem c_X6_wrong (E : mm_E) (g : mm_I) (h : mm_L) (ba a b : Int32) (n : Nat) (hn : n ≤ 40) (hs : g 4 1 = nI n) : Ci E yX6_wrong wsX6_wrong 4 91 [.ref (E.1 0), .int ba, .int a, .int b] g h (dWr ba a b (-1) (nI (mvN n ba a b g n))) (dWr ba a b g (mvG n ba a b g n)) h := by
  refine ci_i (bytes := cX6_wrong) (maxL := 4) (by decide) rfl (Nat.le_of_ble_eq_true rfl) (fun X cx hR => ?_)
  change Cx E X cX6_wrong RX6 wsX6_wrong 4 4 91 at cx
  change JJ E X g h 0 [(0, .ref (E.1 0)), (1, .int ba), (2, .int a), (3, .int b)] []
  have hinX6 : ∀ w ∈ u_ws RX6 TX6 9, w ∈ wsX6_wrong := by decide +kernel
  have mf_33 : Cond.fieldLink RX6 33 (TX6 3).1 (TX6 3).2.1 (TX6 3).2.2.1 ∈ wsX6_wrong := by decide +kernel
  refine jr_iload_n cx dX6_wrong_0 1 rfl rfl ?_
  refine jr_si [.int ba] 1 cx dX6_wrong_1 (c_X6_isBath E g h ba) gX6_wrong_X6_isBath rfl (by decide +kernel) ⟨Nat.le_of_ble_eq_true rfl, Nat.le_of_ble_eq_true rfl⟩ rfl rfl (Nat.le_of_ble_eq_true rfl) ?_
  refine jr_bif_eq (tgt := 26) cx dX6_wrong_4 (by decide) (fun c4 => ?_) (fun c4 => ?_)
  · refine jr_iconst (v := (-1)) cx dX6_wrong_26 (by decide) ?_
    exact jr_ri (by simp only [dWr, ite_self, if_neg c4]) (by simp only [dWr, ite_self, if_neg c4]) (by rfl) (hR 27 _ dX6_wrong_27)
  · refine jr_iload_n cx dX6_wrong_7 2 rfl rfl ?_
    refine jr_si [.int a] 1 cx dX6_wrong_8 (c_X6_isDay E g h a) gX6_wrong_X6_isDay rfl (by decide +kernel) ⟨Nat.le_of_ble_eq_true rfl, Nat.le_of_ble_eq_true rfl⟩ rfl rfl (Nat.le_of_ble_eq_true rfl) ?_
    refine jr_bif_eq (tgt := 26) cx dX6_wrong_11 (by decide) (fun c11 => ?_) (fun c11 => ?_)
    · refine jr_iconst (v := (-1)) cx dX6_wrong_26 (by decide) ?_
      exact jr_ri (by simp only [dWr, ite_self, if_pos c4, if_neg c11]) (by simp only [dWr, ite_self, if_pos c4, if_neg c11]) (by rfl) (hR 27 _ dX6_wrong_27)
    · refine jr_iload_n cx dX6_wrong_14 3 rfl rfl ?_
      refine jr_si [.int b] 1 cx dX6_wrong_15 (c_X6_isDay E g h b) gX6_wrong_X6_isDay rfl (by decide +kernel) ⟨Nat.le_of_ble_eq_true rfl, Nat.le_of_ble_eq_true rfl⟩ rfl rfl (Nat.le_of_ble_eq_true rfl) ?_
      refine jr_bif_eq (tgt := 26) cx dX6_wrong_18 (by decide) (fun c18 => ?_) (fun c18 => ?_)
      · refine jr_iconst (v := (-1)) cx dX6_wrong_26 (by decide) ?_
        exact jr_ri (by simp only [dWr, ite_self, if_pos c4, if_pos c11, if_neg c18]) (by simp only [dWr, ite_self, if_pos c4, if_pos c11, if_neg c18]) (by rfl) (hR 27 _ dX6_wrong_27)
      · refine jr_iload_n cx dX6_wrong_21 2 rfl rfl ?_
        refine jr_iload_n cx dX6_wrong_22 3 rfl rfl ?_
        refine jr_icmp_le (tgt := 28) cx dX6_wrong_23 (by decide) (fun c23 => ?_) (fun c23 => ?_)
        · refine jr_aload_n cx dX6_wrong_28 0 rfl rfl ?_
          refine jr_get (f := 3) (v := .ref (E.1 4)) cx dX6_wrong_29 (by decide) rfl rfl hinX6 (by decide) mf_33 rfl ?_
          refine jr_iload_n cx dX6_wrong_32 1 rfl rfl ?_
          refine jr_iload_n cx dX6_wrong_33 2 rfl rfl ?_
          refine jr_iload_n cx dX6_wrong_34 3 rfl rfl ?_
          refine jr_vi [.int ba, .int a, .int b] 3 cx dX6_wrong_35 (c_X1_makeVoid E g h ba a b n hn hs) (by decide) rfl rfl gX6_wrong_X1_makeVoid rfl (by decide +kernel) ⟨Nat.le_of_ble_eq_true rfl, Nat.le_of_ble_eq_true rfl⟩ rfl rfl (Nat.le_of_ble_eq_true rfl) ?_
          exact jr_ri (by simp only [dWr, ite_self, if_pos c4, if_pos c11, if_pos c18, if_pos c23]) (by simp only [dWr, ite_self, if_pos c4, if_pos c11, if_pos c18, if_pos c23]) (by rfl) (hR 38 _ dX6_wrong_38)
        · refine jr_iconst (v := (-1)) cx dX6_wrong_26 (by decide) ?_
          exact jr_ri (by simp only [dWr, ite_self, if_pos c4, if_pos c11, if_pos c18, if_neg c23]) (by simp only [dWr, ite_self, if_pos c4, if_pos c11, if_pos c18, if_neg c23]) (by rfl) (hR 27 _ dX6_wrong_27)
set_option maxHeartbeats 4000000 in
set_option maxRecDepth 100000 in
theorem c_X7_wrong (E : mm_E) (g : mm_I) (h : mm_L) (ba a b : Int32) (n : Nat) (hn : n ≤ 40) (hs : g 7 16 = nI n) (hri : ∀ c, c < n → g 28 c = -9 ∨ ∃ d, d < c ∧ g 28 c = nI d) : Ci E yX7_wrong wsX7_wrong 2 42 [.ref (E.1 7), .int ba, .int a, .int b] g h (dWr ba a b (-1) (nI (mwN ba a b g n))) (dWr ba a b g (mwG ba a b g n)) h := by
  refine ci_i (bytes := cX7_wrong) (maxL := 7) (by decide) rfl (Nat.le_of_ble_eq_true rfl) (fun X cx hR => ?_)
  change Cx E X cX7_wrong RX7 wsX7_wrong 7 2 42 at cx
  change JJ E X g h 0 [(0, .ref (E.1 7)), (1, .int ba), (2, .int a), (3, .int b)] []
  have hinX7 : ∀ w ∈ u_ws RX7 TX7 30, w ∈ wsX7_wrong := by decide +kernel
  have mf_147 : Cond.fieldLink RX7 147 (TX7 16).1 (TX7 16).2.1 (TX7 16).2.2.1 ∈ wsX7_wrong := by decide +kernel
  have mf_47 : Cond.fieldLink RX7 47 (TX7 19).1 (TX7 19).2.1 (TX7 19).2.2.1 ∈ wsX7_wrong := by decide +kernel
  have mf_59 : Cond.fieldLink RX7 59 (TX7 23).1 (TX7 23).2.1 (TX7 23).2.2.1 ∈ wsX7_wrong := by decide +kernel
  have mf_62 : Cond.fieldLink RX7 62 (TX7 24).1 (TX7 24).2.1 (TX7 24).2.2.1 ∈ wsX7_wrong := by decide +kernel
  have mf_50 : Cond.fieldLink RX7 50 (TX7 20).1 (TX7 20).2.1 (TX7 20).2.2.1 ∈ wsX7_wrong := by decide +kernel
  have hle := mwN_le ba a b g
  refine jr_iload_n cx dX7_wrong_0 1 rfl rfl ?_
  refine jr_iconst (v := 0) cx dX7_wrong_1 (by decide) ?_
  refine jr_bipush (v := 7) cx dX7_wrong_2 (by decide) ?_
  refine jr_si [.int ba, .int 0, .int 7] 3 cx dX7_wrong_4 (c_X7_in E g h ba 0 7) gX7_wrong_X7_in rfl (by decide +kernel) ⟨Nat.le_of_ble_eq_true rfl, Nat.le_of_ble_eq_true rfl⟩ rfl rfl (Nat.le_of_ble_eq_true rfl) ?_
  refine jr_bif_eq (tgt := 29) cx dX7_wrong_7 (by decide) (fun c7 => ?_) (fun c7 => ?_)
  · refine jr_iconst (v := (-1)) cx dX7_wrong_29 (by decide) ?_
    exact jr_ri (by simp only [dWr, ite_self, if_neg c7]) (by simp only [dWr, ite_self, if_neg c7]) (by rfl) (hR 30 _ dX7_wrong_30)
  · refine jr_iload_n cx dX7_wrong_10 2 rfl rfl ?_
    refine jr_si [.int a] 1 cx dX7_wrong_11 (c_X7_isDay E g h a) gX7_wrong_X7_isDay rfl (by decide +kernel) ⟨Nat.le_of_ble_eq_true rfl, Nat.le_of_ble_eq_true rfl⟩ rfl rfl (Nat.le_of_ble_eq_true rfl) ?_
    refine jr_bif_eq (tgt := 29) cx dX7_wrong_14 (by decide) (fun c14 => ?_) (fun c14 => ?_)
    · refine jr_iconst (v := (-1)) cx dX7_wrong_29 (by decide) ?_
      exact jr_ri (by simp only [dWr, ite_self, if_pos c7, if_neg c14]) (by simp only [dWr, ite_self, if_pos c7, if_neg c14]) (by rfl) (hR 30 _ dX7_wrong_30)
    · refine jr_iload_n cx dX7_wrong_17 3 rfl rfl ?_
      refine jr_si [.int b] 1 cx dX7_wrong_18 (c_X7_isDay E g h b) gX7_wrong_X7_isDay rfl (by decide +kernel) ⟨Nat.le_of_ble_eq_true rfl, Nat.le_of_ble_eq_true rfl⟩ rfl rfl (Nat.le_of_ble_eq_true rfl) ?_
      refine jr_bif_eq (tgt := 29) cx dX7_wrong_21 (by decide) (fun c21 => ?_) (fun c21 => ?_)
      · refine jr_iconst (v := (-1)) cx dX7_wrong_29 (by decide) ?_
        exact jr_ri (by simp only [dWr, ite_self, if_pos c7, if_pos c14, if_neg c21]) (by simp only [dWr, ite_self, if_pos c7, if_pos c14, if_neg c21]) (by rfl) (hR 30 _ dX7_wrong_30)
      · refine jr_iload_n cx dX7_wrong_24 2 rfl rfl ?_
        refine jr_iload_n cx dX7_wrong_25 3 rfl rfl ?_
        refine jr_icmp_le (tgt := 31) cx dX7_wrong_26 (by decide) (fun c26 => ?_) (fun c26 => ?_)
        · refine jr_iconst (v := 0) cx dX7_wrong_31 (by decide) ?_
          refine jr_istore (L' := [(4, .int 0), (0, .ref (E.1 7)), (1, .int ba), (2, .int a), (3, .int b)]) cx dX7_wrong_32 (by decide) rfl ?_
          refine jr_iconst (v := 0) cx dX7_wrong_34 (by decide) ?_
          refine jr_istore (L' := [(5, .int 0), (4, .int 0), (0, .ref (E.1 7)), (1, .int ba), (2, .int a), (3, .int b)]) cx dX7_wrong_35 (by decide) rfl ?_
          have key1 : ∀ (fu1 : Nat) (i : Nat), n + 1 ≤ i + fu1 → (i ≤ n) → JJ E X (mwG ba a b g i) h 37 [(0, .ref (E.1 7)), (1, .int ba), (2, .int a), (3, .int b), (4, .int (nI (mwN ba a b g i))), (5, .int (nI i))] [] := by
            intro fu1
            induction fu1 with
            | zero => intro i hfu1 h1; exfalso; omega
            | succ fu1 ih1 =>
              intro i hfu1 h1
              refine jr_iload cx dX7_wrong_37 5 rfl ?_
              refine jr_aload_n cx dX7_wrong_39 0 rfl rfl ?_
              refine jr_get (f := 16) (v := .int ((mwG ba a b g i) 7 16)) cx dX7_wrong_40 (by decide) rfl rfl hinX7 (by decide) mf_147 rfl ?_
              refine jr_top (show _ = nI n by rw [mwG_o _ _ _ _ (by decide)]; exact hs) ?_
              refine jr_icmp_ge (tgt := 162) cx dX7_wrong_43 (by decide) (fun c43 => ?_) (fun c43 => ?_)
              · have n43 : n ≤ i := (nI_leI (a := n) (b := i) (by omega) (by omega)).mp c43
                refine jr_iload cx dX7_wrong_162 4 rfl ?_
                exact jr_ri (by simp only [dWr, ite_self, if_pos c7, if_pos c14, if_pos c21, if_pos c26]; rw [show i = n by omega]) (by simp only [dWr, ite_self, if_pos c7, if_pos c14, if_pos c21, if_pos c26]; rw [show i = n by omega]) (by rfl) (hR 164 _ dX7_wrong_164)
              · have n43 : ¬ (n ≤ i) := fun zz => c43 ((nI_leI (a := n) (b := i) (by omega) (by omega)).mpr zz)
                refine jr_aload_n cx dX7_wrong_46 0 rfl rfl ?_
                refine jr_get (f := 19) (v := .ref (E.1 24)) cx dX7_wrong_47 (by decide) rfl rfl hinX7 (by decide) mf_47 rfl ?_
                refine jr_iload cx dX7_wrong_50 5 rfl ?_
                refine jr_iald cx dX7_wrong_52 (Or.inl ⟨by decide, by decide⟩) i rfl (show _ < 40 by omega) ?_
                refine jr_iload_n cx dX7_wrong_53 1 rfl rfl ?_
                refine jr_icmp_ne (tgt := 72) cx dX7_wrong_54 (by decide) (fun c54 => ?_) (fun c54 => ?_)
                · refine jr_aload_n cx dX7_wrong_72 0 rfl rfl ?_
                  refine jr_get (f := 23) (v := .ref (E.1 28)) cx dX7_wrong_73 (by decide) rfl rfl hinX7 (by decide) mf_59 rfl ?_
                  refine jr_iload cx dX7_wrong_76 5 rfl ?_
                  refine jr_iald cx dX7_wrong_78 (Or.inl ⟨by decide, by decide⟩) i rfl (show _ < 40 by omega) ?_
                  refine jr_if_lt (tgt := 101) cx dX7_wrong_79 (by decide) (fun c79 => ?_) (fun c79 => ?_)
                  · refine jr_iconst (v := 0) cx dX7_wrong_101 (by decide) ?_
                    refine jr_istore (L' := [(6, .int 0), (0, .ref (E.1 7)), (1, .int ba), (2, .int a), (3, .int b), (4, .int (nI (mwN ba a b g i))), (5, .int (nI i))]) cx dX7_wrong_102 (by decide) rfl ?_
                    refine jr_iload cx dX7_wrong_104 5 rfl ?_
                    refine jr_iload cx dX7_wrong_106 0 rfl ?_
                    refine jr_if_eq (tgt := 125) cx dX7_wrong_108 (by decide) (fun c108 => ?_) (fun c108 => absurd c108 (by decide))
                    refine jr_iconst (v := 0) cx dX7_wrong_125 (by decide) ?_
                    refine jr_iadd cx dX7_wrong_126 ?_
                    refine jr_top (show (nI (mwN ba a b g i) : Int32) + 0 = nI ((mwN ba a b g i) + 0) from nI_add (mwN ba a b g i) 0) ?_
                    refine jr_istore (L' := [(4, .int (nI ((mwN ba a b g i) + 0))), (6, .int 0), (0, .ref (E.1 7)), (1, .int ba), (2, .int a), (3, .int b), (5, .int (nI i))]) cx dX7_wrong_127 (by decide) rfl ?_
                    refine jr_aload_n cx dX7_wrong_129 2 rfl rfl ?_
                    refine jr_get (f := 24) (v := .ref (E.1 31)) cx dX7_wrong_130 (by decide) rfl rfl hinX7 (by decide) mf_62 rfl ?_
                    refine jr_iload cx dX7_wrong_133 6 rfl ?_
                    refine jr_aload_n cx dX7_wrong_135 2 rfl rfl ?_
                    refine jr_get (f := 24) (v := .ref (E.1 31)) cx dX7_wrong_136 (by decide) rfl rfl hinX7 (by decide) mf_62 rfl ?_
                    refine jr_iload cx dX7_wrong_139 6 rfl ?_
                    refine jr_zald cx dX7_wrong_141 (Or.inl rfl) i rfl (show _ < 40 by omega) ?_
                    refine jr_if_ne (tgt := 150) cx dX7_wrong_142 (by decide) (fun c142 => ?_) (fun c142 => ?_)
                    · refine jr_iconst (v := 1) cx dX7_wrong_150 (by decide) ?_
                      refine jr_goto (tgt := 155) cx dX7_wrong_151 (by decide) ?_
                      refine jr_zast cx dX7_wrong_155 (Or.inl rfl) i rfl (show _ < 40 by omega) (by first | exact Or.inl rfl | exact Or.inr rfl) ?_
                      refine jr_iinc (n := 6) (v := nI (i + 1)) (L' := [(5, .int (nI (i + 1))), (4, .int (nI ((mwN ba a b g i) + 0))), (6, .int 0), (0, .ref (E.1 7)), (1, .int ba), (2, .int a), (3, .int b)]) cx dX7_wrong_156 rfl (nI_1 _) (by decide) rfl ?_
                      refine jr_goto (tgt := 37) cx dX7_wrong_159 (by decide) ?_
                      refine jr_pick (L' := [(0, .ref (E.1 7)), (1, .int ba), (2, .int a), (3, .int b), (4, .int (nI ((mwN ba a b g i) + 0))), (5, .int (nI (i + 1)))]) [3, 4, 5, 6, 1, 0] rfl ?_
                      have e4 : (nI ((mwN ba a b g i) + 0) : Int32) = (nI (mwN ba a b g (i + 1))) := by exact congrArg nI (if_neg (fun q => (fun q : mwI ba a b (mwG ba a b g i) i => q.elim (fun q => c54 q.1) (fun q => q.1 c79)) q.1)).symm
                      refine jr_loc (lc_n (lc_n (lc_n (lc_n (lc_i e4 (lc_n rfl)))))) ?_
                      refine jr_mem (g' := mwG ba a b g (i + 1)) (h' := h) (by rw [mwG, bI_t (Or.inl c142)]) (by rfl) ?_
                      exact ih1 (i + 1) (by omega) (by omega)
                    · refine jr_iload cx dX7_wrong_145 1 rfl ?_
                      refine jr_if_eq (tgt := 154) cx dX7_wrong_147 (by decide) (fun c147 => ?_) (fun c147 => absurd c147 (by decide))
                      refine jr_iconst (v := 0) cx dX7_wrong_154 (by decide) ?_
                      refine jr_zast cx dX7_wrong_155 (Or.inl rfl) i rfl (show _ < 40 by omega) (by first | exact Or.inl rfl | exact Or.inr rfl) ?_
                      refine jr_iinc (n := 6) (v := nI (i + 1)) (L' := [(5, .int (nI (i + 1))), (4, .int (nI ((mwN ba a b g i) + 0))), (6, .int 0), (0, .ref (E.1 7)), (1, .int ba), (2, .int a), (3, .int b)]) cx dX7_wrong_156 rfl (nI_1 _) (by decide) rfl ?_
                      refine jr_goto (tgt := 37) cx dX7_wrong_159 (by decide) ?_
                      refine jr_pick (L' := [(0, .ref (E.1 7)), (1, .int ba), (2, .int a), (3, .int b), (4, .int (nI ((mwN ba a b g i) + 0))), (5, .int (nI (i + 1)))]) [3, 4, 5, 6, 1, 0] rfl ?_
                      have e4 : (nI ((mwN ba a b g i) + 0) : Int32) = (nI (mwN ba a b g (i + 1))) := by exact congrArg nI (if_neg (fun q => (fun q : mwI ba a b (mwG ba a b g i) i => q.elim (fun q => c54 q.1) (fun q => q.1 c79)) q.1)).symm
                      refine jr_loc (lc_n (lc_n (lc_n (lc_n (lc_i e4 (lc_n rfl)))))) ?_
                      refine jr_mem (g' := mwG ba a b g (i + 1)) (h' := h) (by rw [mwG, bI_f (fun q => q.elim (fun q => q c142) (fun q : mwI ba a b (mwG ba a b g i) i => q.elim (fun q => c54 q.1) (fun q => q.1 c79)))]) (by rfl) ?_
                      exact ih1 (i + 1) (by omega) (by omega)
                  · obtain ⟨z, hz, ezz⟩ : ∃ z, z < i ∧ (mwG ba a b g i) 28 i = nI z := by
                      rw [mwG_o ba a b g (by decide) i]; rw [mwG_o ba a b g (by decide) i] at c79; exact (hri i (by omega)).elim (fun q => absurd (by rw [q]; decide) c79) (fun ⟨z, h1, h2⟩ => ⟨z, h1, h2⟩)
                    have ez : ((mwG ba a b g i) 28 i).toNatClampNeg = z := by rw [ezz]; exact cl_nI (by omega)
                    refine jr_aload_n cx dX7_wrong_82 0 rfl rfl ?_
                    refine jr_get (f := 24) (v := .ref (E.1 31)) cx dX7_wrong_83 (by decide) rfl rfl hinX7 (by decide) mf_62 rfl ?_
                    refine jr_aload_n cx dX7_wrong_86 0 rfl rfl ?_
                    refine jr_get (f := 23) (v := .ref (E.1 28)) cx dX7_wrong_87 (by decide) rfl rfl hinX7 (by decide) mf_59 rfl ?_
                    refine jr_iload cx dX7_wrong_90 5 rfl ?_
                    refine jr_iald cx dX7_wrong_92 (Or.inl ⟨by decide, by decide⟩) i rfl (show _ < 40 by omega) ?_
                    refine jr_top ezz ?_
                    refine jr_zald cx dX7_wrong_93 (Or.inl rfl) z rfl (show _ < 40 by omega) ?_
                    refine jr_if_eq (tgt := 101) cx dX7_wrong_94 (by decide) (fun c94 => ?_) (fun c94 => ?_)
                    · refine jr_iconst (v := 0) cx dX7_wrong_101 (by decide) ?_
                      refine jr_istore (L' := [(6, .int 0), (0, .ref (E.1 7)), (1, .int ba), (2, .int a), (3, .int b), (4, .int (nI (mwN ba a b g i))), (5, .int (nI i))]) cx dX7_wrong_102 (by decide) rfl ?_
                      refine jr_iload cx dX7_wrong_104 5 rfl ?_
                      refine jr_iload cx dX7_wrong_106 0 rfl ?_
                      refine jr_if_eq (tgt := 125) cx dX7_wrong_108 (by decide) (fun c108 => ?_) (fun c108 => absurd c108 (by decide))
                      refine jr_iconst (v := 0) cx dX7_wrong_125 (by decide) ?_
                      refine jr_iadd cx dX7_wrong_126 ?_
                      refine jr_top (show (nI (mwN ba a b g i) : Int32) + 0 = nI ((mwN ba a b g i) + 0) from nI_add (mwN ba a b g i) 0) ?_
                      refine jr_istore (L' := [(4, .int (nI ((mwN ba a b g i) + 0))), (6, .int 0), (0, .ref (E.1 7)), (1, .int ba), (2, .int a), (3, .int b), (5, .int (nI i))]) cx dX7_wrong_127 (by decide) rfl ?_
                      refine jr_aload_n cx dX7_wrong_129 2 rfl rfl ?_
                      refine jr_get (f := 24) (v := .ref (E.1 31)) cx dX7_wrong_130 (by decide) rfl rfl hinX7 (by decide) mf_62 rfl ?_
                      refine jr_iload cx dX7_wrong_133 6 rfl ?_
                      refine jr_aload_n cx dX7_wrong_135 2 rfl rfl ?_
                      refine jr_get (f := 24) (v := .ref (E.1 31)) cx dX7_wrong_136 (by decide) rfl rfl hinX7 (by decide) mf_62 rfl ?_
                      refine jr_iload cx dX7_wrong_139 6 rfl ?_
                      refine jr_zald cx dX7_wrong_141 (Or.inl rfl) i rfl (show _ < 40 by omega) ?_
                      refine jr_if_ne (tgt := 150) cx dX7_wrong_142 (by decide) (fun c142 => ?_) (fun c142 => ?_)
                      · refine jr_iconst (v := 1) cx dX7_wrong_150 (by decide) ?_
                        refine jr_goto (tgt := 155) cx dX7_wrong_151 (by decide) ?_
                        refine jr_zast cx dX7_wrong_155 (Or.inl rfl) i rfl (show _ < 40 by omega) (by first | exact Or.inl rfl | exact Or.inr rfl) ?_
                        refine jr_iinc (n := 6) (v := nI (i + 1)) (L' := [(5, .int (nI (i + 1))), (4, .int (nI ((mwN ba a b g i) + 0))), (6, .int 0), (0, .ref (E.1 7)), (1, .int ba), (2, .int a), (3, .int b)]) cx dX7_wrong_156 rfl (nI_1 _) (by decide) rfl ?_
                        refine jr_goto (tgt := 37) cx dX7_wrong_159 (by decide) ?_
                        refine jr_pick (L' := [(0, .ref (E.1 7)), (1, .int ba), (2, .int a), (3, .int b), (4, .int (nI ((mwN ba a b g i) + 0))), (5, .int (nI (i + 1)))]) [3, 4, 5, 6, 1, 0] rfl ?_
                        have e4 : (nI ((mwN ba a b g i) + 0) : Int32) = (nI (mwN ba a b g (i + 1))) := by exact congrArg nI (if_neg (fun q => (fun q : mwI ba a b (mwG ba a b g i) i => q.elim (fun q => c54 q.1) (fun q => q.2 (by rw [ez]; exact c94))) q.1)).symm
                        refine jr_loc (lc_n (lc_n (lc_n (lc_n (lc_i e4 (lc_n rfl)))))) ?_
                        refine jr_mem (g' := mwG ba a b g (i + 1)) (h' := h) (by rw [mwG, bI_t (Or.inl c142)]) (by rfl) ?_
                        exact ih1 (i + 1) (by omega) (by omega)
                      · refine jr_iload cx dX7_wrong_145 1 rfl ?_
                        refine jr_if_eq (tgt := 154) cx dX7_wrong_147 (by decide) (fun c147 => ?_) (fun c147 => absurd c147 (by decide))
                        refine jr_iconst (v := 0) cx dX7_wrong_154 (by decide) ?_
                        refine jr_zast cx dX7_wrong_155 (Or.inl rfl) i rfl (show _ < 40 by omega) (by first | exact Or.inl rfl | exact Or.inr rfl) ?_
                        refine jr_iinc (n := 6) (v := nI (i + 1)) (L' := [(5, .int (nI (i + 1))), (4, .int (nI ((mwN ba a b g i) + 0))), (6, .int 0), (0, .ref (E.1 7)), (1, .int ba), (2, .int a), (3, .int b)]) cx dX7_wrong_156 rfl (nI_1 _) (by decide) rfl ?_
                        refine jr_goto (tgt := 37) cx dX7_wrong_159 (by decide) ?_
                        refine jr_pick (L' := [(0, .ref (E.1 7)), (1, .int ba), (2, .int a), (3, .int b), (4, .int (nI ((mwN ba a b g i) + 0))), (5, .int (nI (i + 1)))]) [3, 4, 5, 6, 1, 0] rfl ?_
                        have e4 : (nI ((mwN ba a b g i) + 0) : Int32) = (nI (mwN ba a b g (i + 1))) := by exact congrArg nI (if_neg (fun q => (fun q : mwI ba a b (mwG ba a b g i) i => q.elim (fun q => c54 q.1) (fun q => q.2 (by rw [ez]; exact c94))) q.1)).symm
                        refine jr_loc (lc_n (lc_n (lc_n (lc_n (lc_i e4 (lc_n rfl)))))) ?_
                        refine jr_mem (g' := mwG ba a b g (i + 1)) (h' := h) (by rw [mwG, bI_f (fun q => q.elim (fun q => q c142) (fun q : mwI ba a b (mwG ba a b g i) i => q.elim (fun q => c54 q.1) (fun q => q.2 (by rw [ez]; exact c94))))]) (by rfl) ?_
                        exact ih1 (i + 1) (by omega) (by omega)
                    · refine jr_iconst (v := 1) cx dX7_wrong_97 (by decide) ?_
                      refine jr_goto (tgt := 102) cx dX7_wrong_98 (by decide) ?_
                      refine jr_istore (L' := [(6, .int 1), (0, .ref (E.1 7)), (1, .int ba), (2, .int a), (3, .int b), (4, .int (nI (mwN ba a b g i))), (5, .int (nI i))]) cx dX7_wrong_102 (by decide) rfl ?_
                      refine jr_iload cx dX7_wrong_104 5 rfl ?_
                      refine jr_iload cx dX7_wrong_106 0 rfl ?_
                      refine jr_if_eq (tgt := 125) cx dX7_wrong_108 (by decide) (fun c108 => absurd c108 (by decide)) (fun c108 => ?_)
                      refine jr_aload_n cx dX7_wrong_111 1 rfl rfl ?_
                      refine jr_get (f := 24) (v := .ref (E.1 31)) cx dX7_wrong_112 (by decide) rfl rfl hinX7 (by decide) mf_62 rfl ?_
                      refine jr_iload cx dX7_wrong_115 6 rfl ?_
                      refine jr_zald cx dX7_wrong_117 (Or.inl rfl) i rfl (show _ < 40 by omega) ?_
                      refine jr_if_ne (tgt := 125) cx dX7_wrong_118 (by decide) (fun c118 => ?_) (fun c118 => ?_)
                      · refine jr_iconst (v := 0) cx dX7_wrong_125 (by decide) ?_
                        refine jr_iadd cx dX7_wrong_126 ?_
                        refine jr_top (show (nI (mwN ba a b g i) : Int32) + 0 = nI ((mwN ba a b g i) + 0) from nI_add (mwN ba a b g i) 0) ?_
                        refine jr_istore (L' := [(4, .int (nI ((mwN ba a b g i) + 0))), (6, .int 1), (0, .ref (E.1 7)), (1, .int ba), (2, .int a), (3, .int b), (5, .int (nI i))]) cx dX7_wrong_127 (by decide) rfl ?_
                        refine jr_aload_n cx dX7_wrong_129 2 rfl rfl ?_
                        refine jr_get (f := 24) (v := .ref (E.1 31)) cx dX7_wrong_130 (by decide) rfl rfl hinX7 (by decide) mf_62 rfl ?_
                        refine jr_iload cx dX7_wrong_133 6 rfl ?_
                        refine jr_aload_n cx dX7_wrong_135 2 rfl rfl ?_
                        refine jr_get (f := 24) (v := .ref (E.1 31)) cx dX7_wrong_136 (by decide) rfl rfl hinX7 (by decide) mf_62 rfl ?_
                        refine jr_iload cx dX7_wrong_139 6 rfl ?_
                        refine jr_zald cx dX7_wrong_141 (Or.inl rfl) i rfl (show _ < 40 by omega) ?_
                        refine jr_if_ne (tgt := 150) cx dX7_wrong_142 (by decide) (fun c142 => ?_) (fun c142 => ?_)
                        · refine jr_iconst (v := 1) cx dX7_wrong_150 (by decide) ?_
                          refine jr_goto (tgt := 155) cx dX7_wrong_151 (by decide) ?_
                          refine jr_zast cx dX7_wrong_155 (Or.inl rfl) i rfl (show _ < 40 by omega) (by first | exact Or.inl rfl | exact Or.inr rfl) ?_
                          refine jr_iinc (n := 6) (v := nI (i + 1)) (L' := [(5, .int (nI (i + 1))), (4, .int (nI ((mwN ba a b g i) + 0))), (6, .int 1), (0, .ref (E.1 7)), (1, .int ba), (2, .int a), (3, .int b)]) cx dX7_wrong_156 rfl (nI_1 _) (by decide) rfl ?_
                          refine jr_goto (tgt := 37) cx dX7_wrong_159 (by decide) ?_
                          refine jr_pick (L' := [(0, .ref (E.1 7)), (1, .int ba), (2, .int a), (3, .int b), (4, .int (nI ((mwN ba a b g i) + 0))), (5, .int (nI (i + 1)))]) [3, 4, 5, 6, 1, 0] rfl ?_
                          have e4 : (nI ((mwN ba a b g i) + 0) : Int32) = (nI (mwN ba a b g (i + 1))) := by exact congrArg nI (if_neg (fun q => c118 q.2)).symm
                          refine jr_loc (lc_n (lc_n (lc_n (lc_n (lc_i e4 (lc_n rfl)))))) ?_
                          refine jr_mem (g' := mwG ba a b g (i + 1)) (h' := h) (by rw [mwG, bI_t (Or.inr (Or.inr ⟨c79, fun q => c94 (by rw [ez] at q; exact q)⟩ : mwI ba a b (mwG ba a b g i) i))]) (by rfl) ?_
                          exact ih1 (i + 1) (by omega) (by omega)
                        · exact absurd c142 c118
                      · refine jr_iconst (v := 1) cx dX7_wrong_121 (by decide) ?_
                        refine jr_goto (tgt := 126) cx dX7_wrong_122 (by decide) ?_
                        refine jr_iadd cx dX7_wrong_126 ?_
                        refine jr_top (show (nI (mwN ba a b g i) : Int32) + 1 = nI ((mwN ba a b g i) + 1) from nI_add (mwN ba a b g i) 1) ?_
                        refine jr_istore (L' := [(4, .int (nI ((mwN ba a b g i) + 1))), (6, .int 1), (0, .ref (E.1 7)), (1, .int ba), (2, .int a), (3, .int b), (5, .int (nI i))]) cx dX7_wrong_127 (by decide) rfl ?_
                        refine jr_aload_n cx dX7_wrong_129 2 rfl rfl ?_
                        refine jr_get (f := 24) (v := .ref (E.1 31)) cx dX7_wrong_130 (by decide) rfl rfl hinX7 (by decide) mf_62 rfl ?_
                        refine jr_iload cx dX7_wrong_133 6 rfl ?_
                        refine jr_aload_n cx dX7_wrong_135 2 rfl rfl ?_
                        refine jr_get (f := 24) (v := .ref (E.1 31)) cx dX7_wrong_136 (by decide) rfl rfl hinX7 (by decide) mf_62 rfl ?_
                        refine jr_iload cx dX7_wrong_139 6 rfl ?_
                        refine jr_zald cx dX7_wrong_141 (Or.inl rfl) i rfl (show _ < 40 by omega) ?_
                        refine jr_if_ne (tgt := 150) cx dX7_wrong_142 (by decide) (fun c142 => ?_) (fun c142 => ?_)
                        · exact absurd c118 c142
                        · refine jr_iload cx dX7_wrong_145 1 rfl ?_
                          refine jr_if_eq (tgt := 154) cx dX7_wrong_147 (by decide) (fun c147 => absurd c147 (by decide)) (fun c147 => ?_)
                          refine jr_iconst (v := 1) cx dX7_wrong_150 (by decide) ?_
                          refine jr_goto (tgt := 155) cx dX7_wrong_151 (by decide) ?_
                          refine jr_zast cx dX7_wrong_155 (Or.inl rfl) i rfl (show _ < 40 by omega) (by first | exact Or.inl rfl | exact Or.inr rfl) ?_
                          refine jr_iinc (n := 6) (v := nI (i + 1)) (L' := [(5, .int (nI (i + 1))), (4, .int (nI ((mwN ba a b g i) + 1))), (6, .int 1), (0, .ref (E.1 7)), (1, .int ba), (2, .int a), (3, .int b)]) cx dX7_wrong_156 rfl (nI_1 _) (by decide) rfl ?_
                          refine jr_goto (tgt := 37) cx dX7_wrong_159 (by decide) ?_
                          refine jr_pick (L' := [(0, .ref (E.1 7)), (1, .int ba), (2, .int a), (3, .int b), (4, .int (nI ((mwN ba a b g i) + 1))), (5, .int (nI (i + 1)))]) [3, 4, 5, 6, 1, 0] rfl ?_
                          have e4 : (nI ((mwN ba a b g i) + 1) : Int32) = (nI (mwN ba a b g (i + 1))) := by exact congrArg nI (if_pos ⟨(Or.inr ⟨c79, fun q => c94 (by rw [ez] at q; exact q)⟩ : mwI ba a b (mwG ba a b g i) i), c118⟩).symm
                          refine jr_loc (lc_n (lc_n (lc_n (lc_n (lc_i e4 (lc_n rfl)))))) ?_
                          refine jr_mem (g' := mwG ba a b g (i + 1)) (h' := h) (by rw [mwG, bI_t (Or.inr (Or.inr ⟨c79, fun q => c94 (by rw [ez] at q; exact q)⟩ : mwI ba a b (mwG ba a b g i) i))]) (by rfl) ?_
                          exact ih1 (i + 1) (by omega) (by omega)
                · refine jr_aload_n cx dX7_wrong_57 0 rfl rfl ?_
                  refine jr_get (f := 20) (v := .ref (E.1 25)) cx dX7_wrong_58 (by decide) rfl rfl hinX7 (by decide) mf_50 rfl ?_
                  refine jr_iload cx dX7_wrong_61 5 rfl ?_
                  refine jr_iald cx dX7_wrong_63 (Or.inl ⟨by decide, by decide⟩) i rfl (show _ < 40 by omega) ?_
                  refine jr_iload_n cx dX7_wrong_64 2 rfl rfl ?_
                  refine jr_iload_n cx dX7_wrong_65 3 rfl rfl ?_
                  refine jr_si [.int ((mwG ba a b g i) 25 i), .int a, .int b] 3 cx dX7_wrong_66 (c_X7_in E (mwG ba a b g i) h ((mwG ba a b g i) 25 i) a b) gX7_wrong_X7_in rfl (by decide +kernel) ⟨Nat.le_of_ble_eq_true rfl, Nat.le_of_ble_eq_true rfl⟩ rfl rfl (Nat.le_of_ble_eq_true rfl) ?_
                  refine jr_bif_ne (tgt := 97) cx dX7_wrong_69 (by decide) (fun c69 => ?_) (fun c69 => ?_)
                  · refine jr_iconst (v := 1) cx dX7_wrong_97 (by decide) ?_
                    refine jr_goto (tgt := 102) cx dX7_wrong_98 (by decide) ?_
                    refine jr_istore (L' := [(6, .int 1), (0, .ref (E.1 7)), (1, .int ba), (2, .int a), (3, .int b), (4, .int (nI (mwN ba a b g i))), (5, .int (nI i))]) cx dX7_wrong_102 (by decide) rfl ?_
                    refine jr_iload cx dX7_wrong_104 5 rfl ?_
                    refine jr_iload cx dX7_wrong_106 0 rfl ?_
                    refine jr_if_eq (tgt := 125) cx dX7_wrong_108 (by decide) (fun c108 => absurd c108 (by decide)) (fun c108 => ?_)
                    refine jr_aload_n cx dX7_wrong_111 1 rfl rfl ?_
                    refine jr_get (f := 24) (v := .ref (E.1 31)) cx dX7_wrong_112 (by decide) rfl rfl hinX7 (by decide) mf_62 rfl ?_
                    refine jr_iload cx dX7_wrong_115 6 rfl ?_
                    refine jr_zald cx dX7_wrong_117 (Or.inl rfl) i rfl (show _ < 40 by omega) ?_
                    refine jr_if_ne (tgt := 125) cx dX7_wrong_118 (by decide) (fun c118 => ?_) (fun c118 => ?_)
                    · refine jr_iconst (v := 0) cx dX7_wrong_125 (by decide) ?_
                      refine jr_iadd cx dX7_wrong_126 ?_
                      refine jr_top (show (nI (mwN ba a b g i) : Int32) + 0 = nI ((mwN ba a b g i) + 0) from nI_add (mwN ba a b g i) 0) ?_
                      refine jr_istore (L' := [(4, .int (nI ((mwN ba a b g i) + 0))), (6, .int 1), (0, .ref (E.1 7)), (1, .int ba), (2, .int a), (3, .int b), (5, .int (nI i))]) cx dX7_wrong_127 (by decide) rfl ?_
                      refine jr_aload_n cx dX7_wrong_129 2 rfl rfl ?_
                      refine jr_get (f := 24) (v := .ref (E.1 31)) cx dX7_wrong_130 (by decide) rfl rfl hinX7 (by decide) mf_62 rfl ?_
                      refine jr_iload cx dX7_wrong_133 6 rfl ?_
                      refine jr_aload_n cx dX7_wrong_135 2 rfl rfl ?_
                      refine jr_get (f := 24) (v := .ref (E.1 31)) cx dX7_wrong_136 (by decide) rfl rfl hinX7 (by decide) mf_62 rfl ?_
                      refine jr_iload cx dX7_wrong_139 6 rfl ?_
                      refine jr_zald cx dX7_wrong_141 (Or.inl rfl) i rfl (show _ < 40 by omega) ?_
                      refine jr_if_ne (tgt := 150) cx dX7_wrong_142 (by decide) (fun c142 => ?_) (fun c142 => ?_)
                      · refine jr_iconst (v := 1) cx dX7_wrong_150 (by decide) ?_
                        refine jr_goto (tgt := 155) cx dX7_wrong_151 (by decide) ?_
                        refine jr_zast cx dX7_wrong_155 (Or.inl rfl) i rfl (show _ < 40 by omega) (by first | exact Or.inl rfl | exact Or.inr rfl) ?_
                        refine jr_iinc (n := 6) (v := nI (i + 1)) (L' := [(5, .int (nI (i + 1))), (4, .int (nI ((mwN ba a b g i) + 0))), (6, .int 1), (0, .ref (E.1 7)), (1, .int ba), (2, .int a), (3, .int b)]) cx dX7_wrong_156 rfl (nI_1 _) (by decide) rfl ?_
                        refine jr_goto (tgt := 37) cx dX7_wrong_159 (by decide) ?_
                        refine jr_pick (L' := [(0, .ref (E.1 7)), (1, .int ba), (2, .int a), (3, .int b), (4, .int (nI ((mwN ba a b g i) + 0))), (5, .int (nI (i + 1)))]) [3, 4, 5, 6, 1, 0] rfl ?_
                        have e4 : (nI ((mwN ba a b g i) + 0) : Int32) = (nI (mwN ba a b g (i + 1))) := by exact congrArg nI (if_neg (fun q => c118 q.2)).symm
                        refine jr_loc (lc_n (lc_n (lc_n (lc_n (lc_i e4 (lc_n rfl)))))) ?_
                        refine jr_mem (g' := mwG ba a b g (i + 1)) (h' := h) (by rw [mwG, bI_t (Or.inr (Or.inl ⟨c54, c69⟩ : mwI ba a b (mwG ba a b g i) i))]) (by rfl) ?_
                        exact ih1 (i + 1) (by omega) (by omega)
                      · exact absurd c142 c118
                    · refine jr_iconst (v := 1) cx dX7_wrong_121 (by decide) ?_
                      refine jr_goto (tgt := 126) cx dX7_wrong_122 (by decide) ?_
                      refine jr_iadd cx dX7_wrong_126 ?_
                      refine jr_top (show (nI (mwN ba a b g i) : Int32) + 1 = nI ((mwN ba a b g i) + 1) from nI_add (mwN ba a b g i) 1) ?_
                      refine jr_istore (L' := [(4, .int (nI ((mwN ba a b g i) + 1))), (6, .int 1), (0, .ref (E.1 7)), (1, .int ba), (2, .int a), (3, .int b), (5, .int (nI i))]) cx dX7_wrong_127 (by decide) rfl ?_
                      refine jr_aload_n cx dX7_wrong_129 2 rfl rfl ?_
                      refine jr_get (f := 24) (v := .ref (E.1 31)) cx dX7_wrong_130 (by decide) rfl rfl hinX7 (by decide) mf_62 rfl ?_
                      refine jr_iload cx dX7_wrong_133 6 rfl ?_
                      refine jr_aload_n cx dX7_wrong_135 2 rfl rfl ?_
                      refine jr_get (f := 24) (v := .ref (E.1 31)) cx dX7_wrong_136 (by decide) rfl rfl hinX7 (by decide) mf_62 rfl ?_
                      refine jr_iload cx dX7_wrong_139 6 rfl ?_
                      refine jr_zald cx dX7_wrong_141 (Or.inl rfl) i rfl (show _ < 40 by omega) ?_
                      refine jr_if_ne (tgt := 150) cx dX7_wrong_142 (by decide) (fun c142 => ?_) (fun c142 => ?_)
                      · exact absurd c118 c142
                      · refine jr_iload cx dX7_wrong_145 1 rfl ?_
                        refine jr_if_eq (tgt := 154) cx dX7_wrong_147 (by decide) (fun c147 => absurd c147 (by decide)) (fun c147 => ?_)
                        refine jr_iconst (v := 1) cx dX7_wrong_150 (by decide) ?_
                        refine jr_goto (tgt := 155) cx dX7_wrong_151 (by decide) ?_
                        refine jr_zast cx dX7_wrong_155 (Or.inl rfl) i rfl (show _ < 40 by omega) (by first | exact Or.inl rfl | exact Or.inr rfl) ?_
                        refine jr_iinc (n := 6) (v := nI (i + 1)) (L' := [(5, .int (nI (i + 1))), (4, .int (nI ((mwN ba a b g i) + 1))), (6, .int 1), (0, .ref (E.1 7)), (1, .int ba), (2, .int a), (3, .int b)]) cx dX7_wrong_156 rfl (nI_1 _) (by decide) rfl ?_
                        refine jr_goto (tgt := 37) cx dX7_wrong_159 (by decide) ?_
                        refine jr_pick (L' := [(0, .ref (E.1 7)), (1, .int ba), (2, .int a), (3, .int b), (4, .int (nI ((mwN ba a b g i) + 1))), (5, .int (nI (i + 1)))]) [3, 4, 5, 6, 1, 0] rfl ?_
                        have e4 : (nI ((mwN ba a b g i) + 1) : Int32) = (nI (mwN ba a b g (i + 1))) := by exact congrArg nI (if_pos ⟨(Or.inl ⟨c54, c69⟩ : mwI ba a b (mwG ba a b g i) i), c118⟩).symm
                        refine jr_loc (lc_n (lc_n (lc_n (lc_n (lc_i e4 (lc_n rfl)))))) ?_
                        refine jr_mem (g' := mwG ba a b g (i + 1)) (h' := h) (by rw [mwG, bI_t (Or.inr (Or.inl ⟨c54, c69⟩ : mwI ba a b (mwG ba a b g i) i))]) (by rfl) ?_
                        exact ih1 (i + 1) (by omega) (by omega)
                  · refine jr_aload_n cx dX7_wrong_72 0 rfl rfl ?_
                    refine jr_get (f := 23) (v := .ref (E.1 28)) cx dX7_wrong_73 (by decide) rfl rfl hinX7 (by decide) mf_59 rfl ?_
                    refine jr_iload cx dX7_wrong_76 5 rfl ?_
                    refine jr_iald cx dX7_wrong_78 (Or.inl ⟨by decide, by decide⟩) i rfl (show _ < 40 by omega) ?_
                    refine jr_if_lt (tgt := 101) cx dX7_wrong_79 (by decide) (fun c79 => ?_) (fun c79 => ?_)
                    · refine jr_iconst (v := 0) cx dX7_wrong_101 (by decide) ?_
                      refine jr_istore (L' := [(6, .int 0), (0, .ref (E.1 7)), (1, .int ba), (2, .int a), (3, .int b), (4, .int (nI (mwN ba a b g i))), (5, .int (nI i))]) cx dX7_wrong_102 (by decide) rfl ?_
                      refine jr_iload cx dX7_wrong_104 5 rfl ?_
                      refine jr_iload cx dX7_wrong_106 0 rfl ?_
                      refine jr_if_eq (tgt := 125) cx dX7_wrong_108 (by decide) (fun c108 => ?_) (fun c108 => absurd c108 (by decide))
                      refine jr_iconst (v := 0) cx dX7_wrong_125 (by decide) ?_
                      refine jr_iadd cx dX7_wrong_126 ?_
                      refine jr_top (show (nI (mwN ba a b g i) : Int32) + 0 = nI ((mwN ba a b g i) + 0) from nI_add (mwN ba a b g i) 0) ?_
                      refine jr_istore (L' := [(4, .int (nI ((mwN ba a b g i) + 0))), (6, .int 0), (0, .ref (E.1 7)), (1, .int ba), (2, .int a), (3, .int b), (5, .int (nI i))]) cx dX7_wrong_127 (by decide) rfl ?_
                      refine jr_aload_n cx dX7_wrong_129 2 rfl rfl ?_
                      refine jr_get (f := 24) (v := .ref (E.1 31)) cx dX7_wrong_130 (by decide) rfl rfl hinX7 (by decide) mf_62 rfl ?_
                      refine jr_iload cx dX7_wrong_133 6 rfl ?_
                      refine jr_aload_n cx dX7_wrong_135 2 rfl rfl ?_
                      refine jr_get (f := 24) (v := .ref (E.1 31)) cx dX7_wrong_136 (by decide) rfl rfl hinX7 (by decide) mf_62 rfl ?_
                      refine jr_iload cx dX7_wrong_139 6 rfl ?_
                      refine jr_zald cx dX7_wrong_141 (Or.inl rfl) i rfl (show _ < 40 by omega) ?_
                      refine jr_if_ne (tgt := 150) cx dX7_wrong_142 (by decide) (fun c142 => ?_) (fun c142 => ?_)
                      · refine jr_iconst (v := 1) cx dX7_wrong_150 (by decide) ?_
                        refine jr_goto (tgt := 155) cx dX7_wrong_151 (by decide) ?_
                        refine jr_zast cx dX7_wrong_155 (Or.inl rfl) i rfl (show _ < 40 by omega) (by first | exact Or.inl rfl | exact Or.inr rfl) ?_
                        refine jr_iinc (n := 6) (v := nI (i + 1)) (L' := [(5, .int (nI (i + 1))), (4, .int (nI ((mwN ba a b g i) + 0))), (6, .int 0), (0, .ref (E.1 7)), (1, .int ba), (2, .int a), (3, .int b)]) cx dX7_wrong_156 rfl (nI_1 _) (by decide) rfl ?_
                        refine jr_goto (tgt := 37) cx dX7_wrong_159 (by decide) ?_
                        refine jr_pick (L' := [(0, .ref (E.1 7)), (1, .int ba), (2, .int a), (3, .int b), (4, .int (nI ((mwN ba a b g i) + 0))), (5, .int (nI (i + 1)))]) [3, 4, 5, 6, 1, 0] rfl ?_
                        have e4 : (nI ((mwN ba a b g i) + 0) : Int32) = (nI (mwN ba a b g (i + 1))) := by exact congrArg nI (if_neg (fun q => (fun q : mwI ba a b (mwG ba a b g i) i => q.elim (fun q => c69 q.2) (fun q => q.1 c79)) q.1)).symm
                        refine jr_loc (lc_n (lc_n (lc_n (lc_n (lc_i e4 (lc_n rfl)))))) ?_
                        refine jr_mem (g' := mwG ba a b g (i + 1)) (h' := h) (by rw [mwG, bI_t (Or.inl c142)]) (by rfl) ?_
                        exact ih1 (i + 1) (by omega) (by omega)
                      · refine jr_iload cx dX7_wrong_145 1 rfl ?_
                        refine jr_if_eq (tgt := 154) cx dX7_wrong_147 (by decide) (fun c147 => ?_) (fun c147 => absurd c147 (by decide))
                        refine jr_iconst (v := 0) cx dX7_wrong_154 (by decide) ?_
                        refine jr_zast cx dX7_wrong_155 (Or.inl rfl) i rfl (show _ < 40 by omega) (by first | exact Or.inl rfl | exact Or.inr rfl) ?_
                        refine jr_iinc (n := 6) (v := nI (i + 1)) (L' := [(5, .int (nI (i + 1))), (4, .int (nI ((mwN ba a b g i) + 0))), (6, .int 0), (0, .ref (E.1 7)), (1, .int ba), (2, .int a), (3, .int b)]) cx dX7_wrong_156 rfl (nI_1 _) (by decide) rfl ?_
                        refine jr_goto (tgt := 37) cx dX7_wrong_159 (by decide) ?_
                        refine jr_pick (L' := [(0, .ref (E.1 7)), (1, .int ba), (2, .int a), (3, .int b), (4, .int (nI ((mwN ba a b g i) + 0))), (5, .int (nI (i + 1)))]) [3, 4, 5, 6, 1, 0] rfl ?_
                        have e4 : (nI ((mwN ba a b g i) + 0) : Int32) = (nI (mwN ba a b g (i + 1))) := by exact congrArg nI (if_neg (fun q => (fun q : mwI ba a b (mwG ba a b g i) i => q.elim (fun q => c69 q.2) (fun q => q.1 c79)) q.1)).symm
                        refine jr_loc (lc_n (lc_n (lc_n (lc_n (lc_i e4 (lc_n rfl)))))) ?_
                        refine jr_mem (g' := mwG ba a b g (i + 1)) (h' := h) (by rw [mwG, bI_f (fun q => q.elim (fun q => q c142) (fun q : mwI ba a b (mwG ba a b g i) i => q.elim (fun q => c69 q.2) (fun q => q.1 c79)))]) (by rfl) ?_
                        exact ih1 (i + 1) (by omega) (by omega)
                    · obtain ⟨z, hz, ezz⟩ : ∃ z, z < i ∧ (mwG ba a b g i) 28 i = nI z := by
                        rw [mwG_o ba a b g (by decide) i]; rw [mwG_o ba a b g (by decide) i] at c79; exact (hri i (by omega)).elim (fun q => absurd (by rw [q]; decide) c79) (fun ⟨z, h1, h2⟩ => ⟨z, h1, h2⟩)
                      have ez : ((mwG ba a b g i) 28 i).toNatClampNeg = z := by rw [ezz]; exact cl_nI (by omega)
                      refine jr_aload_n cx dX7_wrong_82 0 rfl rfl ?_
                      refine jr_get (f := 24) (v := .ref (E.1 31)) cx dX7_wrong_83 (by decide) rfl rfl hinX7 (by decide) mf_62 rfl ?_
                      refine jr_aload_n cx dX7_wrong_86 0 rfl rfl ?_
                      refine jr_get (f := 23) (v := .ref (E.1 28)) cx dX7_wrong_87 (by decide) rfl rfl hinX7 (by decide) mf_59 rfl ?_
                      refine jr_iload cx dX7_wrong_90 5 rfl ?_
                      refine jr_iald cx dX7_wrong_92 (Or.inl ⟨by decide, by decide⟩) i rfl (show _ < 40 by omega) ?_
                      refine jr_top ezz ?_
                      refine jr_zald cx dX7_wrong_93 (Or.inl rfl) z rfl (show _ < 40 by omega) ?_
                      refine jr_if_eq (tgt := 101) cx dX7_wrong_94 (by decide) (fun c94 => ?_) (fun c94 => ?_)
                      · refine jr_iconst (v := 0) cx dX7_wrong_101 (by decide) ?_
                        refine jr_istore (L' := [(6, .int 0), (0, .ref (E.1 7)), (1, .int ba), (2, .int a), (3, .int b), (4, .int (nI (mwN ba a b g i))), (5, .int (nI i))]) cx dX7_wrong_102 (by decide) rfl ?_
                        refine jr_iload cx dX7_wrong_104 5 rfl ?_
                        refine jr_iload cx dX7_wrong_106 0 rfl ?_
                        refine jr_if_eq (tgt := 125) cx dX7_wrong_108 (by decide) (fun c108 => ?_) (fun c108 => absurd c108 (by decide))
                        refine jr_iconst (v := 0) cx dX7_wrong_125 (by decide) ?_
                        refine jr_iadd cx dX7_wrong_126 ?_
                        refine jr_top (show (nI (mwN ba a b g i) : Int32) + 0 = nI ((mwN ba a b g i) + 0) from nI_add (mwN ba a b g i) 0) ?_
                        refine jr_istore (L' := [(4, .int (nI ((mwN ba a b g i) + 0))), (6, .int 0), (0, .ref (E.1 7)), (1, .int ba), (2, .int a), (3, .int b), (5, .int (nI i))]) cx dX7_wrong_127 (by decide) rfl ?_
                        refine jr_aload_n cx dX7_wrong_129 2 rfl rfl ?_
                        refine jr_get (f := 24) (v := .ref (E.1 31)) cx dX7_wrong_130 (by decide) rfl rfl hinX7 (by decide) mf_62 rfl ?_
                        refine jr_iload cx dX7_wrong_133 6 rfl ?_
                        refine jr_aload_n cx dX7_wrong_135 2 rfl rfl ?_
                        refine jr_get (f := 24) (v := .ref (E.1 31)) cx dX7_wrong_136 (by decide) rfl rfl hinX7 (by decide) mf_62 rfl ?_
                        refine jr_iload cx dX7_wrong_139 6 rfl ?_
                        refine jr_zald cx dX7_wrong_141 (Or.inl rfl) i rfl (show _ < 40 by omega) ?_
                        refine jr_if_ne (tgt := 150) cx dX7_wrong_142 (by decide) (fun c142 => ?_) (fun c142 => ?_)
                        · refine jr_iconst (v := 1) cx dX7_wrong_150 (by decide) ?_
                          refine jr_goto (tgt := 155) cx dX7_wrong_151 (by decide) ?_
                          refine jr_zast cx dX7_wrong_155 (Or.inl rfl) i rfl (show _ < 40 by omega) (by first | exact Or.inl rfl | exact Or.inr rfl) ?_
                          refine jr_iinc (n := 6) (v := nI (i + 1)) (L' := [(5, .int (nI (i + 1))), (4, .int (nI ((mwN ba a b g i) + 0))), (6, .int 0), (0, .ref (E.1 7)), (1, .int ba), (2, .int a), (3, .int b)]) cx dX7_wrong_156 rfl (nI_1 _) (by decide) rfl ?_
                          refine jr_goto (tgt := 37) cx dX7_wrong_159 (by decide) ?_
                          refine jr_pick (L' := [(0, .ref (E.1 7)), (1, .int ba), (2, .int a), (3, .int b), (4, .int (nI ((mwN ba a b g i) + 0))), (5, .int (nI (i + 1)))]) [3, 4, 5, 6, 1, 0] rfl ?_
                          have e4 : (nI ((mwN ba a b g i) + 0) : Int32) = (nI (mwN ba a b g (i + 1))) := by exact congrArg nI (if_neg (fun q => (fun q : mwI ba a b (mwG ba a b g i) i => q.elim (fun q => c69 q.2) (fun q => q.2 (by rw [ez]; exact c94))) q.1)).symm
                          refine jr_loc (lc_n (lc_n (lc_n (lc_n (lc_i e4 (lc_n rfl)))))) ?_
                          refine jr_mem (g' := mwG ba a b g (i + 1)) (h' := h) (by rw [mwG, bI_t (Or.inl c142)]) (by rfl) ?_
                          exact ih1 (i + 1) (by omega) (by omega)
                        · refine jr_iload cx dX7_wrong_145 1 rfl ?_
                          refine jr_if_eq (tgt := 154) cx dX7_wrong_147 (by decide) (fun c147 => ?_) (fun c147 => absurd c147 (by decide))
                          refine jr_iconst (v := 0) cx dX7_wrong_154 (by decide) ?_
                          refine jr_zast cx dX7_wrong_155 (Or.inl rfl) i rfl (show _ < 40 by omega) (by first | exact Or.inl rfl | exact Or.inr rfl) ?_
                          refine jr_iinc (n := 6) (v := nI (i + 1)) (L' := [(5, .int (nI (i + 1))), (4, .int (nI ((mwN ba a b g i) + 0))), (6, .int 0), (0, .ref (E.1 7)), (1, .int ba), (2, .int a), (3, .int b)]) cx dX7_wrong_156 rfl (nI_1 _) (by decide) rfl ?_
                          refine jr_goto (tgt := 37) cx dX7_wrong_159 (by decide) ?_
                          refine jr_pick (L' := [(0, .ref (E.1 7)), (1, .int ba), (2, .int a), (3, .int b), (4, .int (nI ((mwN ba a b g i) + 0))), (5, .int (nI (i + 1)))]) [3, 4, 5, 6, 1, 0] rfl ?_
                          have e4 : (nI ((mwN ba a b g i) + 0) : Int32) = (nI (mwN ba a b g (i + 1))) := by exact congrArg nI (if_neg (fun q => (fun q : mwI ba a b (mwG ba a b g i) i => q.elim (fun q => c69 q.2) (fun q => q.2 (by rw [ez]; exact c94))) q.1)).symm
                          refine jr_loc (lc_n (lc_n (lc_n (lc_n (lc_i e4 (lc_n rfl)))))) ?_
                          refine jr_mem (g' := mwG ba a b g (i + 1)) (h' := h) (by rw [mwG, bI_f (fun q => q.elim (fun q => q c142) (fun q : mwI ba a b (mwG ba a b g i) i => q.elim (fun q => c69 q.2) (fun q => q.2 (by rw [ez]; exact c94))))]) (by rfl) ?_
                          exact ih1 (i + 1) (by omega) (by omega)
                      · refine jr_iconst (v := 1) cx dX7_wrong_97 (by decide) ?_
                        refine jr_goto (tgt := 102) cx dX7_wrong_98 (by decide) ?_
                        refine jr_istore (L' := [(6, .int 1), (0, .ref (E.1 7)), (1, .int ba), (2, .int a), (3, .int b), (4, .int (nI (mwN ba a b g i))), (5, .int (nI i))]) cx dX7_wrong_102 (by decide) rfl ?_
                        refine jr_iload cx dX7_wrong_104 5 rfl ?_
                        refine jr_iload cx dX7_wrong_106 0 rfl ?_
                        refine jr_if_eq (tgt := 125) cx dX7_wrong_108 (by decide) (fun c108 => absurd c108 (by decide)) (fun c108 => ?_)
                        refine jr_aload_n cx dX7_wrong_111 1 rfl rfl ?_
                        refine jr_get (f := 24) (v := .ref (E.1 31)) cx dX7_wrong_112 (by decide) rfl rfl hinX7 (by decide) mf_62 rfl ?_
                        refine jr_iload cx dX7_wrong_115 6 rfl ?_
                        refine jr_zald cx dX7_wrong_117 (Or.inl rfl) i rfl (show _ < 40 by omega) ?_
                        refine jr_if_ne (tgt := 125) cx dX7_wrong_118 (by decide) (fun c118 => ?_) (fun c118 => ?_)
                        · refine jr_iconst (v := 0) cx dX7_wrong_125 (by decide) ?_
                          refine jr_iadd cx dX7_wrong_126 ?_
                          refine jr_top (show (nI (mwN ba a b g i) : Int32) + 0 = nI ((mwN ba a b g i) + 0) from nI_add (mwN ba a b g i) 0) ?_
                          refine jr_istore (L' := [(4, .int (nI ((mwN ba a b g i) + 0))), (6, .int 1), (0, .ref (E.1 7)), (1, .int ba), (2, .int a), (3, .int b), (5, .int (nI i))]) cx dX7_wrong_127 (by decide) rfl ?_
                          refine jr_aload_n cx dX7_wrong_129 2 rfl rfl ?_
                          refine jr_get (f := 24) (v := .ref (E.1 31)) cx dX7_wrong_130 (by decide) rfl rfl hinX7 (by decide) mf_62 rfl ?_
                          refine jr_iload cx dX7_wrong_133 6 rfl ?_
                          refine jr_aload_n cx dX7_wrong_135 2 rfl rfl ?_
                          refine jr_get (f := 24) (v := .ref (E.1 31)) cx dX7_wrong_136 (by decide) rfl rfl hinX7 (by decide) mf_62 rfl ?_
                          refine jr_iload cx dX7_wrong_139 6 rfl ?_
                          refine jr_zald cx dX7_wrong_141 (Or.inl rfl) i rfl (show _ < 40 by omega) ?_
                          refine jr_if_ne (tgt := 150) cx dX7_wrong_142 (by decide) (fun c142 => ?_) (fun c142 => ?_)
                          · refine jr_iconst (v := 1) cx dX7_wrong_150 (by decide) ?_
                            refine jr_goto (tgt := 155) cx dX7_wrong_151 (by decide) ?_
                            refine jr_zast cx dX7_wrong_155 (Or.inl rfl) i rfl (show _ < 40 by omega) (by first | exact Or.inl rfl | exact Or.inr rfl) ?_
                            refine jr_iinc (n := 6) (v := nI (i + 1)) (L' := [(5, .int (nI (i + 1))), (4, .int (nI ((mwN ba a b g i) + 0))), (6, .int 1), (0, .ref (E.1 7)), (1, .int ba), (2, .int a), (3, .int b)]) cx dX7_wrong_156 rfl (nI_1 _) (by decide) rfl ?_
                            refine jr_goto (tgt := 37) cx dX7_wrong_159 (by decide) ?_
                            refine jr_pick (L' := [(0, .ref (E.1 7)), (1, .int ba), (2, .int a), (3, .int b), (4, .int (nI ((mwN ba a b g i) + 0))), (5, .int (nI (i + 1)))]) [3, 4, 5, 6, 1, 0] rfl ?_
                            have e4 : (nI ((mwN ba a b g i) + 0) : Int32) = (nI (mwN ba a b g (i + 1))) := by exact congrArg nI (if_neg (fun q => c118 q.2)).symm
                            refine jr_loc (lc_n (lc_n (lc_n (lc_n (lc_i e4 (lc_n rfl)))))) ?_
                            refine jr_mem (g' := mwG ba a b g (i + 1)) (h' := h) (by rw [mwG, bI_t (Or.inr (Or.inr ⟨c79, fun q => c94 (by rw [ez] at q; exact q)⟩ : mwI ba a b (mwG ba a b g i) i))]) (by rfl) ?_
                            exact ih1 (i + 1) (by omega) (by omega)
                          · exact absurd c142 c118
                        · refine jr_iconst (v := 1) cx dX7_wrong_121 (by decide) ?_
                          refine jr_goto (tgt := 126) cx dX7_wrong_122 (by decide) ?_
                          refine jr_iadd cx dX7_wrong_126 ?_
                          refine jr_top (show (nI (mwN ba a b g i) : Int32) + 1 = nI ((mwN ba a b g i) + 1) from nI_add (mwN ba a b g i) 1) ?_
                          refine jr_istore (L' := [(4, .int (nI ((mwN ba a b g i) + 1))), (6, .int 1), (0, .ref (E.1 7)), (1, .int ba), (2, .int a), (3, .int b), (5, .int (nI i))]) cx dX7_wrong_127 (by decide) rfl ?_
                          refine jr_aload_n cx dX7_wrong_129 2 rfl rfl ?_
                          refine jr_get (f := 24) (v := .ref (E.1 31)) cx dX7_wrong_130 (by decide) rfl rfl hinX7 (by decide) mf_62 rfl ?_
                          refine jr_iload cx dX7_wrong_133 6 rfl ?_
                          refine jr_aload_n cx dX7_wrong_135 2 rfl rfl ?_
                          refine jr_get (f := 24) (v := .ref (E.1 31)) cx dX7_wrong_136 (by decide) rfl rfl hinX7 (by decide) mf_62 rfl ?_
                          refine jr_iload cx dX7_wrong_139 6 rfl ?_
                          refine jr_zald cx dX7_wrong_141 (Or.inl rfl) i rfl (show _ < 40 by omega) ?_
                          refine jr_if_ne (tgt := 150) cx dX7_wrong_142 (by decide) (fun c142 => ?_) (fun c142 => ?_)
                          · exact absurd c118 c142
                          · refine jr_iload cx dX7_wrong_145 1 rfl ?_
                            refine jr_if_eq (tgt := 154) cx dX7_wrong_147 (by decide) (fun c147 => absurd c147 (by decide)) (fun c147 => ?_)
                            refine jr_iconst (v := 1) cx dX7_wrong_150 (by decide) ?_
                            refine jr_goto (tgt := 155) cx dX7_wrong_151 (by decide) ?_
                            refine jr_zast cx dX7_wrong_155 (Or.inl rfl) i rfl (show _ < 40 by omega) (by first | exact Or.inl rfl | exact Or.inr rfl) ?_
                            refine jr_iinc (n := 6) (v := nI (i + 1)) (L' := [(5, .int (nI (i + 1))), (4, .int (nI ((mwN ba a b g i) + 1))), (6, .int 1), (0, .ref (E.1 7)), (1, .int ba), (2, .int a), (3, .int b)]) cx dX7_wrong_156 rfl (nI_1 _) (by decide) rfl ?_
                            refine jr_goto (tgt := 37) cx dX7_wrong_159 (by decide) ?_
                            refine jr_pick (L' := [(0, .ref (E.1 7)), (1, .int ba), (2, .int a), (3, .int b), (4, .int (nI ((mwN ba a b g i) + 1))), (5, .int (nI (i + 1)))]) [3, 4, 5, 6, 1, 0] rfl ?_
                            have e4 : (nI ((mwN ba a b g i) + 1) : Int32) = (nI (mwN ba a b g (i + 1))) := by exact congrArg nI (if_pos ⟨(Or.inr ⟨c79, fun q => c94 (by rw [ez] at q; exact q)⟩ : mwI ba a b (mwG ba a b g i) i), c118⟩).symm
                            refine jr_loc (lc_n (lc_n (lc_n (lc_n (lc_i e4 (lc_n rfl)))))) ?_
                            refine jr_mem (g' := mwG ba a b g (i + 1)) (h' := h) (by rw [mwG, bI_t (Or.inr (Or.inr ⟨c79, fun q => c94 (by rw [ez] at q; exact q)⟩ : mwI ba a b (mwG ba a b g i) i))]) (by rfl) ?_
                            exact ih1 (i + 1) (by omega) (by omega)
          refine jr_pick (L' := [(0, .ref (E.1 7)), (1, .int ba), (2, .int a), (3, .int b), (4, .int 0), (5, .int 0)]) [2, 3, 4, 5, 1, 0] rfl ?_
          have e4 : (0 : Int32) = (nI (mwN ba a b g 0)) := by rfl
          have e5 : (0 : Int32) = (nI 0) := by rfl
          refine jr_loc (lc_n (lc_n (lc_n (lc_n (lc_i e4 (lc_i e5 rfl)))))) ?_
          refine jr_mem (g' := mwG ba a b g 0) (h' := h) (by rfl) (by rfl) ?_
          exact key1 (n + 1) 0 (by omega) (by omega)
        · refine jr_iconst (v := (-1)) cx dX7_wrong_29 (by decide) ?_
          exact jr_ri (by simp only [dWr, ite_self, if_pos c7, if_pos c14, if_pos c21, if_neg c26]) (by simp only [dWr, ite_self, if_pos c7, if_pos c14, if_pos c21, if_neg c26]) (by rfl) (hR 30 _ dX7_wrong_30)
