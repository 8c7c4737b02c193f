def dRow {α : Type} (r n : Int32) (bad size : α) (ok : Nat → α) : α := if ¬ r < 0 ∧ ¬ 5 < r then (if n ≤ 40 then (if 0 ≤ n then ok r.toNatClampNeg else size) else bad) else bad
def dLay {α : Type} (ms : Nat → Prop) [DecidablePred ms] (sz : Nat → Int32) (r i v : Int32) (bad nothing beyond : α) (ok : Nat → Nat → α) : α :=
  if ¬ r < 0 ∧ ¬ 5 < r then (if ¬ v < -100000 ∧ ¬ 100000 < v then (if ms r.toNatClampNeg then nothing else if ¬ i < 0 ∧ ¬ sz r.toNatClampNeg - 1 < i then ok r.toNatClampNeg i.toNatClampNeg else beyond) else bad) else bad
def dTear {α : Type} (ms : Nat → Prop) [DecidablePred ms] (r : Int32) (bad nothing : α) (ok : Nat → α) : α :=
  if ¬ r < 0 ∧ ¬ 5 < r then (if ms r.toNatClampNeg then nothing else ok r.toNatClampNeg) else bad
abbrev cFit (sz i z : Int32) : Prop := (¬ i < 0 ∧ ¬ sz < i) ∧ ¬ z < 0 ∧ ¬ sz - i < z
def dCopy {α : Type} (ms : Nat → Prop) [DecidablePred ms] (sz : Nat → Int32) (r i t j z : Int32) (bad size nothing beyond : α) (ok : Nat → Nat → Nat → Nat → Nat → α) : α :=
  if ¬ r < 0 ∧ ¬ 5 < r then (if ¬ t < 0 ∧ ¬ 5 < t then (if 0 ≤ z then (if ms r.toNatClampNeg then nothing else if ms t.toNatClampNeg then nothing else if cFit (sz r.toNatClampNeg) i z then (if cFit (sz t.toNatClampNeg) j z then ok r.toNatClampNeg i.toNatClampNeg t.toNatClampNeg j.toNatClampNeg z.toNatClampNeg else beyond) else beyond) else size) else bad) else bad
def dMean {α : Type} (ms : Nat → Prop) [DecidablePred ms] (held : Nat → Nat) (r : Int32) (bad nothing nought : α) (ok : Nat → α) : α :=
  if ¬ r < 0 ∧ ¬ 5 < r then (if ms r.toNatClampNeg then nothing else if held r.toNatClampNeg = 0 then nought else ok r.toNatClampNeg) else bad
theorem fit_nat {n : Nat} {i z : Int32} (hn : n ≤ 40) (h : cFit (nI n) i z) : ∃ a b : Nat, i = nI a ∧ z = nI b ∧ a + b ≤ n := by
  obtain ⟨⟨h1, h2⟩, h3, h4⟩ := h
  obtain ⟨a, ha, rfl⟩ := nI_of h1
  obtain ⟨b, hb, rfl⟩ := nI_of h3
  have h5 : a ≤ n := by
    rcases Nat.lt_or_ge n a with q | q
    · exact absurd (nI_lt q ha) h2
    · exact q
  rw [pk_sub h5] at h4
  refine ⟨a, b, rfl, rfl, ?_⟩
  rcases Nat.lt_or_ge (n - a) b with q | q
  · exact absurd (nI_lt q hb) h4
  · omega
theorem fit_of {n a b : Nat} (hn : n ≤ 40) (h : a + b ≤ n) : cFit (nI n) (nI a) (nI b) :=
  ⟨⟨nI_pos (by omega), nI_nlt (by omega) (by omega)⟩, nI_pos (by omega), by rw [pk_sub (by omega)]; exact nI_nlt (by omega) (by omega)⟩
theorem fit_1 {n : Nat} {i : Int32} (hn : n ≤ 40) : cFit (nI n) i 1 ↔ (¬ i < 0 ∧ ¬ nI n - 1 < i) := by
  constructor
  · intro h
    obtain ⟨a, b, rfl, h2, h3⟩ := fit_nat hn h
    have hb : b = 1 := by
      have h4 : nI 1 = nI b := h2
      have hb : b < 2 ^ 31 := by omega
      exact ((nI_eq (by decide) hb).mp h4).symm
    exact (has_iff (by omega) (by omega)).mpr (by omega)
  · intro h
    obtain ⟨d, hd, rfl⟩ := has_nat (by omega) h
    exact fit_of (b := 1) hn (by omega)
def flM (g : mm_I) (k a i : Nat) : mm_I := fun q => if q = k then (fun b => if a ≤ b ∧ b < a + i then 0 else g k b) else g q
theorem flM_0 (g : mm_I) (k a : Nat) : flM g k a 0 = g := by
  funext q; unfold flM; split
  · subst_vars; funext b; rw [if_neg (by omega)]
  · rfl
theorem flM_s (g : mm_I) (k a i : Nat) : up2 (flM g k a i) k (a + i) 0 = flM g k a (i + 1) := by
  funext q; unfold up2 flM upd
  by_cases e : q = k
  · subst e
    simp only [if_true]
    funext b
    by_cases hb : b = a + i
    · subst hb; rw [if_pos rfl, if_pos (by omega)]
    · rw [if_neg hb]
      by_cases h2 : a ≤ b ∧ b < a + i
      · rw [if_pos h2, if_pos (by omega)]
      · rw [if_neg h2, if_neg (by omega)]
  · simp only [e, if_false]
def mkM (g : mm_I) (j : Nat) (n : Int32) : mm_I := flM (up2 g 14 j n) 15 (40 * j) 40
set_option maxHeartbeats 4000000 in
set_option maxRecDepth 100000 in
theorem c_X6_row (E : mm_E) (g : mm_I) (h : mm_L) (r n : Int32) : Ci E yX6_row wsX6_row 2 45 [.ref (E.1 0), .int r, .int n] g h (dRow r n (-1) (-3) (fun _ => n)) (dRow r n g (rfM g 5) (fun j => mkC g j n)) h := by
  refine ci_i (bytes := cX6_row) (maxL := 3) (by decide) rfl (Nat.le_of_ble_eq_true rfl) (fun X cx hR => ?_)
  change Cx E X cX6_row RX6 wsX6_row 3 2 45 at cx
  change JJ E X g h 0 [(0, .ref (E.1 0)), (1, .int r), (2, .int n)] []
  have hinX6 : ∀ w ∈ u_ws RX6 TX6 9, w ∈ wsX6_row := by decide +kernel
  have mf_10 : Cond.fieldLink RX6 10 (TX6 0).1 (TX6 0).2.1 (TX6 0).2.2.1 ∈ wsX6_row := by decide +kernel
  refine jr_iload_n cx dX6_row_0 1 rfl rfl ?_
  refine jr_si [.int r] 1 cx dX6_row_1 (c_X6_isRow E g h r) gX6_row_X6_isRow rfl (by decide +kernel) ⟨Nat.le_of_ble_eq_true rfl, Nat.le_of_ble_eq_true rfl⟩ rfl rfl (Nat.le_of_ble_eq_true rfl) ?_
  refine jr_bif_eq (tgt := 13) cx dX6_row_4 (by decide) (fun c4 => ?_) (fun c4 => ?_)
  · refine jr_iconst (v := (-1)) cx dX6_row_13 (by decide) ?_
    exact jr_ri (by simp only [dRow, ite_self, if_neg c4]) (by simp only [dRow, ite_self, if_neg c4]) (by rfl) (hR 14 _ dX6_row_14)
  · obtain ⟨j, hj, rfl⟩ := to_nat (M := 5) rfl c4; have ej : (nI j).toNatClampNeg = j := cl_nI (by omega)
    refine jr_iload_n cx dX6_row_7 2 rfl rfl ?_
    refine jr_bipush (v := 40) cx dX6_row_8 (by decide) ?_
    refine jr_icmp_le (tgt := 15) cx dX6_row_10 (by decide) (fun c10 => ?_) (fun c10 => ?_)
    · refine jr_iload_n cx dX6_row_15 2 rfl rfl ?_
      refine jr_if_ge (tgt := 25) cx dX6_row_16 (by decide) (fun c16 => ?_) (fun c16 => ?_)
      · refine jr_aload_n cx dX6_row_25 0 rfl rfl ?_
        refine jr_get (f := 0) (v := .ref (E.1 1)) cx dX6_row_26 (by decide) rfl rfl hinX6 (by decide) mf_10 rfl ?_
        refine jr_iload_n cx dX6_row_29 1 rfl rfl ?_
        refine jr_iload_n cx dX6_row_30 2 rfl rfl ?_
        refine jr_vv [.int (nI j), .int n] 2 cx dX6_row_31 (c_X4_make E g h j (by omega) n) (by decide) rfl rfl gX6_row_X4_make rfl (by decide +kernel) ⟨Nat.le_of_ble_eq_true rfl, Nat.le_of_ble_eq_true rfl⟩ rfl rfl (Nat.le_of_ble_eq_true rfl) ?_
        refine jr_iload_n cx dX6_row_34 2 rfl rfl ?_
        exact jr_ri (by simp only [dRow, ite_self, if_pos c4, if_pos c10, if_pos c16]) (by simp only [dRow, ite_self, if_pos c4, if_pos c10, if_pos c16, ej]) (by rfl) (hR 35 _ dX6_row_35)
      · refine jr_aload_n cx dX6_row_19 0 rfl rfl ?_
        refine jr_iconst (v := 5) cx dX6_row_20 (by decide) ?_
        refine jr_vi [.int 5] 1 cx dX6_row_21 (c_X6_refuse E g h 5 (by decide) (by decide)) (by decide) rfl rfl gX6_row_X6_refuse rfl (by decide +kernel) ⟨Nat.le_of_ble_eq_true rfl, Nat.le_of_ble_eq_true rfl⟩ rfl rfl (Nat.le_of_ble_eq_true rfl) ?_
        exact jr_ri (by simp only [dRow, ite_self, if_pos c4, if_pos c10, if_neg c16]) (by simp only [dRow, ite_self, if_pos c4, if_pos c10, if_neg c16, ej]) (by rfl) (hR 24 _ dX6_row_24)
    · refine jr_iconst (v := (-1)) cx dX6_row_13 (by decide) ?_
      exact jr_ri (by simp only [dRow, ite_self, if_pos c4, if_neg c10]) (by simp only [dRow, ite_self, if_pos c4, if_neg c10, ej]) (by rfl) (hR 14 _ dX6_row_14)
set_option maxHeartbeats 4000000 in
set_option maxRecDepth 100000 in
theorem c_X7_row (E : mm_E) (g : mm_I) (h : mm_L) (r n : Int32) : Ci E yX7_row wsX7_row 2 42 [.ref (E.1 7), .int r, .int n] g h (dRow r n (-1) (-3) (fun _ => n)) (dRow r n g (mtM g 5) (fun j => mkM g j n)) h := by
  refine ci_i (bytes := cX7_row) (maxL := 4) (by decide) rfl (Nat.le_of_ble_eq_true rfl) (fun X cx hR => ?_)
  change Cx E X cX7_row RX7 wsX7_row 4 2 42 at cx
  change JJ E X g h 0 [(0, .ref (E.1 7)), (1, .int r), (2, .int n)] []
  have hinX7 : ∀ w ∈ u_ws RX7 TX7 30, w ∈ wsX7_row := by decide +kernel
  have mf_17 : Cond.fieldLink RX7 17 (TX7 5).1 (TX7 5).2.1 (TX7 5).2.2.1 ∈ wsX7_row := by decide +kernel
  have mf_20 : Cond.fieldLink RX7 20 (TX7 6).1 (TX7 6).2.1 (TX7 6).2.2.1 ∈ wsX7_row := by decide +kernel
  refine jr_iload_n cx dX7_row_0 1 rfl rfl ?_
  refine jr_si [.int r] 1 cx dX7_row_1 (c_X7_isRow E g h r) gX7_row_X7_isRow rfl (by decide +kernel) ⟨Nat.le_of_ble_eq_true rfl, Nat.le_of_ble_eq_true rfl⟩ rfl rfl (Nat.le_of_ble_eq_true rfl) ?_
  refine jr_bif_eq (tgt := 13) cx dX7_row_4 (by decide) (fun c4 => ?_) (fun c4 => ?_)
  · refine jr_iconst (v := (-1)) cx dX7_row_13 (by decide) ?_
    exact jr_ri (by simp only [dRow, ite_self, if_neg c4]) (by simp only [dRow, ite_self, if_neg c4]) (by rfl) (hR 14 _ dX7_row_14)
  · obtain ⟨j, hj, rfl⟩ := to_nat (M := 5) rfl c4; have ej : (nI j).toNatClampNeg = j := cl_nI (by omega)
    refine jr_iload_n cx dX7_row_7 2 rfl rfl ?_
    refine jr_bipush (v := 40) cx dX7_row_8 (by decide) ?_
    refine jr_icmp_le (tgt := 15) cx dX7_row_10 (by decide) (fun c10 => ?_) (fun c10 => ?_)
    · refine jr_iload_n cx dX7_row_15 2 rfl rfl ?_
      refine jr_if_ge (tgt := 25) cx dX7_row_16 (by decide) (fun c16 => ?_) (fun c16 => ?_)
      · refine jr_aload_n cx dX7_row_25 0 rfl rfl ?_
        refine jr_get (f := 5) (v := .ref (E.1 14)) cx dX7_row_26 (by decide) rfl rfl hinX7 (by decide) mf_17 rfl ?_
        refine jr_iload_n cx dX7_row_29 1 rfl rfl ?_
        refine jr_iload_n cx dX7_row_30 2 rfl rfl ?_
        refine jr_iast cx dX7_row_31 (Or.inl ⟨by decide, by decide⟩) j rfl (show _ < 6 by omega) ?_
        refine jr_iconst (v := 0) cx dX7_row_32 (by decide) ?_
        refine jr_istore_n (L' := [(3, .int 0), (0, .ref (E.1 7)), (1, .int (nI j)), (2, .int n)]) cx dX7_row_33 rfl (by decide) rfl ?_
        have key1 : ∀ (fu1 : Nat) (i : Nat), 40 + 1 ≤ i + fu1 → (i ≤ 40) → JJ E X (flM (up2 g 14 j n) 15 (40 * j) i) h 34 [(0, .ref (E.1 7)), (1, .int (nI j)), (2, .int n), (3, .int (nI i))] [] := by
          intro fu1
          induction fu1 with
          | zero => intro i hfu1 h1; exfalso; omega
          | succ fu1 ih1 =>
            intro i hfu1 h1
            refine jr_iload_n cx dX7_row_34 3 rfl rfl ?_
            refine jr_bipush (v := 40) cx dX7_row_35 (by decide) ?_
            refine jr_icmp_ge (tgt := 58) cx dX7_row_37 (by decide) (fun c37 => ?_) (fun c37 => ?_)
            · have n37 : 40 ≤ i := (nI_leI (a := 40) (b := i) (by omega) (by omega)).mp c37
              refine jr_iload_n cx dX7_row_58 2 rfl rfl ?_
              exact jr_ri (by simp only [dRow, ite_self, if_pos c4, if_pos c10, if_pos c16, if_pos c37]) (by simp only [dRow, ite_self, if_pos c4, if_pos c10, if_pos c16, if_pos c37, ej]; rw [show i = 40 by omega]; rfl) (by rfl) (hR 59 _ dX7_row_59)
            · have n37 : ¬ (40 ≤ i) := fun zz => c37 ((nI_leI (a := 40) (b := i) (by omega) (by omega)).mpr zz)
              refine jr_aload_n cx dX7_row_40 0 rfl rfl ?_
              refine jr_get (f := 6) (v := .ref (E.1 15)) cx dX7_row_41 (by decide) rfl rfl hinX7 (by decide) mf_20 rfl ?_
              refine jr_bipush (v := 40) cx dX7_row_44 (by decide) ?_
              refine jr_iload_n cx dX7_row_46 1 rfl rfl ?_
              refine jr_imul cx dX7_row_47 ?_
              refine jr_top (show (40 : Int32) * (nI j) = nI (40 * j) from pk_mul 40 j) ?_
              refine jr_iload_n cx dX7_row_48 3 rfl rfl ?_
              refine jr_iadd cx dX7_row_49 ?_
              refine jr_top (show (nI (40 * j) : Int32) + (nI i) = nI ((40 * j) + i) from nI_add (40 * j) i) ?_
              refine jr_iconst (v := 0) cx dX7_row_50 (by decide) ?_
              refine jr_iast cx dX7_row_51 (Or.inl ⟨by decide, by decide⟩) ((40 * j) + i) rfl (show _ < 240 by omega) ?_
              refine jr_iinc (n := 3) (v := nI (i + 1)) (L' := [(3, .int (nI (i + 1))), (0, .ref (E.1 7)), (1, .int (nI j)), (2, .int n)]) cx dX7_row_52 rfl (nI_1 _) (by decide) rfl ?_
              refine jr_goto (tgt := 34) cx dX7_row_55 (by decide) ?_
              refine jr_pick (L' := [(0, .ref (E.1 7)), (1, .int (nI j)), (2, .int n), (3, .int (nI (i + 1)))]) [1, 2, 3, 0] rfl ?_
              refine jr_mem (g' := flM (up2 g 14 j n) 15 (40 * j) (i + 1)) (h' := h) (by exact flM_s _ _ _ _) (by rfl) ?_
              exact ih1 (i + 1) (by omega) (by omega)
        refine jr_pick (L' := [(0, .ref (E.1 7)), (1, .int (nI j)), (2, .int n), (3, .int 0)]) [1, 2, 3, 0] rfl ?_
        have e3 : (0 : Int32) = (nI 0) := by rfl
        refine jr_loc (lc_n (lc_n (lc_n (lc_i e3 rfl)))) ?_
        refine jr_mem (g' := flM (up2 g 14 j n) 15 (40 * j) 0) (h' := h) (by exact (flM_0 _ _ _).symm) (by rfl) ?_
        exact key1 (40 + 1) 0 (by omega) (by omega)
      · refine jr_aload_n cx dX7_row_19 0 rfl rfl ?_
        refine jr_iconst (v := 5) cx dX7_row_20 (by decide) ?_
        refine jr_vi [.int 5] 1 cx dX7_row_21 (c_X7_meets E g h 5 (by decide)) (by decide) rfl rfl gX7_row_X7_meets rfl (by decide +kernel) ⟨Nat.le_of_ble_eq_true rfl, Nat.le_of_ble_eq_true rfl⟩ rfl rfl (Nat.le_of_ble_eq_true rfl) ?_
        exact jr_ri (by simp only [dRow, ite_self, if_pos c4, if_pos c10, if_neg c16]) (by simp only [dRow, ite_self, if_pos c4, if_pos c10, if_neg c16, ej]) (by rfl) (hR 24 _ dX7_row_24)
    · refine jr_iconst (v := (-1)) cx dX7_row_13 (by decide) ?_
      exact jr_ri (by simp only [dRow, ite_self, if_pos c4, if_neg c10]) (by simp only [dRow, ite_self, if_pos c4, if_neg c10, ej]) (by rfl) (hR 14 _ dX7_row_14)
set_option maxHeartbeats 4000000 in
set_option maxRecDepth 100000 in
theorem c_X7_looked_bad (E : mm_E) (g : mm_I) (h : mm_L) (r : Int32) (hr : ¬ (¬ r < 0 ∧ ¬ 5 < r)) : Ci E yX7_looked wsX7_looked 2 42 [.ref (E.1 7), .int r] g h (-1) g h := by
  refine ci_i (bytes := cX7_looked) (maxL := 2) (by decide) rfl (Nat.le_of_ble_eq_true rfl) (fun X cx hR => ?_)
  change Cx E X cX7_looked RX7 wsX7_looked 2 2 42 at cx
  change JJ E X g h 0 [(0, .ref (E.1 7)), (1, .int r)] []
  refine jr_iload_n cx dX7_looked_0 1 rfl rfl ?_
  refine jr_si [.int r] 1 cx dX7_looked_1 (c_X7_isRow E g h r) gX7_looked_X7_isRow rfl (by decide +kernel) ⟨Nat.le_of_ble_eq_true rfl, Nat.le_of_ble_eq_true rfl⟩ rfl rfl (Nat.le_of_ble_eq_true rfl) ?_
  refine jr_bif_ne (tgt := 11) cx dX7_looked_4 (by decide) (fun c4 => ?_) (fun c4 => ?_)
  · exact absurd c4 hr
  · refine jr_iconst (v := (-1)) cx dX7_looked_7 (by decide) ?_
    refine jr_goto (tgt := 29) cx dX7_looked_8 (by decide) ?_
    exact jr_ri (by rfl) (by rfl) (by rfl) (hR 29 _ dX7_looked_29)
set_option maxHeartbeats 4000000 in
set_option maxRecDepth 100000 in
theorem c_X7_looked_ms (E : mm_E) (g : mm_I) (h : mm_L) (j : Nat) (hj : j < 6) (hr : ¬ nI j < 0 ∧ ¬ 5 < nI j) (hm : g 14 j < 0) : Ci E yX7_looked wsX7_looked 2 42 [.ref (E.1 7), .int (nI j)] g h (-3) (mtM g 1) h := by
  refine ci_i (bytes := cX7_looked) (maxL := 2) (by decide) rfl (Nat.le_of_ble_eq_true rfl) (fun X cx hR => ?_)
  change Cx E X cX7_looked RX7 wsX7_looked 2 2 42 at cx
  change JJ E X g h 0 [(0, .ref (E.1 7)), (1, .int (nI j))] []
  have hinX7 : ∀ w ∈ u_ws RX7 TX7 30, w ∈ wsX7_looked := by decide +kernel
  have mf_17 : Cond.fieldLink RX7 17 (TX7 5).1 (TX7 5).2.1 (TX7 5).2.2.1 ∈ wsX7_looked := by decide +kernel
  refine jr_iload_n cx dX7_looked_0 1 rfl rfl ?_
  refine jr_si [.int (nI j)] 1 cx dX7_looked_1 (c_X7_isRow E g h (nI j)) gX7_looked_X7_isRow rfl (by decide +kernel) ⟨Nat.le_of_ble_eq_true rfl, Nat.le_of_ble_eq_true rfl⟩ rfl rfl (Nat.le_of_ble_eq_true rfl) ?_
  refine jr_bif_ne (tgt := 11) cx dX7_looked_4 (by decide) (fun c4 => ?_) (fun c4 => ?_)
  · refine jr_aload_n cx dX7_looked_11 0 rfl rfl ?_
    refine jr_get (f := 5) (v := .ref (E.1 14)) cx dX7_looked_12 (by decide) rfl rfl hinX7 (by decide) mf_17 rfl ?_
    refine jr_iload_n cx dX7_looked_15 1 rfl rfl ?_
    refine jr_iald cx dX7_looked_16 (Or.inl ⟨by decide, by decide⟩) j rfl (show _ < 6 by omega) ?_
    refine jr_if_ge (tgt := 28) cx dX7_looked_17 (by decide) (fun c17 => ?_) (fun c17 => ?_)
    · exact absurd hm (Int32.not_lt.mpr c17)
    · refine jr_aload_n cx dX7_looked_20 0 rfl rfl ?_
      refine jr_iconst (v := 1) cx dX7_looked_21 (by decide) ?_
      refine jr_vi [.int 1] 1 cx dX7_looked_22 (c_X7_meets E g h 1 (by decide)) (by decide) rfl rfl gX7_looked_X7_meets rfl (by decide +kernel) ⟨Nat.le_of_ble_eq_true rfl, Nat.le_of_ble_eq_true rfl⟩ rfl rfl (Nat.le_of_ble_eq_true rfl) ?_
      refine jr_goto (tgt := 29) cx dX7_looked_25 (by decide) ?_
      exact jr_ri (by rfl) (by rfl) (by rfl) (hR 29 _ dX7_looked_29)
  · exact absurd hr c4
set_option maxHeartbeats 4000000 in
set_option maxRecDepth 100000 in
theorem c_X7_looked_ok (E : mm_E) (g : mm_I) (h : mm_L) (j : Nat) (hj : j < 6) (hr : ¬ nI j < 0 ∧ ¬ 5 < nI j) (hm : ¬ g 14 j < 0) : Ci E yX7_looked wsX7_looked 2 42 [.ref (E.1 7), .int (nI j)] g h 0 g h := by
  refine ci_i (bytes := cX7_looked) (maxL := 2) (by decide) rfl (Nat.le_of_ble_eq_true rfl) (fun X cx hR => ?_)
  change Cx E X cX7_looked RX7 wsX7_looked 2 2 42 at cx
  change JJ E X g h 0 [(0, .ref (E.1 7)), (1, .int (nI j))] []
  have hinX7 : ∀ w ∈ u_ws RX7 TX7 30, w ∈ wsX7_looked := by decide +kernel
  have mf_17 : Cond.fieldLink RX7 17 (TX7 5).1 (TX7 5).2.1 (TX7 5).2.2.1 ∈ wsX7_looked := by decide +kernel
  refine jr_iload_n cx dX7_looked_0 1 rfl rfl ?_
  refine jr_si [.int (nI j)] 1 cx dX7_looked_1 (c_X7_isRow E g h (nI j)) gX7_looked_X7_isRow rfl (by decide +kernel) ⟨Nat.le_of_ble_eq_true rfl, Nat.le_of_ble_eq_true rfl⟩ rfl rfl (Nat.le_of_ble_eq_true rfl) ?_
  refine jr_bif_ne (tgt := 11) cx dX7_looked_4 (by decide) (fun c4 => ?_) (fun c4 => ?_)
  · refine jr_aload_n cx dX7_looked_11 0 rfl rfl ?_
    refine jr_get (f := 5) (v := .ref (E.1 14)) cx dX7_looked_12 (by decide) rfl rfl hinX7 (by decide) mf_17 rfl ?_
    refine jr_iload_n cx dX7_looked_15 1 rfl rfl ?_
    refine jr_iald cx dX7_looked_16 (Or.inl ⟨by decide, by decide⟩) j rfl (show _ < 6 by omega) ?_
    refine jr_if_ge (tgt := 28) cx dX7_looked_17 (by decide) (fun c17 => ?_) (fun c17 => ?_)
    · refine jr_iconst (v := 0) cx dX7_looked_28 (by decide) ?_
      exact jr_ri (by rfl) (by rfl) (by rfl) (hR 29 _ dX7_looked_29)
    · exact absurd (Int32.not_lt.mp hm) c17
  · exact absurd hr c4
set_option maxHeartbeats 4000000 in
set_option maxRecDepth 100000 in
theorem c_X6_lay (E : mm_E) (g : mm_I) (h : mm_L) (r i v : Int32) (hsz : ∀ j, j < 6 → g 9 j = -1 ∨ ∃ n, n ≤ 40 ∧ g 9 j = nI n) : Ci E yX6_lay wsX6_lay 2 45 [.ref (E.1 0), .int r, .int i, .int v] g h (dLay (fun j => g 9 j = -1) (g 9) r i v (-1) (-3) (-3) (fun _ _ => 1)) (dLay (fun j => g 9 j = -1) (g 9) r i v g (rfM g 1) (rfM g 2) (fun j d => up2 g (39 + j) d v)) (dLay (fun j => g 9 j = -1) (g 9) r i v h h h (fun j d => upL h 0 8 (g (39 + j) d).toInt64)) := by
  refine ci_i (bytes := cX6_lay) (maxL := 4) (by decide) rfl (Nat.le_of_ble_eq_true rfl) (fun X cx hR => ?_)
  change Cx E X cX6_lay RX6 wsX6_lay 4 2 45 at cx
  change JJ E X g h 0 [(0, .ref (E.1 0)), (1, .int r), (2, .int i), (3, .int v)] []
  have hinX6 : ∀ w ∈ u_ws RX6 TX6 9, w ∈ wsX6_lay := by decide +kernel
  have mc_75 : Cond.constant RX6 75 100000 ∈ wsX6_lay := by decide +kernel
  have mf_10 : Cond.fieldLink RX6 10 (TX6 0).1 (TX6 0).2.1 (TX6 0).2.2.1 ∈ wsX6_lay := by decide +kernel
  have mf_59 : Cond.fieldLink RX6 59 (TX6 8).1 (TX6 8).2.1 (TX6 8).2.2.1 ∈ wsX6_lay := by decide +kernel
  refine jr_iload_n cx dX6_lay_0 1 rfl rfl ?_
  refine jr_si [.int r] 1 cx dX6_lay_1 (c_X6_isRow E g h r) gX6_lay_X6_isRow rfl (by decide +kernel) ⟨Nat.le_of_ble_eq_true rfl, Nat.le_of_ble_eq_true rfl⟩ rfl rfl (Nat.le_of_ble_eq_true rfl) ?_
  refine jr_bif_eq (tgt := 16) cx dX6_lay_4 (by decide) (fun c4 => ?_) (fun c4 => ?_)
  · refine jr_iconst (v := (-1)) cx dX6_lay_16 (by decide) ?_
    exact jr_ri (by simp only [dLay, ite_self, if_neg c4]) (by simp only [dLay, ite_self, if_neg c4]) (by simp only [dLay, ite_self, if_neg c4]) (hR 17 _ dX6_lay_17)
  · obtain ⟨j, hj, rfl⟩ := to_nat (M := 5) rfl c4; have ej : (nI j).toNatClampNeg = j := cl_nI (by omega)
    refine jr_iload_n cx dX6_lay_7 3 rfl rfl ?_
    refine jr_ldc cx dX6_lay_8 mc_75 ?_
    refine jr_si [.int v, .int 100000] 2 cx dX6_lay_10 (c_X6_isWithin E g h v 100000) gX6_lay_X6_isWithin rfl (by decide +kernel) ⟨Nat.le_of_ble_eq_true rfl, Nat.le_of_ble_eq_true rfl⟩ rfl rfl (Nat.le_of_ble_eq_true rfl) ?_
    refine jr_bif_ne (tgt := 18) cx dX6_lay_13 (by decide) (fun c13 => ?_) (fun c13 => ?_)
    · refine jr_aload_n cx dX6_lay_18 0 rfl rfl ?_
      refine jr_get (f := 0) (v := .ref (E.1 1)) cx dX6_lay_19 (by decide) rfl rfl hinX6 (by decide) mf_10 rfl ?_
      refine jr_iload_n cx dX6_lay_22 1 rfl rfl ?_
      refine jr_vi [.int (nI j)] 1 cx dX6_lay_23 (c_X4_isMissing E g h j (by omega)) (by decide) rfl rfl gX6_lay_X4_isMissing rfl (by decide +kernel) ⟨Nat.le_of_ble_eq_true rfl, Nat.le_of_ble_eq_true rfl⟩ rfl rfl (Nat.le_of_ble_eq_true rfl) ?_
      refine jr_bif_eq (tgt := 35) cx dX6_lay_26 (by decide) (fun c26 => ?_) (fun c26 => ?_)
      · obtain ⟨n, hn, hs⟩ : ∃ n, n ≤ 40 ∧ g 9 j = nI n := (hsz j (by omega)).resolve_left c26
        refine jr_aload_n cx dX6_lay_35 0 rfl rfl ?_
        refine jr_get (f := 0) (v := .ref (E.1 1)) cx dX6_lay_36 (by decide) rfl rfl hinX6 (by decide) mf_10 rfl ?_
        refine jr_iload_n cx dX6_lay_39 1 rfl rfl ?_
        refine jr_iload_n cx dX6_lay_40 2 rfl rfl ?_
        refine jr_iconst (v := 1) cx dX6_lay_41 (by decide) ?_
        refine jr_vi [.int (nI j), .int i, .int 1] 3 cx dX6_lay_42 (c_X4_hasPlaces E g h j (by omega) i 1) (by decide) rfl rfl gX6_lay_X4_hasPlaces rfl (by decide +kernel) ⟨Nat.le_of_ble_eq_true rfl, Nat.le_of_ble_eq_true rfl⟩ rfl rfl (Nat.le_of_ble_eq_true rfl) ?_
        refine jr_bif_ne (tgt := 54) cx dX6_lay_45 (by decide) (fun c45 => ?_) (fun c45 => ?_)
        · have p45 : ¬ i < 0 ∧ ¬ g 9 j - 1 < i := by rw [hs] at c45 ⊢; exact (fit_1 hn).mp c45
          obtain ⟨d, hd, rfl⟩ := has_nat (by omega) (hs ▸ p45); have ed : (nI d).toNatClampNeg = d := cl_nI (by omega)
          refine jr_aload_n cx dX6_lay_54 0 rfl rfl ?_
          refine jr_aload_n cx dX6_lay_55 0 rfl rfl ?_
          refine jr_get (f := 0) (v := .ref (E.1 1)) cx dX6_lay_56 (by decide) rfl rfl hinX6 (by decide) mf_10 rfl ?_
          refine jr_iload_n cx dX6_lay_59 1 rfl rfl ?_
          refine jr_iload_n cx dX6_lay_60 2 rfl rfl ?_
          refine jr_vi [.int (nI j), .int (nI d)] 2 cx dX6_lay_61 (c_X4_readingAt E g h j (by omega) d (by omega)) (by decide) rfl rfl gX6_lay_X4_readingAt rfl (by decide +kernel) ⟨Nat.le_of_ble_eq_true rfl, Nat.le_of_ble_eq_true rfl⟩ rfl rfl (Nat.le_of_ble_eq_true rfl) ?_
          refine jr_i2l cx dX6_lay_64 ?_
          refine jr_put_X6_8 cx dX6_lay_65 hinX6 mf_59 ?_
          refine jr_aload_n cx dX6_lay_68 0 rfl rfl ?_
          refine jr_get (f := 0) (v := .ref (E.1 1)) cx dX6_lay_69 (by decide) rfl rfl hinX6 (by decide) mf_10 rfl ?_
          refine jr_iload_n cx dX6_lay_72 1 rfl rfl ?_
          refine jr_iload_n cx dX6_lay_73 2 rfl rfl ?_
          refine jr_iload_n cx dX6_lay_74 3 rfl rfl ?_
          refine jr_vv [.int (nI j), .int (nI d), .int v] 3 cx dX6_lay_75 (c_X4_put E g (upL h 0 8 (Int32.toInt64 (g (39 + j) d))) j (by omega) d (by omega) v) (by decide) rfl rfl gX6_lay_X4_put rfl (by decide +kernel) ⟨Nat.le_of_ble_eq_true rfl, Nat.le_of_ble_eq_true rfl⟩ rfl rfl (Nat.le_of_ble_eq_true rfl) ?_
          refine jr_iconst (v := 1) cx dX6_lay_78 (by decide) ?_
          exact jr_ri (by simp only [dLay, ite_self, if_pos c4, if_pos c13, if_neg c26, if_pos p45, ej, ed]) (by simp only [dLay, ite_self, if_pos c4, if_pos c13, if_neg c26, if_pos p45, ej, ed]) (by simp only [dLay, ite_self, if_pos c4, if_pos c13, if_neg c26, if_pos p45, ej, ed]) (hR 79 _ dX6_lay_79)
        · have p45 : ¬ (¬ i < 0 ∧ ¬ g 9 j - 1 < i) := fun q => c45 (by rw [hs] at q ⊢; exact (fit_1 hn).mpr q)
          refine jr_aload_n cx dX6_lay_48 0 rfl rfl ?_
          refine jr_iconst (v := 2) cx dX6_lay_49 (by decide) ?_
          refine jr_vi [.int 2] 1 cx dX6_lay_50 (c_X6_refuse E g h 2 (by decide) (by decide)) (by decide) rfl rfl gX6_lay_X6_refuse rfl (by decide +kernel) ⟨Nat.le_of_ble_eq_true rfl, Nat.le_of_ble_eq_true rfl⟩ rfl rfl (Nat.le_of_ble_eq_true rfl) ?_
          exact jr_ri (by simp only [dLay, ite_self, if_pos c4, if_pos c13, if_neg c26, if_neg p45, ej]) (by simp only [dLay, ite_self, if_pos c4, if_pos c13, if_neg c26, if_neg p45, ej]) (by simp only [dLay, ite_self, if_pos c4, if_pos c13, if_neg c26, if_neg p45, ej]) (hR 53 _ dX6_lay_53)
      · refine jr_aload_n cx dX6_lay_29 0 rfl rfl ?_
        refine jr_iconst (v := 1) cx dX6_lay_30 (by decide) ?_
        refine jr_vi [.int 1] 1 cx dX6_lay_31 (c_X6_refuse E g h 1 (by decide) (by decide)) (by decide) rfl rfl gX6_lay_X6_refuse rfl (by decide +kernel) ⟨Nat.le_of_ble_eq_true rfl, Nat.le_of_ble_eq_true rfl⟩ rfl rfl (Nat.le_of_ble_eq_true rfl) ?_
        exact jr_ri (by simp only [dLay, ite_self, if_pos c4, if_pos c13, if_pos c26, ej]) (by simp only [dLay, ite_self, if_pos c4, if_pos c13, if_pos c26, ej]) (by simp only [dLay, ite_self, if_pos c4, if_pos c13, if_pos c26, ej]) (hR 34 _ dX6_lay_34)
    · refine jr_iconst (v := (-1)) cx dX6_lay_16 (by decide) ?_
      exact jr_ri (by simp only [dLay, ite_self, if_pos c4, if_neg c13, ej]) (by simp only [dLay, ite_self, if_pos c4, if_neg c13, ej]) (by simp only [dLay, ite_self, if_pos c4, if_neg c13, ej]) (hR 17 _ dX6_lay_17)
set_option maxHeartbeats 4000000 in
set_option maxRecDepth 100000 in
theorem c_X7_lay (E : mm_E) (g : mm_I) (h : mm_L) (r i v : Int32) (hsz : ∀ j, j < 6 → g 14 j < 0 ∨ ∃ n, n ≤ 40 ∧ g 14 j = nI n) : Ci E yX7_lay wsX7_lay 3 63 [.ref (E.1 7), .int r, .int i, .int v] g h (dLay (fun j => g 14 j < 0) (g 14) r i v (-1) (-3) (-3) (fun _ _ => 1)) (dLay (fun j => g 14 j < 0) (g 14) r i v g (mtM g 1) (mtM g 2) (fun j d => up2 g 15 (40 * j + d) v)) (dLay (fun j => g 14 j < 0) (g 14) r i v h h h (fun j d => upL h 7 2 (g 15 (40 * j + d)).toInt64)) := by
  refine ci_i (bytes := cX7_lay) (maxL := 5) (by decide) rfl (Nat.le_of_ble_eq_true rfl) (fun X cx hR => ?_)
  change Cx E X cX7_lay RX7 wsX7_lay 5 3 63 at cx
  change JJ E X g h 0 [(0, .ref (E.1 7)), (1, .int r), (2, .int i), (3, .int v)] []
  have hinX7 : ∀ w ∈ u_ws RX7 TX7 30, w ∈ wsX7_lay := by decide +kernel
  have mc_105 : Cond.constant RX7 105 (-100000) ∈ wsX7_lay := by decide +kernel
  have mc_106 : Cond.constant RX7 106 100000 ∈ wsX7_lay := by decide +kernel
  have mf_17 : Cond.fieldLink RX7 17 (TX7 5).1 (TX7 5).2.1 (TX7 5).2.2.1 ∈ wsX7_lay := by decide +kernel
  have mf_20 : Cond.fieldLink RX7 20 (TX7 6).1 (TX7 6).2.1 (TX7 6).2.2.1 ∈ wsX7_lay := by decide +kernel
  have mf_90 : Cond.fieldLink RX7 90 (TX7 2).1 (TX7 2).2.1 (TX7 2).2.2.1 ∈ wsX7_lay := by decide +kernel
  refine jr_iload_n cx dX7_lay_0 3 rfl rfl ?_
  refine jr_ldc cx dX7_lay_1 mc_105 ?_
  refine jr_ldc cx dX7_lay_3 mc_106 ?_
  refine jr_si [.int v, .int (-100000), .int 100000] 3 cx dX7_lay_5 (c_X7_in E g h v (-100000) 100000) gX7_lay_X7_in rfl (by decide +kernel) ⟨Nat.le_of_ble_eq_true rfl, Nat.le_of_ble_eq_true rfl⟩ rfl rfl (Nat.le_of_ble_eq_true rfl) ?_
  refine jr_bif_ne (tgt := 13) cx dX7_lay_8 (by decide) (fun c8 => ?_) (fun c8 => ?_)
  · refine jr_aload_n cx dX7_lay_13 0 rfl rfl ?_
    refine jr_iload_n cx dX7_lay_14 1 rfl rfl ?_
    by_cases hr : ¬ r < 0 ∧ ¬ 5 < r
    · obtain ⟨j, hj, rfl⟩ := to_nat (M := 5) rfl hr; have ej : (nI j).toNatClampNeg = j := cl_nI (by omega)
      by_cases hm : g 14 j < 0
      · refine jr_vi [.int (nI j)] 1 cx dX7_lay_15 (c_X7_looked_ms E g h j (by omega) hr hm) (by decide) rfl rfl gX7_lay_X7_looked rfl (by decide +kernel) ⟨Nat.le_of_ble_eq_true rfl, Nat.le_of_ble_eq_true rfl⟩ rfl rfl (Nat.le_of_ble_eq_true rfl) ?_
        refine jr_istore (L' := [(4, .int (-3)), (0, .ref (E.1 7)), (1, .int (nI j)), (2, .int i), (3, .int v)]) cx dX7_lay_18 (by decide) rfl ?_
        refine jr_iload cx dX7_lay_20 0 rfl ?_
        refine jr_if_ge (tgt := 28) cx dX7_lay_22 (by decide) (fun c22 => absurd c22 (by decide)) (fun c22 => ?_)
        refine jr_iload cx dX7_lay_25 0 rfl ?_
        exact jr_ri (by simp only [dLay, ite_self, if_pos c8, if_pos hr, if_pos hm, ej]) (by simp only [dLay, ite_self, if_pos c8, if_pos hr, if_pos hm, ej]) (by simp only [dLay, ite_self, if_pos c8, if_pos hr, if_pos hm, ej]) (hR 27 _ dX7_lay_27)
      · obtain ⟨n, hn, hs⟩ : ∃ n, n ≤ 40 ∧ g 14 j = nI n := (hsz j (by omega)).resolve_left hm
        refine jr_vi [.int (nI j)] 1 cx dX7_lay_15 (c_X7_looked_ok E g h j (by omega) hr hm) (by decide) rfl rfl gX7_lay_X7_looked rfl (by decide +kernel) ⟨Nat.le_of_ble_eq_true rfl, Nat.le_of_ble_eq_true rfl⟩ rfl rfl (Nat.le_of_ble_eq_true rfl) ?_
        refine jr_istore (L' := [(4, .int 0), (0, .ref (E.1 7)), (1, .int (nI j)), (2, .int i), (3, .int v)]) cx dX7_lay_18 (by decide) rfl ?_
        refine jr_iload cx dX7_lay_20 0 rfl ?_
        refine jr_if_ge (tgt := 28) cx dX7_lay_22 (by decide) (fun c22 => ?_) (fun c22 => absurd c22 (by decide))
        refine jr_iload_n cx dX7_lay_28 3 rfl rfl ?_
        refine jr_iconst (v := 0) cx dX7_lay_29 (by decide) ?_
        refine jr_aload_n cx dX7_lay_30 1 rfl rfl ?_
        refine jr_get (f := 5) (v := .ref (E.1 14)) cx dX7_lay_31 (by decide) rfl rfl hinX7 (by decide) mf_17 rfl ?_
        refine jr_iload_n cx dX7_lay_34 2 rfl rfl ?_
        refine jr_iald cx dX7_lay_35 (Or.inl ⟨by decide, by decide⟩) j rfl (show _ < 6 by omega) ?_
        refine jr_top hs ?_
        refine jr_iconst (v := 1) cx dX7_lay_36 (by decide) ?_
        refine jr_isub cx dX7_lay_37 ?_
        refine jr_si [.int i, .int 0, .int ((nI n) - 1)] 3 cx dX7_lay_38 (c_X7_in E g h i 0 ((nI n) - 1)) gX7_lay_X7_in rfl (by decide +kernel) ⟨Nat.le_of_ble_eq_true rfl, Nat.le_of_ble_eq_true rfl⟩ rfl rfl (Nat.le_of_ble_eq_true rfl) ?_
        refine jr_bif_ne (tgt := 50) cx dX7_lay_41 (by decide) (fun c41 => ?_) (fun c41 => ?_)
        · obtain ⟨d, hd, rfl⟩ := has_nat (by omega) c41; have ed : (nI d).toNatClampNeg = d := cl_nI (by omega)
          have p41 : ¬ nI d < 0 ∧ ¬ g 14 j - 1 < nI d := by rw [hs]; exact c41
          refine jr_aload_n cx dX7_lay_50 1 rfl rfl ?_
          refine jr_aload_n cx dX7_lay_51 1 rfl rfl ?_
          refine jr_get (f := 6) (v := .ref (E.1 15)) cx dX7_lay_52 (by decide) rfl rfl hinX7 (by decide) mf_20 rfl ?_
          refine jr_bipush (v := 40) cx dX7_lay_55 (by decide) ?_
          refine jr_iload_n cx dX7_lay_57 2 rfl rfl ?_
          refine jr_imul cx dX7_lay_58 ?_
          refine jr_top (show (40 : Int32) * (nI j) = nI (40 * j) from pk_mul 40 j) ?_
          refine jr_iload_n cx dX7_lay_59 3 rfl rfl ?_
          refine jr_iadd cx dX7_lay_60 ?_
          refine jr_top (show (nI (40 * j) : Int32) + (nI d) = nI ((40 * j) + d) from nI_add (40 * j) d) ?_
          refine jr_iald cx dX7_lay_61 (Or.inl ⟨by decide, by decide⟩) ((40 * j) + d) rfl (show _ < 240 by omega) ?_
          refine jr_i2l cx dX7_lay_62 ?_
          refine jr_put_X7_2 cx dX7_lay_63 hinX7 mf_90 ?_
          refine jr_aload_n cx dX7_lay_66 1 rfl rfl ?_
          refine jr_get (f := 6) (v := .ref (E.1 15)) cx dX7_lay_67 (by decide) rfl rfl hinX7 (by decide) mf_20 rfl ?_
          refine jr_bipush (v := 40) cx dX7_lay_70 (by decide) ?_
          refine jr_iload_n cx dX7_lay_72 2 rfl rfl ?_
          refine jr_imul cx dX7_lay_73 ?_
          refine jr_top (show (40 : Int32) * (nI j) = nI (40 * j) from pk_mul 40 j) ?_
          refine jr_iload_n cx dX7_lay_74 3 rfl rfl ?_
          refine jr_iadd cx dX7_lay_75 ?_
          refine jr_top (show (nI (40 * j) : Int32) + (nI d) = nI ((40 * j) + d) from nI_add (40 * j) d) ?_
          refine jr_iload_n cx dX7_lay_76 4 rfl rfl ?_
          refine jr_iast cx dX7_lay_77 (Or.inl ⟨by decide, by decide⟩) ((40 * j) + d) rfl (show _ < 240 by omega) ?_
          refine jr_iconst (v := 1) cx dX7_lay_78 (by decide) ?_
          exact jr_ri (by simp only [dLay, ite_self, if_pos c8, if_pos hr, if_neg hm, if_pos p41, ej, ed]) (by simp only [dLay, ite_self, if_pos c8, if_pos hr, if_neg hm, if_pos p41, ej, ed]) (by simp only [dLay, ite_self, if_pos c8, if_pos hr, if_neg hm, if_pos p41, ej, ed]) (hR 79 _ dX7_lay_79)
        · have p41 : ¬ (¬ i < 0 ∧ ¬ g 14 j - 1 < i) := by rw [hs]; exact c41
          refine jr_aload_n cx dX7_lay_44 1 rfl rfl ?_
          refine jr_iconst (v := 2) cx dX7_lay_45 (by decide) ?_
          refine jr_vi [.int 2] 1 cx dX7_lay_46 (c_X7_meets E g h 2 (by decide)) (by decide) rfl rfl gX7_lay_X7_meets rfl (by decide +kernel) ⟨Nat.le_of_ble_eq_true rfl, Nat.le_of_ble_eq_true rfl⟩ rfl rfl (Nat.le_of_ble_eq_true rfl) ?_
          exact jr_ri (by simp only [dLay, ite_self, if_pos c8, if_pos hr, if_neg hm, if_neg p41, ej]) (by simp only [dLay, ite_self, if_pos c8, if_pos hr, if_neg hm, if_neg p41, ej]) (by simp only [dLay, ite_self, if_pos c8, if_pos hr, if_neg hm, if_neg p41, ej]) (hR 49 _ dX7_lay_49)
    · refine jr_vi [.int r] 1 cx dX7_lay_15 (c_X7_looked_bad E g h r hr) (by decide) rfl rfl gX7_lay_X7_looked rfl (by decide +kernel) ⟨Nat.le_of_ble_eq_true rfl, Nat.le_of_ble_eq_true rfl⟩ rfl rfl (Nat.le_of_ble_eq_true rfl) ?_
      refine jr_istore (L' := [(4, .int (-1)), (0, .ref (E.1 7)), (1, .int r), (2, .int i), (3, .int v)]) cx dX7_lay_18 (by decide) rfl ?_
      refine jr_iload cx dX7_lay_20 0 rfl ?_
      refine jr_if_ge (tgt := 28) cx dX7_lay_22 (by decide) (fun c22 => absurd c22 (by decide)) (fun c22 => ?_)
      refine jr_iload cx dX7_lay_25 0 rfl ?_
      exact jr_ri (by simp only [dLay, ite_self, if_pos c8, if_neg hr]) (by simp only [dLay, ite_self, if_pos c8, if_neg hr]) (by simp only [dLay, ite_self, if_pos c8, if_neg hr]) (hR 27 _ dX7_lay_27)
  · refine jr_iconst (v := (-1)) cx dX7_lay_11 (by decide) ?_
    exact jr_ri (by simp only [dLay, ite_self, if_neg c8]) (by simp only [dLay, ite_self, if_neg c8]) (by simp only [dLay, ite_self, if_neg c8]) (hR 12 _ dX7_lay_12)
set_option maxHeartbeats 4000000 in
set_option maxRecDepth 100000 in
theorem c_X6_tear (E : mm_E) (g : mm_I) (h : mm_L) (r : Int32) : Ci E yX6_tear wsX6_tear 2 43 [.ref (E.1 0), .int r] g h (dTear (fun j => g 9 j = -1) r (-1) (-3) (fun _ => 1)) (dTear (fun j => g 9 j = -1) r g (rfM g 1) (fun j => up2 g 9 j (-1))) h := by
  refine ci_i (bytes := cX6_tear) (maxL := 2) (by decide) rfl (Nat.le_of_ble_eq_true rfl) (fun X cx hR => ?_)
  change Cx E X cX6_tear RX6 wsX6_tear 2 2 43 at cx
  change JJ E X g h 0 [(0, .ref (E.1 0)), (1, .int r)] []
  have hinX6 : ∀ w ∈ u_ws RX6 TX6 9, w ∈ wsX6_tear := by decide +kernel
  have mf_10 : Cond.fieldLink RX6 10 (TX6 0).1 (TX6 0).2.1 (TX6 0).2.2.1 ∈ wsX6_tear := by decide +kernel
  refine jr_iload_n cx dX6_tear_0 1 rfl rfl ?_
  refine jr_si [.int r] 1 cx dX6_tear_1 (c_X6_isRow E g h r) gX6_tear_X6_isRow rfl (by decide +kernel) ⟨Nat.le_of_ble_eq_true rfl, Nat.le_of_ble_eq_true rfl⟩ rfl rfl (Nat.le_of_ble_eq_true rfl) ?_
  refine jr_bif_ne (tgt := 9) cx dX6_tear_4 (by decide) (fun c4 => ?_) (fun c4 => ?_)
  · obtain ⟨j, hj, rfl⟩ := to_nat (M := 5) rfl c4; have ej : (nI j).toNatClampNeg = j := cl_nI (by omega)
    refine jr_aload_n cx dX6_tear_9 0 rfl rfl ?_
    refine jr_get (f := 0) (v := .ref (E.1 1)) cx dX6_tear_10 (by decide) rfl rfl hinX6 (by decide) mf_10 rfl ?_
    refine jr_iload_n cx dX6_tear_13 1 rfl rfl ?_
    refine jr_vi [.int (nI j)] 1 cx dX6_tear_14 (c_X4_isMissing E g h j (by omega)) (by decide) rfl rfl gX6_tear_X4_isMissing rfl (by decide +kernel) ⟨Nat.le_of_ble_eq_true rfl, Nat.le_of_ble_eq_true rfl⟩ rfl rfl (Nat.le_of_ble_eq_true rfl) ?_
    refine jr_bif_eq (tgt := 26) cx dX6_tear_17 (by decide) (fun c17 => ?_) (fun c17 => ?_)
    · refine jr_aload_n cx dX6_tear_26 0 rfl rfl ?_
      refine jr_get (f := 0) (v := .ref (E.1 1)) cx dX6_tear_27 (by decide) rfl rfl hinX6 (by decide) mf_10 rfl ?_
      refine jr_iload_n cx dX6_tear_30 1 rfl rfl ?_
      refine jr_vv [.int (nI j)] 1 cx dX6_tear_31 (c_X4_drop E g h j (by omega)) (by decide) rfl rfl gX6_tear_X4_drop rfl (by decide +kernel) ⟨Nat.le_of_ble_eq_true rfl, Nat.le_of_ble_eq_true rfl⟩ rfl rfl (Nat.le_of_ble_eq_true rfl) ?_
      refine jr_iconst (v := 1) cx dX6_tear_34 (by decide) ?_
      exact jr_ri (by simp only [dTear, ite_self, if_pos c4, if_neg c17, ej]) (by simp only [dTear, ite_self, if_pos c4, if_neg c17, ej]) (by rfl) (hR 35 _ dX6_tear_35)
    · refine jr_aload_n cx dX6_tear_20 0 rfl rfl ?_
      refine jr_iconst (v := 1) cx dX6_tear_21 (by decide) ?_
      refine jr_vi [.int 1] 1 cx dX6_tear_22 (c_X6_refuse E g h 1 (by decide) (by decide)) (by decide) rfl rfl gX6_tear_X6_refuse rfl (by decide +kernel) ⟨Nat.le_of_ble_eq_true rfl, Nat.le_of_ble_eq_true rfl⟩ rfl rfl (Nat.le_of_ble_eq_true rfl) ?_
      exact jr_ri (by simp only [dTear, ite_self, if_pos c4, if_pos c17, ej]) (by simp only [dTear, ite_self, if_pos c4, if_pos c17, ej]) (by rfl) (hR 25 _ dX6_tear_25)
  · refine jr_iconst (v := (-1)) cx dX6_tear_7 (by decide) ?_
    exact jr_ri (by simp only [dTear, ite_self, if_neg c4]) (by simp only [dTear, ite_self, if_neg c4]) (by rfl) (hR 8 _ dX6_tear_8)
set_option maxHeartbeats 4000000 in
set_option maxRecDepth 100000 in
theorem c_X7_tear (E : mm_E) (g : mm_I) (h : mm_L) (r : Int32) : Ci E yX7_tear wsX7_tear 3 63 [.ref (E.1 7), .int r] g h (dTear (fun j => g 14 j < 0) r (-1) (-3) (fun _ => 1)) (dTear (fun j => g 14 j < 0) r g (mtM g 1) (fun j => up2 g 14 j (-9))) h := by
  refine ci_i (bytes := cX7_tear) (maxL := 3) (by decide) rfl (Nat.le_of_ble_eq_true rfl) (fun X cx hR => ?_)
  change Cx E X cX7_tear RX7 wsX7_tear 3 3 63 at cx
  change JJ E X g h 0 [(0, .ref (E.1 7)), (1, .int r)] []
  have hinX7 : ∀ w ∈ u_ws RX7 TX7 30, w ∈ wsX7_tear := by decide +kernel
  have mf_17 : Cond.fieldLink RX7 17 (TX7 5).1 (TX7 5).2.1 (TX7 5).2.2.1 ∈ wsX7_tear := by decide +kernel
  refine jr_aload_n cx dX7_tear_0 0 rfl rfl ?_
  refine jr_iload_n cx dX7_tear_1 1 rfl rfl ?_
  by_cases hr : ¬ r < 0 ∧ ¬ 5 < r
  · obtain ⟨j, hj, rfl⟩ := to_nat (M := 5) rfl hr; have ej : (nI j).toNatClampNeg = j := cl_nI (by omega)
    by_cases hm : g 14 j < 0
    · refine jr_vi [.int (nI j)] 1 cx dX7_tear_2 (c_X7_looked_ms E g h j (by omega) hr hm) (by decide) rfl rfl gX7_tear_X7_looked rfl (by decide +kernel) ⟨Nat.le_of_ble_eq_true rfl, Nat.le_of_ble_eq_true rfl⟩ rfl rfl (Nat.le_of_ble_eq_true rfl) ?_
      refine jr_istore_n (L' := [(2, .int (-3)), (0, .ref (E.1 7)), (1, .int (nI j))]) cx dX7_tear_5 rfl (by decide) rfl ?_
      refine jr_iload_n cx dX7_tear_6 0 rfl rfl ?_
      refine jr_if_ge (tgt := 12) cx dX7_tear_7 (by decide) (fun c7 => absurd c7 (by decide)) (fun c7 => ?_)
      refine jr_iload_n cx dX7_tear_10 0 rfl rfl ?_
      exact jr_ri (by simp only [dTear, ite_self, if_pos hr, if_pos hm, ej]) (by simp only [dTear, ite_self, if_pos hr, if_pos hm, ej]) (by rfl) (hR 11 _ dX7_tear_11)
    · refine jr_vi [.int (nI j)] 1 cx dX7_tear_2 (c_X7_looked_ok E g h j (by omega) hr hm) (by decide) rfl rfl gX7_tear_X7_looked rfl (by decide +kernel) ⟨Nat.le_of_ble_eq_true rfl, Nat.le_of_ble_eq_true rfl⟩ rfl rfl (Nat.le_of_ble_eq_true rfl) ?_
      refine jr_istore_n (L' := [(2, .int 0), (0, .ref (E.1 7)), (1, .int (nI j))]) cx dX7_tear_5 rfl (by decide) rfl ?_
      refine jr_iload_n cx dX7_tear_6 0 rfl rfl ?_
      refine jr_if_ge (tgt := 12) cx dX7_tear_7 (by decide) (fun c7 => ?_) (fun c7 => absurd c7 (by decide))
      refine jr_aload_n cx dX7_tear_12 1 rfl rfl ?_
      refine jr_get (f := 5) (v := .ref (E.1 14)) cx dX7_tear_13 (by decide) rfl rfl hinX7 (by decide) mf_17 rfl ?_
      refine jr_iload_n cx dX7_tear_16 2 rfl rfl ?_
      refine jr_bipush (v := (-9)) cx dX7_tear_17 (by decide) ?_
      refine jr_iast cx dX7_tear_19 (Or.inl ⟨by decide, by decide⟩) j rfl (show _ < 6 by omega) ?_
      refine jr_iconst (v := 1) cx dX7_tear_20 (by decide) ?_
      exact jr_ri (by simp only [dTear, ite_self, if_pos hr, if_neg hm, ej]) (by simp only [dTear, ite_self, if_pos hr, if_neg hm, ej]) (by rfl) (hR 21 _ dX7_tear_21)
  · refine jr_vi [.int r] 1 cx dX7_tear_2 (c_X7_looked_bad E g h r hr) (by decide) rfl rfl gX7_tear_X7_looked rfl (by decide +kernel) ⟨Nat.le_of_ble_eq_true rfl, Nat.le_of_ble_eq_true rfl⟩ rfl rfl (Nat.le_of_ble_eq_true rfl) ?_
    refine jr_istore_n (L' := [(2, .int (-1)), (0, .ref (E.1 7)), (1, .int r)]) cx dX7_tear_5 rfl (by decide) rfl ?_
    refine jr_iload_n cx dX7_tear_6 0 rfl rfl ?_
    refine jr_if_ge (tgt := 12) cx dX7_tear_7 (by decide) (fun c7 => absurd c7 (by decide)) (fun c7 => ?_)
    refine jr_iload_n cx dX7_tear_10 0 rfl rfl ?_
    exact jr_ri (by simp only [dTear, ite_self, if_neg hr]) (by simp only [dTear, ite_self, if_neg hr]) (by rfl) (hR 11 _ dX7_tear_11)
def sSumL (f : Nat → Int32) : Nat → Int64
  | 0 => 0
  | n + 1 => sSumL f n + (if f n = -9 then 0 else (f n).toInt64)
def szN (x : Int32) : Nat := x.toNatClampNeg
set_option maxHeartbeats 4000000 in
set_option maxRecDepth 100000 in
theorem c_X6_mean (E : mm_E) (g : mm_I) (h : mm_L) (r : Int32) (hsz : ∀ j, j < 6 → g 9 j = -1 ∨ ∃ n, n ≤ 40 ∧ g 9 j = nI n) : Ci E yX6_mean wsX6_mean 2 43 [.ref (E.1 0), .int r] g h (dMean (fun j => g 9 j = -1) (fun j => sHeld (g (39 + j)) (g 9 j).toNatClampNeg) r (-1) (-3) (-3) (fun _ => 1)) (dMean (fun j => g 9 j = -1) (fun j => sHeld (g (39 + j)) (g 9 j).toNatClampNeg) r g (rfM g 1) (rfM g 4) (fun _ => g)) (dMean (fun j => g 9 j = -1) (fun j => sHeld (g (39 + j)) (g 9 j).toNatClampNeg) r h h h (fun j => upL h 0 8 (sSum (g (39 + j)) 0 (g 9 j).toNatClampNeg / nI (sHeld (g (39 + j)) (g 9 j).toNatClampNeg)).toInt64)) := by
  refine ci_i (bytes := cX6_mean) (maxL := 3) (by decide) rfl (Nat.le_of_ble_eq_true rfl) (fun X cx hR => ?_)
  change Cx E X cX6_mean RX6 wsX6_mean 3 2 43 at cx
  change JJ E X g h 0 [(0, .ref (E.1 0)), (1, .int r)] []
  have hinX6 : ∀ w ∈ u_ws RX6 TX6 9, w ∈ wsX6_mean := by decide +kernel
  have mf_10 : Cond.fieldLink RX6 10 (TX6 0).1 (TX6 0).2.1 (TX6 0).2.2.1 ∈ wsX6_mean := by decide +kernel
  have mf_59 : Cond.fieldLink RX6 59 (TX6 8).1 (TX6 8).2.1 (TX6 8).2.2.1 ∈ wsX6_mean := by decide +kernel
  refine jr_iload_n cx dX6_mean_0 1 rfl rfl ?_
  refine jr_si [.int r] 1 cx dX6_mean_1 (c_X6_isRow E g h r) gX6_mean_X6_isRow rfl (by decide +kernel) ⟨Nat.le_of_ble_eq_true rfl, Nat.le_of_ble_eq_true rfl⟩ rfl rfl (Nat.le_of_ble_eq_true rfl) ?_
  refine jr_bif_ne (tgt := 9) cx dX6_mean_4 (by decide) (fun c4 => ?_) (fun c4 => ?_)
  · obtain ⟨j, hj, rfl⟩ := to_nat (M := 5) rfl c4; have ej : (nI j).toNatClampNeg = j := cl_nI (by omega)
    refine jr_aload_n cx dX6_mean_9 0 rfl rfl ?_
    refine jr_get (f := 0) (v := .ref (E.1 1)) cx dX6_mean_10 (by decide) rfl rfl hinX6 (by decide) mf_10 rfl ?_
    refine jr_iload_n cx dX6_mean_13 1 rfl rfl ?_
    refine jr_vi [.int (nI j)] 1 cx dX6_mean_14 (c_X4_isMissing E g h j (by omega)) (by decide) rfl rfl gX6_mean_X4_isMissing rfl (by decide +kernel) ⟨Nat.le_of_ble_eq_true rfl, Nat.le_of_ble_eq_true rfl⟩ rfl rfl (Nat.le_of_ble_eq_true rfl) ?_
    refine jr_bif_eq (tgt := 26) cx dX6_mean_17 (by decide) (fun c17 => ?_) (fun c17 => ?_)
    · obtain ⟨n, hn, hs⟩ : ∃ n, n ≤ 40 ∧ g 9 j = nI n := (hsz j (by omega)).resolve_left c17
      have en : (g 9 j).toNatClampNeg = n := by rw [hs]; exact cl_nI (by omega)
      have hhl := sHeld_le (g (39 + j)) n
      refine jr_aload_n cx dX6_mean_26 0 rfl rfl ?_
      refine jr_get (f := 0) (v := .ref (E.1 1)) cx dX6_mean_27 (by decide) rfl rfl hinX6 (by decide) mf_10 rfl ?_
      refine jr_iload_n cx dX6_mean_30 1 rfl rfl ?_
      refine jr_vi [.int (nI j)] 1 cx dX6_mean_31 (c_X4_heldCount E g h j (by omega) n hn hs) (by decide) rfl rfl gX6_mean_X4_heldCount rfl (by decide +kernel) ⟨Nat.le_of_ble_eq_true rfl, Nat.le_of_ble_eq_true rfl⟩ rfl rfl (Nat.le_of_ble_eq_true rfl) ?_
      refine jr_istore_n (L' := [(2, .int (nI (sHeld (g (39 + j)) n))), (0, .ref (E.1 0)), (1, .int (nI j))]) cx dX6_mean_34 rfl (by decide) rfl ?_
      refine jr_iload_n cx dX6_mean_35 0 rfl rfl ?_
      refine jr_if_ne (tgt := 45) cx dX6_mean_36 (by decide) (fun c36 => ?_) (fun c36 => ?_)
      · have n36 : ¬ (sHeld (g (39 + j)) n = 0) := fun zz => c36 ((nI_eq (a := sHeld (g (39 + j)) n) (b := 0) (by omega) (by omega)).mpr zz)
        refine jr_aload_n cx dX6_mean_45 1 rfl rfl ?_
        refine jr_aload_n cx dX6_mean_46 1 rfl rfl ?_
        refine jr_get (f := 0) (v := .ref (E.1 1)) cx dX6_mean_47 (by decide) rfl rfl hinX6 (by decide) mf_10 rfl ?_
        refine jr_iload_n cx dX6_mean_50 2 rfl rfl ?_
        refine jr_iconst (v := 0) cx dX6_mean_51 (by decide) ?_
        refine jr_aload_n cx dX6_mean_52 1 rfl rfl ?_
        refine jr_get (f := 0) (v := .ref (E.1 1)) cx dX6_mean_53 (by decide) rfl rfl hinX6 (by decide) mf_10 rfl ?_
        refine jr_iload_n cx dX6_mean_56 2 rfl rfl ?_
        refine jr_vi [.int (nI j)] 1 cx dX6_mean_57 (c_X4_sizeOf E g h j (by omega)) (by decide) rfl rfl gX6_mean_X4_sizeOf rfl (by decide +kernel) ⟨Nat.le_of_ble_eq_true rfl, Nat.le_of_ble_eq_true rfl⟩ rfl rfl (Nat.le_of_ble_eq_true rfl) ?_
        refine jr_top hs ?_
        refine jr_vi [.int (nI j), .int 0, .int (nI n)] 3 cx dX6_mean_60 (c_X4_heldSum E g h j (by omega) 0 n (by omega)) (by decide) rfl rfl gX6_mean_X4_heldSum rfl (by decide +kernel) ⟨Nat.le_of_ble_eq_true rfl, Nat.le_of_ble_eq_true rfl⟩ rfl rfl (Nat.le_of_ble_eq_true rfl) ?_
        refine jr_iload_n cx dX6_mean_63 0 rfl rfl ?_
        refine jr_idiv cx dX6_mean_64 c36 ?_
        refine jr_i2l cx dX6_mean_65 ?_
        refine jr_put_X6_8 cx dX6_mean_66 hinX6 mf_59 ?_
        refine jr_iconst (v := 1) cx dX6_mean_69 (by decide) ?_
        exact jr_ri (by simp only [dMean, ite_self, en, if_neg n36, if_pos c4, if_neg c17, ej]) (by simp only [dMean, ite_self, en, if_neg n36, if_pos c4, if_neg c17, ej]) (by simp only [dMean, ite_self, en, if_neg n36, if_pos c4, if_neg c17, ej]) (hR 70 _ dX6_mean_70)
      · have n36 : sHeld (g (39 + j)) n = 0 := (nI_eq (a := sHeld (g (39 + j)) n) (b := 0) (by omega) (by omega)).mp c36
        refine jr_aload_n cx dX6_mean_39 1 rfl rfl ?_
        refine jr_iconst (v := 4) cx dX6_mean_40 (by decide) ?_
        refine jr_vi [.int 4] 1 cx dX6_mean_41 (c_X6_refuse E g h 4 (by decide) (by decide)) (by decide) rfl rfl gX6_mean_X6_refuse rfl (by decide +kernel) ⟨Nat.le_of_ble_eq_true rfl, Nat.le_of_ble_eq_true rfl⟩ rfl rfl (Nat.le_of_ble_eq_true rfl) ?_
        exact jr_ri (by simp only [dMean, ite_self, en, if_pos n36, if_pos c4, if_neg c17, ej]) (by simp only [dMean, ite_self, en, if_pos n36, if_pos c4, if_neg c17, ej]) (by simp only [dMean, ite_self, en, if_pos n36, if_pos c4, if_neg c17, ej]) (hR 44 _ dX6_mean_44)
    · refine jr_aload_n cx dX6_mean_20 0 rfl rfl ?_
      refine jr_iconst (v := 1) cx dX6_mean_21 (by decide) ?_
      refine jr_vi [.int 1] 1 cx dX6_mean_22 (c_X6_refuse E g h 1 (by decide) (by decide)) (by decide) rfl rfl gX6_mean_X6_refuse rfl (by decide +kernel) ⟨Nat.le_of_ble_eq_true rfl, Nat.le_of_ble_eq_true rfl⟩ rfl rfl (Nat.le_of_ble_eq_true rfl) ?_
      exact jr_ri (by simp only [dMean, ite_self, if_pos c4, if_pos c17, ej]) (by simp only [dMean, ite_self, if_pos c4, if_pos c17, ej]) (by simp only [dMean, ite_self, if_pos c4, if_pos c17, ej]) (hR 25 _ dX6_mean_25)
  · refine jr_iconst (v := (-1)) cx dX6_mean_7 (by decide) ?_
    exact jr_ri (by simp only [dMean, ite_self, if_neg c4]) (by simp only [dMean, ite_self, if_neg c4]) (by simp only [dMean, ite_self, if_neg c4]) (hR 8 _ dX6_mean_8)
set_option maxHeartbeats 4000000 in
set_option maxRecDepth 100000 in
theorem c_X7_mean (E : mm_E) (g : mm_I) (h : mm_L) (r : Int32) (hsz : ∀ j, j < 6 → g 14 j < 0 ∨ ∃ n, n ≤ 40 ∧ g 14 j = nI n) : Ci E yX7_mean wsX7_mean 3 63 [.ref (E.1 7), .int r] g h (dMean (fun j => g 14 j < 0) (fun j => sHeld (fun q => g 15 (40 * j + q)) (g 14 j).toNatClampNeg) r (-1) (-3) (-3) (fun _ => 1)) (dMean (fun j => g 14 j < 0) (fun j => sHeld (fun q => g 15 (40 * j + q)) (g 14 j).toNatClampNeg) r g (mtM g 1) (mtM g 4) (fun _ => g)) (dMean (fun j => g 14 j < 0) (fun j => sHeld (fun q => g 15 (40 * j + q)) (g 14 j).toNatClampNeg) r h h h (fun j => upL h 7 2 (sSumL (fun q => g 15 (40 * j + q)) (g 14 j).toNatClampNeg / (nI (sHeld (fun q => g 15 (40 * j + q)) (g 14 j).toNatClampNeg)).toInt64))) := by
  refine ci_i (bytes := cX7_mean) (maxL := 8) (by decide) rfl (Nat.le_of_ble_eq_true rfl) (fun X cx hR => ?_)
  change Cx E X cX7_mean RX7 wsX7_mean 8 3 63 at cx
  change JJ E X g h 0 [(0, .ref (E.1 7)), (1, .int r)] []
  have hinX7 : ∀ w ∈ u_ws RX7 TX7 30, w ∈ wsX7_mean := by decide +kernel
  have mf_17 : Cond.fieldLink RX7 17 (TX7 5).1 (TX7 5).2.1 (TX7 5).2.2.1 ∈ wsX7_mean := by decide +kernel
  have mf_20 : Cond.fieldLink RX7 20 (TX7 6).1 (TX7 6).2.1 (TX7 6).2.2.1 ∈ wsX7_mean := by decide +kernel
  refine jr_aload_n cx dX7_mean_0 0 rfl rfl ?_
  refine jr_iload_n cx dX7_mean_1 1 rfl rfl ?_
  by_cases hr : ¬ r < 0 ∧ ¬ 5 < r
  · obtain ⟨j, hj, rfl⟩ := to_nat (M := 5) rfl hr; have ej : (nI j).toNatClampNeg = j := cl_nI (by omega)
    by_cases hm : g 14 j < 0
    · refine jr_vi [.int (nI j)] 1 cx dX7_mean_2 (c_X7_looked_ms E g h j (by omega) hr hm) (by decide) rfl rfl gX7_mean_X7_looked rfl (by decide +kernel) ⟨Nat.le_of_ble_eq_true rfl, Nat.le_of_ble_eq_true rfl⟩ rfl rfl (Nat.le_of_ble_eq_true rfl) ?_
      refine jr_istore_n (L' := [(2, .int (-3)), (0, .ref (E.1 7)), (1, .int (nI j))]) cx dX7_mean_5 rfl (by decide) rfl ?_
      refine jr_iload_n cx dX7_mean_6 0 rfl rfl ?_
      refine jr_if_ge (tgt := 12) cx dX7_mean_7 (by decide) (fun c7 => absurd c7 (by decide)) (fun c7 => ?_)
      refine jr_iload_n cx dX7_mean_10 0 rfl rfl ?_
      exact jr_ri (by simp only [dMean, ite_self, if_pos hr, if_pos hm, ej]) (by simp only [dMean, ite_self, if_pos hr, if_pos hm, ej]) (by simp only [dMean, ite_self, if_pos hr, if_pos hm, ej]) (hR 11 _ dX7_mean_11)
    · obtain ⟨n, hn, hs⟩ : ∃ n, n ≤ 40 ∧ g 14 j = nI n := (hsz j (by omega)).resolve_left hm
      have en : (g 14 j).toNatClampNeg = n := by rw [hs]; exact cl_nI (by omega)
      have hhl := sHeld_le (fun q => g 15 (40 * j + q)) n
      refine jr_vi [.int (nI j)] 1 cx dX7_mean_2 (c_X7_looked_ok E g h j (by omega) hr hm) (by decide) rfl rfl gX7_mean_X7_looked rfl (by decide +kernel) ⟨Nat.le_of_ble_eq_true rfl, Nat.le_of_ble_eq_true rfl⟩ rfl rfl (Nat.le_of_ble_eq_true rfl) ?_
      refine jr_istore_n (L' := [(2, .int 0), (0, .ref (E.1 7)), (1, .int (nI j))]) cx dX7_mean_5 rfl (by decide) rfl ?_
      refine jr_iload_n cx dX7_mean_6 0 rfl rfl ?_
      refine jr_if_ge (tgt := 12) cx dX7_mean_7 (by decide) (fun c7 => ?_) (fun c7 => absurd c7 (by decide))
      refine jr_lconst (v := 0) cx dX7_mean_12 (by decide) ?_
      refine jr_lstore_n (L' := [(3, .long 0), (2, .int 0), (0, .ref (E.1 7)), (1, .int (nI j))]) cx dX7_mean_13 rfl (by decide) rfl ?_
      refine jr_iconst (v := 0) cx dX7_mean_14 (by decide) ?_
      refine jr_istore (L' := [(5, .int 0), (3, .long 0), (2, .int 0), (0, .ref (E.1 7)), (1, .int (nI j))]) cx dX7_mean_15 (by decide) rfl ?_
      refine jr_iconst (v := 0) cx dX7_mean_17 (by decide) ?_
      refine jr_istore (L' := [(6, .int 0), (5, .int 0), (3, .long 0), (2, .int 0), (0, .ref (E.1 7)), (1, .int (nI j))]) cx dX7_mean_18 (by decide) rfl ?_
      have key1 : ∀ (fu1 : Nat) (i : Nat), n + 1 ≤ i + fu1 → (i ≤ n) → JJ E X g h 20 [(0, .ref (E.1 7)), (1, .int (nI j)), (3, .long (sSumL (fun q => g 15 (40 * j + q)) i)), (5, .int (nI (sHeld (fun q => g 15 (40 * j + q)) i))), (6, .int (nI i))] [] := by
        intro fu1
        induction fu1 with
        | zero => intro i hfu1 h1; exfalso; omega
        | succ fu1 ih1 =>
          intro i hfu1 h1
          refine jr_iload cx dX7_mean_20 4 rfl ?_
          refine jr_aload_n cx dX7_mean_22 0 rfl rfl ?_
          refine jr_get (f := 5) (v := .ref (E.1 14)) cx dX7_mean_23 (by decide) rfl rfl hinX7 (by decide) mf_17 rfl ?_
          refine jr_iload_n cx dX7_mean_26 1 rfl rfl ?_
          refine jr_iald cx dX7_mean_27 (Or.inl ⟨by decide, by decide⟩) j rfl (show _ < 6 by omega) ?_
          refine jr_top hs ?_
          refine jr_icmp_ge (tgt := 85) cx dX7_mean_28 (by decide) (fun c28 => ?_) (fun c28 => ?_)
          · have n28 : n ≤ i := (nI_leI (a := n) (b := i) (by omega) (by omega)).mp c28
            have hin : i = n := by omega
            subst hin
            refine jr_iload cx dX7_mean_85 3 rfl ?_
            refine jr_if_ne (tgt := 98) cx dX7_mean_87 (by decide) (fun c87 => ?_) (fun c87 => ?_)
            · have n87 : ¬ (sHeld (fun q => g 15 (40 * j + q)) i = 0) := fun zz => c87 ((nI_eq (a := sHeld (fun q => g 15 (40 * j + q)) i) (b := 0) (by omega) (by omega)).mpr zz)
              refine jr_aload_n cx dX7_mean_98 0 rfl rfl ?_
              refine jr_lload_n cx dX7_mean_99 2 rfl rfl ?_
              refine jr_iload cx dX7_mean_100 3 rfl ?_
              refine jr_i2l cx dX7_mean_102 ?_
              refine jr_ldiv cx dX7_mean_103 (fun q => c87 (by have := (fa_wide_eq _ 0).mp q; exact this)) ?_
              refine jr_iconst (v := 1) cx dX7_mean_104 (by decide) ?_
              refine jr_vi [.long ((sSumL (fun q => g 15 (40 * j + q)) i) / (Int32.toInt64 (nI (sHeld (fun q => g 15 (40 * j + q)) i)))), .int 1] 2 cx dX7_mean_105 (c_X7_ask E g h ((sSumL (fun q => g 15 (40 * j + q)) i) / (Int32.toInt64 (nI (sHeld (fun q => g 15 (40 * j + q)) i)))) 1) (by decide) rfl rfl gX7_mean_X7_ask rfl (by decide +kernel) ⟨Nat.le_of_ble_eq_true rfl, Nat.le_of_ble_eq_true rfl⟩ rfl rfl (Nat.le_of_ble_eq_true rfl) ?_
              exact jr_ri (by simp only [dMean, ite_self, en, if_pos hr, if_neg hm, ej]; rw [if_neg (by omega)]) (by simp only [dMean, ite_self, en, if_pos hr, if_neg hm, ej]; rw [if_neg (by omega)]) (by simp only [dMean, ite_self, en, if_pos hr, if_neg hm, ej]; rw [if_neg (by omega)]) (hR 108 _ dX7_mean_108)
            · have n87 : sHeld (fun q => g 15 (40 * j + q)) i = 0 := (nI_eq (a := sHeld (fun q => g 15 (40 * j + q)) i) (b := 0) (by omega) (by omega)).mp c87
              refine jr_aload_n cx dX7_mean_90 0 rfl rfl ?_
              refine jr_iconst (v := 4) cx dX7_mean_91 (by decide) ?_
              refine jr_vi [.int 4] 1 cx dX7_mean_92 (c_X7_meets E g h 4 (by decide)) (by decide) rfl rfl gX7_mean_X7_meets rfl (by decide +kernel) ⟨Nat.le_of_ble_eq_true rfl, Nat.le_of_ble_eq_true rfl⟩ rfl rfl (Nat.le_of_ble_eq_true rfl) ?_
              refine jr_goto (tgt := 108) cx dX7_mean_95 (by decide) ?_
              exact jr_ri (by simp only [dMean, ite_self, en, if_pos hr, if_neg hm, ej]; rw [if_pos (by omega)]) (by simp only [dMean, ite_self, en, if_pos hr, if_neg hm, ej]; rw [if_pos (by omega)]) (by simp only [dMean, ite_self, en, if_pos hr, if_neg hm, ej]; rw [if_pos (by omega)]) (hR 108 _ dX7_mean_108)
          · have n28 : ¬ (n ≤ i) := fun zz => c28 ((nI_leI (a := n) (b := i) (by omega) (by omega)).mpr zz)
            refine jr_aload_n cx dX7_mean_31 0 rfl rfl ?_
            refine jr_get (f := 6) (v := .ref (E.1 15)) cx dX7_mean_32 (by decide) rfl rfl hinX7 (by decide) mf_20 rfl ?_
            refine jr_bipush (v := 40) cx dX7_mean_35 (by decide) ?_
            refine jr_iload_n cx dX7_mean_37 1 rfl rfl ?_
            refine jr_imul cx dX7_mean_38 ?_
            refine jr_top (show (40 : Int32) * (nI j) = nI (40 * j) from pk_mul 40 j) ?_
            refine jr_iload cx dX7_mean_39 4 rfl ?_
            refine jr_iadd cx dX7_mean_41 ?_
            refine jr_top (show (nI (40 * j) : Int32) + (nI i) = nI ((40 * j) + i) from nI_add (40 * j) i) ?_
            refine jr_iald cx dX7_mean_42 (Or.inl ⟨by decide, by decide⟩) ((40 * j) + i) rfl (show _ < 240 by omega) ?_
            refine jr_istore (L' := [(7, .int (g 15 ((40 * j) + i))), (0, .ref (E.1 7)), (1, .int (nI j)), (3, .long (sSumL (fun q => g 15 (40 * j + q)) i)), (5, .int (nI (sHeld (fun q => g 15 (40 * j + q)) i))), (6, .int (nI i))]) cx dX7_mean_43 (by decide) rfl ?_
            refine jr_lload_n cx dX7_mean_45 3 rfl rfl ?_
            refine jr_iload cx dX7_mean_46 0 rfl ?_
            refine jr_bipush (v := (-9)) cx dX7_mean_48 (by decide) ?_
            refine jr_icmp_ne (tgt := 57) cx dX7_mean_50 (by decide) (fun c50 => ?_) (fun c50 => ?_)
            · refine jr_iload cx dX7_mean_57 0 rfl ?_
              refine jr_i2l cx dX7_mean_59 ?_
              refine jr_ladd cx dX7_mean_60 ?_
              refine jr_lstore_n (L' := [(3, .long ((sSumL (fun q => g 15 (40 * j + q)) i) + (Int32.toInt64 (g 15 ((40 * j) + i))))), (7, .int (g 15 ((40 * j) + i))), (0, .ref (E.1 7)), (1, .int (nI j)), (5, .int (nI (sHeld (fun q => g 15 (40 * j + q)) i))), (6, .int (nI i))]) cx dX7_mean_61 rfl (by decide) rfl ?_
              refine jr_iload cx dX7_mean_62 4 rfl ?_
              refine jr_iload cx dX7_mean_64 1 rfl ?_
              refine jr_bipush (v := (-9)) cx dX7_mean_66 (by decide) ?_
              refine jr_icmp_ne (tgt := 75) cx dX7_mean_68 (by decide) (fun c68 => ?_) (fun c68 => ?_)
              · refine jr_iconst (v := 1) cx dX7_mean_75 (by decide) ?_
                refine jr_iadd cx dX7_mean_76 ?_
                refine jr_top (show (nI (sHeld (fun q => g 15 (40 * j + q)) i) : Int32) + 1 = nI ((sHeld (fun q => g 15 (40 * j + q)) i) + 1) from nI_add (sHeld (fun q => g 15 (40 * j + q)) i) 1) ?_
                refine jr_istore (L' := [(5, .int (nI ((sHeld (fun q => g 15 (40 * j + q)) i) + 1))), (3, .long ((sSumL (fun q => g 15 (40 * j + q)) i) + (Int32.toInt64 (g 15 ((40 * j) + i))))), (7, .int (g 15 ((40 * j) + i))), (0, .ref (E.1 7)), (1, .int (nI j)), (6, .int (nI i))]) cx dX7_mean_77 (by decide) rfl ?_
                refine jr_iinc (n := 5) (v := nI (i + 1)) (L' := [(6, .int (nI (i + 1))), (5, .int (nI ((sHeld (fun q => g 15 (40 * j + q)) i) + 1))), (3, .long ((sSumL (fun q => g 15 (40 * j + q)) i) + (Int32.toInt64 (g 15 ((40 * j) + i))))), (7, .int (g 15 ((40 * j) + i))), (0, .ref (E.1 7)), (1, .int (nI j))]) cx dX7_mean_79 rfl (nI_1 _) (by decide) rfl ?_
                refine jr_goto (tgt := 20) cx dX7_mean_82 (by decide) ?_
                refine jr_pick (L' := [(0, .ref (E.1 7)), (1, .int (nI j)), (3, .long ((sSumL (fun q => g 15 (40 * j + q)) i) + (Int32.toInt64 (g 15 ((40 * j) + i))))), (5, .int (nI ((sHeld (fun q => g 15 (40 * j + q)) i) + 1))), (6, .int (nI (i + 1)))]) [4, 5, 2, 1, 0] rfl ?_
                have e3 : ((sSumL (fun q => g 15 (40 * j + q)) i) + (Int32.toInt64 (g 15 ((40 * j) + i))) : Int64) = (sSumL (fun q => g 15 (40 * j + q)) (i + 1)) := by simp [sSumL, hr, hm, c28, n28, c50, c68]
                have e5 : (nI ((sHeld (fun q => g 15 (40 * j + q)) i) + 1) : Int32) = (nI (sHeld (fun q => g 15 (40 * j + q)) (i + 1))) := by simp [sHeld, hr, hm, c28, n28, c50, c68]
                refine jr_loc (lc_n (lc_n (lc_l e3 (lc_i e5 (lc_n rfl))))) ?_
                exact ih1 (i + 1) (by omega) (by omega)
              · exact absurd c68 c50
            · refine jr_lconst (v := 0) cx dX7_mean_53 (by decide) ?_
              refine jr_goto (tgt := 60) cx dX7_mean_54 (by decide) ?_
              refine jr_ladd cx dX7_mean_60 ?_
              refine jr_lstore_n (L' := [(3, .long ((sSumL (fun q => g 15 (40 * j + q)) i) + 0)), (7, .int (g 15 ((40 * j) + i))), (0, .ref (E.1 7)), (1, .int (nI j)), (5, .int (nI (sHeld (fun q => g 15 (40 * j + q)) i))), (6, .int (nI i))]) cx dX7_mean_61 rfl (by decide) rfl ?_
              refine jr_iload cx dX7_mean_62 4 rfl ?_
              refine jr_iload cx dX7_mean_64 1 rfl ?_
              refine jr_bipush (v := (-9)) cx dX7_mean_66 (by decide) ?_
              refine jr_icmp_ne (tgt := 75) cx dX7_mean_68 (by decide) (fun c68 => ?_) (fun c68 => ?_)
              · exact absurd c50 c68
              · refine jr_iconst (v := 0) cx dX7_mean_71 (by decide) ?_
                refine jr_goto (tgt := 76) cx dX7_mean_72 (by decide) ?_
                refine jr_iadd cx dX7_mean_76 ?_
                refine jr_top (show (nI (sHeld (fun q => g 15 (40 * j + q)) i) : Int32) + 0 = nI ((sHeld (fun q => g 15 (40 * j + q)) i) + 0) from nI_add (sHeld (fun q => g 15 (40 * j + q)) i) 0) ?_
                refine jr_istore (L' := [(5, .int (nI ((sHeld (fun q => g 15 (40 * j + q)) i) + 0))), (3, .long ((sSumL (fun q => g 15 (40 * j + q)) i) + 0)), (7, .int (g 15 ((40 * j) + i))), (0, .ref (E.1 7)), (1, .int (nI j)), (6, .int (nI i))]) cx dX7_mean_77 (by decide) rfl ?_
                refine jr_iinc (n := 5) (v := nI (i + 1)) (L' := [(6, .int (nI (i + 1))), (5, .int (nI ((sHeld (fun q => g 15 (40 * j + q)) i) + 0))), (3, .long ((sSumL (fun q => g 15 (40 * j + q)) i) + 0)), (7, .int (g 15 ((40 * j) + i))), (0, .ref (E.1 7)), (1, .int (nI j))]) cx dX7_mean_79 rfl (nI_1 _) (by decide) rfl ?_
                refine jr_goto (tgt := 20) cx dX7_mean_82 (by decide) ?_
                refine jr_pick (L' := [(0, .ref (E.1 7)), (1, .int (nI j)), (3, .long ((sSumL (fun q => g 15 (40 * j + q)) i) + 0)), (5, .int (nI ((sHeld (fun q => g 15 (40 * j + q)) i) + 0))), (6, .int (nI (i + 1)))]) [4, 5, 2, 1, 0] rfl ?_
                have e3 : ((sSumL (fun q => g 15 (40 * j + q)) i) + 0 : Int64) = (sSumL (fun q => g 15 (40 * j + q)) (i + 1)) := by simp [sSumL, hr, hm, c28, n28, c50, c68]
                have e5 : (nI ((sHeld (fun q => g 15 (40 * j + q)) i) + 0) : Int32) = (nI (sHeld (fun q => g 15 (40 * j + q)) (i + 1))) := by simp [sHeld, hr, hm, c28, n28, c50, c68]
                refine jr_loc (lc_n (lc_n (lc_l e3 (lc_i e5 (lc_n rfl))))) ?_
                exact ih1 (i + 1) (by omega) (by omega)
      refine jr_pick (L' := [(0, .ref (E.1 7)), (1, .int (nI j)), (3, .long 0), (5, .int 0), (6, .int 0)]) [4, 5, 2, 1, 0] rfl ?_
      have e3 : (0 : Int64) = (sSumL (fun q => g 15 (40 * j + q)) 0) := by rfl
      have e5 : (0 : Int32) = (nI (sHeld (fun q => g 15 (40 * j + q)) 0)) := by rfl
      have e6 : (0 : Int32) = (nI 0) := by rfl
      refine jr_loc (lc_n (lc_n (lc_l e3 (lc_i e5 (lc_i e6 rfl))))) ?_
      exact key1 (n + 1) 0 (by omega) (by omega)
  · refine jr_vi [.int r] 1 cx dX7_mean_2 (c_X7_looked_bad E g h r hr) (by decide) rfl rfl gX7_mean_X7_looked rfl (by decide +kernel) ⟨Nat.le_of_ble_eq_true rfl, Nat.le_of_ble_eq_true rfl⟩ rfl rfl (Nat.le_of_ble_eq_true rfl) ?_
    refine jr_istore_n (L' := [(2, .int (-1)), (0, .ref (E.1 7)), (1, .int r)]) cx dX7_mean_5 rfl (by decide) rfl ?_
    refine jr_iload_n cx dX7_mean_6 0 rfl rfl ?_
    refine jr_if_ge (tgt := 12) cx dX7_mean_7 (by decide) (fun c7 => absurd c7 (by decide)) (fun c7 => ?_)
    refine jr_iload_n cx dX7_mean_10 0 rfl rfl ?_
    exact jr_ri (by simp only [dMean, ite_self, if_neg hr]) (by simp only [dMean, ite_self, if_neg hr]) (by simp only [dMean, ite_self, if_neg hr]) (hR 11 _ dX7_mean_11)
