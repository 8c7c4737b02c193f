theorem chP_low {r : Nat → Int32} {n d : Nat} (hn : n ≤ 40) (hd : d < n) (hri : ∀ c, c < n → r c = -9 ∨ ∃ d, d < c ∧ r c = nI d) : ∀ (k : Nat) (x : Int32), (x = -9 ∨ ∃ e, e < d ∧ e < n ∧ x = nI e) → chP r n (fun q => decide (nI q = nI d)) k x = false := by
  intro k
  induction k with
  | zero => intro x _; rfl
  | succ k ih =>
    intro x hx
    rcases hx with rfl | ⟨e, he, hen, rfl⟩
    · exact chP_n ch_m9
    · rw [chP_y (by omega) ((has_iff (by omega) (by omega)).mpr hen), if_neg (by simp only [decide_eq_true_eq]; rw [nI_eq (by omega) (by omega)]; omega)]
      apply ih
      rcases hri e hen with h | ⟨f, hf, h⟩
      · exact Or.inl h
      · exact Or.inr ⟨f, by omega, by omega, h⟩
set_option maxHeartbeats 4000000 in
set_option maxRecDepth 100000 in
theorem c_X7_resting (E : mm_E) (g : mm_I) (h : mm_L) (c : Int32) (n : Nat) (hn : n ≤ 40) (hs : g 7 16 = nI n) (hri : ∀ c, c < n → g 28 c = -9 ∨ ∃ d, d < c ∧ g 28 c = nI d) : Ci E yX7_resting wsX7_resting 2 43 [.ref (E.1 7), .int c] g h (dHas n c (-1) (fun d => nI (sCb (fun q => chP (g 28) n (fun q => decide (nI q = nI d)) 40 (g 28 q)) 0 n))) g h := by
  refine ci_i (bytes := cX7_resting) (maxL := 5) (by decide) rfl (Nat.le_of_ble_eq_true rfl) (fun X cx hR => ?_)
  change Cx E X cX7_resting RX7 wsX7_resting 5 2 43 at cx
  change JJ E X g h 0 [(0, .ref (E.1 7)), (1, .int c)] []
  have hinX7 : ∀ w ∈ u_ws RX7 TX7 30, w ∈ wsX7_resting := by decide +kernel
  have mf_147 : Cond.fieldLink RX7 147 (TX7 16).1 (TX7 16).2.1 (TX7 16).2.2.1 ∈ wsX7_resting := by decide +kernel
  have mf_59 : Cond.fieldLink RX7 59 (TX7 23).1 (TX7 23).2.1 (TX7 23).2.2.1 ∈ wsX7_resting := by decide +kernel
  refine jr_aload_n cx dX7_resting_0 0 rfl rfl ?_
  refine jr_iload_n cx dX7_resting_1 1 rfl rfl ?_
  refine jr_vi [.int c] 1 cx dX7_resting_2 (c_X7_isCertificate E g h c n hn hs) (by decide) rfl rfl gX7_resting_X7_isCertificate rfl (by decide +kernel) ⟨Nat.le_of_ble_eq_true rfl, Nat.le_of_ble_eq_true rfl⟩ rfl rfl (Nat.le_of_ble_eq_true rfl) ?_
  refine jr_bif_ne (tgt := 10) cx dX7_resting_5 (by decide) (fun c5 => ?_) (fun c5 => ?_)
  · obtain ⟨d, hd, rfl⟩ := has_nat (by omega) c5; have ed : (nI d).toNatClampNeg = d := cl_nI (by omega)
    refine jr_iconst (v := 0) cx dX7_resting_10 (by decide) ?_
    refine jr_istore_n (L' := [(2, .int 0), (0, .ref (E.1 7)), (1, .int (nI d))]) cx dX7_resting_11 rfl (by decide) rfl ?_
    refine jr_iconst (v := 0) cx dX7_resting_12 (by decide) ?_
    refine jr_istore_n (L' := [(3, .int 0), (2, .int 0), (0, .ref (E.1 7)), (1, .int (nI d))]) cx dX7_resting_13 rfl (by decide) rfl ?_
    have key1 : ∀ (fu1 : Nat) (i : Nat), n + 1 ≤ i + fu1 → (i ≤ n) → JJ E X g h 14 [(0, .ref (E.1 7)), (1, .int (nI d)), (2, .int (nI (sCb (fun q => chP (g 28) n (fun q => decide (nI q = nI d)) 40 (g 28 q)) 0 i))), (3, .int (nI i))] [] := by
      intro fu1
      induction fu1 with
      | zero => intro i hfu1 h1; exfalso; omega
      | succ fu1 ih1 =>
        intro i hfu1 h1
        refine jr_iload_n cx dX7_resting_14 3 rfl rfl ?_
        refine jr_aload_n cx dX7_resting_15 0 rfl rfl ?_
        refine jr_get (f := 16) (v := .int (g 7 16)) cx dX7_resting_16 (by decide) rfl rfl hinX7 (by decide) mf_147 rfl ?_
        refine jr_top hs ?_
        refine jr_icmp_ge (tgt := 68) cx dX7_resting_19 (by decide) (fun c19 => ?_) (fun c19 => ?_)
        · have n19 : n ≤ i := (nI_leI (a := n) (b := i) (by omega) (by omega)).mp c19
          refine jr_iload_n cx dX7_resting_68 2 rfl rfl ?_
          exact jr_ri (by simp only [dHas, ite_self, if_pos c5, ed]; rw [show i = n by omega]) (by rfl) (by rfl) (hR 69 _ dX7_resting_69)
        · have n19 : ¬ (n ≤ i) := fun qq9 => c19 ((nI_leI (a := n) (b := i) (by omega) (by omega)).mpr qq9)
          refine jr_aload_n cx dX7_resting_22 0 rfl rfl ?_
          refine jr_get (f := 23) (v := .ref (E.1 28)) cx dX7_resting_23 (by decide) rfl rfl hinX7 (by decide) mf_59 rfl ?_
          refine jr_iload_n cx dX7_resting_26 3 rfl rfl ?_
          refine jr_iald cx dX7_resting_27 (Or.inl ⟨by decide, by decide⟩) i rfl (show _ < 40 by omega) ?_
          refine jr_istore (L' := [(4, .int (g 28 i)), (0, .ref (E.1 7)), (1, .int (nI d)), (2, .int (nI (sCb (fun q => chP (g 28) n (fun q => decide (nI q = nI d)) 40 (g 28 q)) 0 i))), (3, .int (nI i))]) cx dX7_resting_28 (by decide) rfl ?_
          have key2 : ∀ (fu2 : Nat) (k : Nat) (x : Int32), k + 1 ≤ fu2 → (k ≤ 40) → (x = -9 ∨ ∃ e, e < k ∧ e < n ∧ x = nI e) → (chP (g 28) n (fun q => decide (nI q = nI d)) k x = chP (g 28) n (fun q => decide (nI q = nI d)) 40 (g 28 i)) → JJ E X g h 30 [(0, .ref (E.1 7)), (1, .int (nI d)), (2, .int (nI (sCb (fun q => chP (g 28) n (fun q => decide (nI q = nI d)) 40 (g 28 q)) 0 i))), (3, .int (nI i)), (4, .int x)] [] := by
            intro fu2
            induction fu2 with
            | zero => intro k x hfu2 hk h2 h3; exfalso; omega
            | succ fu2 ih2 =>
              intro k x hfu2 hk h2 h3
              refine jr_iload cx dX7_resting_30 4 rfl ?_
              refine jr_iload_n cx dX7_resting_32 1 rfl rfl ?_
              refine jr_icmp_le (tgt := 48) cx dX7_resting_33 (by decide) (fun c33 => ?_) (fun c33 => ?_)
              · refine jr_iload_n cx dX7_resting_48 2 rfl rfl ?_
                refine jr_iload cx dX7_resting_49 4 rfl ?_
                refine jr_iload_n cx dX7_resting_51 1 rfl rfl ?_
                refine jr_icmp_ne (tgt := 59) cx dX7_resting_52 (by decide) (fun c52 => ?_) (fun c52 => ?_)
                · refine jr_iconst (v := 0) cx dX7_resting_59 (by decide) ?_
                  refine jr_iadd cx dX7_resting_60 ?_
                  refine jr_top (show (nI (sCb (fun q => chP (g 28) n (fun q => decide (nI q = nI d)) 40 (g 28 q)) 0 i) : Int32) + 0 = nI ((sCb (fun q => chP (g 28) n (fun q => decide (nI q = nI d)) 40 (g 28 q)) 0 i) + 0) from nI_add (sCb (fun q => chP (g 28) n (fun q => decide (nI q = nI d)) 40 (g 28 q)) 0 i) 0) ?_
                  refine jr_istore_n (L' := [(2, .int (nI ((sCb (fun q => chP (g 28) n (fun q => decide (nI q = nI d)) 40 (g 28 q)) 0 i) + 0))), (0, .ref (E.1 7)), (1, .int (nI d)), (3, .int (nI i)), (4, .int x)]) cx dX7_resting_61 rfl (by decide) rfl ?_
                  refine jr_iinc (n := 3) (v := nI (i + 1)) (L' := [(3, .int (nI (i + 1))), (2, .int (nI ((sCb (fun q => chP (g 28) n (fun q => decide (nI q = nI d)) 40 (g 28 q)) 0 i) + 0))), (0, .ref (E.1 7)), (1, .int (nI d)), (4, .int x)]) cx dX7_resting_62 rfl (nI_1 _) (by decide) rfl ?_
                  refine jr_goto (tgt := 14) cx dX7_resting_65 (by decide) ?_
                  refine jr_pick (L' := [(0, .ref (E.1 7)), (1, .int (nI d)), (2, .int (nI ((sCb (fun q => chP (g 28) n (fun q => decide (nI q = nI d)) 40 (g 28 q)) 0 i) + 0))), (3, .int (nI (i + 1)))]) [2, 3, 1, 0] rfl ?_
                  have e2 : (nI ((sCb (fun q => chP (g 28) n (fun q => decide (nI q = nI d)) 40 (g 28 q)) 0 i) + 0) : Int32) = (nI (sCb (fun q => chP (g 28) n (fun q => decide (nI q = nI d)) 40 (g 28 q)) 0 (i + 1))) := by rw [sCb, Nat.zero_add, if_neg (show ¬ chP (g 28) n (fun q => decide (nI q = nI d)) 40 (g 28 i) = true by rw [← h3]; rw [chP_low hn hd hri k x (by rcases h2 with q | ⟨e, h5, h6, q⟩; exact Or.inl q; exact Or.inr ⟨e, by rcases Nat.lt_or_ge e d with z | z; exact z; exact absurd (by rw [q, show e = d by rw [q, nI_leI (by omega) (by omega)] at c33; omega]) c52, h6, q⟩)]; exact Bool.false_ne_true)]; try rfl
                  refine jr_loc (lc_n (lc_n (lc_i e2 (lc_n rfl)))) ?_
                  exact ih1 (i + 1) (by omega) (by omega)
                · refine jr_iconst (v := 1) cx dX7_resting_55 (by decide) ?_
                  refine jr_goto (tgt := 60) cx dX7_resting_56 (by decide) ?_
                  refine jr_iadd cx dX7_resting_60 ?_
                  refine jr_top (show (nI (sCb (fun q => chP (g 28) n (fun q => decide (nI q = nI d)) 40 (g 28 q)) 0 i) : Int32) + 1 = nI ((sCb (fun q => chP (g 28) n (fun q => decide (nI q = nI d)) 40 (g 28 q)) 0 i) + 1) from nI_add (sCb (fun q => chP (g 28) n (fun q => decide (nI q = nI d)) 40 (g 28 q)) 0 i) 1) ?_
                  refine jr_istore_n (L' := [(2, .int (nI ((sCb (fun q => chP (g 28) n (fun q => decide (nI q = nI d)) 40 (g 28 q)) 0 i) + 1))), (0, .ref (E.1 7)), (1, .int (nI d)), (3, .int (nI i)), (4, .int x)]) cx dX7_resting_61 rfl (by decide) rfl ?_
                  refine jr_iinc (n := 3) (v := nI (i + 1)) (L' := [(3, .int (nI (i + 1))), (2, .int (nI ((sCb (fun q => chP (g 28) n (fun q => decide (nI q = nI d)) 40 (g 28 q)) 0 i) + 1))), (0, .ref (E.1 7)), (1, .int (nI d)), (4, .int x)]) cx dX7_resting_62 rfl (nI_1 _) (by decide) rfl ?_
                  refine jr_goto (tgt := 14) cx dX7_resting_65 (by decide) ?_
                  refine jr_pick (L' := [(0, .ref (E.1 7)), (1, .int (nI d)), (2, .int (nI ((sCb (fun q => chP (g 28) n (fun q => decide (nI q = nI d)) 40 (g 28 q)) 0 i) + 1))), (3, .int (nI (i + 1)))]) [2, 3, 1, 0] rfl ?_
                  have e2 : (nI ((sCb (fun q => chP (g 28) n (fun q => decide (nI q = nI d)) 40 (g 28 q)) 0 i) + 1) : Int32) = (nI (sCb (fun q => chP (g 28) n (fun q => decide (nI q = nI d)) 40 (g 28 q)) 0 (i + 1))) := by rw [sCb, Nat.zero_add, if_pos (show chP (g 28) n (fun q => decide (nI q = nI d)) 40 (g 28 i) = true by rw [← h3, c52]; obtain ⟨k2, rfl⟩ : ∃ k2, k = k2 + 1 := ⟨k - 1, by rcases h2 with q | ⟨e, h5, h6, q⟩; rw [c52] at q; exact absurd (show nI d < 0 by rw [q]; decide) (nI_pos (by omega)); omega⟩; rw [chP_y (by omega) ((has_iff (by omega) (by omega)).mpr hd), if_pos (by simp)])]
                  refine jr_loc (lc_n (lc_n (lc_i e2 (lc_n rfl)))) ?_
                  exact ih1 (i + 1) (by omega) (by omega)
              · obtain ⟨e, hek, hen, rfl⟩ : ∃ e, e < k ∧ e < n ∧ x = nI e := h2.elim (fun q => absurd (by rw [q]; exact Int32.le_trans (by decide) (nI_pos' (by omega))) c33) id
                have hde : d < e := by rcases Nat.lt_or_ge d e with q | q; exact q; exact absurd (nI_le q (by omega)) c33
                refine jr_aload_n cx dX7_resting_36 0 rfl rfl ?_
                refine jr_get (f := 23) (v := .ref (E.1 28)) cx dX7_resting_37 (by decide) rfl rfl hinX7 (by decide) mf_59 rfl ?_
                refine jr_iload cx dX7_resting_40 4 rfl ?_
                refine jr_iald cx dX7_resting_42 (Or.inl ⟨by decide, by decide⟩) e rfl (show _ < 40 by omega) ?_
                refine jr_istore (L' := [(4, .int (g 28 e)), (0, .ref (E.1 7)), (1, .int (nI d)), (2, .int (nI (sCb (fun q => chP (g 28) n (fun q => decide (nI q = nI d)) 40 (g 28 q)) 0 i))), (3, .int (nI i))]) cx dX7_resting_43 (by decide) rfl ?_
                refine jr_goto (tgt := 30) cx dX7_resting_45 (by decide) ?_
                refine jr_pick (L' := [(0, .ref (E.1 7)), (1, .int (nI d)), (2, .int (nI (sCb (fun q => chP (g 28) n (fun q => decide (nI q = nI d)) 40 (g 28 q)) 0 i))), (3, .int (nI i)), (4, .int (g 28 e))]) [1, 2, 3, 4, 0] rfl ?_
                have e4 : (g 28 e : Int32) = (g 28 e) := by rfl
                refine jr_loc (lc_n (lc_n (lc_n (lc_n (lc_i e4 rfl))))) ?_
                exact ih2 (k - 1) (g 28 e) (by omega) (by omega) (ch_next hri hen hek) (by rw [← h3]; obtain ⟨k2, rfl⟩ : ∃ k2, k = k2 + 1 := ⟨k - 1, by omega⟩; rw [chP_y (by omega) ((has_iff (by omega) (by omega)).mpr hen), if_neg (by simp only [decide_eq_true_eq]; rw [nI_eq (by omega) (by omega)]; omega), Nat.add_sub_cancel])
          refine jr_pick (L' := [(0, .ref (E.1 7)), (1, .int (nI d)), (2, .int (nI (sCb (fun q => chP (g 28) n (fun q => decide (nI q = nI d)) 40 (g 28 q)) 0 i))), (3, .int (nI i)), (4, .int (g 28 i))]) [1, 2, 3, 4, 0] rfl ?_
          have e4 : (g 28 i : Int32) = (g 28 i) := by rfl
          refine jr_loc (lc_n (lc_n (lc_n (lc_n (lc_i e4 rfl))))) ?_
          exact key2 (41) 40 (g 28 i) (by omega) (by omega) ((hri i (by omega)).elim Or.inl (fun ⟨e, h5, h6⟩ => Or.inr ⟨e, by omega, by omega, h6⟩)) rfl
    refine jr_pick (L' := [(0, .ref (E.1 7)), (1, .int (nI d)), (2, .int 0), (3, .int 0)]) [2, 3, 1, 0] rfl ?_
    have e2 : (0 : Int32) = (nI (sCb (fun q => chP (g 28) n (fun q => decide (nI q = nI d)) 40 (g 28 q)) 0 0)) := by rfl
    have e3 : (0 : Int32) = (nI 0) := by rfl
    refine jr_loc (lc_n (lc_n (lc_i e2 (lc_i e3 rfl)))) ?_
    exact key1 (n + 1) 0 (by omega) (by omega)
  · refine jr_iconst (v := (-1)) cx dX7_resting_8 (by decide) ?_
    exact jr_ri (by simp only [dHas, ite_self, if_neg c5]) (by rfl) (by rfl) (hR 9 _ dX7_resting_9)
def dCnt (q x0 x1 x2 x3 x4 : Int32) : Int32 := if q = 0 then x0 else if q = 1 then x1 else if q = 2 then x2 else if q = 3 then x3 else if q = 4 then x4 else -1
def dTc (q x0 x1 x2 x3 x4 : Int32) : Int32 := if q = 0 then x0 else if q = 1 then x1 else if q = 4 then x4 else if q = 2 then x2 else if q = 3 then x3 else 0
def sPrM (f : Nat → Int32) : Nat → Nat
  | 0 => 0
  | n + 1 => if f n < 0 then sPrM f n else sPrM f n + 1
theorem sPrM_le (f : Nat → Int32) : ∀ n, sPrM f n ≤ n
  | 0 => Nat.le_refl 0
  | n + 1 => by have := sPrM_le f n; unfold sPrM; split <;> omega
abbrev pV (g : mm_I) : Nat → Prop := fun c => ¬ g 31 c = 0
set_option maxHeartbeats 4000000 in
set_option maxRecDepth 100000 in
theorem c_X6_count (E : mm_E) (g : mm_I) (h : mm_L) (q : Int32) (n : Nat) (hn : n ≤ 40) (hs : g 4 1 = nI n) : Ci E yX6_count wsX6_count 1 25 [.ref (E.1 0), .int q] g h (dCnt q (nI (sPres (g 9) 6)) (sSi (g 10) 4) (g 3 2) (g 4 1) (nI (sCn (pCO g 5 1 0) n))) g h := by
  refine ci_i (bytes := cX6_count) (maxL := 2) (by decide) rfl (Nat.le_of_ble_eq_true rfl) (fun X cx hR => ?_)
  change Cx E X cX6_count RX6 wsX6_count 2 1 25 at cx
  change JJ E X g h 0 [(0, .ref (E.1 0)), (1, .int q)] []
  have hinX6 : ∀ w ∈ u_ws RX6 TX6 9, w ∈ wsX6_count := by decide +kernel
  have mf_10 : Cond.fieldLink RX6 10 (TX6 0).1 (TX6 0).2.1 (TX6 0).2.2.1 ∈ wsX6_count := by decide +kernel
  have mf_19 : Cond.fieldLink RX6 19 (TX6 1).1 (TX6 1).2.1 (TX6 1).2.2.1 ∈ wsX6_count := by decide +kernel
  have mf_26 : Cond.fieldLink RX6 26 (TX6 2).1 (TX6 2).2.1 (TX6 2).2.2.1 ∈ wsX6_count := by decide +kernel
  have mf_33 : Cond.fieldLink RX6 33 (TX6 3).1 (TX6 3).2.1 (TX6 3).2.2.1 ∈ wsX6_count := by decide +kernel
  refine jr_iload_n cx dX6_count_0 1 rfl rfl ?_
  by_cases t1_0 : q = 0
  · refine jr_tableIn (off := 35) (tgt := 36) cx dX6_count_1 (by rw [t1_0]; decide) (by rw [t1_0]; decide) (by rw [t1_0]; rfl) (by decide) ?_
    refine jr_aload_n cx dX6_count_36 0 rfl rfl ?_
    refine jr_get (f := 0) (v := .ref (E.1 1)) cx dX6_count_37 (by decide) rfl rfl hinX6 (by decide) mf_10 rfl ?_
    refine jr_vi [] 0 cx dX6_count_40 (c_X4_presentCount E g h ) (by decide) rfl rfl gX6_count_X4_presentCount rfl (by decide +kernel) ⟨Nat.le_of_ble_eq_true rfl, Nat.le_of_ble_eq_true rfl⟩ rfl rfl (Nat.le_of_ble_eq_true rfl) ?_
    exact jr_ri (by simp only [dCnt, ite_self, if_pos t1_0]) (by rfl) (by rfl) (hR 43 _ dX6_count_43)
  · by_cases t1_1 : q = 1
    · refine jr_tableIn (off := 43) (tgt := 44) cx dX6_count_1 (by rw [t1_1]; decide) (by rw [t1_1]; decide) (by rw [t1_1]; rfl) (by decide) ?_
      refine jr_aload_n cx dX6_count_44 0 rfl rfl ?_
      refine jr_get (f := 1) (v := .ref (E.1 2)) cx dX6_count_45 (by decide) rfl rfl hinX6 (by decide) mf_19 rfl ?_
      refine jr_vi [] 0 cx dX6_count_48 (c_X5_pointCount E g h ) (by decide) rfl rfl gX6_count_X5_pointCount rfl (by decide +kernel) ⟨Nat.le_of_ble_eq_true rfl, Nat.le_of_ble_eq_true rfl⟩ rfl rfl (Nat.le_of_ble_eq_true rfl) ?_
      exact jr_ri (by simp only [dCnt, ite_self, if_neg t1_0, if_pos t1_1]) (by rfl) (by rfl) (hR 51 _ dX6_count_51)
    · by_cases t1_2 : q = 2
      · refine jr_tableIn (off := 51) (tgt := 52) cx dX6_count_1 (by rw [t1_2]; decide) (by rw [t1_2]; decide) (by rw [t1_2]; rfl) (by decide) ?_
        refine jr_aload_n cx dX6_count_52 0 rfl rfl ?_
        refine jr_get (f := 2) (v := .ref (E.1 3)) cx dX6_count_53 (by decide) rfl rfl hinX6 (by decide) mf_26 rfl ?_
        refine jr_vi [] 0 cx dX6_count_56 (c_X0_size E g h ) (by decide) rfl rfl gX6_count_X0_size rfl (by decide +kernel) ⟨Nat.le_of_ble_eq_true rfl, Nat.le_of_ble_eq_true rfl⟩ rfl rfl (Nat.le_of_ble_eq_true rfl) ?_
        exact jr_ri (by simp only [dCnt, ite_self, if_neg t1_0, if_neg t1_1, if_pos t1_2]) (by rfl) (by rfl) (hR 59 _ dX6_count_59)
      · by_cases t1_3 : q = 3
        · refine jr_tableIn (off := 59) (tgt := 60) cx dX6_count_1 (by rw [t1_3]; decide) (by rw [t1_3]; decide) (by rw [t1_3]; rfl) (by decide) ?_
          refine jr_aload_n cx dX6_count_60 0 rfl rfl ?_
          refine jr_get (f := 3) (v := .ref (E.1 4)) cx dX6_count_61 (by decide) rfl rfl hinX6 (by decide) mf_33 rfl ?_
          refine jr_vi [] 0 cx dX6_count_64 (c_X1_size E g h ) (by decide) rfl rfl gX6_count_X1_size rfl (by decide +kernel) ⟨Nat.le_of_ble_eq_true rfl, Nat.le_of_ble_eq_true rfl⟩ rfl rfl (Nat.le_of_ble_eq_true rfl) ?_
          exact jr_ri (by simp only [dCnt, ite_self, if_neg t1_0, if_neg t1_1, if_neg t1_2, if_pos t1_3]) (by rfl) (by rfl) (hR 67 _ dX6_count_67)
        · by_cases t1_4 : q = 4
          · refine jr_tableIn (off := 67) (tgt := 68) cx dX6_count_1 (by rw [t1_4]; decide) (by rw [t1_4]; decide) (by rw [t1_4]; rfl) (by decide) ?_
            refine jr_aload_n cx dX6_count_68 0 rfl rfl ?_
            refine jr_get (f := 3) (v := .ref (E.1 4)) cx dX6_count_69 (by decide) rfl rfl hinX6 (by decide) mf_33 rfl ?_
            refine jr_iconst (v := 5) cx dX6_count_72 (by decide) ?_
            refine jr_iconst (v := 1) cx dX6_count_73 (by decide) ?_
            refine jr_iconst (v := 0) cx dX6_count_74 (by decide) ?_
            refine jr_vi [.int 5, .int 1, .int 0] 3 cx dX6_count_75 (c_X1_countOf E g h 5 (by decide) 1 0 n hn hs) (by decide) rfl rfl gX6_count_X1_countOf rfl (by decide +kernel) ⟨Nat.le_of_ble_eq_true rfl, Nat.le_of_ble_eq_true rfl⟩ rfl rfl (Nat.le_of_ble_eq_true rfl) ?_
            exact jr_ri (by simp only [dCnt, ite_self, if_neg t1_0, if_neg t1_1, if_neg t1_2, if_neg t1_3, if_pos t1_4]) (by rfl) (by rfl) (hR 78 _ dX6_count_78)
          · refine jr_tableOut (tgt := 79) cx dX6_count_1 (by have q0 : ¬ (q).toInt = 0 := fun z => t1_0 ((fa_eq _ 0).mpr z); have q1 : ¬ (q).toInt = 1 := fun z => t1_1 ((fa_eq _ 1).mpr z); have q2 : ¬ (q).toInt = 2 := fun z => t1_2 ((fa_eq _ 2).mpr z); have q3 : ¬ (q).toInt = 3 := fun z => t1_3 ((fa_eq _ 3).mpr z); have q4 : ¬ (q).toInt = 4 := fun z => t1_4 ((fa_eq _ 4).mpr z); omega) (by decide) ?_
            refine jr_iconst (v := (-1)) cx dX6_count_79 (by decide) ?_
            exact jr_ri (by simp only [dCnt, ite_self, if_neg t1_0, if_neg t1_1, if_neg t1_2, if_neg t1_3, if_neg t1_4]) (by rfl) (by rfl) (hR 80 _ dX6_count_80)
set_option maxHeartbeats 4000000 in
set_option maxRecDepth 100000 in
theorem c_X7_tellsCount (E : mm_E) (g : mm_I) (h : mm_L) (q : Int32) (n : Nat) (hn : n ≤ 40) (hs : g 7 16 = nI n) : Ci E yX7_tellsCount wsX7_tellsCount 0 0 [.ref (E.1 7), .int q] g h (dTc q (nI (sPrM (g 14) 6)) (sSi (g 17) 4) (g 7 13) (g 7 16) (nI (sCn (pV g) n))) g h := by
  refine ci_i (bytes := cX7_tellsCount) (maxL := 4) (by decide) rfl (Nat.le_of_ble_eq_true rfl) (fun X cx hR => ?_)
  change Cx E X cX7_tellsCount RX7 wsX7_tellsCount 4 0 0 at cx
  change JJ E X g h 0 [(0, .ref (E.1 7)), (1, .int q)] []
  have hinX7 : ∀ w ∈ u_ws RX7 TX7 30, w ∈ wsX7_tellsCount := by decide +kernel
  have mf_147 : Cond.fieldLink RX7 147 (TX7 16).1 (TX7 16).2.1 (TX7 16).2.2.1 ∈ wsX7_tellsCount := by decide +kernel
  have mf_17 : Cond.fieldLink RX7 17 (TX7 5).1 (TX7 5).2.1 (TX7 5).2.2.1 ∈ wsX7_tellsCount := by decide +kernel
  have mf_26 : Cond.fieldLink RX7 26 (TX7 8).1 (TX7 8).2.1 (TX7 8).2.2.1 ∈ wsX7_tellsCount := by decide +kernel
  have mf_62 : Cond.fieldLink RX7 62 (TX7 24).1 (TX7 24).2.1 (TX7 24).2.2.1 ∈ wsX7_tellsCount := by decide +kernel
  have mf_144 : Cond.fieldLink RX7 144 (TX7 13).1 (TX7 13).2.1 (TX7 13).2.2.1 ∈ wsX7_tellsCount := by decide +kernel
  by_cases t0 : q = 0
  · subst t0
    refine jr_iconst (v := 0) cx dX7_tellsCount_0 (by decide) ?_
    refine jr_istore_n (L' := [(2, .int 0), (0, .ref (E.1 7)), (1, .int 0)]) cx dX7_tellsCount_1 rfl (by decide) rfl ?_
    refine jr_iconst (v := 0) cx dX7_tellsCount_2 (by decide) ?_
    refine jr_istore_n (L' := [(3, .int 0), (2, .int 0), (0, .ref (E.1 7)), (1, .int 0)]) cx dX7_tellsCount_3 rfl (by decide) rfl ?_
    have key1 : ∀ (fu1 : Nat) (i : Nat), 6 + 1 ≤ i + fu1 → (i ≤ 6) → JJ E X g h 4 [(0, .ref (E.1 7)), (1, .int 0), (2, .int (nI (sPrM (g 14) i))), (3, .int (nI i))] [] := by
      intro fu1
      induction fu1 with
      | zero => intro i hfu1 h1; exfalso; omega
      | succ fu1 ih1 =>
        intro i hfu1 h1
        refine jr_iload_n cx dX7_tellsCount_4 3 rfl rfl ?_
        refine jr_bipush (v := 6) cx dX7_tellsCount_5 (by decide) ?_
        refine jr_icmp_ge (tgt := 37) cx dX7_tellsCount_7 (by decide) (fun c7 => ?_) (fun c7 => ?_)
        · have n7 : 6 ≤ i := (nI_leI (a := 6) (b := i) (by omega) (by omega)).mp c7
          refine jr_iconst (v := 0) cx dX7_tellsCount_37 (by decide) ?_
          refine jr_istore_n (L' := [(3, .int 0), (0, .ref (E.1 7)), (1, .int 0), (2, .int (nI (sPrM (g 14) i)))]) cx dX7_tellsCount_38 rfl (by decide) rfl ?_
          refine jr_iload_n cx dX7_tellsCount_39 0 rfl rfl ?_
          refine jr_iconst (v := 4) cx dX7_tellsCount_40 (by decide) ?_
          refine jr_icmp_ge (tgt := 64) cx dX7_tellsCount_41 (by decide) (fun c41 => absurd c41 (by decide)) (fun c41 => ?_)
          refine jr_iload_n cx dX7_tellsCount_44 2 rfl rfl ?_
          refine jr_iconst (v := 1) cx dX7_tellsCount_45 (by decide) ?_
          refine jr_icmp_ne (tgt := 64) cx dX7_tellsCount_46 (by decide) (fun c46 => ?_) (fun c46 => absurd c46 (by decide))
          refine jr_iconst (v := 0) cx dX7_tellsCount_64 (by decide) ?_
          refine jr_istore_n (L' := [(3, .int 0), (0, .ref (E.1 7)), (1, .int 0), (2, .int (nI (sPrM (g 14) i)))]) cx dX7_tellsCount_65 rfl (by decide) rfl ?_
          refine jr_iload_n cx dX7_tellsCount_66 0 rfl rfl ?_
          refine jr_aload_n cx dX7_tellsCount_67 1 rfl rfl ?_
          refine jr_get (f := 16) (v := .int (g 7 16)) cx dX7_tellsCount_68 (by decide) rfl rfl hinX7 (by decide) mf_147 rfl ?_
          refine jr_top hs ?_
          refine jr_icmp_ge (tgt := 102) cx dX7_tellsCount_71 (by decide) (fun c71 => ?_) (fun c71 => ?_)
          · have n71 : n ≤ 0 := (nI_leI (a := n) (b := 0) (by omega) (by omega)).mp c71
            refine jr_iload_n cx dX7_tellsCount_102 2 rfl rfl ?_
            refine jr_iconst (v := 2) cx dX7_tellsCount_103 (by decide) ?_
            refine jr_icmp_ne (tgt := 114) cx dX7_tellsCount_104 (by decide) (fun c104 => ?_) (fun c104 => absurd c104 (by decide))
            refine jr_iload_n cx dX7_tellsCount_114 2 rfl rfl ?_
            refine jr_iconst (v := 3) cx dX7_tellsCount_115 (by decide) ?_
            refine jr_icmp_ne (tgt := 126) cx dX7_tellsCount_116 (by decide) (fun c116 => ?_) (fun c116 => absurd c116 (by decide))
            refine jr_iload_n cx dX7_tellsCount_126 3 rfl rfl ?_
            exact jr_ri (by rw [show i = 6 by omega]; rfl) (by rfl) (by rfl) (hR 127 _ dX7_tellsCount_127)
          · have n71 : ¬ (n ≤ 0) := fun qq9 => c71 ((nI_leI (a := n) (b := 0) (by omega) (by omega)).mpr qq9)
            refine jr_iload_n cx dX7_tellsCount_74 2 rfl rfl ?_
            refine jr_iconst (v := 4) cx dX7_tellsCount_75 (by decide) ?_
            refine jr_icmp_ne (tgt := 102) cx dX7_tellsCount_76 (by decide) (fun c76 => ?_) (fun c76 => absurd c76 (by decide))
            refine jr_iload_n cx dX7_tellsCount_102 2 rfl rfl ?_
            refine jr_iconst (v := 2) cx dX7_tellsCount_103 (by decide) ?_
            refine jr_icmp_ne (tgt := 114) cx dX7_tellsCount_104 (by decide) (fun c104 => ?_) (fun c104 => absurd c104 (by decide))
            refine jr_iload_n cx dX7_tellsCount_114 2 rfl rfl ?_
            refine jr_iconst (v := 3) cx dX7_tellsCount_115 (by decide) ?_
            refine jr_icmp_ne (tgt := 126) cx dX7_tellsCount_116 (by decide) (fun c116 => ?_) (fun c116 => absurd c116 (by decide))
            refine jr_iload_n cx dX7_tellsCount_126 3 rfl rfl ?_
            exact jr_ri (by rw [show i = 6 by omega]; rfl) (by rfl) (by rfl) (hR 127 _ dX7_tellsCount_127)
        · have n7 : ¬ (6 ≤ i) := fun qq9 => c7 ((nI_leI (a := 6) (b := i) (by omega) (by omega)).mpr qq9)
          refine jr_iload_n cx dX7_tellsCount_10 1 rfl rfl ?_
          refine jr_if_ne (tgt := 37) cx dX7_tellsCount_11 (by decide) (fun c11 => absurd c11 (by decide)) (fun c11 => ?_)
          refine jr_iload_n cx dX7_tellsCount_14 2 rfl rfl ?_
          refine jr_aload_n cx dX7_tellsCount_15 0 rfl rfl ?_
          refine jr_get (f := 5) (v := .ref (E.1 14)) cx dX7_tellsCount_16 (by decide) rfl rfl hinX7 (by decide) mf_17 rfl ?_
          refine jr_iload_n cx dX7_tellsCount_19 3 rfl rfl ?_
          refine jr_iald cx dX7_tellsCount_20 (Or.inl ⟨by decide, by decide⟩) i rfl (show _ < 6 by omega) ?_
          refine jr_if_lt (tgt := 28) cx dX7_tellsCount_21 (by decide) (fun c21 => ?_) (fun c21 => ?_)
          · refine jr_iconst (v := 0) cx dX7_tellsCount_28 (by decide) ?_
            refine jr_iadd cx dX7_tellsCount_29 ?_
            refine jr_top (show (nI (sPrM (g 14) i) : Int32) + 0 = nI ((sPrM (g 14) i) + 0) from nI_add (sPrM (g 14) i) 0) ?_
            refine jr_istore_n (L' := [(2, .int (nI ((sPrM (g 14) i) + 0))), (0, .ref (E.1 7)), (1, .int 0), (3, .int (nI i))]) cx dX7_tellsCount_30 rfl (by decide) rfl ?_
            refine jr_iinc (n := 3) (v := nI (i + 1)) (L' := [(3, .int (nI (i + 1))), (2, .int (nI ((sPrM (g 14) i) + 0))), (0, .ref (E.1 7)), (1, .int 0)]) cx dX7_tellsCount_31 rfl (nI_1 _) (by decide) rfl ?_
            refine jr_goto (tgt := 4) cx dX7_tellsCount_34 (by decide) ?_
            refine jr_pick (L' := [(0, .ref (E.1 7)), (1, .int 0), (2, .int (nI ((sPrM (g 14) i) + 0))), (3, .int (nI (i + 1)))]) [2, 3, 1, 0] rfl ?_
            have e2 : (nI ((sPrM (g 14) i) + 0) : Int32) = (nI (sPrM (g 14) (i + 1))) := by simp [sPrM, c21]
            refine jr_loc (lc_n (lc_n (lc_i e2 (lc_n rfl)))) ?_
            exact ih1 (i + 1) (by omega) (by omega)
          · refine jr_iconst (v := 1) cx dX7_tellsCount_24 (by decide) ?_
            refine jr_goto (tgt := 29) cx dX7_tellsCount_25 (by decide) ?_
            refine jr_iadd cx dX7_tellsCount_29 ?_
            refine jr_top (show (nI (sPrM (g 14) i) : Int32) + 1 = nI ((sPrM (g 14) i) + 1) from nI_add (sPrM (g 14) i) 1) ?_
            refine jr_istore_n (L' := [(2, .int (nI ((sPrM (g 14) i) + 1))), (0, .ref (E.1 7)), (1, .int 0), (3, .int (nI i))]) cx dX7_tellsCount_30 rfl (by decide) rfl ?_
            refine jr_iinc (n := 3) (v := nI (i + 1)) (L' := [(3, .int (nI (i + 1))), (2, .int (nI ((sPrM (g 14) i) + 1))), (0, .ref (E.1 7)), (1, .int 0)]) cx dX7_tellsCount_31 rfl (nI_1 _) (by decide) rfl ?_
            refine jr_goto (tgt := 4) cx dX7_tellsCount_34 (by decide) ?_
            refine jr_pick (L' := [(0, .ref (E.1 7)), (1, .int 0), (2, .int (nI ((sPrM (g 14) i) + 1))), (3, .int (nI (i + 1)))]) [2, 3, 1, 0] rfl ?_
            have e2 : (nI ((sPrM (g 14) i) + 1) : Int32) = (nI (sPrM (g 14) (i + 1))) := by simp [sPrM, c21]
            refine jr_loc (lc_n (lc_n (lc_i e2 (lc_n rfl)))) ?_
            exact ih1 (i + 1) (by omega) (by omega)
    refine jr_pick (L' := [(0, .ref (E.1 7)), (1, .int 0), (2, .int 0), (3, .int 0)]) [2, 3, 1, 0] rfl ?_
    have e2 : (0 : Int32) = (nI (sPrM (g 14) 0)) := by rfl
    have e3 : (0 : Int32) = (nI 0) := by rfl
    refine jr_loc (lc_n (lc_n (lc_i e2 (lc_i e3 rfl)))) ?_
    exact key1 (6 + 1) 0 (by omega) (by omega)
  · by_cases t1 : q = 1
    · subst t1
      refine jr_iconst (v := 0) cx dX7_tellsCount_0 (by decide) ?_
      refine jr_istore_n (L' := [(2, .int 0), (0, .ref (E.1 7)), (1, .int 1)]) cx dX7_tellsCount_1 rfl (by decide) rfl ?_
      refine jr_iconst (v := 0) cx dX7_tellsCount_2 (by decide) ?_
      refine jr_istore_n (L' := [(3, .int 0), (2, .int 0), (0, .ref (E.1 7)), (1, .int 1)]) cx dX7_tellsCount_3 rfl (by decide) rfl ?_
      refine jr_iload_n cx dX7_tellsCount_4 0 rfl rfl ?_
      refine jr_bipush (v := 6) cx dX7_tellsCount_5 (by decide) ?_
      refine jr_icmp_ge (tgt := 37) cx dX7_tellsCount_7 (by decide) (fun c7 => absurd c7 (by decide)) (fun c7 => ?_)
      refine jr_iload_n cx dX7_tellsCount_10 3 rfl rfl ?_
      refine jr_if_ne (tgt := 37) cx dX7_tellsCount_11 (by decide) (fun c11 => ?_) (fun c11 => absurd c11 (by decide))
      refine jr_iconst (v := 0) cx dX7_tellsCount_37 (by decide) ?_
      refine jr_istore_n (L' := [(3, .int 0), (2, .int 0), (0, .ref (E.1 7)), (1, .int 1)]) cx dX7_tellsCount_38 rfl (by decide) rfl ?_
      have key2 : ∀ (fu2 : Nat) (i : Nat), 4 + 1 ≤ i + fu2 → (i ≤ 4) → JJ E X g h 39 [(0, .ref (E.1 7)), (1, .int 1), (2, .int (sSi (g 17) i)), (3, .int (nI i))] [] := by
        intro fu2
        induction fu2 with
        | zero => intro i hfu2 h1; exfalso; omega
        | succ fu2 ih2 =>
          intro i hfu2 h1
          refine jr_iload_n cx dX7_tellsCount_39 3 rfl rfl ?_
          refine jr_iconst (v := 4) cx dX7_tellsCount_40 (by decide) ?_
          refine jr_icmp_ge (tgt := 64) cx dX7_tellsCount_41 (by decide) (fun c41 => ?_) (fun c41 => ?_)
          · have n41 : 4 ≤ i := (nI_leI (a := 4) (b := i) (by omega) (by omega)).mp c41
            refine jr_iconst (v := 0) cx dX7_tellsCount_64 (by decide) ?_
            refine jr_istore_n (L' := [(3, .int 0), (0, .ref (E.1 7)), (1, .int 1), (2, .int (sSi (g 17) i))]) cx dX7_tellsCount_65 rfl (by decide) rfl ?_
            refine jr_iload_n cx dX7_tellsCount_66 0 rfl rfl ?_
            refine jr_aload_n cx dX7_tellsCount_67 1 rfl rfl ?_
            refine jr_get (f := 16) (v := .int (g 7 16)) cx dX7_tellsCount_68 (by decide) rfl rfl hinX7 (by decide) mf_147 rfl ?_
            refine jr_top hs ?_
            refine jr_icmp_ge (tgt := 102) cx dX7_tellsCount_71 (by decide) (fun c71 => ?_) (fun c71 => ?_)
            · have n71 : n ≤ 0 := (nI_leI (a := n) (b := 0) (by omega) (by omega)).mp c71
              refine jr_iload_n cx dX7_tellsCount_102 2 rfl rfl ?_
              refine jr_iconst (v := 2) cx dX7_tellsCount_103 (by decide) ?_
              refine jr_icmp_ne (tgt := 114) cx dX7_tellsCount_104 (by decide) (fun c104 => ?_) (fun c104 => absurd c104 (by decide))
              refine jr_iload_n cx dX7_tellsCount_114 2 rfl rfl ?_
              refine jr_iconst (v := 3) cx dX7_tellsCount_115 (by decide) ?_
              refine jr_icmp_ne (tgt := 126) cx dX7_tellsCount_116 (by decide) (fun c116 => ?_) (fun c116 => absurd c116 (by decide))
              refine jr_iload_n cx dX7_tellsCount_126 3 rfl rfl ?_
              exact jr_ri (by rw [show i = 4 by omega]; rfl) (by rfl) (by rfl) (hR 127 _ dX7_tellsCount_127)
            · have n71 : ¬ (n ≤ 0) := fun qq9 => c71 ((nI_leI (a := n) (b := 0) (by omega) (by omega)).mpr qq9)
              refine jr_iload_n cx dX7_tellsCount_74 2 rfl rfl ?_
              refine jr_iconst (v := 4) cx dX7_tellsCount_75 (by decide) ?_
              refine jr_icmp_ne (tgt := 102) cx dX7_tellsCount_76 (by decide) (fun c76 => ?_) (fun c76 => absurd c76 (by decide))
              refine jr_iload_n cx dX7_tellsCount_102 2 rfl rfl ?_
              refine jr_iconst (v := 2) cx dX7_tellsCount_103 (by decide) ?_
              refine jr_icmp_ne (tgt := 114) cx dX7_tellsCount_104 (by decide) (fun c104 => ?_) (fun c104 => absurd c104 (by decide))
              refine jr_iload_n cx dX7_tellsCount_114 2 rfl rfl ?_
              refine jr_iconst (v := 3) cx dX7_tellsCount_115 (by decide) ?_
              refine jr_icmp_ne (tgt := 126) cx dX7_tellsCount_116 (by decide) (fun c116 => ?_) (fun c116 => absurd c116 (by decide))
              refine jr_iload_n cx dX7_tellsCount_126 3 rfl rfl ?_
              exact jr_ri (by rw [show i = 4 by omega]; rfl) (by rfl) (by rfl) (hR 127 _ dX7_tellsCount_127)
          · have n41 : ¬ (4 ≤ i) := fun qq9 => c41 ((nI_leI (a := 4) (b := i) (by omega) (by omega)).mpr qq9)
            refine jr_iload_n cx dX7_tellsCount_44 1 rfl rfl ?_
            refine jr_iconst (v := 1) cx dX7_tellsCount_45 (by decide) ?_
            refine jr_icmp_ne (tgt := 64) cx dX7_tellsCount_46 (by decide) (fun c46 => absurd c46 (by decide)) (fun c46 => ?_)
            refine jr_iload_n cx dX7_tellsCount_49 2 rfl rfl ?_
            refine jr_aload_n cx dX7_tellsCount_50 0 rfl rfl ?_
            refine jr_get (f := 8) (v := .ref (E.1 17)) cx dX7_tellsCount_51 (by decide) rfl rfl hinX7 (by decide) mf_26 rfl ?_
            refine jr_iload_n cx dX7_tellsCount_54 3 rfl rfl ?_
            refine jr_iald cx dX7_tellsCount_55 (Or.inl ⟨by decide, by decide⟩) i rfl (show _ < 4 by omega) ?_
            refine jr_iadd cx dX7_tellsCount_56 ?_
            refine jr_istore_n (L' := [(2, .int ((sSi (g 17) i) + (g 17 i))), (0, .ref (E.1 7)), (1, .int 1), (3, .int (nI i))]) cx dX7_tellsCount_57 rfl (by decide) rfl ?_
            refine jr_iinc (n := 3) (v := nI (i + 1)) (L' := [(3, .int (nI (i + 1))), (2, .int ((sSi (g 17) i) + (g 17 i))), (0, .ref (E.1 7)), (1, .int 1)]) cx dX7_tellsCount_58 rfl (nI_1 _) (by decide) rfl ?_
            refine jr_goto (tgt := 39) cx dX7_tellsCount_61 (by decide) ?_
            refine jr_pick (L' := [(0, .ref (E.1 7)), (1, .int 1), (2, .int ((sSi (g 17) i) + (g 17 i))), (3, .int (nI (i + 1)))]) [2, 3, 1, 0] rfl ?_
            have e2 : ((sSi (g 17) i) + (g 17 i) : Int32) = (sSi (g 17) (i + 1)) := by rfl
            refine jr_loc (lc_n (lc_n (lc_i e2 (lc_n rfl)))) ?_
            exact ih2 (i + 1) (by omega) (by omega)
      refine jr_pick (L' := [(0, .ref (E.1 7)), (1, .int 1), (2, .int 0), (3, .int 0)]) [2, 3, 1, 0] rfl ?_
      have e2 : (0 : Int32) = (sSi (g 17) 0) := by rfl
      have e3 : (0 : Int32) = (nI 0) := by rfl
      refine jr_loc (lc_n (lc_n (lc_i e2 (lc_i e3 rfl)))) ?_
      exact key2 (4 + 1) 0 (by omega) (by omega)
    · by_cases t4 : q = 4
      · subst t4
        refine jr_iconst (v := 0) cx dX7_tellsCount_0 (by decide) ?_
        refine jr_istore_n (L' := [(2, .int 0), (0, .ref (E.1 7)), (1, .int 4)]) cx dX7_tellsCount_1 rfl (by decide) rfl ?_
        refine jr_iconst (v := 0) cx dX7_tellsCount_2 (by decide) ?_
        refine jr_istore_n (L' := [(3, .int 0), (2, .int 0), (0, .ref (E.1 7)), (1, .int 4)]) cx dX7_tellsCount_3 rfl (by decide) rfl ?_
        refine jr_iload_n cx dX7_tellsCount_4 0 rfl rfl ?_
        refine jr_bipush (v := 6) cx dX7_tellsCount_5 (by decide) ?_
        refine jr_icmp_ge (tgt := 37) cx dX7_tellsCount_7 (by decide) (fun c7 => absurd c7 (by decide)) (fun c7 => ?_)
        refine jr_iload_n cx dX7_tellsCount_10 3 rfl rfl ?_
        refine jr_if_ne (tgt := 37) cx dX7_tellsCount_11 (by decide) (fun c11 => ?_) (fun c11 => absurd c11 (by decide))
        refine jr_iconst (v := 0) cx dX7_tellsCount_37 (by decide) ?_
        refine jr_istore_n (L' := [(3, .int 0), (2, .int 0), (0, .ref (E.1 7)), (1, .int 4)]) cx dX7_tellsCount_38 rfl (by decide) rfl ?_
        refine jr_iload_n cx dX7_tellsCount_39 0 rfl rfl ?_
        refine jr_iconst (v := 4) cx dX7_tellsCount_40 (by decide) ?_
        refine jr_icmp_ge (tgt := 64) cx dX7_tellsCount_41 (by decide) (fun c41 => absurd c41 (by decide)) (fun c41 => ?_)
        refine jr_iload_n cx dX7_tellsCount_44 3 rfl rfl ?_
        refine jr_iconst (v := 1) cx dX7_tellsCount_45 (by decide) ?_
        refine jr_icmp_ne (tgt := 64) cx dX7_tellsCount_46 (by decide) (fun c46 => ?_) (fun c46 => absurd c46 (by decide))
        refine jr_iconst (v := 0) cx dX7_tellsCount_64 (by decide) ?_
        refine jr_istore_n (L' := [(3, .int 0), (2, .int 0), (0, .ref (E.1 7)), (1, .int 4)]) cx dX7_tellsCount_65 rfl (by decide) rfl ?_
        have key3 : ∀ (fu3 : Nat) (i : Nat), n + 1 ≤ i + fu3 → (i ≤ n) → JJ E X g h 66 [(0, .ref (E.1 7)), (1, .int 4), (2, .int (nI (sCn (pV g) i))), (3, .int (nI i))] [] := by
          intro fu3
          induction fu3 with
          | zero => intro i hfu3 h1; exfalso; omega
          | succ fu3 ih3 =>
            intro i hfu3 h1
            refine jr_iload_n cx dX7_tellsCount_66 3 rfl rfl ?_
            refine jr_aload_n cx dX7_tellsCount_67 0 rfl rfl ?_
            refine jr_get (f := 16) (v := .int (g 7 16)) cx dX7_tellsCount_68 (by decide) rfl rfl hinX7 (by decide) mf_147 rfl ?_
            refine jr_top hs ?_
            refine jr_icmp_ge (tgt := 102) cx dX7_tellsCount_71 (by decide) (fun c71 => ?_) (fun c71 => ?_)
            · have n71 : n ≤ i := (nI_leI (a := n) (b := i) (by omega) (by omega)).mp c71
              refine jr_iload_n cx dX7_tellsCount_102 1 rfl rfl ?_
              refine jr_iconst (v := 2) cx dX7_tellsCount_103 (by decide) ?_
              refine jr_icmp_ne (tgt := 114) cx dX7_tellsCount_104 (by decide) (fun c104 => ?_) (fun c104 => absurd c104 (by decide))
              refine jr_iload_n cx dX7_tellsCount_114 1 rfl rfl ?_
              refine jr_iconst (v := 3) cx dX7_tellsCount_115 (by decide) ?_
              refine jr_icmp_ne (tgt := 126) cx dX7_tellsCount_116 (by decide) (fun c116 => ?_) (fun c116 => absurd c116 (by decide))
              refine jr_iload_n cx dX7_tellsCount_126 2 rfl rfl ?_
              exact jr_ri (by rw [show i = n by omega]; rfl) (by rfl) (by rfl) (hR 127 _ dX7_tellsCount_127)
            · have n71 : ¬ (n ≤ i) := fun qq9 => c71 ((nI_leI (a := n) (b := i) (by omega) (by omega)).mpr qq9)
              refine jr_iload_n cx dX7_tellsCount_74 1 rfl rfl ?_
              refine jr_iconst (v := 4) cx dX7_tellsCount_75 (by decide) ?_
              refine jr_icmp_ne (tgt := 102) cx dX7_tellsCount_76 (by decide) (fun c76 => absurd c76 (by decide)) (fun c76 => ?_)
              refine jr_iload_n cx dX7_tellsCount_79 2 rfl rfl ?_
              refine jr_aload_n cx dX7_tellsCount_80 0 rfl rfl ?_
              refine jr_get (f := 24) (v := .ref (E.1 31)) cx dX7_tellsCount_81 (by decide) rfl rfl hinX7 (by decide) mf_62 rfl ?_
              refine jr_iload_n cx dX7_tellsCount_84 3 rfl rfl ?_
              refine jr_zald cx dX7_tellsCount_85 (Or.inl rfl) i rfl (show _ < 40 by omega) ?_
              refine jr_if_eq (tgt := 93) cx dX7_tellsCount_86 (by decide) (fun c86 => ?_) (fun c86 => ?_)
              · refine jr_iconst (v := 0) cx dX7_tellsCount_93 (by decide) ?_
                refine jr_iadd cx dX7_tellsCount_94 ?_
                refine jr_top (show (nI (sCn (pV g) i) : Int32) + 0 = nI ((sCn (pV g) i) + 0) from nI_add (sCn (pV g) i) 0) ?_
                refine jr_istore_n (L' := [(2, .int (nI ((sCn (pV g) i) + 0))), (0, .ref (E.1 7)), (1, .int 4), (3, .int (nI i))]) cx dX7_tellsCount_95 rfl (by decide) rfl ?_
                refine jr_iinc (n := 3) (v := nI (i + 1)) (L' := [(3, .int (nI (i + 1))), (2, .int (nI ((sCn (pV g) i) + 0))), (0, .ref (E.1 7)), (1, .int 4)]) cx dX7_tellsCount_96 rfl (nI_1 _) (by decide) rfl ?_
                refine jr_goto (tgt := 66) cx dX7_tellsCount_99 (by decide) ?_
                refine jr_pick (L' := [(0, .ref (E.1 7)), (1, .int 4), (2, .int (nI ((sCn (pV g) i) + 0))), (3, .int (nI (i + 1)))]) [2, 3, 1, 0] rfl ?_
                have e2 : (nI ((sCn (pV g) i) + 0) : Int32) = (nI (sCn (pV g) (i + 1))) := by exact congrArg nI (if_neg (fun q => q c86)).symm
                refine jr_loc (lc_n (lc_n (lc_i e2 (lc_n rfl)))) ?_
                exact ih3 (i + 1) (by omega) (by omega)
              · refine jr_iconst (v := 1) cx dX7_tellsCount_89 (by decide) ?_
                refine jr_goto (tgt := 94) cx dX7_tellsCount_90 (by decide) ?_
                refine jr_iadd cx dX7_tellsCount_94 ?_
                refine jr_top (show (nI (sCn (pV g) i) : Int32) + 1 = nI ((sCn (pV g) i) + 1) from nI_add (sCn (pV g) i) 1) ?_
                refine jr_istore_n (L' := [(2, .int (nI ((sCn (pV g) i) + 1))), (0, .ref (E.1 7)), (1, .int 4), (3, .int (nI i))]) cx dX7_tellsCount_95 rfl (by decide) rfl ?_
                refine jr_iinc (n := 3) (v := nI (i + 1)) (L' := [(3, .int (nI (i + 1))), (2, .int (nI ((sCn (pV g) i) + 1))), (0, .ref (E.1 7)), (1, .int 4)]) cx dX7_tellsCount_96 rfl (nI_1 _) (by decide) rfl ?_
                refine jr_goto (tgt := 66) cx dX7_tellsCount_99 (by decide) ?_
                refine jr_pick (L' := [(0, .ref (E.1 7)), (1, .int 4), (2, .int (nI ((sCn (pV g) i) + 1))), (3, .int (nI (i + 1)))]) [2, 3, 1, 0] rfl ?_
                have e2 : (nI ((sCn (pV g) i) + 1) : Int32) = (nI (sCn (pV g) (i + 1))) := by exact congrArg nI (if_pos c86).symm
                refine jr_loc (lc_n (lc_n (lc_i e2 (lc_n rfl)))) ?_
                exact ih3 (i + 1) (by omega) (by omega)
        refine jr_pick (L' := [(0, .ref (E.1 7)), (1, .int 4), (2, .int 0), (3, .int 0)]) [2, 3, 1, 0] rfl ?_
        have e2 : (0 : Int32) = (nI (sCn (pV g) 0)) := by rfl
        have e3 : (0 : Int32) = (nI 0) := by rfl
        refine jr_loc (lc_n (lc_n (lc_i e2 (lc_i e3 rfl)))) ?_
        exact key3 (n + 1) 0 (by omega) (by omega)
      · refine jr_iconst (v := 0) cx dX7_tellsCount_0 (by decide) ?_
        refine jr_istore_n (L' := [(2, .int 0), (0, .ref (E.1 7)), (1, .int q)]) cx dX7_tellsCount_1 rfl (by decide) rfl ?_
        refine jr_iconst (v := 0) cx dX7_tellsCount_2 (by decide) ?_
        refine jr_istore_n (L' := [(3, .int 0), (2, .int 0), (0, .ref (E.1 7)), (1, .int q)]) cx dX7_tellsCount_3 rfl (by decide) rfl ?_
        refine jr_iload_n cx dX7_tellsCount_4 0 rfl rfl ?_
        refine jr_bipush (v := 6) cx dX7_tellsCount_5 (by decide) ?_
        refine jr_icmp_ge (tgt := 37) cx dX7_tellsCount_7 (by decide) (fun c7 => absurd c7 (by decide)) (fun c7 => ?_)
        refine jr_iload_n cx dX7_tellsCount_10 3 rfl rfl ?_
        refine jr_if_ne (tgt := 37) cx dX7_tellsCount_11 (by decide) (fun c11 => ?_) (fun c11 => ?_)
        · refine jr_iconst (v := 0) cx dX7_tellsCount_37 (by decide) ?_
          refine jr_istore_n (L' := [(3, .int 0), (2, .int 0), (0, .ref (E.1 7)), (1, .int q)]) cx dX7_tellsCount_38 rfl (by decide) rfl ?_
          refine jr_iload_n cx dX7_tellsCount_39 0 rfl rfl ?_
          refine jr_iconst (v := 4) cx dX7_tellsCount_40 (by decide) ?_
          refine jr_icmp_ge (tgt := 64) cx dX7_tellsCount_41 (by decide) (fun c41 => absurd c41 (by decide)) (fun c41 => ?_)
          refine jr_iload_n cx dX7_tellsCount_44 3 rfl rfl ?_
          refine jr_iconst (v := 1) cx dX7_tellsCount_45 (by decide) ?_
          refine jr_icmp_ne (tgt := 64) cx dX7_tellsCount_46 (by decide) (fun c46 => ?_) (fun c46 => ?_)
          · refine jr_iconst (v := 0) cx dX7_tellsCount_64 (by decide) ?_
            refine jr_istore_n (L' := [(3, .int 0), (2, .int 0), (0, .ref (E.1 7)), (1, .int q)]) cx dX7_tellsCount_65 rfl (by decide) rfl ?_
            refine jr_iload_n cx dX7_tellsCount_66 0 rfl rfl ?_
            refine jr_aload_n cx dX7_tellsCount_67 2 rfl rfl ?_
            refine jr_get (f := 16) (v := .int (g 7 16)) cx dX7_tellsCount_68 (by decide) rfl rfl hinX7 (by decide) mf_147 rfl ?_
            refine jr_top hs ?_
            refine jr_icmp_ge (tgt := 102) cx dX7_tellsCount_71 (by decide) (fun c71 => ?_) (fun c71 => ?_)
            · have n71 : n ≤ 0 := (nI_leI (a := n) (b := 0) (by omega) (by omega)).mp c71
              refine jr_iload_n cx dX7_tellsCount_102 3 rfl rfl ?_
              refine jr_iconst (v := 2) cx dX7_tellsCount_103 (by decide) ?_
              refine jr_icmp_ne (tgt := 114) cx dX7_tellsCount_104 (by decide) (fun c104 => ?_) (fun c104 => ?_)
              · refine jr_iload_n cx dX7_tellsCount_114 3 rfl rfl ?_
                refine jr_iconst (v := 3) cx dX7_tellsCount_115 (by decide) ?_
                refine jr_icmp_ne (tgt := 126) cx dX7_tellsCount_116 (by decide) (fun c116 => ?_) (fun c116 => ?_)
                · refine jr_iload_n cx dX7_tellsCount_126 1 rfl rfl ?_
                  exact jr_ri (by simp only [dTc, ite_self, if_neg t0, if_neg t1, if_neg t4, if_neg c104, if_neg c116]; try exact hs.symm) (by rfl) (by rfl) (hR 127 _ dX7_tellsCount_127)
                · refine jr_aload_n cx dX7_tellsCount_119 2 rfl rfl ?_
                  refine jr_get (f := 16) (v := .int (g 7 16)) cx dX7_tellsCount_120 (by decide) rfl rfl hinX7 (by decide) mf_147 rfl ?_
                  refine jr_top hs ?_
                  refine jr_goto (tgt := 127) cx dX7_tellsCount_123 (by decide) ?_
                  exact jr_ri (by simp only [dTc, ite_self, if_neg t0, if_neg t1, if_neg t4, if_neg c104, if_pos c116]; try exact hs.symm) (by rfl) (by rfl) (hR 127 _ dX7_tellsCount_127)
              · refine jr_aload_n cx dX7_tellsCount_107 2 rfl rfl ?_
                refine jr_get (f := 13) (v := .int (g 7 13)) cx dX7_tellsCount_108 (by decide) rfl rfl hinX7 (by decide) mf_144 rfl ?_
                refine jr_goto (tgt := 127) cx dX7_tellsCount_111 (by decide) ?_
                exact jr_ri (by simp only [dTc, ite_self, if_neg t0, if_neg t1, if_neg t4, if_pos c104]; try exact hs.symm) (by rfl) (by rfl) (hR 127 _ dX7_tellsCount_127)
            · have n71 : ¬ (n ≤ 0) := fun qq9 => c71 ((nI_leI (a := n) (b := 0) (by omega) (by omega)).mpr qq9)
              refine jr_iload_n cx dX7_tellsCount_74 3 rfl rfl ?_
              refine jr_iconst (v := 4) cx dX7_tellsCount_75 (by decide) ?_
              refine jr_icmp_ne (tgt := 102) cx dX7_tellsCount_76 (by decide) (fun c76 => ?_) (fun c76 => ?_)
              · refine jr_iload_n cx dX7_tellsCount_102 3 rfl rfl ?_
                refine jr_iconst (v := 2) cx dX7_tellsCount_103 (by decide) ?_
                refine jr_icmp_ne (tgt := 114) cx dX7_tellsCount_104 (by decide) (fun c104 => ?_) (fun c104 => ?_)
                · refine jr_iload_n cx dX7_tellsCount_114 3 rfl rfl ?_
                  refine jr_iconst (v := 3) cx dX7_tellsCount_115 (by decide) ?_
                  refine jr_icmp_ne (tgt := 126) cx dX7_tellsCount_116 (by decide) (fun c116 => ?_) (fun c116 => ?_)
                  · refine jr_iload_n cx dX7_tellsCount_126 1 rfl rfl ?_
                    exact jr_ri (by simp only [dTc, ite_self, if_neg t0, if_neg t1, if_neg t4, if_neg c104, if_neg c116]; try exact hs.symm) (by rfl) (by rfl) (hR 127 _ dX7_tellsCount_127)
                  · refine jr_aload_n cx dX7_tellsCount_119 2 rfl rfl ?_
                    refine jr_get (f := 16) (v := .int (g 7 16)) cx dX7_tellsCount_120 (by decide) rfl rfl hinX7 (by decide) mf_147 rfl ?_
                    refine jr_top hs ?_
                    refine jr_goto (tgt := 127) cx dX7_tellsCount_123 (by decide) ?_
                    exact jr_ri (by simp only [dTc, ite_self, if_neg t0, if_neg t1, if_neg t4, if_neg c104, if_pos c116]; try exact hs.symm) (by rfl) (by rfl) (hR 127 _ dX7_tellsCount_127)
                · refine jr_aload_n cx dX7_tellsCount_107 2 rfl rfl ?_
                  refine jr_get (f := 13) (v := .int (g 7 13)) cx dX7_tellsCount_108 (by decide) rfl rfl hinX7 (by decide) mf_144 rfl ?_
                  refine jr_goto (tgt := 127) cx dX7_tellsCount_111 (by decide) ?_
                  exact jr_ri (by simp only [dTc, ite_self, if_neg t0, if_neg t1, if_neg t4, if_pos c104]; try exact hs.symm) (by rfl) (by rfl) (hR 127 _ dX7_tellsCount_127)
              · exact absurd c76 t4
          · exact absurd c46 t1
        · exact absurd c11 t0
set_option maxHeartbeats 4000000 in
set_option maxRecDepth 100000 in
theorem c_X7_count (E : mm_E) (g : mm_I) (h : mm_L) (q : Int32) (n : Nat) (hn : n ≤ 40) (hs : g 7 16 = nI n) : Ci E yX7_count wsX7_count 1 23 [.ref (E.1 7), .int q] g h (if ¬ q < 0 ∧ ¬ 4 < q then dTc q (nI (sPrM (g 14) 6)) (sSi (g 17) 4) (g 7 13) (g 7 16) (nI (sCn (pV g) n)) else -1) g h := by
  refine ci_i (bytes := cX7_count) (maxL := 2) (by decide) rfl (Nat.le_of_ble_eq_true rfl) (fun X cx hR => ?_)
  change Cx E X cX7_count RX7 wsX7_count 2 1 23 at cx
  change JJ E X g h 0 [(0, .ref (E.1 7)), (1, .int q)] []
  refine jr_iload_n cx dX7_count_0 1 rfl rfl ?_
  refine jr_iconst (v := 0) cx dX7_count_1 (by decide) ?_
  refine jr_iconst (v := 4) cx dX7_count_2 (by decide) ?_
  refine jr_si [.int q, .int 0, .int 4] 3 cx dX7_count_3 (c_X7_in E g h q 0 4) gX7_count_X7_in rfl (by decide +kernel) ⟨Nat.le_of_ble_eq_true rfl, Nat.le_of_ble_eq_true rfl⟩ rfl rfl (Nat.le_of_ble_eq_true rfl) ?_
  refine jr_bif_eq (tgt := 17) cx dX7_count_6 (by decide) (fun c6 => ?_) (fun c6 => ?_)
  · refine jr_iconst (v := (-1)) cx dX7_count_17 (by decide) ?_
    exact jr_ri (by simp only [if_neg c6]) (by rfl) (by rfl) (hR 18 _ dX7_count_18)
  · refine jr_aload_n cx dX7_count_9 0 rfl rfl ?_
    refine jr_iload_n cx dX7_count_10 1 rfl rfl ?_
    refine jr_vi [.int q] 1 cx dX7_count_11 (c_X7_tellsCount E g h q n hn hs) (by decide) rfl rfl gX7_count_X7_tellsCount rfl (by decide +kernel) ⟨Nat.le_of_ble_eq_true rfl, Nat.le_of_ble_eq_true rfl⟩ rfl rfl (Nat.le_of_ble_eq_true rfl) ?_
    refine jr_goto (tgt := 18) cx dX7_count_14 (by decide) ?_
    exact jr_ri (by simp only [if_pos c6]) (by rfl) (by rfl) (hR 18 _ dX7_count_18)
def dgB (t : Nat → Nat → Int32) (h0 : Int64) : Nat → Int64
  | 0 => h0
  | b + 1 => sDig (t b) (dgB t h0 b) 5
def dgC (f : Nat → Nat → Int32) (o : Nat → Int32) (h0 : Int64) : Nat → Int64
  | 0 => h0
  | c + 1 => 31 * sDig (f c) (dgC f o h0 c) 7 + (o c).toInt64
def dgR (v : Nat → Int32) (f : Nat → Nat → Int32) (h0 : Int64) : Nat → Int64
  | 0 => h0
  | r + 1 => sDig (f r) (31 * dgR v f h0 r + (v r).toInt64) (v r).toNatClampNeg
theorem m1_cl : (-1 : Int32).toNatClampNeg = 0 := by decide +kernel
set_option maxHeartbeats 4000000 in
set_option maxRecDepth 100000 in
theorem c_X6_digest (E : mm_E) (g : mm_I) (h : mm_L) (nb : Nat) (hnb : nb ≤ 16) (hsb : g 3 2 = nI nb) (n : Nat) (hn : n ≤ 40) (hs : g 4 1 = nI n) (hsz : ∀ j, j < 6 → g 9 j = -1 ∨ ∃ n, n ≤ 40 ∧ g 9 j = nI n) : Cl E yX6_digest wsX6_digest 4 90 [.ref (E.1 0)] g h (dgR (g 9) (fun r i => g (39 + r) i) (dgC (fun c i => g (53 + c) i) (fun c => g (53 + c) 7) (dgB (fun b i => dTold nb (nI b) (nI i) (g 11) (g 12) (fun d => nI (sCn (pCO g 0 (nI d) 0) n)) (fun d => nI (sCn (pCO g 0 (nI d) 0) n) - nI (sCn (pCO g 0 (nI d) 1) n)) (fun d => sLast (pLU g (nI d) 100000) n)) (sDig (fun i => dCnt (nI i) (nI (sPres (g 9) 6)) (sSi (g 10) 4) (g 3 2) (g 4 1) (nI (sCn (pCO g 5 1 0) n))) 17 5) nb) n) 6) g h := by
  refine ci_l (bytes := cX6_digest) (maxL := 5) (by decide) rfl (Nat.le_of_ble_eq_true rfl) (fun X cx hR => ?_)
  change Cx E X cX6_digest RX6 wsX6_digest 5 4 90 at cx
  change JJ E X g h 0 [(0, .ref (E.1 0))] []
  have hinX6 : ∀ w ∈ u_ws RX6 TX6 9, w ∈ wsX6_digest := by decide +kernel
  have mc_269 : Cond.constantLong RX6 269 17 ∈ wsX6_digest := by decide +kernel
  have mf_26 : Cond.fieldLink RX6 26 (TX6 2).1 (TX6 2).2.1 (TX6 2).2.2.1 ∈ wsX6_digest := by decide +kernel
  have mf_33 : Cond.fieldLink RX6 33 (TX6 3).1 (TX6 3).2.1 (TX6 3).2.2.1 ∈ wsX6_digest := by decide +kernel
  have mf_10 : Cond.fieldLink RX6 10 (TX6 0).1 (TX6 0).2.1 (TX6 0).2.2.1 ∈ wsX6_digest := by decide +kernel
  have mc_271 : Cond.constantLong RX6 271 31 ∈ wsX6_digest := by decide +kernel
  refine jr_ldc2 cx dX6_digest_0 mc_269 ?_
  refine jr_lstore_n (L' := [(1, .long 17), (0, .ref (E.1 0))]) cx dX6_digest_3 rfl (by decide) rfl ?_
  refine jr_iconst (v := 0) cx dX6_digest_4 (by decide) ?_
  refine jr_istore_n (L' := [(3, .int 0), (1, .long 17), (0, .ref (E.1 0))]) cx dX6_digest_5 rfl (by decide) rfl ?_
  have key1 : ∀ (fu1 : Nat) (i : Nat), 5 + 1 ≤ i + fu1 → (i ≤ 5) → JJ E X g h 6 [(0, .ref (E.1 0)), (1, .long (sDig (fun i => dCnt (nI i) (nI (sPres (g 9) 6)) (sSi (g 10) 4) (g 3 2) (g 4 1) (nI (sCn (pCO g 5 1 0) n))) 17 i)), (3, .int (nI i))] [] := by
    intro fu1
    induction fu1 with
    | zero => intro i hfu1 h1; exfalso; omega
    | succ fu1 ih1 =>
      intro i hfu1 h1
      refine jr_iload_n cx dX6_digest_6 2 rfl rfl ?_
      refine jr_iconst (v := 5) cx dX6_digest_7 (by decide) ?_
      refine jr_icmp_ge (tgt := 30) cx dX6_digest_8 (by decide) (fun c8 => ?_) (fun c8 => ?_)
      · have n8 : 5 ≤ i := (nI_leI (a := 5) (b := i) (by omega) (by omega)).mp c8
        refine jr_iconst (v := 0) cx dX6_digest_30 (by decide) ?_
        refine jr_istore_n (L' := [(3, .int 0), (0, .ref (E.1 0)), (1, .long (sDig (fun i => dCnt (nI i) (nI (sPres (g 9) 6)) (sSi (g 10) 4) (g 3 2) (g 4 1) (nI (sCn (pCO g 5 1 0) n))) 17 i))]) cx dX6_digest_31 rfl (by decide) rfl ?_
        have key2 : ∀ (fu2 : Nat) (i : Nat), nb + 1 ≤ i + fu2 → (i ≤ nb) → JJ E X g h 32 [(0, .ref (E.1 0)), (1, .long (dgB (fun b i => dTold nb (nI b) (nI i) (g 11) (g 12) (fun d => nI (sCn (pCO g 0 (nI d) 0) n)) (fun d => nI (sCn (pCO g 0 (nI d) 0) n) - nI (sCn (pCO g 0 (nI d) 1) n)) (fun d => sLast (pLU g (nI d) 100000) n)) (sDig (fun i => dCnt (nI i) (nI (sPres (g 9) 6)) (sSi (g 10) 4) (g 3 2) (g 4 1) (nI (sCn (pCO g 5 1 0) n))) 17 5) i)), (3, .int (nI i))] [] := by
          intro fu2
          induction fu2 with
          | zero => intro i hfu2 h1; exfalso; omega
          | succ fu2 ih2 =>
            intro i hfu2 h1
            refine jr_iload_n cx dX6_digest_32 2 rfl rfl ?_
            refine jr_aload_n cx dX6_digest_33 0 rfl rfl ?_
            refine jr_get (f := 2) (v := .ref (E.1 3)) cx dX6_digest_34 (by decide) rfl rfl hinX6 (by decide) mf_26 rfl ?_
            refine jr_vi [] 0 cx dX6_digest_37 (c_X0_size E g h ) (by decide) rfl rfl gX6_digest_X0_size rfl (by decide +kernel) ⟨Nat.le_of_ble_eq_true rfl, Nat.le_of_ble_eq_true rfl⟩ rfl rfl (Nat.le_of_ble_eq_true rfl) ?_
            refine jr_top hsb ?_
            refine jr_icmp_ge (tgt := 79) cx dX6_digest_40 (by decide) (fun c40 => ?_) (fun c40 => ?_)
            · have n40 : nb ≤ i := (nI_leI (a := nb) (b := i) (by omega) (by omega)).mp c40
              refine jr_iconst (v := 0) cx dX6_digest_79 (by decide) ?_
              refine jr_istore_n (L' := [(3, .int 0), (0, .ref (E.1 0)), (1, .long (dgB (fun b i => dTold nb (nI b) (nI i) (g 11) (g 12) (fun d => nI (sCn (pCO g 0 (nI d) 0) n)) (fun d => nI (sCn (pCO g 0 (nI d) 0) n) - nI (sCn (pCO g 0 (nI d) 1) n)) (fun d => sLast (pLU g (nI d) 100000) n)) (sDig (fun i => dCnt (nI i) (nI (sPres (g 9) 6)) (sSi (g 10) 4) (g 3 2) (g 4 1) (nI (sCn (pCO g 5 1 0) n))) 17 5) i))]) cx dX6_digest_80 rfl (by decide) rfl ?_
              have key3 : ∀ (fu3 : Nat) (i : Nat), n + 1 ≤ i + fu3 → (i ≤ n) → JJ E X g h 81 [(0, .ref (E.1 0)), (1, .long (dgC (fun c i => g (53 + c) i) (fun c => g (53 + c) 7) (dgB (fun b i => dTold nb (nI b) (nI i) (g 11) (g 12) (fun d => nI (sCn (pCO g 0 (nI d) 0) n)) (fun d => nI (sCn (pCO g 0 (nI d) 0) n) - nI (sCn (pCO g 0 (nI d) 1) n)) (fun d => sLast (pLU g (nI d) 100000) n)) (sDig (fun i => dCnt (nI i) (nI (sPres (g 9) 6)) (sSi (g 10) 4) (g 3 2) (g 4 1) (nI (sCn (pCO g 5 1 0) n))) 17 5) nb) i)), (3, .int (nI i))] [] := by
                intro fu3
                induction fu3 with
                | zero => intro i hfu3 h1; exfalso; omega
                | succ fu3 ih3 =>
                  intro i hfu3 h1
                  refine jr_iload_n cx dX6_digest_81 2 rfl rfl ?_
                  refine jr_aload_n cx dX6_digest_82 0 rfl rfl ?_
                  refine jr_get (f := 3) (v := .ref (E.1 4)) cx dX6_digest_83 (by decide) rfl rfl hinX6 (by decide) mf_33 rfl ?_
                  refine jr_vi [] 0 cx dX6_digest_86 (c_X1_size E g h ) (by decide) rfl rfl gX6_digest_X1_size rfl (by decide +kernel) ⟨Nat.le_of_ble_eq_true rfl, Nat.le_of_ble_eq_true rfl⟩ rfl rfl (Nat.le_of_ble_eq_true rfl) ?_
                  refine jr_top hs ?_
                  refine jr_icmp_ge (tgt := 150) cx dX6_digest_89 (by decide) (fun c89 => ?_) (fun c89 => ?_)
                  · have n89 : n ≤ i := (nI_leI (a := n) (b := i) (by omega) (by omega)).mp c89
                    refine jr_iconst (v := 0) cx dX6_digest_150 (by decide) ?_
                    refine jr_istore_n (L' := [(3, .int 0), (0, .ref (E.1 0)), (1, .long (dgC (fun c i => g (53 + c) i) (fun c => g (53 + c) 7) (dgB (fun b i => dTold nb (nI b) (nI i) (g 11) (g 12) (fun d => nI (sCn (pCO g 0 (nI d) 0) n)) (fun d => nI (sCn (pCO g 0 (nI d) 0) n) - nI (sCn (pCO g 0 (nI d) 1) n)) (fun d => sLast (pLU g (nI d) 100000) n)) (sDig (fun i => dCnt (nI i) (nI (sPres (g 9) 6)) (sSi (g 10) 4) (g 3 2) (g 4 1) (nI (sCn (pCO g 5 1 0) n))) 17 5) nb) i))]) cx dX6_digest_151 rfl (by decide) rfl ?_
                    have key4 : ∀ (fu4 : Nat) (i : Nat), 6 + 1 ≤ i + fu4 → (i ≤ 6) → JJ E X g h 152 [(0, .ref (E.1 0)), (1, .long (dgR (g 9) (fun r i => g (39 + r) i) (dgC (fun c i => g (53 + c) i) (fun c => g (53 + c) 7) (dgB (fun b i => dTold nb (nI b) (nI i) (g 11) (g 12) (fun d => nI (sCn (pCO g 0 (nI d) 0) n)) (fun d => nI (sCn (pCO g 0 (nI d) 0) n) - nI (sCn (pCO g 0 (nI d) 1) n)) (fun d => sLast (pLU g (nI d) 100000) n)) (sDig (fun i => dCnt (nI i) (nI (sPres (g 9) 6)) (sSi (g 10) 4) (g 3 2) (g 4 1) (nI (sCn (pCO g 5 1 0) n))) 17 5) nb) n) i)), (3, .int (nI i))] [] := by
                      intro fu4
                      induction fu4 with
                      | zero => intro i hfu4 h1; exfalso; omega
                      | succ fu4 ih4 =>
                        intro i hfu4 h1
                        refine jr_iload_n cx dX6_digest_152 2 rfl rfl ?_
                        refine jr_bipush (v := 6) cx dX6_digest_153 (by decide) ?_
                        refine jr_icmp_ge (tgt := 174) cx dX6_digest_155 (by decide) (fun c155 => ?_) (fun c155 => ?_)
                        · have n155 : 6 ≤ i := (nI_leI (a := 6) (b := i) (by omega) (by omega)).mp c155
                          refine jr_lload_n cx dX6_digest_174 1 rfl rfl ?_
                          exact jr_rl (by rw [show i = 6 by omega]) (by rfl) (by rfl) (hR 175 _ dX6_digest_175)
                        · have n155 : ¬ (6 ≤ i) := fun qq9 => c155 ((nI_leI (a := 6) (b := i) (by omega) (by omega)).mpr qq9)
                          refine jr_aload_n cx dX6_digest_158 0 rfl rfl ?_
                          refine jr_get (f := 0) (v := .ref (E.1 1)) cx dX6_digest_159 (by decide) rfl rfl hinX6 (by decide) mf_10 rfl ?_
                          refine jr_lload_n cx dX6_digest_162 1 rfl rfl ?_
                          refine jr_iload_n cx dX6_digest_163 2 rfl rfl ?_
                          rcases hsz i (by omega) with hm | ⟨z, hz, hm⟩
                          · refine jr_vl [.long (dgR (g 9) (fun r i => g (39 + r) i) (dgC (fun c i => g (53 + c) i) (fun c => g (53 + c) 7) (dgB (fun b i => dTold nb (nI b) (nI i) (g 11) (g 12) (fun d => nI (sCn (pCO g 0 (nI d) 0) n)) (fun d => nI (sCn (pCO g 0 (nI d) 0) n) - nI (sCn (pCO g 0 (nI d) 1) n)) (fun d => sLast (pLU g (nI d) 100000) n)) (sDig (fun i => dCnt (nI i) (nI (sPres (g 9) 6)) (sSi (g 10) 4) (g 3 2) (g 4 1) (nI (sCn (pCO g 5 1 0) n))) 17 5) nb) n) i), .int (nI i)] 2 cx dX6_digest_164 (c_X4_digestOnM E g h (dgR (g 9) (fun r i => g (39 + r) i) (dgC (fun c i => g (53 + c) i) (fun c => g (53 + c) 7) (dgB (fun b i => dTold nb (nI b) (nI i) (g 11) (g 12) (fun d => nI (sCn (pCO g 0 (nI d) 0) n)) (fun d => nI (sCn (pCO g 0 (nI d) 0) n) - nI (sCn (pCO g 0 (nI d) 1) n)) (fun d => sLast (pLU g (nI d) 100000) n)) (sDig (fun i => dCnt (nI i) (nI (sPres (g 9) 6)) (sSi (g 10) 4) (g 3 2) (g 4 1) (nI (sCn (pCO g 5 1 0) n))) 17 5) nb) n) i) i (by omega) hm) (by decide) rfl rfl gX6_digest_X4_digestOn rfl (by decide +kernel) ⟨Nat.le_of_ble_eq_true rfl, Nat.le_of_ble_eq_true rfl⟩ rfl rfl (Nat.le_of_ble_eq_true rfl) ?_
                            refine jr_lstore_n (L' := [(1, .long (31 * (dgR (g 9) (fun r i => g (39 + r) i) (dgC (fun c i => g (53 + c) i) (fun c => g (53 + c) 7) (dgB (fun b i => dTold nb (nI b) (nI i) (g 11) (g 12) (fun d => nI (sCn (pCO g 0 (nI d) 0) n)) (fun d => nI (sCn (pCO g 0 (nI d) 0) n) - nI (sCn (pCO g 0 (nI d) 1) n)) (fun d => sLast (pLU g (nI d) 100000) n)) (sDig (fun i => dCnt (nI i) (nI (sPres (g 9) 6)) (sSi (g 10) 4) (g 3 2) (g 4 1) (nI (sCn (pCO g 5 1 0) n))) 17 5) nb) n) i) + Int32.toInt64 (-1))), (0, .ref (E.1 0)), (3, .int (nI i))]) cx dX6_digest_167 rfl (by decide) rfl ?_
                            refine jr_iinc (n := 2) (v := nI (i + 1)) (L' := [(3, .int (nI (i + 1))), (1, .long (31 * (dgR (g 9) (fun r i => g (39 + r) i) (dgC (fun c i => g (53 + c) i) (fun c => g (53 + c) 7) (dgB (fun b i => dTold nb (nI b) (nI i) (g 11) (g 12) (fun d => nI (sCn (pCO g 0 (nI d) 0) n)) (fun d => nI (sCn (pCO g 0 (nI d) 0) n) - nI (sCn (pCO g 0 (nI d) 1) n)) (fun d => sLast (pLU g (nI d) 100000) n)) (sDig (fun i => dCnt (nI i) (nI (sPres (g 9) 6)) (sSi (g 10) 4) (g 3 2) (g 4 1) (nI (sCn (pCO g 5 1 0) n))) 17 5) nb) n) i) + Int32.toInt64 (-1))), (0, .ref (E.1 0))]) cx dX6_digest_168 rfl (nI_1 _) (by decide) rfl ?_
                            refine jr_goto (tgt := 152) cx dX6_digest_171 (by decide) ?_
                            refine jr_pick (L' := [(0, .ref (E.1 0)), (1, .long (31 * (dgR (g 9) (fun r i => g (39 + r) i) (dgC (fun c i => g (53 + c) i) (fun c => g (53 + c) 7) (dgB (fun b i => dTold nb (nI b) (nI i) (g 11) (g 12) (fun d => nI (sCn (pCO g 0 (nI d) 0) n)) (fun d => nI (sCn (pCO g 0 (nI d) 0) n) - nI (sCn (pCO g 0 (nI d) 1) n)) (fun d => sLast (pLU g (nI d) 100000) n)) (sDig (fun i => dCnt (nI i) (nI (sPres (g 9) 6)) (sSi (g 10) 4) (g 3 2) (g 4 1) (nI (sCn (pCO g 5 1 0) n))) 17 5) nb) n) i) + Int32.toInt64 (-1))), (3, .int (nI (i + 1)))]) [2, 1, 0] rfl ?_
                            have e1 : (31 * (dgR (g 9) (fun r i => g (39 + r) i) (dgC (fun c i => g (53 + c) i) (fun c => g (53 + c) 7) (dgB (fun b i => dTold nb (nI b) (nI i) (g 11) (g 12) (fun d => nI (sCn (pCO g 0 (nI d) 0) n)) (fun d => nI (sCn (pCO g 0 (nI d) 0) n) - nI (sCn (pCO g 0 (nI d) 1) n)) (fun d => sLast (pLU g (nI d) 100000) n)) (sDig (fun i => dCnt (nI i) (nI (sPres (g 9) 6)) (sSi (g 10) 4) (g 3 2) (g 4 1) (nI (sCn (pCO g 5 1 0) n))) 17 5) nb) n) i) + Int32.toInt64 (-1) : Int64) = (dgR (g 9) (fun r i => g (39 + r) i) (dgC (fun c i => g (53 + c) i) (fun c => g (53 + c) 7) (dgB (fun b i => dTold nb (nI b) (nI i) (g 11) (g 12) (fun d => nI (sCn (pCO g 0 (nI d) 0) n)) (fun d => nI (sCn (pCO g 0 (nI d) 0) n) - nI (sCn (pCO g 0 (nI d) 1) n)) (fun d => sLast (pLU g (nI d) 100000) n)) (sDig (fun i => dCnt (nI i) (nI (sPres (g 9) 6)) (sSi (g 10) 4) (g 3 2) (g 4 1) (nI (sCn (pCO g 5 1 0) n))) 17 5) nb) n) (i + 1)) := by rw [dgR, hm, m1_cl]; rfl
                            refine jr_loc (lc_n (lc_l e1 (lc_n rfl))) ?_
                            exact ih4 (i + 1) (by omega) (by omega)
                          · refine jr_vl [.long (dgR (g 9) (fun r i => g (39 + r) i) (dgC (fun c i => g (53 + c) i) (fun c => g (53 + c) 7) (dgB (fun b i => dTold nb (nI b) (nI i) (g 11) (g 12) (fun d => nI (sCn (pCO g 0 (nI d) 0) n)) (fun d => nI (sCn (pCO g 0 (nI d) 0) n) - nI (sCn (pCO g 0 (nI d) 1) n)) (fun d => sLast (pLU g (nI d) 100000) n)) (sDig (fun i => dCnt (nI i) (nI (sPres (g 9) 6)) (sSi (g 10) 4) (g 3 2) (g 4 1) (nI (sCn (pCO g 5 1 0) n))) 17 5) nb) n) i), .int (nI i)] 2 cx dX6_digest_164 (c_X4_digestOn E g h (dgR (g 9) (fun r i => g (39 + r) i) (dgC (fun c i => g (53 + c) i) (fun c => g (53 + c) 7) (dgB (fun b i => dTold nb (nI b) (nI i) (g 11) (g 12) (fun d => nI (sCn (pCO g 0 (nI d) 0) n)) (fun d => nI (sCn (pCO g 0 (nI d) 0) n) - nI (sCn (pCO g 0 (nI d) 1) n)) (fun d => sLast (pLU g (nI d) 100000) n)) (sDig (fun i => dCnt (nI i) (nI (sPres (g 9) 6)) (sSi (g 10) 4) (g 3 2) (g 4 1) (nI (sCn (pCO g 5 1 0) n))) 17 5) nb) n) i) i (by omega) z hz hm) (by decide) rfl rfl gX6_digest_X4_digestOn rfl (by decide +kernel) ⟨Nat.le_of_ble_eq_true rfl, Nat.le_of_ble_eq_true rfl⟩ rfl rfl (Nat.le_of_ble_eq_true rfl) ?_
                            refine jr_lstore_n (L' := [(1, .long (sDig (g (39 + i)) (31 * (dgR (g 9) (fun r i => g (39 + r) i) (dgC (fun c i => g (53 + c) i) (fun c => g (53 + c) 7) (dgB (fun b i => dTold nb (nI b) (nI i) (g 11) (g 12) (fun d => nI (sCn (pCO g 0 (nI d) 0) n)) (fun d => nI (sCn (pCO g 0 (nI d) 0) n) - nI (sCn (pCO g 0 (nI d) 1) n)) (fun d => sLast (pLU g (nI d) 100000) n)) (sDig (fun i => dCnt (nI i) (nI (sPres (g 9) 6)) (sSi (g 10) 4) (g 3 2) (g 4 1) (nI (sCn (pCO g 5 1 0) n))) 17 5) nb) n) i) + Int32.toInt64 (nI z)) z)), (0, .ref (E.1 0)), (3, .int (nI i))]) cx dX6_digest_167 rfl (by decide) rfl ?_
                            refine jr_iinc (n := 2) (v := nI (i + 1)) (L' := [(3, .int (nI (i + 1))), (1, .long (sDig (g (39 + i)) (31 * (dgR (g 9) (fun r i => g (39 + r) i) (dgC (fun c i => g (53 + c) i) (fun c => g (53 + c) 7) (dgB (fun b i => dTold nb (nI b) (nI i) (g 11) (g 12) (fun d => nI (sCn (pCO g 0 (nI d) 0) n)) (fun d => nI (sCn (pCO g 0 (nI d) 0) n) - nI (sCn (pCO g 0 (nI d) 1) n)) (fun d => sLast (pLU g (nI d) 100000) n)) (sDig (fun i => dCnt (nI i) (nI (sPres (g 9) 6)) (sSi (g 10) 4) (g 3 2) (g 4 1) (nI (sCn (pCO g 5 1 0) n))) 17 5) nb) n) i) + Int32.toInt64 (nI z)) z)), (0, .ref (E.1 0))]) cx dX6_digest_168 rfl (nI_1 _) (by decide) rfl ?_
                            refine jr_goto (tgt := 152) cx dX6_digest_171 (by decide) ?_
                            refine jr_pick (L' := [(0, .ref (E.1 0)), (1, .long (sDig (g (39 + i)) (31 * (dgR (g 9) (fun r i => g (39 + r) i) (dgC (fun c i => g (53 + c) i) (fun c => g (53 + c) 7) (dgB (fun b i => dTold nb (nI b) (nI i) (g 11) (g 12) (fun d => nI (sCn (pCO g 0 (nI d) 0) n)) (fun d => nI (sCn (pCO g 0 (nI d) 0) n) - nI (sCn (pCO g 0 (nI d) 1) n)) (fun d => sLast (pLU g (nI d) 100000) n)) (sDig (fun i => dCnt (nI i) (nI (sPres (g 9) 6)) (sSi (g 10) 4) (g 3 2) (g 4 1) (nI (sCn (pCO g 5 1 0) n))) 17 5) nb) n) i) + Int32.toInt64 (nI z)) z)), (3, .int (nI (i + 1)))]) [2, 1, 0] rfl ?_
                            have e1 : (sDig (g (39 + i)) (31 * (dgR (g 9) (fun r i => g (39 + r) i) (dgC (fun c i => g (53 + c) i) (fun c => g (53 + c) 7) (dgB (fun b i => dTold nb (nI b) (nI i) (g 11) (g 12) (fun d => nI (sCn (pCO g 0 (nI d) 0) n)) (fun d => nI (sCn (pCO g 0 (nI d) 0) n) - nI (sCn (pCO g 0 (nI d) 1) n)) (fun d => sLast (pLU g (nI d) 100000) n)) (sDig (fun i => dCnt (nI i) (nI (sPres (g 9) 6)) (sSi (g 10) 4) (g 3 2) (g 4 1) (nI (sCn (pCO g 5 1 0) n))) 17 5) nb) n) i) + Int32.toInt64 (nI z)) z : Int64) = (dgR (g 9) (fun r i => g (39 + r) i) (dgC (fun c i => g (53 + c) i) (fun c => g (53 + c) 7) (dgB (fun b i => dTold nb (nI b) (nI i) (g 11) (g 12) (fun d => nI (sCn (pCO g 0 (nI d) 0) n)) (fun d => nI (sCn (pCO g 0 (nI d) 0) n) - nI (sCn (pCO g 0 (nI d) 1) n)) (fun d => sLast (pLU g (nI d) 100000) n)) (sDig (fun i => dCnt (nI i) (nI (sPres (g 9) 6)) (sSi (g 10) 4) (g 3 2) (g 4 1) (nI (sCn (pCO g 5 1 0) n))) 17 5) nb) n) (i + 1)) := by rw [dgR, hm, cl_nI (by omega)]
                            refine jr_loc (lc_n (lc_l e1 (lc_n rfl))) ?_
                            exact ih4 (i + 1) (by omega) (by omega)
                    refine jr_pick (L' := [(0, .ref (E.1 0)), (1, .long (dgC (fun c i => g (53 + c) i) (fun c => g (53 + c) 7) (dgB (fun b i => dTold nb (nI b) (nI i) (g 11) (g 12) (fun d => nI (sCn (pCO g 0 (nI d) 0) n)) (fun d => nI (sCn (pCO g 0 (nI d) 0) n) - nI (sCn (pCO g 0 (nI d) 1) n)) (fun d => sLast (pLU g (nI d) 100000) n)) (sDig (fun i => dCnt (nI i) (nI (sPres (g 9) 6)) (sSi (g 10) 4) (g 3 2) (g 4 1) (nI (sCn (pCO g 5 1 0) n))) 17 5) nb) i)), (3, .int 0)]) [1, 2, 0] rfl ?_
                    have e1 : (dgC (fun c i => g (53 + c) i) (fun c => g (53 + c) 7) (dgB (fun b i => dTold nb (nI b) (nI i) (g 11) (g 12) (fun d => nI (sCn (pCO g 0 (nI d) 0) n)) (fun d => nI (sCn (pCO g 0 (nI d) 0) n) - nI (sCn (pCO g 0 (nI d) 1) n)) (fun d => sLast (pLU g (nI d) 100000) n)) (sDig (fun i => dCnt (nI i) (nI (sPres (g 9) 6)) (sSi (g 10) 4) (g 3 2) (g 4 1) (nI (sCn (pCO g 5 1 0) n))) 17 5) nb) i : Int64) = (dgR (g 9) (fun r i => g (39 + r) i) (dgC (fun c i => g (53 + c) i) (fun c => g (53 + c) 7) (dgB (fun b i => dTold nb (nI b) (nI i) (g 11) (g 12) (fun d => nI (sCn (pCO g 0 (nI d) 0) n)) (fun d => nI (sCn (pCO g 0 (nI d) 0) n) - nI (sCn (pCO g 0 (nI d) 1) n)) (fun d => sLast (pLU g (nI d) 100000) n)) (sDig (fun i => dCnt (nI i) (nI (sPres (g 9) 6)) (sSi (g 10) 4) (g 3 2) (g 4 1) (nI (sCn (pCO g 5 1 0) n))) 17 5) nb) n) 0) := by rw [show i = n by omega]; rfl
                    have e3 : (0 : Int32) = (nI 0) := by rfl
                    refine jr_loc (lc_n (lc_l e1 (lc_i e3 rfl))) ?_
                    exact key4 (6 + 1) 0 (by omega) (by omega)
                  · have n89 : ¬ (n ≤ i) := fun qq9 => c89 ((nI_leI (a := n) (b := i) (by omega) (by omega)).mpr qq9)
                    refine jr_iconst (v := 0) cx dX6_digest_92 (by decide) ?_
                    refine jr_istore (L' := [(4, .int 0), (0, .ref (E.1 0)), (1, .long (dgC (fun c i => g (53 + c) i) (fun c => g (53 + c) 7) (dgB (fun b i => dTold nb (nI b) (nI i) (g 11) (g 12) (fun d => nI (sCn (pCO g 0 (nI d) 0) n)) (fun d => nI (sCn (pCO g 0 (nI d) 0) n) - nI (sCn (pCO g 0 (nI d) 1) n)) (fun d => sLast (pLU g (nI d) 100000) n)) (sDig (fun i => dCnt (nI i) (nI (sPres (g 9) 6)) (sSi (g 10) 4) (g 3 2) (g 4 1) (nI (sCn (pCO g 5 1 0) n))) 17 5) nb) i)), (3, .int (nI i))]) cx dX6_digest_93 (by decide) rfl ?_
                    have key5 : ∀ (fu5 : Nat) (k : Nat), 8 ≤ k + fu5 → (k ≤ 7) → JJ E X g h 95 [(0, .ref (E.1 0)), (1, .long (sDig (g (53 + i)) (dgC (fun c i => g (53 + c) i) (fun c => g (53 + c) 7) (dgB (fun b i => dTold nb (nI b) (nI i) (g 11) (g 12) (fun d => nI (sCn (pCO g 0 (nI d) 0) n)) (fun d => nI (sCn (pCO g 0 (nI d) 0) n) - nI (sCn (pCO g 0 (nI d) 1) n)) (fun d => sLast (pLU g (nI d) 100000) n)) (sDig (fun i => dCnt (nI i) (nI (sPres (g 9) 6)) (sSi (g 10) 4) (g 3 2) (g 4 1) (nI (sCn (pCO g 5 1 0) n))) 17 5) nb) i) k)), (3, .int (nI i)), (4, .int (nI k))] [] := by
                      intro fu5
                      induction fu5 with
                      | zero => intro k hfu5 h2; exfalso; omega
                      | succ fu5 ih5 =>
                        intro k hfu5 h2
                        refine jr_iload cx dX6_digest_95 3 rfl ?_
                        refine jr_bipush (v := 7) cx dX6_digest_97 (by decide) ?_
                        refine jr_icmp_ge (tgt := 126) cx dX6_digest_99 (by decide) (fun c99 => ?_) (fun c99 => ?_)
                        · have n99 : 7 ≤ k := (nI_leI (a := 7) (b := k) (by omega) (by omega)).mp c99
                          refine jr_ldc2 cx dX6_digest_126 mc_271 ?_
                          refine jr_lload_n cx dX6_digest_129 1 rfl rfl ?_
                          refine jr_lmul cx dX6_digest_130 ?_
                          refine jr_aload_n cx dX6_digest_131 0 rfl rfl ?_
                          refine jr_get (f := 3) (v := .ref (E.1 4)) cx dX6_digest_132 (by decide) rfl rfl hinX6 (by decide) mf_33 rfl ?_
                          refine jr_iload_n cx dX6_digest_135 2 rfl rfl ?_
                          refine jr_bipush (v := 7) cx dX6_digest_136 (by decide) ?_
                          refine jr_vi [.int (nI i), .int 7] 2 cx dX6_digest_138 (c_X1_fact E g h i 7 (by omega) (by omega)) (by decide) rfl rfl gX6_digest_X1_fact rfl (by decide +kernel) ⟨Nat.le_of_ble_eq_true rfl, Nat.le_of_ble_eq_true rfl⟩ rfl rfl (Nat.le_of_ble_eq_true rfl) ?_
                          refine jr_i2l cx dX6_digest_141 ?_
                          refine jr_ladd cx dX6_digest_142 ?_
                          refine jr_lstore_n (L' := [(1, .long ((31 * (sDig (g (53 + i)) (dgC (fun c i => g (53 + c) i) (fun c => g (53 + c) 7) (dgB (fun b i => dTold nb (nI b) (nI i) (g 11) (g 12) (fun d => nI (sCn (pCO g 0 (nI d) 0) n)) (fun d => nI (sCn (pCO g 0 (nI d) 0) n) - nI (sCn (pCO g 0 (nI d) 1) n)) (fun d => sLast (pLU g (nI d) 100000) n)) (sDig (fun i => dCnt (nI i) (nI (sPres (g 9) 6)) (sSi (g 10) 4) (g 3 2) (g 4 1) (nI (sCn (pCO g 5 1 0) n))) 17 5) nb) i) k)) + (Int32.toInt64 (g (53 + i) 7)))), (0, .ref (E.1 0)), (3, .int (nI i)), (4, .int (nI k))]) cx dX6_digest_143 rfl (by decide) rfl ?_
                          refine jr_iinc (n := 2) (v := nI (i + 1)) (L' := [(3, .int (nI (i + 1))), (1, .long ((31 * (sDig (g (53 + i)) (dgC (fun c i => g (53 + c) i) (fun c => g (53 + c) 7) (dgB (fun b i => dTold nb (nI b) (nI i) (g 11) (g 12) (fun d => nI (sCn (pCO g 0 (nI d) 0) n)) (fun d => nI (sCn (pCO g 0 (nI d) 0) n) - nI (sCn (pCO g 0 (nI d) 1) n)) (fun d => sLast (pLU g (nI d) 100000) n)) (sDig (fun i => dCnt (nI i) (nI (sPres (g 9) 6)) (sSi (g 10) 4) (g 3 2) (g 4 1) (nI (sCn (pCO g 5 1 0) n))) 17 5) nb) i) k)) + (Int32.toInt64 (g (53 + i) 7)))), (0, .ref (E.1 0)), (4, .int (nI k))]) cx dX6_digest_144 rfl (nI_1 _) (by decide) rfl ?_
                          refine jr_goto (tgt := 81) cx dX6_digest_147 (by decide) ?_
                          refine jr_pick (L' := [(0, .ref (E.1 0)), (1, .long ((31 * (sDig (g (53 + i)) (dgC (fun c i => g (53 + c) i) (fun c => g (53 + c) 7) (dgB (fun b i => dTold nb (nI b) (nI i) (g 11) (g 12) (fun d => nI (sCn (pCO g 0 (nI d) 0) n)) (fun d => nI (sCn (pCO g 0 (nI d) 0) n) - nI (sCn (pCO g 0 (nI d) 1) n)) (fun d => sLast (pLU g (nI d) 100000) n)) (sDig (fun i => dCnt (nI i) (nI (sPres (g 9) 6)) (sSi (g 10) 4) (g 3 2) (g 4 1) (nI (sCn (pCO g 5 1 0) n))) 17 5) nb) i) k)) + (Int32.toInt64 (g (53 + i) 7)))), (3, .int (nI (i + 1)))]) [2, 1, 0] rfl ?_
                          have e1 : ((31 * (sDig (g (53 + i)) (dgC (fun c i => g (53 + c) i) (fun c => g (53 + c) 7) (dgB (fun b i => dTold nb (nI b) (nI i) (g 11) (g 12) (fun d => nI (sCn (pCO g 0 (nI d) 0) n)) (fun d => nI (sCn (pCO g 0 (nI d) 0) n) - nI (sCn (pCO g 0 (nI d) 1) n)) (fun d => sLast (pLU g (nI d) 100000) n)) (sDig (fun i => dCnt (nI i) (nI (sPres (g 9) 6)) (sSi (g 10) 4) (g 3 2) (g 4 1) (nI (sCn (pCO g 5 1 0) n))) 17 5) nb) i) k)) + (Int32.toInt64 (g (53 + i) 7)) : Int64) = (dgC (fun c i => g (53 + c) i) (fun c => g (53 + c) 7) (dgB (fun b i => dTold nb (nI b) (nI i) (g 11) (g 12) (fun d => nI (sCn (pCO g 0 (nI d) 0) n)) (fun d => nI (sCn (pCO g 0 (nI d) 0) n) - nI (sCn (pCO g 0 (nI d) 1) n)) (fun d => sLast (pLU g (nI d) 100000) n)) (sDig (fun i => dCnt (nI i) (nI (sPres (g 9) 6)) (sSi (g 10) 4) (g 3 2) (g 4 1) (nI (sCn (pCO g 5 1 0) n))) 17 5) nb) (i + 1)) := by rw [show k = 7 by omega]; rfl
                          refine jr_loc (lc_n (lc_l e1 (lc_n rfl))) ?_
                          exact ih3 (i + 1) (by omega) (by omega)
                        · have n99 : ¬ (7 ≤ k) := fun qq9 => c99 ((nI_leI (a := 7) (b := k) (by omega) (by omega)).mpr qq9)
                          refine jr_ldc2 cx dX6_digest_102 mc_271 ?_
                          refine jr_lload_n cx dX6_digest_105 1 rfl rfl ?_
                          refine jr_lmul cx dX6_digest_106 ?_
                          refine jr_aload_n cx dX6_digest_107 0 rfl rfl ?_
                          refine jr_get (f := 3) (v := .ref (E.1 4)) cx dX6_digest_108 (by decide) rfl rfl hinX6 (by decide) mf_33 rfl ?_
                          refine jr_iload_n cx dX6_digest_111 2 rfl rfl ?_
                          refine jr_iload cx dX6_digest_112 3 rfl ?_
                          refine jr_vi [.int (nI i), .int (nI k)] 2 cx dX6_digest_114 (c_X1_fact E g h i k (by omega) (by omega)) (by decide) rfl rfl gX6_digest_X1_fact rfl (by decide +kernel) ⟨Nat.le_of_ble_eq_true rfl, Nat.le_of_ble_eq_true rfl⟩ rfl rfl (Nat.le_of_ble_eq_true rfl) ?_
                          refine jr_i2l cx dX6_digest_117 ?_
                          refine jr_ladd cx dX6_digest_118 ?_
                          refine jr_lstore_n (L' := [(1, .long ((31 * (sDig (g (53 + i)) (dgC (fun c i => g (53 + c) i) (fun c => g (53 + c) 7) (dgB (fun b i => dTold nb (nI b) (nI i) (g 11) (g 12) (fun d => nI (sCn (pCO g 0 (nI d) 0) n)) (fun d => nI (sCn (pCO g 0 (nI d) 0) n) - nI (sCn (pCO g 0 (nI d) 1) n)) (fun d => sLast (pLU g (nI d) 100000) n)) (sDig (fun i => dCnt (nI i) (nI (sPres (g 9) 6)) (sSi (g 10) 4) (g 3 2) (g 4 1) (nI (sCn (pCO g 5 1 0) n))) 17 5) nb) i) k)) + (Int32.toInt64 (g (53 + i) k)))), (0, .ref (E.1 0)), (3, .int (nI i)), (4, .int (nI k))]) cx dX6_digest_119 rfl (by decide) rfl ?_
                          refine jr_iinc (n := 3) (v := nI (k + 1)) (L' := [(4, .int (nI (k + 1))), (1, .long ((31 * (sDig (g (53 + i)) (dgC (fun c i => g (53 + c) i) (fun c => g (53 + c) 7) (dgB (fun b i => dTold nb (nI b) (nI i) (g 11) (g 12) (fun d => nI (sCn (pCO g 0 (nI d) 0) n)) (fun d => nI (sCn (pCO g 0 (nI d) 0) n) - nI (sCn (pCO g 0 (nI d) 1) n)) (fun d => sLast (pLU g (nI d) 100000) n)) (sDig (fun i => dCnt (nI i) (nI (sPres (g 9) 6)) (sSi (g 10) 4) (g 3 2) (g 4 1) (nI (sCn (pCO g 5 1 0) n))) 17 5) nb) i) k)) + (Int32.toInt64 (g (53 + i) k)))), (0, .ref (E.1 0)), (3, .int (nI i))]) cx dX6_digest_120 rfl (nI_1 _) (by decide) rfl ?_
                          refine jr_goto (tgt := 95) cx dX6_digest_123 (by decide) ?_
                          refine jr_pick (L' := [(0, .ref (E.1 0)), (1, .long ((31 * (sDig (g (53 + i)) (dgC (fun c i => g (53 + c) i) (fun c => g (53 + c) 7) (dgB (fun b i => dTold nb (nI b) (nI i) (g 11) (g 12) (fun d => nI (sCn (pCO g 0 (nI d) 0) n)) (fun d => nI (sCn (pCO g 0 (nI d) 0) n) - nI (sCn (pCO g 0 (nI d) 1) n)) (fun d => sLast (pLU g (nI d) 100000) n)) (sDig (fun i => dCnt (nI i) (nI (sPres (g 9) 6)) (sSi (g 10) 4) (g 3 2) (g 4 1) (nI (sCn (pCO g 5 1 0) n))) 17 5) nb) i) k)) + (Int32.toInt64 (g (53 + i) k)))), (3, .int (nI i)), (4, .int (nI (k + 1)))]) [2, 1, 3, 0] rfl ?_
                          have e1 : ((31 * (sDig (g (53 + i)) (dgC (fun c i => g (53 + c) i) (fun c => g (53 + c) 7) (dgB (fun b i => dTold nb (nI b) (nI i) (g 11) (g 12) (fun d => nI (sCn (pCO g 0 (nI d) 0) n)) (fun d => nI (sCn (pCO g 0 (nI d) 0) n) - nI (sCn (pCO g 0 (nI d) 1) n)) (fun d => sLast (pLU g (nI d) 100000) n)) (sDig (fun i => dCnt (nI i) (nI (sPres (g 9) 6)) (sSi (g 10) 4) (g 3 2) (g 4 1) (nI (sCn (pCO g 5 1 0) n))) 17 5) nb) i) k)) + (Int32.toInt64 (g (53 + i) k)) : Int64) = (sDig (g (53 + i)) (dgC (fun c i => g (53 + c) i) (fun c => g (53 + c) 7) (dgB (fun b i => dTold nb (nI b) (nI i) (g 11) (g 12) (fun d => nI (sCn (pCO g 0 (nI d) 0) n)) (fun d => nI (sCn (pCO g 0 (nI d) 0) n) - nI (sCn (pCO g 0 (nI d) 1) n)) (fun d => sLast (pLU g (nI d) 100000) n)) (sDig (fun i => dCnt (nI i) (nI (sPres (g 9) 6)) (sSi (g 10) 4) (g 3 2) (g 4 1) (nI (sCn (pCO g 5 1 0) n))) 17 5) nb) i) (k + 1)) := by rfl
                          refine jr_loc (lc_n (lc_l e1 (lc_n (lc_n rfl)))) ?_
                          exact ih5 (k + 1) (by omega) (by omega)
                    refine jr_pick (L' := [(0, .ref (E.1 0)), (1, .long (dgC (fun c i => g (53 + c) i) (fun c => g (53 + c) 7) (dgB (fun b i => dTold nb (nI b) (nI i) (g 11) (g 12) (fun d => nI (sCn (pCO g 0 (nI d) 0) n)) (fun d => nI (sCn (pCO g 0 (nI d) 0) n) - nI (sCn (pCO g 0 (nI d) 1) n)) (fun d => sLast (pLU g (nI d) 100000) n)) (sDig (fun i => dCnt (nI i) (nI (sPres (g 9) 6)) (sSi (g 10) 4) (g 3 2) (g 4 1) (nI (sCn (pCO g 5 1 0) n))) 17 5) nb) i)), (3, .int (nI i)), (4, .int 0)]) [1, 2, 3, 0] rfl ?_
                    have e1 : (dgC (fun c i => g (53 + c) i) (fun c => g (53 + c) 7) (dgB (fun b i => dTold nb (nI b) (nI i) (g 11) (g 12) (fun d => nI (sCn (pCO g 0 (nI d) 0) n)) (fun d => nI (sCn (pCO g 0 (nI d) 0) n) - nI (sCn (pCO g 0 (nI d) 1) n)) (fun d => sLast (pLU g (nI d) 100000) n)) (sDig (fun i => dCnt (nI i) (nI (sPres (g 9) 6)) (sSi (g 10) 4) (g 3 2) (g 4 1) (nI (sCn (pCO g 5 1 0) n))) 17 5) nb) i : Int64) = (sDig (g (53 + i)) (dgC (fun c i => g (53 + c) i) (fun c => g (53 + c) 7) (dgB (fun b i => dTold nb (nI b) (nI i) (g 11) (g 12) (fun d => nI (sCn (pCO g 0 (nI d) 0) n)) (fun d => nI (sCn (pCO g 0 (nI d) 0) n) - nI (sCn (pCO g 0 (nI d) 1) n)) (fun d => sLast (pLU g (nI d) 100000) n)) (sDig (fun i => dCnt (nI i) (nI (sPres (g 9) 6)) (sSi (g 10) 4) (g 3 2) (g 4 1) (nI (sCn (pCO g 5 1 0) n))) 17 5) nb) i) 0) := by rfl
                    have e4 : (0 : Int32) = (nI 0) := by rfl
                    refine jr_loc (lc_n (lc_l e1 (lc_n (lc_i e4 rfl)))) ?_
                    exact key5 (8) 0 (by omega) (by omega)
              refine jr_pick (L' := [(0, .ref (E.1 0)), (1, .long (dgB (fun b i => dTold nb (nI b) (nI i) (g 11) (g 12) (fun d => nI (sCn (pCO g 0 (nI d) 0) n)) (fun d => nI (sCn (pCO g 0 (nI d) 0) n) - nI (sCn (pCO g 0 (nI d) 1) n)) (fun d => sLast (pLU g (nI d) 100000) n)) (sDig (fun i => dCnt (nI i) (nI (sPres (g 9) 6)) (sSi (g 10) 4) (g 3 2) (g 4 1) (nI (sCn (pCO g 5 1 0) n))) 17 5) i)), (3, .int 0)]) [1, 2, 0] rfl ?_
              have e1 : (dgB (fun b i => dTold nb (nI b) (nI i) (g 11) (g 12) (fun d => nI (sCn (pCO g 0 (nI d) 0) n)) (fun d => nI (sCn (pCO g 0 (nI d) 0) n) - nI (sCn (pCO g 0 (nI d) 1) n)) (fun d => sLast (pLU g (nI d) 100000) n)) (sDig (fun i => dCnt (nI i) (nI (sPres (g 9) 6)) (sSi (g 10) 4) (g 3 2) (g 4 1) (nI (sCn (pCO g 5 1 0) n))) 17 5) i : Int64) = (dgC (fun c i => g (53 + c) i) (fun c => g (53 + c) 7) (dgB (fun b i => dTold nb (nI b) (nI i) (g 11) (g 12) (fun d => nI (sCn (pCO g 0 (nI d) 0) n)) (fun d => nI (sCn (pCO g 0 (nI d) 0) n) - nI (sCn (pCO g 0 (nI d) 1) n)) (fun d => sLast (pLU g (nI d) 100000) n)) (sDig (fun i => dCnt (nI i) (nI (sPres (g 9) 6)) (sSi (g 10) 4) (g 3 2) (g 4 1) (nI (sCn (pCO g 5 1 0) n))) 17 5) nb) 0) := by rw [show i = nb by omega]; rfl
              have e3 : (0 : Int32) = (nI 0) := by rfl
              refine jr_loc (lc_n (lc_l e1 (lc_i e3 rfl))) ?_
              exact key3 (n + 1) 0 (by omega) (by omega)
            · have n40 : ¬ (nb ≤ i) := fun qq9 => c40 ((nI_leI (a := nb) (b := i) (by omega) (by omega)).mpr qq9)
              refine jr_iconst (v := 0) cx dX6_digest_43 (by decide) ?_
              refine jr_istore (L' := [(4, .int 0), (0, .ref (E.1 0)), (1, .long (dgB (fun b i => dTold nb (nI b) (nI i) (g 11) (g 12) (fun d => nI (sCn (pCO g 0 (nI d) 0) n)) (fun d => nI (sCn (pCO g 0 (nI d) 0) n) - nI (sCn (pCO g 0 (nI d) 1) n)) (fun d => sLast (pLU g (nI d) 100000) n)) (sDig (fun i => dCnt (nI i) (nI (sPres (g 9) 6)) (sSi (g 10) 4) (g 3 2) (g 4 1) (nI (sCn (pCO g 5 1 0) n))) 17 5) i)), (3, .int (nI i))]) cx dX6_digest_44 (by decide) rfl ?_
              have key6 : ∀ (fu6 : Nat) (k : Nat), 6 ≤ k + fu6 → (k ≤ 5) → JJ E X g h 46 [(0, .ref (E.1 0)), (1, .long (sDig ((fun b i => dTold nb (nI b) (nI i) (g 11) (g 12) (fun d => nI (sCn (pCO g 0 (nI d) 0) n)) (fun d => nI (sCn (pCO g 0 (nI d) 0) n) - nI (sCn (pCO g 0 (nI d) 1) n)) (fun d => sLast (pLU g (nI d) 100000) n)) i) (dgB (fun b i => dTold nb (nI b) (nI i) (g 11) (g 12) (fun d => nI (sCn (pCO g 0 (nI d) 0) n)) (fun d => nI (sCn (pCO g 0 (nI d) 0) n) - nI (sCn (pCO g 0 (nI d) 1) n)) (fun d => sLast (pLU g (nI d) 100000) n)) (sDig (fun i => dCnt (nI i) (nI (sPres (g 9) 6)) (sSi (g 10) 4) (g 3 2) (g 4 1) (nI (sCn (pCO g 5 1 0) n))) 17 5) i) k)), (3, .int (nI i)), (4, .int (nI k))] [] := by
                intro fu6
                induction fu6 with
                | zero => intro k hfu6 h2; exfalso; omega
                | succ fu6 ih6 =>
                  intro k hfu6 h2
                  refine jr_iload cx dX6_digest_46 3 rfl ?_
                  refine jr_iconst (v := 5) cx dX6_digest_48 (by decide) ?_
                  refine jr_icmp_ge (tgt := 73) cx dX6_digest_49 (by decide) (fun c49 => ?_) (fun c49 => ?_)
                  · have n49 : 5 ≤ k := (nI_leI (a := 5) (b := k) (by omega) (by omega)).mp c49
                    refine jr_iinc (n := 2) (v := nI (i + 1)) (L' := [(3, .int (nI (i + 1))), (0, .ref (E.1 0)), (1, .long (sDig ((fun b i => dTold nb (nI b) (nI i) (g 11) (g 12) (fun d => nI (sCn (pCO g 0 (nI d) 0) n)) (fun d => nI (sCn (pCO g 0 (nI d) 0) n) - nI (sCn (pCO g 0 (nI d) 1) n)) (fun d => sLast (pLU g (nI d) 100000) n)) i) (dgB (fun b i => dTold nb (nI b) (nI i) (g 11) (g 12) (fun d => nI (sCn (pCO g 0 (nI d) 0) n)) (fun d => nI (sCn (pCO g 0 (nI d) 0) n) - nI (sCn (pCO g 0 (nI d) 1) n)) (fun d => sLast (pLU g (nI d) 100000) n)) (sDig (fun i => dCnt (nI i) (nI (sPres (g 9) 6)) (sSi (g 10) 4) (g 3 2) (g 4 1) (nI (sCn (pCO g 5 1 0) n))) 17 5) i) k)), (4, .int (nI k))]) cx dX6_digest_73 rfl (nI_1 _) (by decide) rfl ?_
                    refine jr_goto (tgt := 32) cx dX6_digest_76 (by decide) ?_
                    refine jr_pick (L' := [(0, .ref (E.1 0)), (1, .long (sDig ((fun b i => dTold nb (nI b) (nI i) (g 11) (g 12) (fun d => nI (sCn (pCO g 0 (nI d) 0) n)) (fun d => nI (sCn (pCO g 0 (nI d) 0) n) - nI (sCn (pCO g 0 (nI d) 1) n)) (fun d => sLast (pLU g (nI d) 100000) n)) i) (dgB (fun b i => dTold nb (nI b) (nI i) (g 11) (g 12) (fun d => nI (sCn (pCO g 0 (nI d) 0) n)) (fun d => nI (sCn (pCO g 0 (nI d) 0) n) - nI (sCn (pCO g 0 (nI d) 1) n)) (fun d => sLast (pLU g (nI d) 100000) n)) (sDig (fun i => dCnt (nI i) (nI (sPres (g 9) 6)) (sSi (g 10) 4) (g 3 2) (g 4 1) (nI (sCn (pCO g 5 1 0) n))) 17 5) i) k)), (3, .int (nI (i + 1)))]) [1, 2, 0] rfl ?_
                    have e1 : (sDig ((fun b i => dTold nb (nI b) (nI i) (g 11) (g 12) (fun d => nI (sCn (pCO g 0 (nI d) 0) n)) (fun d => nI (sCn (pCO g 0 (nI d) 0) n) - nI (sCn (pCO g 0 (nI d) 1) n)) (fun d => sLast (pLU g (nI d) 100000) n)) i) (dgB (fun b i => dTold nb (nI b) (nI i) (g 11) (g 12) (fun d => nI (sCn (pCO g 0 (nI d) 0) n)) (fun d => nI (sCn (pCO g 0 (nI d) 0) n) - nI (sCn (pCO g 0 (nI d) 1) n)) (fun d => sLast (pLU g (nI d) 100000) n)) (sDig (fun i => dCnt (nI i) (nI (sPres (g 9) 6)) (sSi (g 10) 4) (g 3 2) (g 4 1) (nI (sCn (pCO g 5 1 0) n))) 17 5) i) k : Int64) = (dgB (fun b i => dTold nb (nI b) (nI i) (g 11) (g 12) (fun d => nI (sCn (pCO g 0 (nI d) 0) n)) (fun d => nI (sCn (pCO g 0 (nI d) 0) n) - nI (sCn (pCO g 0 (nI d) 1) n)) (fun d => sLast (pLU g (nI d) 100000) n)) (sDig (fun i => dCnt (nI i) (nI (sPres (g 9) 6)) (sSi (g 10) 4) (g 3 2) (g 4 1) (nI (sCn (pCO g 5 1 0) n))) 17 5) (i + 1)) := by rw [show k = 5 by omega]; rfl
                    refine jr_loc (lc_n (lc_l e1 (lc_n rfl))) ?_
                    exact ih2 (i + 1) (by omega) (by omega)
                  · have n49 : ¬ (5 ≤ k) := fun qq9 => c49 ((nI_leI (a := 5) (b := k) (by omega) (by omega)).mpr qq9)
                    refine jr_ldc2 cx dX6_digest_52 mc_271 ?_
                    refine jr_lload_n cx dX6_digest_55 1 rfl rfl ?_
                    refine jr_lmul cx dX6_digest_56 ?_
                    refine jr_aload_n cx dX6_digest_57 0 rfl rfl ?_
                    refine jr_iload_n cx dX6_digest_58 2 rfl rfl ?_
                    refine jr_iload cx dX6_digest_59 3 rfl ?_
                    refine jr_vi [.int (nI i), .int (nI k)] 2 cx dX6_digest_61 (c_X6_told E g h (nI i) (nI k) nb hnb hsb n hn hs) (by decide) rfl rfl gX6_digest_X6_told rfl (by decide +kernel) ⟨Nat.le_of_ble_eq_true rfl, Nat.le_of_ble_eq_true rfl⟩ rfl rfl (Nat.le_of_ble_eq_true rfl) ?_
                    refine jr_i2l cx dX6_digest_64 ?_
                    refine jr_ladd cx dX6_digest_65 ?_
                    refine jr_lstore_n (L' := [(1, .long ((31 * (sDig ((fun b i => dTold nb (nI b) (nI i) (g 11) (g 12) (fun d => nI (sCn (pCO g 0 (nI d) 0) n)) (fun d => nI (sCn (pCO g 0 (nI d) 0) n) - nI (sCn (pCO g 0 (nI d) 1) n)) (fun d => sLast (pLU g (nI d) 100000) n)) i) (dgB (fun b i => dTold nb (nI b) (nI i) (g 11) (g 12) (fun d => nI (sCn (pCO g 0 (nI d) 0) n)) (fun d => nI (sCn (pCO g 0 (nI d) 0) n) - nI (sCn (pCO g 0 (nI d) 1) n)) (fun d => sLast (pLU g (nI d) 100000) n)) (sDig (fun i => dCnt (nI i) (nI (sPres (g 9) 6)) (sSi (g 10) 4) (g 3 2) (g 4 1) (nI (sCn (pCO g 5 1 0) n))) 17 5) i) k)) + (Int32.toInt64 (dTold nb (nI i) (nI k) (g 11) (g 12) (fun d => nI (sCn (pCO g 0 (nI d) 0) n)) (fun d => nI (sCn (pCO g 0 (nI d) 0) n) - nI (sCn (pCO g 0 (nI d) 1) n)) (fun d => sLast (pLU g (nI d) 100000) n))))), (0, .ref (E.1 0)), (3, .int (nI i)), (4, .int (nI k))]) cx dX6_digest_66 rfl (by decide) rfl ?_
                    refine jr_iinc (n := 3) (v := nI (k + 1)) (L' := [(4, .int (nI (k + 1))), (1, .long ((31 * (sDig ((fun b i => dTold nb (nI b) (nI i) (g 11) (g 12) (fun d => nI (sCn (pCO g 0 (nI d) 0) n)) (fun d => nI (sCn (pCO g 0 (nI d) 0) n) - nI (sCn (pCO g 0 (nI d) 1) n)) (fun d => sLast (pLU g (nI d) 100000) n)) i) (dgB (fun b i => dTold nb (nI b) (nI i) (g 11) (g 12) (fun d => nI (sCn (pCO g 0 (nI d) 0) n)) (fun d => nI (sCn (pCO g 0 (nI d) 0) n) - nI (sCn (pCO g 0 (nI d) 1) n)) (fun d => sLast (pLU g (nI d) 100000) n)) (sDig (fun i => dCnt (nI i) (nI (sPres (g 9) 6)) (sSi (g 10) 4) (g 3 2) (g 4 1) (nI (sCn (pCO g 5 1 0) n))) 17 5) i) k)) + (Int32.toInt64 (dTold nb (nI i) (nI k) (g 11) (g 12) (fun d => nI (sCn (pCO g 0 (nI d) 0) n)) (fun d => nI (sCn (pCO g 0 (nI d) 0) n) - nI (sCn (pCO g 0 (nI d) 1) n)) (fun d => sLast (pLU g (nI d) 100000) n))))), (0, .ref (E.1 0)), (3, .int (nI i))]) cx dX6_digest_67 rfl (nI_1 _) (by decide) rfl ?_
                    refine jr_goto (tgt := 46) cx dX6_digest_70 (by decide) ?_
                    refine jr_pick (L' := [(0, .ref (E.1 0)), (1, .long ((31 * (sDig ((fun b i => dTold nb (nI b) (nI i) (g 11) (g 12) (fun d => nI (sCn (pCO g 0 (nI d) 0) n)) (fun d => nI (sCn (pCO g 0 (nI d) 0) n) - nI (sCn (pCO g 0 (nI d) 1) n)) (fun d => sLast (pLU g (nI d) 100000) n)) i) (dgB (fun b i => dTold nb (nI b) (nI i) (g 11) (g 12) (fun d => nI (sCn (pCO g 0 (nI d) 0) n)) (fun d => nI (sCn (pCO g 0 (nI d) 0) n) - nI (sCn (pCO g 0 (nI d) 1) n)) (fun d => sLast (pLU g (nI d) 100000) n)) (sDig (fun i => dCnt (nI i) (nI (sPres (g 9) 6)) (sSi (g 10) 4) (g 3 2) (g 4 1) (nI (sCn (pCO g 5 1 0) n))) 17 5) i) k)) + (Int32.toInt64 (dTold nb (nI i) (nI k) (g 11) (g 12) (fun d => nI (sCn (pCO g 0 (nI d) 0) n)) (fun d => nI (sCn (pCO g 0 (nI d) 0) n) - nI (sCn (pCO g 0 (nI d) 1) n)) (fun d => sLast (pLU g (nI d) 100000) n))))), (3, .int (nI i)), (4, .int (nI (k + 1)))]) [2, 1, 3, 0] rfl ?_
                    have e1 : ((31 * (sDig ((fun b i => dTold nb (nI b) (nI i) (g 11) (g 12) (fun d => nI (sCn (pCO g 0 (nI d) 0) n)) (fun d => nI (sCn (pCO g 0 (nI d) 0) n) - nI (sCn (pCO g 0 (nI d) 1) n)) (fun d => sLast (pLU g (nI d) 100000) n)) i) (dgB (fun b i => dTold nb (nI b) (nI i) (g 11) (g 12) (fun d => nI (sCn (pCO g 0 (nI d) 0) n)) (fun d => nI (sCn (pCO g 0 (nI d) 0) n) - nI (sCn (pCO g 0 (nI d) 1) n)) (fun d => sLast (pLU g (nI d) 100000) n)) (sDig (fun i => dCnt (nI i) (nI (sPres (g 9) 6)) (sSi (g 10) 4) (g 3 2) (g 4 1) (nI (sCn (pCO g 5 1 0) n))) 17 5) i) k)) + (Int32.toInt64 (dTold nb (nI i) (nI k) (g 11) (g 12) (fun d => nI (sCn (pCO g 0 (nI d) 0) n)) (fun d => nI (sCn (pCO g 0 (nI d) 0) n) - nI (sCn (pCO g 0 (nI d) 1) n)) (fun d => sLast (pLU g (nI d) 100000) n))) : Int64) = (sDig ((fun b i => dTold nb (nI b) (nI i) (g 11) (g 12) (fun d => nI (sCn (pCO g 0 (nI d) 0) n)) (fun d => nI (sCn (pCO g 0 (nI d) 0) n) - nI (sCn (pCO g 0 (nI d) 1) n)) (fun d => sLast (pLU g (nI d) 100000) n)) i) (dgB (fun b i => dTold nb (nI b) (nI i) (g 11) (g 12) (fun d => nI (sCn (pCO g 0 (nI d) 0) n)) (fun d => nI (sCn (pCO g 0 (nI d) 0) n) - nI (sCn (pCO g 0 (nI d) 1) n)) (fun d => sLast (pLU g (nI d) 100000) n)) (sDig (fun i => dCnt (nI i) (nI (sPres (g 9) 6)) (sSi (g 10) 4) (g 3 2) (g 4 1) (nI (sCn (pCO g 5 1 0) n))) 17 5) i) (k + 1)) := by rfl
                    refine jr_loc (lc_n (lc_l e1 (lc_n (lc_n rfl)))) ?_
                    exact ih6 (k + 1) (by omega) (by omega)
              refine jr_pick (L' := [(0, .ref (E.1 0)), (1, .long (dgB (fun b i => dTold nb (nI b) (nI i) (g 11) (g 12) (fun d => nI (sCn (pCO g 0 (nI d) 0) n)) (fun d => nI (sCn (pCO g 0 (nI d) 0) n) - nI (sCn (pCO g 0 (nI d) 1) n)) (fun d => sLast (pLU g (nI d) 100000) n)) (sDig (fun i => dCnt (nI i) (nI (sPres (g 9) 6)) (sSi (g 10) 4) (g 3 2) (g 4 1) (nI (sCn (pCO g 5 1 0) n))) 17 5) i)), (3, .int (nI i)), (4, .int 0)]) [1, 2, 3, 0] rfl ?_
              have e1 : (dgB (fun b i => dTold nb (nI b) (nI i) (g 11) (g 12) (fun d => nI (sCn (pCO g 0 (nI d) 0) n)) (fun d => nI (sCn (pCO g 0 (nI d) 0) n) - nI (sCn (pCO g 0 (nI d) 1) n)) (fun d => sLast (pLU g (nI d) 100000) n)) (sDig (fun i => dCnt (nI i) (nI (sPres (g 9) 6)) (sSi (g 10) 4) (g 3 2) (g 4 1) (nI (sCn (pCO g 5 1 0) n))) 17 5) i : Int64) = (sDig ((fun b i => dTold nb (nI b) (nI i) (g 11) (g 12) (fun d => nI (sCn (pCO g 0 (nI d) 0) n)) (fun d => nI (sCn (pCO g 0 (nI d) 0) n) - nI (sCn (pCO g 0 (nI d) 1) n)) (fun d => sLast (pLU g (nI d) 100000) n)) i) (dgB (fun b i => dTold nb (nI b) (nI i) (g 11) (g 12) (fun d => nI (sCn (pCO g 0 (nI d) 0) n)) (fun d => nI (sCn (pCO g 0 (nI d) 0) n) - nI (sCn (pCO g 0 (nI d) 1) n)) (fun d => sLast (pLU g (nI d) 100000) n)) (sDig (fun i => dCnt (nI i) (nI (sPres (g 9) 6)) (sSi (g 10) 4) (g 3 2) (g 4 1) (nI (sCn (pCO g 5 1 0) n))) 17 5) i) 0) := by rfl
              have e4 : (0 : Int32) = (nI 0) := by rfl
              refine jr_loc (lc_n (lc_l e1 (lc_n (lc_i e4 rfl)))) ?_
              exact key6 (6) 0 (by omega) (by omega)
        refine jr_pick (L' := [(0, .ref (E.1 0)), (1, .long (sDig (fun i => dCnt (nI i) (nI (sPres (g 9) 6)) (sSi (g 10) 4) (g 3 2) (g 4 1) (nI (sCn (pCO g 5 1 0) n))) 17 i)), (3, .int 0)]) [1, 2, 0] rfl ?_
        have e1 : (sDig (fun i => dCnt (nI i) (nI (sPres (g 9) 6)) (sSi (g 10) 4) (g 3 2) (g 4 1) (nI (sCn (pCO g 5 1 0) n))) 17 i : Int64) = (dgB (fun b i => dTold nb (nI b) (nI i) (g 11) (g 12) (fun d => nI (sCn (pCO g 0 (nI d) 0) n)) (fun d => nI (sCn (pCO g 0 (nI d) 0) n) - nI (sCn (pCO g 0 (nI d) 1) n)) (fun d => sLast (pLU g (nI d) 100000) n)) (sDig (fun i => dCnt (nI i) (nI (sPres (g 9) 6)) (sSi (g 10) 4) (g 3 2) (g 4 1) (nI (sCn (pCO g 5 1 0) n))) 17 5) 0) := by rw [show i = 5 by omega]; rfl
        have e3 : (0 : Int32) = (nI 0) := by rfl
        refine jr_loc (lc_n (lc_l e1 (lc_i e3 rfl))) ?_
        exact key2 (nb + 1) 0 (by omega) (by omega)
      · have n8 : ¬ (5 ≤ i) := fun qq9 => c8 ((nI_leI (a := 5) (b := i) (by omega) (by omega)).mpr qq9)
        refine jr_ldc2 cx dX6_digest_11 mc_271 ?_
        refine jr_lload_n cx dX6_digest_14 1 rfl rfl ?_
        refine jr_lmul cx dX6_digest_15 ?_
        refine jr_aload_n cx dX6_digest_16 0 rfl rfl ?_
        refine jr_iload_n cx dX6_digest_17 2 rfl rfl ?_
        refine jr_vi [.int (nI i)] 1 cx dX6_digest_18 (c_X6_count E g h (nI i) n hn hs) (by decide) rfl rfl gX6_digest_X6_count rfl (by decide +kernel) ⟨Nat.le_of_ble_eq_true rfl, Nat.le_of_ble_eq_true rfl⟩ rfl rfl (Nat.le_of_ble_eq_true rfl) ?_
        refine jr_i2l cx dX6_digest_21 ?_
        refine jr_ladd cx dX6_digest_22 ?_
        refine jr_lstore_n (L' := [(1, .long ((31 * (sDig (fun i => dCnt (nI i) (nI (sPres (g 9) 6)) (sSi (g 10) 4) (g 3 2) (g 4 1) (nI (sCn (pCO g 5 1 0) n))) 17 i)) + (Int32.toInt64 (dCnt (nI i) (nI (sPres (g 9) 6)) (sSi (g 10) 4) (g 3 2) (g 4 1) (nI (sCn (pCO g 5 1 0) n)))))), (0, .ref (E.1 0)), (3, .int (nI i))]) cx dX6_digest_23 rfl (by decide) rfl ?_
        refine jr_iinc (n := 2) (v := nI (i + 1)) (L' := [(3, .int (nI (i + 1))), (1, .long ((31 * (sDig (fun i => dCnt (nI i) (nI (sPres (g 9) 6)) (sSi (g 10) 4) (g 3 2) (g 4 1) (nI (sCn (pCO g 5 1 0) n))) 17 i)) + (Int32.toInt64 (dCnt (nI i) (nI (sPres (g 9) 6)) (sSi (g 10) 4) (g 3 2) (g 4 1) (nI (sCn (pCO g 5 1 0) n)))))), (0, .ref (E.1 0))]) cx dX6_digest_24 rfl (nI_1 _) (by decide) rfl ?_
        refine jr_goto (tgt := 6) cx dX6_digest_27 (by decide) ?_
        refine jr_pick (L' := [(0, .ref (E.1 0)), (1, .long ((31 * (sDig (fun i => dCnt (nI i) (nI (sPres (g 9) 6)) (sSi (g 10) 4) (g 3 2) (g 4 1) (nI (sCn (pCO g 5 1 0) n))) 17 i)) + (Int32.toInt64 (dCnt (nI i) (nI (sPres (g 9) 6)) (sSi (g 10) 4) (g 3 2) (g 4 1) (nI (sCn (pCO g 5 1 0) n)))))), (3, .int (nI (i + 1)))]) [2, 1, 0] rfl ?_
        have e1 : ((31 * (sDig (fun i => dCnt (nI i) (nI (sPres (g 9) 6)) (sSi (g 10) 4) (g 3 2) (g 4 1) (nI (sCn (pCO g 5 1 0) n))) 17 i)) + (Int32.toInt64 (dCnt (nI i) (nI (sPres (g 9) 6)) (sSi (g 10) 4) (g 3 2) (g 4 1) (nI (sCn (pCO g 5 1 0) n)))) : Int64) = (sDig (fun i => dCnt (nI i) (nI (sPres (g 9) 6)) (sSi (g 10) 4) (g 3 2) (g 4 1) (nI (sCn (pCO g 5 1 0) n))) 17 (i + 1)) := by rfl
        refine jr_loc (lc_n (lc_l e1 (lc_n rfl))) ?_
        exact ih1 (i + 1) (by omega) (by omega)
  refine jr_pick (L' := [(0, .ref (E.1 0)), (1, .long 17), (3, .int 0)]) [2, 1, 0] rfl ?_
  have e1 : (17 : Int64) = (sDig (fun i => dCnt (nI i) (nI (sPres (g 9) 6)) (sSi (g 10) 4) (g 3 2) (g 4 1) (nI (sCn (pCO g 5 1 0) n))) 17 0) := by rfl
  have e3 : (0 : Int32) = (nI 0) := by rfl
  refine jr_loc (lc_n (lc_l e1 (lc_i e3 rfl))) ?_
  exact key1 (5 + 1) 0 (by omega) (by omega)
set_option maxHeartbeats 4000000 in
set_option maxRecDepth 100000 in
theorem c_X7_digest (E : mm_E) (g : mm_I) (h : mm_L) (nb : Nat) (hnb : nb ≤ 16) (hsb : g 7 13 = nI nb) (n : Nat) (hn : n ≤ 40) (hs : g 7 16 = nI n) (hsz : ∀ j, j < 6 → g 14 j < 0 ∨ ∃ n, n ≤ 40 ∧ g 14 j = nI n) : Cl E yX7_digest wsX7_digest 3 71 [.ref (E.1 7)] g h (dgR (fun r => if g 14 r < 0 then -1 else g 14 r) (fun r i => g 15 (40 * r + i)) (dgC (fM g) (g 26) (dgB (fun b i => dTl (nI i) (g 20 b) (g 21 b) (nI (sCn (pOf g (nI b)) n)) (nI (sCn (pOv g (nI b)) n)) (sLast (pLM g (nI b) 100000) n)) (sDig (fun i => dTc (nI i) (nI (sPrM (g 14) 6)) (sSi (g 17) 4) (g 7 13) (g 7 16) (nI (sCn (pV g) n))) 17 5) nb) n) 6) g h := by
  refine ci_l (bytes := cX7_digest) (maxL := 5) (by decide) rfl (Nat.le_of_ble_eq_true rfl) (fun X cx hR => ?_)
  change Cx E X cX7_digest RX7 wsX7_digest 5 3 71 at cx
  change JJ E X g h 0 [(0, .ref (E.1 7))] []
  have hinX7 : ∀ w ∈ u_ws RX7 TX7 30, w ∈ wsX7_digest := by decide +kernel
  have mc_211 : Cond.constantLong RX7 211 17 ∈ wsX7_digest := by decide +kernel
  have mf_144 : Cond.fieldLink RX7 144 (TX7 13).1 (TX7 13).2.1 (TX7 13).2.2.1 ∈ wsX7_digest := by decide +kernel
  have mf_147 : Cond.fieldLink RX7 147 (TX7 16).1 (TX7 16).2.1 (TX7 16).2.2.1 ∈ wsX7_digest := by decide +kernel
  have mc_213 : Cond.constantLong RX7 213 31 ∈ wsX7_digest := by decide +kernel
  have mf_17 : Cond.fieldLink RX7 17 (TX7 5).1 (TX7 5).2.1 (TX7 5).2.2.1 ∈ wsX7_digest := by decide +kernel
  have mf_20 : Cond.fieldLink RX7 20 (TX7 6).1 (TX7 6).2.1 (TX7 6).2.2.1 ∈ wsX7_digest := by decide +kernel
  have mf_53 : Cond.fieldLink RX7 53 (TX7 21).1 (TX7 21).2.1 (TX7 21).2.2.1 ∈ wsX7_digest := by decide +kernel
  refine jr_ldc2 cx dX7_digest_0 mc_211 ?_
  refine jr_lstore_n (L' := [(1, .long 17), (0, .ref (E.1 7))]) cx dX7_digest_3 rfl (by decide) rfl ?_
  refine jr_iconst (v := 0) cx dX7_digest_4 (by decide) ?_
  refine jr_istore_n (L' := [(3, .int 0), (1, .long 17), (0, .ref (E.1 7))]) cx dX7_digest_5 rfl (by decide) rfl ?_
  have key1 : ∀ (fu1 : Nat) (i : Nat), 5 + 1 ≤ i + fu1 → (i ≤ 5) → JJ E X g h 6 [(0, .ref (E.1 7)), (1, .long (sDig (fun i => dTc (nI i) (nI (sPrM (g 14) 6)) (sSi (g 17) 4) (g 7 13) (g 7 16) (nI (sCn (pV g) n))) 17 i)), (3, .int (nI i))] [] := by
    intro fu1
    induction fu1 with
    | zero => intro i hfu1 h1; exfalso; omega
    | succ fu1 ih1 =>
      intro i hfu1 h1
      refine jr_iload_n cx dX7_digest_6 2 rfl rfl ?_
      refine jr_iconst (v := 4) cx dX7_digest_7 (by decide) ?_
      refine jr_icmp_gt (tgt := 30) cx dX7_digest_8 (by decide) (fun c8 => ?_) (fun c8 => ?_)
      · have n8 : 4 < i := (nI_ltI (a := 4) (b := i) (by omega) (by omega)).mp c8
        refine jr_iconst (v := 0) cx dX7_digest_30 (by decide) ?_
        refine jr_istore_n (L' := [(3, .int 0), (0, .ref (E.1 7)), (1, .long (sDig (fun i => dTc (nI i) (nI (sPrM (g 14) 6)) (sSi (g 17) 4) (g 7 13) (g 7 16) (nI (sCn (pV g) n))) 17 i))]) cx dX7_digest_31 rfl (by decide) rfl ?_
        have key2 : ∀ (fu2 : Nat) (i : Nat), nb + 1 ≤ i + fu2 → (i ≤ nb) → JJ E X g h 32 [(0, .ref (E.1 7)), (1, .long (dgB (fun b i => dTl (nI i) (g 20 b) (g 21 b) (nI (sCn (pOf g (nI b)) n)) (nI (sCn (pOv g (nI b)) n)) (sLast (pLM g (nI b) 100000) n)) (sDig (fun i => dTc (nI i) (nI (sPrM (g 14) 6)) (sSi (g 17) 4) (g 7 13) (g 7 16) (nI (sCn (pV g) n))) 17 5) i)), (3, .int (nI i))] [] := by
          intro fu2
          induction fu2 with
          | zero => intro i hfu2 h1; exfalso; omega
          | succ fu2 ih2 =>
            intro i hfu2 h1
            refine jr_iload_n cx dX7_digest_32 2 rfl rfl ?_
            refine jr_aload_n cx dX7_digest_33 0 rfl rfl ?_
            refine jr_get (f := 13) (v := .int (g 7 13)) cx dX7_digest_34 (by decide) rfl rfl hinX7 (by decide) mf_144 rfl ?_
            refine jr_top hsb ?_
            refine jr_icmp_ge (tgt := 76) cx dX7_digest_37 (by decide) (fun c37 => ?_) (fun c37 => ?_)
            · have n37 : nb ≤ i := (nI_leI (a := nb) (b := i) (by omega) (by omega)).mp c37
              refine jr_iconst (v := 0) cx dX7_digest_76 (by decide) ?_
              refine jr_istore_n (L' := [(3, .int 0), (0, .ref (E.1 7)), (1, .long (dgB (fun b i => dTl (nI i) (g 20 b) (g 21 b) (nI (sCn (pOf g (nI b)) n)) (nI (sCn (pOv g (nI b)) n)) (sLast (pLM g (nI b) 100000) n)) (sDig (fun i => dTc (nI i) (nI (sPrM (g 14) 6)) (sSi (g 17) 4) (g 7 13) (g 7 16) (nI (sCn (pV g) n))) 17 5) i))]) cx dX7_digest_77 rfl (by decide) rfl ?_
              have key3 : ∀ (fu3 : Nat) (i : Nat), n + 1 ≤ i + fu3 → (i ≤ n) → JJ E X g h 78 [(0, .ref (E.1 7)), (1, .long (dgC (fM g) (g 26) (dgB (fun b i => dTl (nI i) (g 20 b) (g 21 b) (nI (sCn (pOf g (nI b)) n)) (nI (sCn (pOv g (nI b)) n)) (sLast (pLM g (nI b) 100000) n)) (sDig (fun i => dTc (nI i) (nI (sPrM (g 14) 6)) (sSi (g 17) 4) (g 7 13) (g 7 16) (nI (sCn (pV g) n))) 17 5) nb) i)), (3, .int (nI i))] [] := by
                intro fu3
                induction fu3 with
                | zero => intro i hfu3 h1; exfalso; omega
                | succ fu3 ih3 =>
                  intro i hfu3 h1
                  refine jr_iload_n cx dX7_digest_78 2 rfl rfl ?_
                  refine jr_aload_n cx dX7_digest_79 0 rfl rfl ?_
                  refine jr_get (f := 16) (v := .int (g 7 16)) cx dX7_digest_80 (by decide) rfl rfl hinX7 (by decide) mf_147 rfl ?_
                  refine jr_top hs ?_
                  refine jr_icmp_ge (tgt := 137) cx dX7_digest_83 (by decide) (fun c83 => ?_) (fun c83 => ?_)
                  · have n83 : n ≤ i := (nI_leI (a := n) (b := i) (by omega) (by omega)).mp c83
                    refine jr_iconst (v := 0) cx dX7_digest_137 (by decide) ?_
                    refine jr_istore_n (L' := [(3, .int 0), (0, .ref (E.1 7)), (1, .long (dgC (fM g) (g 26) (dgB (fun b i => dTl (nI i) (g 20 b) (g 21 b) (nI (sCn (pOf g (nI b)) n)) (nI (sCn (pOv g (nI b)) n)) (sLast (pLM g (nI b) 100000) n)) (sDig (fun i => dTc (nI i) (nI (sPrM (g 14) 6)) (sSi (g 17) 4) (g 7 13) (g 7 16) (nI (sCn (pV g) n))) 17 5) nb) i))]) cx dX7_digest_138 rfl (by decide) rfl ?_
                    have key4 : ∀ (fu4 : Nat) (i : Nat), 6 + 1 ≤ i + fu4 → (i ≤ 6) → JJ E X g h 139 [(0, .ref (E.1 7)), (1, .long (dgR (fun r => if g 14 r < 0 then -1 else g 14 r) (fun r i => g 15 (40 * r + i)) (dgC (fM g) (g 26) (dgB (fun b i => dTl (nI i) (g 20 b) (g 21 b) (nI (sCn (pOf g (nI b)) n)) (nI (sCn (pOv g (nI b)) n)) (sLast (pLM g (nI b) 100000) n)) (sDig (fun i => dTc (nI i) (nI (sPrM (g 14) 6)) (sSi (g 17) 4) (g 7 13) (g 7 16) (nI (sCn (pV g) n))) 17 5) nb) n) i)), (3, .int (nI i))] [] := by
                      intro fu4
                      induction fu4 with
                      | zero => intro i hfu4 h1; exfalso; omega
                      | succ fu4 ih4 =>
                        intro i hfu4 h1
                        refine jr_iload_n cx dX7_digest_139 2 rfl rfl ?_
                        refine jr_bipush (v := 6) cx dX7_digest_140 (by decide) ?_
                        refine jr_icmp_ge (tgt := 218) cx dX7_digest_142 (by decide) (fun c142 => ?_) (fun c142 => ?_)
                        · have n142 : 6 ≤ i := (nI_leI (a := 6) (b := i) (by omega) (by omega)).mp c142
                          refine jr_lload_n cx dX7_digest_218 1 rfl rfl ?_
                          exact jr_rl (by rw [show i = 6 by omega]) (by rfl) (by rfl) (hR 219 _ dX7_digest_219)
                        · have n142 : ¬ (6 ≤ i) := fun qq9 => c142 ((nI_leI (a := 6) (b := i) (by omega) (by omega)).mpr qq9)
                          rcases hsz i (by omega) with hm | ⟨z, hz, hm⟩
                          · refine jr_ldc2 cx dX7_digest_145 mc_213 ?_
                            refine jr_lload_n cx dX7_digest_148 1 rfl rfl ?_
                            refine jr_lmul cx dX7_digest_149 ?_
                            refine jr_aload_n cx dX7_digest_150 0 rfl rfl ?_
                            refine jr_get (f := 5) (v := .ref (E.1 14)) cx dX7_digest_151 (by decide) rfl rfl hinX7 (by decide) mf_17 rfl ?_
                            refine jr_iload_n cx dX7_digest_154 2 rfl rfl ?_
                            refine jr_iald cx dX7_digest_155 (Or.inl ⟨by decide, by decide⟩) i rfl (show _ < 6 by omega) ?_
                            refine jr_if_ge (tgt := 163) cx dX7_digest_156 (by decide) (fun c156 => ?_) (fun c156 => ?_)
                            · exact absurd hm (Int32.not_lt.mpr c156)
                            · refine jr_iconst (v := (-1)) cx dX7_digest_159 (by decide) ?_
                              refine jr_goto (tgt := 169) cx dX7_digest_160 (by decide) ?_
                              refine jr_i2l cx dX7_digest_169 ?_
                              refine jr_ladd cx dX7_digest_170 ?_
                              refine jr_lstore_n (L' := [(1, .long ((31 * (dgR (fun r => if g 14 r < 0 then -1 else g 14 r) (fun r i => g 15 (40 * r + i)) (dgC (fM g) (g 26) (dgB (fun b i => dTl (nI i) (g 20 b) (g 21 b) (nI (sCn (pOf g (nI b)) n)) (nI (sCn (pOv g (nI b)) n)) (sLast (pLM g (nI b) 100000) n)) (sDig (fun i => dTc (nI i) (nI (sPrM (g 14) 6)) (sSi (g 17) 4) (g 7 13) (g 7 16) (nI (sCn (pV g) n))) 17 5) nb) n) i)) + (Int32.toInt64 (-1)))), (0, .ref (E.1 7)), (3, .int (nI i))]) cx dX7_digest_171 rfl (by decide) rfl ?_
                              refine jr_iconst (v := 0) cx dX7_digest_172 (by decide) ?_
                              refine jr_istore (L' := [(4, .int 0), (1, .long ((31 * (dgR (fun r => if g 14 r < 0 then -1 else g 14 r) (fun r i => g 15 (40 * r + i)) (dgC (fM g) (g 26) (dgB (fun b i => dTl (nI i) (g 20 b) (g 21 b) (nI (sCn (pOf g (nI b)) n)) (nI (sCn (pOv g (nI b)) n)) (sLast (pLM g (nI b) 100000) n)) (sDig (fun i => dTc (nI i) (nI (sPrM (g 14) 6)) (sSi (g 17) 4) (g 7 13) (g 7 16) (nI (sCn (pV g) n))) 17 5) nb) n) i)) + (Int32.toInt64 (-1)))), (0, .ref (E.1 7)), (3, .int (nI i))]) cx dX7_digest_173 (by decide) rfl ?_
                              refine jr_iload cx dX7_digest_175 0 rfl ?_
                              refine jr_aload_n cx dX7_digest_177 2 rfl rfl ?_
                              refine jr_get (f := 5) (v := .ref (E.1 14)) cx dX7_digest_178 (by decide) rfl rfl hinX7 (by decide) mf_17 rfl ?_
                              refine jr_iload_n cx dX7_digest_181 3 rfl rfl ?_
                              refine jr_iald cx dX7_digest_182 (Or.inl ⟨by decide, by decide⟩) i rfl (show _ < 6 by omega) ?_
                              refine jr_icmp_ge (tgt := 212) cx dX7_digest_183 (by decide) (fun c183 => ?_) (fun c183 => ?_)
                              · refine jr_iinc (n := 3) (v := nI (i + 1)) (L' := [(3, .int (nI (i + 1))), (4, .int 0), (1, .long ((31 * (dgR (fun r => if g 14 r < 0 then -1 else g 14 r) (fun r i => g 15 (40 * r + i)) (dgC (fM g) (g 26) (dgB (fun b i => dTl (nI i) (g 20 b) (g 21 b) (nI (sCn (pOf g (nI b)) n)) (nI (sCn (pOv g (nI b)) n)) (sLast (pLM g (nI b) 100000) n)) (sDig (fun i => dTc (nI i) (nI (sPrM (g 14) 6)) (sSi (g 17) 4) (g 7 13) (g 7 16) (nI (sCn (pV g) n))) 17 5) nb) n) i)) + (Int32.toInt64 (-1)))), (0, .ref (E.1 7))]) cx dX7_digest_212 rfl (nI_1 _) (by decide) rfl ?_
                                refine jr_goto (tgt := 139) cx dX7_digest_215 (by decide) ?_
                                refine jr_pick (L' := [(0, .ref (E.1 7)), (1, .long ((31 * (dgR (fun r => if g 14 r < 0 then -1 else g 14 r) (fun r i => g 15 (40 * r + i)) (dgC (fM g) (g 26) (dgB (fun b i => dTl (nI i) (g 20 b) (g 21 b) (nI (sCn (pOf g (nI b)) n)) (nI (sCn (pOv g (nI b)) n)) (sLast (pLM g (nI b) 100000) n)) (sDig (fun i => dTc (nI i) (nI (sPrM (g 14) 6)) (sSi (g 17) 4) (g 7 13) (g 7 16) (nI (sCn (pV g) n))) 17 5) nb) n) i)) + (Int32.toInt64 (-1)))), (3, .int (nI (i + 1)))]) [3, 2, 0] rfl ?_
                                have e1 : ((31 * (dgR (fun r => if g 14 r < 0 then -1 else g 14 r) (fun r i => g 15 (40 * r + i)) (dgC (fM g) (g 26) (dgB (fun b i => dTl (nI i) (g 20 b) (g 21 b) (nI (sCn (pOf g (nI b)) n)) (nI (sCn (pOv g (nI b)) n)) (sLast (pLM g (nI b) 100000) n)) (sDig (fun i => dTc (nI i) (nI (sPrM (g 14) 6)) (sSi (g 17) 4) (g 7 13) (g 7 16) (nI (sCn (pV g) n))) 17 5) nb) n) i)) + (Int32.toInt64 (-1)) : Int64) = (dgR (fun r => if g 14 r < 0 then -1 else g 14 r) (fun r i => g 15 (40 * r + i)) (dgC (fM g) (g 26) (dgB (fun b i => dTl (nI i) (g 20 b) (g 21 b) (nI (sCn (pOf g (nI b)) n)) (nI (sCn (pOv g (nI b)) n)) (sLast (pLM g (nI b) 100000) n)) (sDig (fun i => dTc (nI i) (nI (sPrM (g 14) 6)) (sSi (g 17) 4) (g 7 13) (g 7 16) (nI (sCn (pV g) n))) 17 5) nb) n) (i + 1)) := by rw [dgR, if_pos hm, m1_cl]; rfl
                                refine jr_loc (lc_n (lc_l e1 (lc_n rfl))) ?_
                                exact ih4 (i + 1) (by omega) (by omega)
                              · exact absurd (Int32.le_of_lt hm) c183
                          · refine jr_ldc2 cx dX7_digest_145 mc_213 ?_
                            refine jr_lload_n cx dX7_digest_148 1 rfl rfl ?_
                            refine jr_lmul cx dX7_digest_149 ?_
                            refine jr_aload_n cx dX7_digest_150 0 rfl rfl ?_
                            refine jr_get (f := 5) (v := .ref (E.1 14)) cx dX7_digest_151 (by decide) rfl rfl hinX7 (by decide) mf_17 rfl ?_
                            refine jr_iload_n cx dX7_digest_154 2 rfl rfl ?_
                            refine jr_iald cx dX7_digest_155 (Or.inl ⟨by decide, by decide⟩) i rfl (show _ < 6 by omega) ?_
                            refine jr_top hm ?_
                            refine jr_if_ge (tgt := 163) cx dX7_digest_156 (by decide) (fun c156 => ?_) (fun c156 => ?_)
                            · have n156 : 0 ≤ z := (nI_leI (a := 0) (b := z) (by omega) (by omega)).mp c156
                              refine jr_aload_n cx dX7_digest_163 0 rfl rfl ?_
                              refine jr_get (f := 5) (v := .ref (E.1 14)) cx dX7_digest_164 (by decide) rfl rfl hinX7 (by decide) mf_17 rfl ?_
                              refine jr_iload_n cx dX7_digest_167 2 rfl rfl ?_
                              refine jr_iald cx dX7_digest_168 (Or.inl ⟨by decide, by decide⟩) i rfl (show _ < 6 by omega) ?_
                              refine jr_top hm ?_
                              refine jr_i2l cx dX7_digest_169 ?_
                              refine jr_ladd cx dX7_digest_170 ?_
                              refine jr_lstore_n (L' := [(1, .long ((31 * (dgR (fun r => if g 14 r < 0 then -1 else g 14 r) (fun r i => g 15 (40 * r + i)) (dgC (fM g) (g 26) (dgB (fun b i => dTl (nI i) (g 20 b) (g 21 b) (nI (sCn (pOf g (nI b)) n)) (nI (sCn (pOv g (nI b)) n)) (sLast (pLM g (nI b) 100000) n)) (sDig (fun i => dTc (nI i) (nI (sPrM (g 14) 6)) (sSi (g 17) 4) (g 7 13) (g 7 16) (nI (sCn (pV g) n))) 17 5) nb) n) i)) + (Int32.toInt64 (nI z)))), (0, .ref (E.1 7)), (3, .int (nI i))]) cx dX7_digest_171 rfl (by decide) rfl ?_
                              refine jr_iconst (v := 0) cx dX7_digest_172 (by decide) ?_
                              refine jr_istore (L' := [(4, .int 0), (1, .long ((31 * (dgR (fun r => if g 14 r < 0 then -1 else g 14 r) (fun r i => g 15 (40 * r + i)) (dgC (fM g) (g 26) (dgB (fun b i => dTl (nI i) (g 20 b) (g 21 b) (nI (sCn (pOf g (nI b)) n)) (nI (sCn (pOv g (nI b)) n)) (sLast (pLM g (nI b) 100000) n)) (sDig (fun i => dTc (nI i) (nI (sPrM (g 14) 6)) (sSi (g 17) 4) (g 7 13) (g 7 16) (nI (sCn (pV g) n))) 17 5) nb) n) i)) + (Int32.toInt64 (nI z)))), (0, .ref (E.1 7)), (3, .int (nI i))]) cx dX7_digest_173 (by decide) rfl ?_
                              have key5 : ∀ (fu5 : Nat) (k : Nat), z + 1 ≤ k + fu5 → (k ≤ z) → JJ E X g h 175 [(0, .ref (E.1 7)), (1, .long (sDig (fun q => g 15 (40 * i + q)) (31 * (dgR (fun r => if g 14 r < 0 then -1 else g 14 r) (fun r i => g 15 (40 * r + i)) (dgC (fM g) (g 26) (dgB (fun b i => dTl (nI i) (g 20 b) (g 21 b) (nI (sCn (pOf g (nI b)) n)) (nI (sCn (pOv g (nI b)) n)) (sLast (pLM g (nI b) 100000) n)) (sDig (fun i => dTc (nI i) (nI (sPrM (g 14) 6)) (sSi (g 17) 4) (g 7 13) (g 7 16) (nI (sCn (pV g) n))) 17 5) nb) n) i) + Int32.toInt64 (nI z)) k)), (3, .int (nI i)), (4, .int (nI k))] [] := by
                                intro fu5
                                induction fu5 with
                                | zero => intro k hfu5 h2; exfalso; omega
                                | succ fu5 ih5 =>
                                  intro k hfu5 h2
                                  refine jr_iload cx dX7_digest_175 3 rfl ?_
                                  refine jr_aload_n cx dX7_digest_177 0 rfl rfl ?_
                                  refine jr_get (f := 5) (v := .ref (E.1 14)) cx dX7_digest_178 (by decide) rfl rfl hinX7 (by decide) mf_17 rfl ?_
                                  refine jr_iload_n cx dX7_digest_181 2 rfl rfl ?_
                                  refine jr_iald cx dX7_digest_182 (Or.inl ⟨by decide, by decide⟩) i rfl (show _ < 6 by omega) ?_
                                  refine jr_top hm ?_
                                  refine jr_icmp_ge (tgt := 212) cx dX7_digest_183 (by decide) (fun c183 => ?_) (fun c183 => ?_)
                                  · have n183 : z ≤ k := (nI_leI (a := z) (b := k) (by omega) (by omega)).mp c183
                                    refine jr_iinc (n := 2) (v := nI (i + 1)) (L' := [(3, .int (nI (i + 1))), (0, .ref (E.1 7)), (1, .long (sDig (fun q => g 15 (40 * i + q)) (31 * (dgR (fun r => if g 14 r < 0 then -1 else g 14 r) (fun r i => g 15 (40 * r + i)) (dgC (fM g) (g 26) (dgB (fun b i => dTl (nI i) (g 20 b) (g 21 b) (nI (sCn (pOf g (nI b)) n)) (nI (sCn (pOv g (nI b)) n)) (sLast (pLM g (nI b) 100000) n)) (sDig (fun i => dTc (nI i) (nI (sPrM (g 14) 6)) (sSi (g 17) 4) (g 7 13) (g 7 16) (nI (sCn (pV g) n))) 17 5) nb) n) i) + Int32.toInt64 (nI z)) k)), (4, .int (nI k))]) cx dX7_digest_212 rfl (nI_1 _) (by decide) rfl ?_
                                    refine jr_goto (tgt := 139) cx dX7_digest_215 (by decide) ?_
                                    refine jr_pick (L' := [(0, .ref (E.1 7)), (1, .long (sDig (fun q => g 15 (40 * i + q)) (31 * (dgR (fun r => if g 14 r < 0 then -1 else g 14 r) (fun r i => g 15 (40 * r + i)) (dgC (fM g) (g 26) (dgB (fun b i => dTl (nI i) (g 20 b) (g 21 b) (nI (sCn (pOf g (nI b)) n)) (nI (sCn (pOv g (nI b)) n)) (sLast (pLM g (nI b) 100000) n)) (sDig (fun i => dTc (nI i) (nI (sPrM (g 14) 6)) (sSi (g 17) 4) (g 7 13) (g 7 16) (nI (sCn (pV g) n))) 17 5) nb) n) i) + Int32.toInt64 (nI z)) k)), (3, .int (nI (i + 1)))]) [1, 2, 0] rfl ?_
                                    have e1 : (sDig (fun q => g 15 (40 * i + q)) (31 * (dgR (fun r => if g 14 r < 0 then -1 else g 14 r) (fun r i => g 15 (40 * r + i)) (dgC (fM g) (g 26) (dgB (fun b i => dTl (nI i) (g 20 b) (g 21 b) (nI (sCn (pOf g (nI b)) n)) (nI (sCn (pOv g (nI b)) n)) (sLast (pLM g (nI b) 100000) n)) (sDig (fun i => dTc (nI i) (nI (sPrM (g 14) 6)) (sSi (g 17) 4) (g 7 13) (g 7 16) (nI (sCn (pV g) n))) 17 5) nb) n) i) + Int32.toInt64 (nI z)) k : Int64) = (dgR (fun r => if g 14 r < 0 then -1 else g 14 r) (fun r i => g 15 (40 * r + i)) (dgC (fM g) (g 26) (dgB (fun b i => dTl (nI i) (g 20 b) (g 21 b) (nI (sCn (pOf g (nI b)) n)) (nI (sCn (pOv g (nI b)) n)) (sLast (pLM g (nI b) 100000) n)) (sDig (fun i => dTc (nI i) (nI (sPrM (g 14) 6)) (sSi (g 17) 4) (g 7 13) (g 7 16) (nI (sCn (pV g) n))) 17 5) nb) n) (i + 1)) := by rw [dgR, hm, if_neg (nI_pos (by omega)), cl_nI (by omega), show z = k by omega]
                                    refine jr_loc (lc_n (lc_l e1 (lc_n rfl))) ?_
                                    exact ih4 (i + 1) (by omega) (by omega)
                                  · have n183 : ¬ (z ≤ k) := fun qq9 => c183 ((nI_leI (a := z) (b := k) (by omega) (by omega)).mpr qq9)
                                    refine jr_ldc2 cx dX7_digest_186 mc_213 ?_
                                    refine jr_lload_n cx dX7_digest_189 1 rfl rfl ?_
                                    refine jr_lmul cx dX7_digest_190 ?_
                                    refine jr_aload_n cx dX7_digest_191 0 rfl rfl ?_
                                    refine jr_get (f := 6) (v := .ref (E.1 15)) cx dX7_digest_192 (by decide) rfl rfl hinX7 (by decide) mf_20 rfl ?_
                                    refine jr_bipush (v := 40) cx dX7_digest_195 (by decide) ?_
                                    refine jr_iload_n cx dX7_digest_197 2 rfl rfl ?_
                                    refine jr_imul cx dX7_digest_198 ?_
                                    refine jr_top (show (40 : Int32) * (nI i) = nI (40 * i) from pk_mul 40 i) ?_
                                    refine jr_iload cx dX7_digest_199 3 rfl ?_
                                    refine jr_iadd cx dX7_digest_201 ?_
                                    refine jr_top (show (nI (40 * i) : Int32) + (nI k) = nI ((40 * i) + k) from nI_add (40 * i) k) ?_
                                    refine jr_iald cx dX7_digest_202 (Or.inl ⟨by decide, by decide⟩) ((40 * i) + k) rfl (show _ < 240 by omega) ?_
                                    refine jr_i2l cx dX7_digest_203 ?_
                                    refine jr_ladd cx dX7_digest_204 ?_
                                    refine jr_lstore_n (L' := [(1, .long ((31 * (sDig (fun q => g 15 (40 * i + q)) (31 * (dgR (fun r => if g 14 r < 0 then -1 else g 14 r) (fun r i => g 15 (40 * r + i)) (dgC (fM g) (g 26) (dgB (fun b i => dTl (nI i) (g 20 b) (g 21 b) (nI (sCn (pOf g (nI b)) n)) (nI (sCn (pOv g (nI b)) n)) (sLast (pLM g (nI b) 100000) n)) (sDig (fun i => dTc (nI i) (nI (sPrM (g 14) 6)) (sSi (g 17) 4) (g 7 13) (g 7 16) (nI (sCn (pV g) n))) 17 5) nb) n) i) + Int32.toInt64 (nI z)) k)) + (Int32.toInt64 (g 15 ((40 * i) + k))))), (0, .ref (E.1 7)), (3, .int (nI i)), (4, .int (nI k))]) cx dX7_digest_205 rfl (by decide) rfl ?_
                                    refine jr_iinc (n := 3) (v := nI (k + 1)) (L' := [(4, .int (nI (k + 1))), (1, .long ((31 * (sDig (fun q => g 15 (40 * i + q)) (31 * (dgR (fun r => if g 14 r < 0 then -1 else g 14 r) (fun r i => g 15 (40 * r + i)) (dgC (fM g) (g 26) (dgB (fun b i => dTl (nI i) (g 20 b) (g 21 b) (nI (sCn (pOf g (nI b)) n)) (nI (sCn (pOv g (nI b)) n)) (sLast (pLM g (nI b) 100000) n)) (sDig (fun i => dTc (nI i) (nI (sPrM (g 14) 6)) (sSi (g 17) 4) (g 7 13) (g 7 16) (nI (sCn (pV g) n))) 17 5) nb) n) i) + Int32.toInt64 (nI z)) k)) + (Int32.toInt64 (g 15 ((40 * i) + k))))), (0, .ref (E.1 7)), (3, .int (nI i))]) cx dX7_digest_206 rfl (nI_1 _) (by decide) rfl ?_
                                    refine jr_goto (tgt := 175) cx dX7_digest_209 (by decide) ?_
                                    refine jr_pick (L' := [(0, .ref (E.1 7)), (1, .long ((31 * (sDig (fun q => g 15 (40 * i + q)) (31 * (dgR (fun r => if g 14 r < 0 then -1 else g 14 r) (fun r i => g 15 (40 * r + i)) (dgC (fM g) (g 26) (dgB (fun b i => dTl (nI i) (g 20 b) (g 21 b) (nI (sCn (pOf g (nI b)) n)) (nI (sCn (pOv g (nI b)) n)) (sLast (pLM g (nI b) 100000) n)) (sDig (fun i => dTc (nI i) (nI (sPrM (g 14) 6)) (sSi (g 17) 4) (g 7 13) (g 7 16) (nI (sCn (pV g) n))) 17 5) nb) n) i) + Int32.toInt64 (nI z)) k)) + (Int32.toInt64 (g 15 ((40 * i) + k))))), (3, .int (nI i)), (4, .int (nI (k + 1)))]) [2, 1, 3, 0] rfl ?_
                                    have e1 : ((31 * (sDig (fun q => g 15 (40 * i + q)) (31 * (dgR (fun r => if g 14 r < 0 then -1 else g 14 r) (fun r i => g 15 (40 * r + i)) (dgC (fM g) (g 26) (dgB (fun b i => dTl (nI i) (g 20 b) (g 21 b) (nI (sCn (pOf g (nI b)) n)) (nI (sCn (pOv g (nI b)) n)) (sLast (pLM g (nI b) 100000) n)) (sDig (fun i => dTc (nI i) (nI (sPrM (g 14) 6)) (sSi (g 17) 4) (g 7 13) (g 7 16) (nI (sCn (pV g) n))) 17 5) nb) n) i) + Int32.toInt64 (nI z)) k)) + (Int32.toInt64 (g 15 ((40 * i) + k))) : Int64) = (sDig (fun q => g 15 (40 * i + q)) (31 * (dgR (fun r => if g 14 r < 0 then -1 else g 14 r) (fun r i => g 15 (40 * r + i)) (dgC (fM g) (g 26) (dgB (fun b i => dTl (nI i) (g 20 b) (g 21 b) (nI (sCn (pOf g (nI b)) n)) (nI (sCn (pOv g (nI b)) n)) (sLast (pLM g (nI b) 100000) n)) (sDig (fun i => dTc (nI i) (nI (sPrM (g 14) 6)) (sSi (g 17) 4) (g 7 13) (g 7 16) (nI (sCn (pV g) n))) 17 5) nb) n) i) + Int32.toInt64 (nI z)) (k + 1)) := by rfl
                                    refine jr_loc (lc_n (lc_l e1 (lc_n (lc_n rfl)))) ?_
                                    exact ih5 (k + 1) (by omega) (by omega)
                              refine jr_pick (L' := [(0, .ref (E.1 7)), (1, .long ((31 * (dgR (fun r => if g 14 r < 0 then -1 else g 14 r) (fun r i => g 15 (40 * r + i)) (dgC (fM g) (g 26) (dgB (fun b i => dTl (nI i) (g 20 b) (g 21 b) (nI (sCn (pOf g (nI b)) n)) (nI (sCn (pOv g (nI b)) n)) (sLast (pLM g (nI b) 100000) n)) (sDig (fun i => dTc (nI i) (nI (sPrM (g 14) 6)) (sSi (g 17) 4) (g 7 13) (g 7 16) (nI (sCn (pV g) n))) 17 5) nb) n) i)) + (Int32.toInt64 (nI z)))), (3, .int (nI i)), (4, .int 0)]) [2, 1, 3, 0] rfl ?_
                              have e1 : ((31 * (dgR (fun r => if g 14 r < 0 then -1 else g 14 r) (fun r i => g 15 (40 * r + i)) (dgC (fM g) (g 26) (dgB (fun b i => dTl (nI i) (g 20 b) (g 21 b) (nI (sCn (pOf g (nI b)) n)) (nI (sCn (pOv g (nI b)) n)) (sLast (pLM g (nI b) 100000) n)) (sDig (fun i => dTc (nI i) (nI (sPrM (g 14) 6)) (sSi (g 17) 4) (g 7 13) (g 7 16) (nI (sCn (pV g) n))) 17 5) nb) n) i)) + (Int32.toInt64 (nI z)) : Int64) = (sDig (fun q => g 15 (40 * i + q)) (31 * (dgR (fun r => if g 14 r < 0 then -1 else g 14 r) (fun r i => g 15 (40 * r + i)) (dgC (fM g) (g 26) (dgB (fun b i => dTl (nI i) (g 20 b) (g 21 b) (nI (sCn (pOf g (nI b)) n)) (nI (sCn (pOv g (nI b)) n)) (sLast (pLM g (nI b) 100000) n)) (sDig (fun i => dTc (nI i) (nI (sPrM (g 14) 6)) (sSi (g 17) 4) (g 7 13) (g 7 16) (nI (sCn (pV g) n))) 17 5) nb) n) i) + Int32.toInt64 (nI z)) 0) := by rfl
                              have e4 : (0 : Int32) = (nI 0) := by rfl
                              refine jr_loc (lc_n (lc_l e1 (lc_n (lc_i e4 rfl)))) ?_
                              exact key5 (z + 1) 0 (by omega) (by omega)
                            · have n156 : ¬ (0 ≤ z) := fun qq9 => c156 ((nI_leI (a := 0) (b := z) (by omega) (by omega)).mpr qq9)
                              omega
                    refine jr_pick (L' := [(0, .ref (E.1 7)), (1, .long (dgC (fM g) (g 26) (dgB (fun b i => dTl (nI i) (g 20 b) (g 21 b) (nI (sCn (pOf g (nI b)) n)) (nI (sCn (pOv g (nI b)) n)) (sLast (pLM g (nI b) 100000) n)) (sDig (fun i => dTc (nI i) (nI (sPrM (g 14) 6)) (sSi (g 17) 4) (g 7 13) (g 7 16) (nI (sCn (pV g) n))) 17 5) nb) i)), (3, .int 0)]) [1, 2, 0] rfl ?_
                    have e1 : (dgC (fM g) (g 26) (dgB (fun b i => dTl (nI i) (g 20 b) (g 21 b) (nI (sCn (pOf g (nI b)) n)) (nI (sCn (pOv g (nI b)) n)) (sLast (pLM g (nI b) 100000) n)) (sDig (fun i => dTc (nI i) (nI (sPrM (g 14) 6)) (sSi (g 17) 4) (g 7 13) (g 7 16) (nI (sCn (pV g) n))) 17 5) nb) i : Int64) = (dgR (fun r => if g 14 r < 0 then -1 else g 14 r) (fun r i => g 15 (40 * r + i)) (dgC (fM g) (g 26) (dgB (fun b i => dTl (nI i) (g 20 b) (g 21 b) (nI (sCn (pOf g (nI b)) n)) (nI (sCn (pOv g (nI b)) n)) (sLast (pLM g (nI b) 100000) n)) (sDig (fun i => dTc (nI i) (nI (sPrM (g 14) 6)) (sSi (g 17) 4) (g 7 13) (g 7 16) (nI (sCn (pV g) n))) 17 5) nb) n) 0) := by rw [show i = n by omega]; rfl
                    have e3 : (0 : Int32) = (nI 0) := by rfl
                    refine jr_loc (lc_n (lc_l e1 (lc_i e3 rfl))) ?_
                    exact key4 (6 + 1) 0 (by omega) (by omega)
                  · have n83 : ¬ (n ≤ i) := fun qq9 => c83 ((nI_leI (a := n) (b := i) (by omega) (by omega)).mpr qq9)
                    refine jr_iconst (v := 0) cx dX7_digest_86 (by decide) ?_
                    refine jr_istore (L' := [(4, .int 0), (0, .ref (E.1 7)), (1, .long (dgC (fM g) (g 26) (dgB (fun b i => dTl (nI i) (g 20 b) (g 21 b) (nI (sCn (pOf g (nI b)) n)) (nI (sCn (pOv g (nI b)) n)) (sLast (pLM g (nI b) 100000) n)) (sDig (fun i => dTc (nI i) (nI (sPrM (g 14) 6)) (sSi (g 17) 4) (g 7 13) (g 7 16) (nI (sCn (pV g) n))) 17 5) nb) i)), (3, .int (nI i))]) cx dX7_digest_87 (by decide) rfl ?_
                    have key6 : ∀ (fu6 : Nat) (k : Nat), 8 ≤ k + fu6 → (k ≤ 7) → JJ E X g h 89 [(0, .ref (E.1 7)), (1, .long (sDig (fM g i) (dgC (fM g) (g 26) (dgB (fun b i => dTl (nI i) (g 20 b) (g 21 b) (nI (sCn (pOf g (nI b)) n)) (nI (sCn (pOv g (nI b)) n)) (sLast (pLM g (nI b) 100000) n)) (sDig (fun i => dTc (nI i) (nI (sPrM (g 14) 6)) (sSi (g 17) 4) (g 7 13) (g 7 16) (nI (sCn (pV g) n))) 17 5) nb) i) k)), (3, .int (nI i)), (4, .int (nI k))] [] := by
                      intro fu6
                      induction fu6 with
                      | zero => intro k hfu6 h2; exfalso; omega
                      | succ fu6 ih6 =>
                        intro k hfu6 h2
                        refine jr_iload cx dX7_digest_89 3 rfl ?_
                        refine jr_bipush (v := 6) cx dX7_digest_91 (by decide) ?_
                        refine jr_icmp_gt (tgt := 117) cx dX7_digest_93 (by decide) (fun c93 => ?_) (fun c93 => ?_)
                        · have n93 : 6 < k := (nI_ltI (a := 6) (b := k) (by omega) (by omega)).mp c93
                          refine jr_ldc2 cx dX7_digest_117 mc_213 ?_
                          refine jr_lload_n cx dX7_digest_120 1 rfl rfl ?_
                          refine jr_lmul cx dX7_digest_121 ?_
                          refine jr_aload_n cx dX7_digest_122 0 rfl rfl ?_
                          refine jr_get (f := 21) (v := .ref (E.1 26)) cx dX7_digest_123 (by decide) rfl rfl hinX7 (by decide) mf_53 rfl ?_
                          refine jr_iload_n cx dX7_digest_126 2 rfl rfl ?_
                          refine jr_iald cx dX7_digest_127 (Or.inl ⟨by decide, by decide⟩) i rfl (show _ < 40 by omega) ?_
                          refine jr_i2l cx dX7_digest_128 ?_
                          refine jr_ladd cx dX7_digest_129 ?_
                          refine jr_lstore_n (L' := [(1, .long ((31 * (sDig (fM g i) (dgC (fM g) (g 26) (dgB (fun b i => dTl (nI i) (g 20 b) (g 21 b) (nI (sCn (pOf g (nI b)) n)) (nI (sCn (pOv g (nI b)) n)) (sLast (pLM g (nI b) 100000) n)) (sDig (fun i => dTc (nI i) (nI (sPrM (g 14) 6)) (sSi (g 17) 4) (g 7 13) (g 7 16) (nI (sCn (pV g) n))) 17 5) nb) i) k)) + (Int32.toInt64 (g 26 i)))), (0, .ref (E.1 7)), (3, .int (nI i)), (4, .int (nI k))]) cx dX7_digest_130 rfl (by decide) rfl ?_
                          refine jr_iinc (n := 2) (v := nI (i + 1)) (L' := [(3, .int (nI (i + 1))), (1, .long ((31 * (sDig (fM g i) (dgC (fM g) (g 26) (dgB (fun b i => dTl (nI i) (g 20 b) (g 21 b) (nI (sCn (pOf g (nI b)) n)) (nI (sCn (pOv g (nI b)) n)) (sLast (pLM g (nI b) 100000) n)) (sDig (fun i => dTc (nI i) (nI (sPrM (g 14) 6)) (sSi (g 17) 4) (g 7 13) (g 7 16) (nI (sCn (pV g) n))) 17 5) nb) i) k)) + (Int32.toInt64 (g 26 i)))), (0, .ref (E.1 7)), (4, .int (nI k))]) cx dX7_digest_131 rfl (nI_1 _) (by decide) rfl ?_
                          refine jr_goto (tgt := 78) cx dX7_digest_134 (by decide) ?_
                          refine jr_pick (L' := [(0, .ref (E.1 7)), (1, .long ((31 * (sDig (fM g i) (dgC (fM g) (g 26) (dgB (fun b i => dTl (nI i) (g 20 b) (g 21 b) (nI (sCn (pOf g (nI b)) n)) (nI (sCn (pOv g (nI b)) n)) (sLast (pLM g (nI b) 100000) n)) (sDig (fun i => dTc (nI i) (nI (sPrM (g 14) 6)) (sSi (g 17) 4) (g 7 13) (g 7 16) (nI (sCn (pV g) n))) 17 5) nb) i) k)) + (Int32.toInt64 (g 26 i)))), (3, .int (nI (i + 1)))]) [2, 1, 0] rfl ?_
                          have e1 : ((31 * (sDig (fM g i) (dgC (fM g) (g 26) (dgB (fun b i => dTl (nI i) (g 20 b) (g 21 b) (nI (sCn (pOf g (nI b)) n)) (nI (sCn (pOv g (nI b)) n)) (sLast (pLM g (nI b) 100000) n)) (sDig (fun i => dTc (nI i) (nI (sPrM (g 14) 6)) (sSi (g 17) 4) (g 7 13) (g 7 16) (nI (sCn (pV g) n))) 17 5) nb) i) k)) + (Int32.toInt64 (g 26 i)) : Int64) = (dgC (fM g) (g 26) (dgB (fun b i => dTl (nI i) (g 20 b) (g 21 b) (nI (sCn (pOf g (nI b)) n)) (nI (sCn (pOv g (nI b)) n)) (sLast (pLM g (nI b) 100000) n)) (sDig (fun i => dTc (nI i) (nI (sPrM (g 14) 6)) (sSi (g 17) 4) (g 7 13) (g 7 16) (nI (sCn (pV g) n))) 17 5) nb) (i + 1)) := by rw [show k = 7 by omega]; rfl
                          refine jr_loc (lc_n (lc_l e1 (lc_n rfl))) ?_
                          exact ih3 (i + 1) (by omega) (by omega)
                        · have n93 : ¬ (6 < k) := fun qq9 => c93 ((nI_ltI (a := 6) (b := k) (by omega) (by omega)).mpr qq9)
                          refine jr_ldc2 cx dX7_digest_96 mc_213 ?_
                          refine jr_lload_n cx dX7_digest_99 1 rfl rfl ?_
                          refine jr_lmul cx dX7_digest_100 ?_
                          refine jr_aload_n cx dX7_digest_101 0 rfl rfl ?_
                          refine jr_iload_n cx dX7_digest_102 2 rfl rfl ?_
                          refine jr_iload cx dX7_digest_103 3 rfl ?_
                          refine jr_vi [.int (nI i), .int (nI k)] 2 cx dX7_digest_105 (c_X7_tellsOf E g h i k (by omega) (by omega)) (by decide) rfl rfl gX7_digest_X7_tellsOf rfl (by decide +kernel) ⟨Nat.le_of_ble_eq_true rfl, Nat.le_of_ble_eq_true rfl⟩ rfl rfl (Nat.le_of_ble_eq_true rfl) ?_
                          refine jr_i2l cx dX7_digest_108 ?_
                          refine jr_ladd cx dX7_digest_109 ?_
                          refine jr_lstore_n (L' := [(1, .long ((31 * (sDig (fM g i) (dgC (fM g) (g 26) (dgB (fun b i => dTl (nI i) (g 20 b) (g 21 b) (nI (sCn (pOf g (nI b)) n)) (nI (sCn (pOv g (nI b)) n)) (sLast (pLM g (nI b) 100000) n)) (sDig (fun i => dTc (nI i) (nI (sPrM (g 14) 6)) (sSi (g 17) 4) (g 7 13) (g 7 16) (nI (sCn (pV g) n))) 17 5) nb) i) k)) + (Int32.toInt64 (fM g i k)))), (0, .ref (E.1 7)), (3, .int (nI i)), (4, .int (nI k))]) cx dX7_digest_110 rfl (by decide) rfl ?_
                          refine jr_iinc (n := 3) (v := nI (k + 1)) (L' := [(4, .int (nI (k + 1))), (1, .long ((31 * (sDig (fM g i) (dgC (fM g) (g 26) (dgB (fun b i => dTl (nI i) (g 20 b) (g 21 b) (nI (sCn (pOf g (nI b)) n)) (nI (sCn (pOv g (nI b)) n)) (sLast (pLM g (nI b) 100000) n)) (sDig (fun i => dTc (nI i) (nI (sPrM (g 14) 6)) (sSi (g 17) 4) (g 7 13) (g 7 16) (nI (sCn (pV g) n))) 17 5) nb) i) k)) + (Int32.toInt64 (fM g i k)))), (0, .ref (E.1 7)), (3, .int (nI i))]) cx dX7_digest_111 rfl (nI_1 _) (by decide) rfl ?_
                          refine jr_goto (tgt := 89) cx dX7_digest_114 (by decide) ?_
                          refine jr_pick (L' := [(0, .ref (E.1 7)), (1, .long ((31 * (sDig (fM g i) (dgC (fM g) (g 26) (dgB (fun b i => dTl (nI i) (g 20 b) (g 21 b) (nI (sCn (pOf g (nI b)) n)) (nI (sCn (pOv g (nI b)) n)) (sLast (pLM g (nI b) 100000) n)) (sDig (fun i => dTc (nI i) (nI (sPrM (g 14) 6)) (sSi (g 17) 4) (g 7 13) (g 7 16) (nI (sCn (pV g) n))) 17 5) nb) i) k)) + (Int32.toInt64 (fM g i k)))), (3, .int (nI i)), (4, .int (nI (k + 1)))]) [2, 1, 3, 0] rfl ?_
                          have e1 : ((31 * (sDig (fM g i) (dgC (fM g) (g 26) (dgB (fun b i => dTl (nI i) (g 20 b) (g 21 b) (nI (sCn (pOf g (nI b)) n)) (nI (sCn (pOv g (nI b)) n)) (sLast (pLM g (nI b) 100000) n)) (sDig (fun i => dTc (nI i) (nI (sPrM (g 14) 6)) (sSi (g 17) 4) (g 7 13) (g 7 16) (nI (sCn (pV g) n))) 17 5) nb) i) k)) + (Int32.toInt64 (fM g i k)) : Int64) = (sDig (fM g i) (dgC (fM g) (g 26) (dgB (fun b i => dTl (nI i) (g 20 b) (g 21 b) (nI (sCn (pOf g (nI b)) n)) (nI (sCn (pOv g (nI b)) n)) (sLast (pLM g (nI b) 100000) n)) (sDig (fun i => dTc (nI i) (nI (sPrM (g 14) 6)) (sSi (g 17) 4) (g 7 13) (g 7 16) (nI (sCn (pV g) n))) 17 5) nb) i) (k + 1)) := by rfl
                          refine jr_loc (lc_n (lc_l e1 (lc_n (lc_n rfl)))) ?_
                          exact ih6 (k + 1) (by omega) (by omega)
                    refine jr_pick (L' := [(0, .ref (E.1 7)), (1, .long (dgC (fM g) (g 26) (dgB (fun b i => dTl (nI i) (g 20 b) (g 21 b) (nI (sCn (pOf g (nI b)) n)) (nI (sCn (pOv g (nI b)) n)) (sLast (pLM g (nI b) 100000) n)) (sDig (fun i => dTc (nI i) (nI (sPrM (g 14) 6)) (sSi (g 17) 4) (g 7 13) (g 7 16) (nI (sCn (pV g) n))) 17 5) nb) i)), (3, .int (nI i)), (4, .int 0)]) [1, 2, 3, 0] rfl ?_
                    have e1 : (dgC (fM g) (g 26) (dgB (fun b i => dTl (nI i) (g 20 b) (g 21 b) (nI (sCn (pOf g (nI b)) n)) (nI (sCn (pOv g (nI b)) n)) (sLast (pLM g (nI b) 100000) n)) (sDig (fun i => dTc (nI i) (nI (sPrM (g 14) 6)) (sSi (g 17) 4) (g 7 13) (g 7 16) (nI (sCn (pV g) n))) 17 5) nb) i : Int64) = (sDig (fM g i) (dgC (fM g) (g 26) (dgB (fun b i => dTl (nI i) (g 20 b) (g 21 b) (nI (sCn (pOf g (nI b)) n)) (nI (sCn (pOv g (nI b)) n)) (sLast (pLM g (nI b) 100000) n)) (sDig (fun i => dTc (nI i) (nI (sPrM (g 14) 6)) (sSi (g 17) 4) (g 7 13) (g 7 16) (nI (sCn (pV g) n))) 17 5) nb) i) 0) := by rfl
                    have e4 : (0 : Int32) = (nI 0) := by rfl
                    refine jr_loc (lc_n (lc_l e1 (lc_n (lc_i e4 rfl)))) ?_
                    exact key6 (8) 0 (by omega) (by omega)
              refine jr_pick (L' := [(0, .ref (E.1 7)), (1, .long (dgB (fun b i => dTl (nI i) (g 20 b) (g 21 b) (nI (sCn (pOf g (nI b)) n)) (nI (sCn (pOv g (nI b)) n)) (sLast (pLM g (nI b) 100000) n)) (sDig (fun i => dTc (nI i) (nI (sPrM (g 14) 6)) (sSi (g 17) 4) (g 7 13) (g 7 16) (nI (sCn (pV g) n))) 17 5) i)), (3, .int 0)]) [1, 2, 0] rfl ?_
              have e1 : (dgB (fun b i => dTl (nI i) (g 20 b) (g 21 b) (nI (sCn (pOf g (nI b)) n)) (nI (sCn (pOv g (nI b)) n)) (sLast (pLM g (nI b) 100000) n)) (sDig (fun i => dTc (nI i) (nI (sPrM (g 14) 6)) (sSi (g 17) 4) (g 7 13) (g 7 16) (nI (sCn (pV g) n))) 17 5) i : Int64) = (dgC (fM g) (g 26) (dgB (fun b i => dTl (nI i) (g 20 b) (g 21 b) (nI (sCn (pOf g (nI b)) n)) (nI (sCn (pOv g (nI b)) n)) (sLast (pLM g (nI b) 100000) n)) (sDig (fun i => dTc (nI i) (nI (sPrM (g 14) 6)) (sSi (g 17) 4) (g 7 13) (g 7 16) (nI (sCn (pV g) n))) 17 5) nb) 0) := by rw [show i = nb by omega]; rfl
              have e3 : (0 : Int32) = (nI 0) := by rfl
              refine jr_loc (lc_n (lc_l e1 (lc_i e3 rfl))) ?_
              exact key3 (n + 1) 0 (by omega) (by omega)
            · have n37 : ¬ (nb ≤ i) := fun qq9 => c37 ((nI_leI (a := nb) (b := i) (by omega) (by omega)).mpr qq9)
              refine jr_iconst (v := 0) cx dX7_digest_40 (by decide) ?_
              refine jr_istore (L' := [(4, .int 0), (0, .ref (E.1 7)), (1, .long (dgB (fun b i => dTl (nI i) (g 20 b) (g 21 b) (nI (sCn (pOf g (nI b)) n)) (nI (sCn (pOv g (nI b)) n)) (sLast (pLM g (nI b) 100000) n)) (sDig (fun i => dTc (nI i) (nI (sPrM (g 14) 6)) (sSi (g 17) 4) (g 7 13) (g 7 16) (nI (sCn (pV g) n))) 17 5) i)), (3, .int (nI i))]) cx dX7_digest_41 (by decide) rfl ?_
              have key7 : ∀ (fu7 : Nat) (k : Nat), 6 ≤ k + fu7 → (k ≤ 5) → JJ E X g h 43 [(0, .ref (E.1 7)), (1, .long (sDig ((fun b i => dTl (nI i) (g 20 b) (g 21 b) (nI (sCn (pOf g (nI b)) n)) (nI (sCn (pOv g (nI b)) n)) (sLast (pLM g (nI b) 100000) n)) i) (dgB (fun b i => dTl (nI i) (g 20 b) (g 21 b) (nI (sCn (pOf g (nI b)) n)) (nI (sCn (pOv g (nI b)) n)) (sLast (pLM g (nI b) 100000) n)) (sDig (fun i => dTc (nI i) (nI (sPrM (g 14) 6)) (sSi (g 17) 4) (g 7 13) (g 7 16) (nI (sCn (pV g) n))) 17 5) i) k)), (3, .int (nI i)), (4, .int (nI k))] [] := by
                intro fu7
                induction fu7 with
                | zero => intro k hfu7 h2; exfalso; omega
                | succ fu7 ih7 =>
                  intro k hfu7 h2
                  refine jr_iload cx dX7_digest_43 3 rfl ?_
                  refine jr_iconst (v := 4) cx dX7_digest_45 (by decide) ?_
                  refine jr_icmp_gt (tgt := 70) cx dX7_digest_46 (by decide) (fun c46 => ?_) (fun c46 => ?_)
                  · have n46 : 4 < k := (nI_ltI (a := 4) (b := k) (by omega) (by omega)).mp c46
                    refine jr_iinc (n := 2) (v := nI (i + 1)) (L' := [(3, .int (nI (i + 1))), (0, .ref (E.1 7)), (1, .long (sDig ((fun b i => dTl (nI i) (g 20 b) (g 21 b) (nI (sCn (pOf g (nI b)) n)) (nI (sCn (pOv g (nI b)) n)) (sLast (pLM g (nI b) 100000) n)) i) (dgB (fun b i => dTl (nI i) (g 20 b) (g 21 b) (nI (sCn (pOf g (nI b)) n)) (nI (sCn (pOv g (nI b)) n)) (sLast (pLM g (nI b) 100000) n)) (sDig (fun i => dTc (nI i) (nI (sPrM (g 14) 6)) (sSi (g 17) 4) (g 7 13) (g 7 16) (nI (sCn (pV g) n))) 17 5) i) k)), (4, .int (nI k))]) cx dX7_digest_70 rfl (nI_1 _) (by decide) rfl ?_
                    refine jr_goto (tgt := 32) cx dX7_digest_73 (by decide) ?_
                    refine jr_pick (L' := [(0, .ref (E.1 7)), (1, .long (sDig ((fun b i => dTl (nI i) (g 20 b) (g 21 b) (nI (sCn (pOf g (nI b)) n)) (nI (sCn (pOv g (nI b)) n)) (sLast (pLM g (nI b) 100000) n)) i) (dgB (fun b i => dTl (nI i) (g 20 b) (g 21 b) (nI (sCn (pOf g (nI b)) n)) (nI (sCn (pOv g (nI b)) n)) (sLast (pLM g (nI b) 100000) n)) (sDig (fun i => dTc (nI i) (nI (sPrM (g 14) 6)) (sSi (g 17) 4) (g 7 13) (g 7 16) (nI (sCn (pV g) n))) 17 5) i) k)), (3, .int (nI (i + 1)))]) [1, 2, 0] rfl ?_
                    have e1 : (sDig ((fun b i => dTl (nI i) (g 20 b) (g 21 b) (nI (sCn (pOf g (nI b)) n)) (nI (sCn (pOv g (nI b)) n)) (sLast (pLM g (nI b) 100000) n)) i) (dgB (fun b i => dTl (nI i) (g 20 b) (g 21 b) (nI (sCn (pOf g (nI b)) n)) (nI (sCn (pOv g (nI b)) n)) (sLast (pLM g (nI b) 100000) n)) (sDig (fun i => dTc (nI i) (nI (sPrM (g 14) 6)) (sSi (g 17) 4) (g 7 13) (g 7 16) (nI (sCn (pV g) n))) 17 5) i) k : Int64) = (dgB (fun b i => dTl (nI i) (g 20 b) (g 21 b) (nI (sCn (pOf g (nI b)) n)) (nI (sCn (pOv g (nI b)) n)) (sLast (pLM g (nI b) 100000) n)) (sDig (fun i => dTc (nI i) (nI (sPrM (g 14) 6)) (sSi (g 17) 4) (g 7 13) (g 7 16) (nI (sCn (pV g) n))) 17 5) (i + 1)) := by rw [show k = 5 by omega]; rfl
                    refine jr_loc (lc_n (lc_l e1 (lc_n rfl))) ?_
                    exact ih2 (i + 1) (by omega) (by omega)
                  · have n46 : ¬ (4 < k) := fun qq9 => c46 ((nI_ltI (a := 4) (b := k) (by omega) (by omega)).mpr qq9)
                    refine jr_ldc2 cx dX7_digest_49 mc_213 ?_
                    refine jr_lload_n cx dX7_digest_52 1 rfl rfl ?_
                    refine jr_lmul cx dX7_digest_53 ?_
                    refine jr_aload_n cx dX7_digest_54 0 rfl rfl ?_
                    refine jr_iload_n cx dX7_digest_55 2 rfl rfl ?_
                    refine jr_iload cx dX7_digest_56 3 rfl ?_
                    refine jr_vi [.int (nI i), .int (nI k)] 2 cx dX7_digest_58 (c_X7_tells E g h i (by omega) (nI k) n hn hs) (by decide) rfl rfl gX7_digest_X7_tells rfl (by decide +kernel) ⟨Nat.le_of_ble_eq_true rfl, Nat.le_of_ble_eq_true rfl⟩ rfl rfl (Nat.le_of_ble_eq_true rfl) ?_
                    refine jr_i2l cx dX7_digest_61 ?_
                    refine jr_ladd cx dX7_digest_62 ?_
                    refine jr_lstore_n (L' := [(1, .long ((31 * (sDig ((fun b i => dTl (nI i) (g 20 b) (g 21 b) (nI (sCn (pOf g (nI b)) n)) (nI (sCn (pOv g (nI b)) n)) (sLast (pLM g (nI b) 100000) n)) i) (dgB (fun b i => dTl (nI i) (g 20 b) (g 21 b) (nI (sCn (pOf g (nI b)) n)) (nI (sCn (pOv g (nI b)) n)) (sLast (pLM g (nI b) 100000) n)) (sDig (fun i => dTc (nI i) (nI (sPrM (g 14) 6)) (sSi (g 17) 4) (g 7 13) (g 7 16) (nI (sCn (pV g) n))) 17 5) i) k)) + (Int32.toInt64 (dTl (nI k) (g 20 i) (g 21 i) (nI (sCn (pOf g (nI i)) n)) (nI (sCn (pOv g (nI i)) n)) (sLast (pLM g (nI i) 100000) n))))), (0, .ref (E.1 7)), (3, .int (nI i)), (4, .int (nI k))]) cx dX7_digest_63 rfl (by decide) rfl ?_
                    refine jr_iinc (n := 3) (v := nI (k + 1)) (L' := [(4, .int (nI (k + 1))), (1, .long ((31 * (sDig ((fun b i => dTl (nI i) (g 20 b) (g 21 b) (nI (sCn (pOf g (nI b)) n)) (nI (sCn (pOv g (nI b)) n)) (sLast (pLM g (nI b) 100000) n)) i) (dgB (fun b i => dTl (nI i) (g 20 b) (g 21 b) (nI (sCn (pOf g (nI b)) n)) (nI (sCn (pOv g (nI b)) n)) (sLast (pLM g (nI b) 100000) n)) (sDig (fun i => dTc (nI i) (nI (sPrM (g 14) 6)) (sSi (g 17) 4) (g 7 13) (g 7 16) (nI (sCn (pV g) n))) 17 5) i) k)) + (Int32.toInt64 (dTl (nI k) (g 20 i) (g 21 i) (nI (sCn (pOf g (nI i)) n)) (nI (sCn (pOv g (nI i)) n)) (sLast (pLM g (nI i) 100000) n))))), (0, .ref (E.1 7)), (3, .int (nI i))]) cx dX7_digest_64 rfl (nI_1 _) (by decide) rfl ?_
                    refine jr_goto (tgt := 43) cx dX7_digest_67 (by decide) ?_
                    refine jr_pick (L' := [(0, .ref (E.1 7)), (1, .long ((31 * (sDig ((fun b i => dTl (nI i) (g 20 b) (g 21 b) (nI (sCn (pOf g (nI b)) n)) (nI (sCn (pOv g (nI b)) n)) (sLast (pLM g (nI b) 100000) n)) i) (dgB (fun b i => dTl (nI i) (g 20 b) (g 21 b) (nI (sCn (pOf g (nI b)) n)) (nI (sCn (pOv g (nI b)) n)) (sLast (pLM g (nI b) 100000) n)) (sDig (fun i => dTc (nI i) (nI (sPrM (g 14) 6)) (sSi (g 17) 4) (g 7 13) (g 7 16) (nI (sCn (pV g) n))) 17 5) i) k)) + (Int32.toInt64 (dTl (nI k) (g 20 i) (g 21 i) (nI (sCn (pOf g (nI i)) n)) (nI (sCn (pOv g (nI i)) n)) (sLast (pLM g (nI i) 100000) n))))), (3, .int (nI i)), (4, .int (nI (k + 1)))]) [2, 1, 3, 0] rfl ?_
                    have e1 : ((31 * (sDig ((fun b i => dTl (nI i) (g 20 b) (g 21 b) (nI (sCn (pOf g (nI b)) n)) (nI (sCn (pOv g (nI b)) n)) (sLast (pLM g (nI b) 100000) n)) i) (dgB (fun b i => dTl (nI i) (g 20 b) (g 21 b) (nI (sCn (pOf g (nI b)) n)) (nI (sCn (pOv g (nI b)) n)) (sLast (pLM g (nI b) 100000) n)) (sDig (fun i => dTc (nI i) (nI (sPrM (g 14) 6)) (sSi (g 17) 4) (g 7 13) (g 7 16) (nI (sCn (pV g) n))) 17 5) i) k)) + (Int32.toInt64 (dTl (nI k) (g 20 i) (g 21 i) (nI (sCn (pOf g (nI i)) n)) (nI (sCn (pOv g (nI i)) n)) (sLast (pLM g (nI i) 100000) n))) : Int64) = (sDig ((fun b i => dTl (nI i) (g 20 b) (g 21 b) (nI (sCn (pOf g (nI b)) n)) (nI (sCn (pOv g (nI b)) n)) (sLast (pLM g (nI b) 100000) n)) i) (dgB (fun b i => dTl (nI i) (g 20 b) (g 21 b) (nI (sCn (pOf g (nI b)) n)) (nI (sCn (pOv g (nI b)) n)) (sLast (pLM g (nI b) 100000) n)) (sDig (fun i => dTc (nI i) (nI (sPrM (g 14) 6)) (sSi (g 17) 4) (g 7 13) (g 7 16) (nI (sCn (pV g) n))) 17 5) i) (k + 1)) := by rfl
                    refine jr_loc (lc_n (lc_l e1 (lc_n (lc_n rfl)))) ?_
                    exact ih7 (k + 1) (by omega) (by omega)
              refine jr_pick (L' := [(0, .ref (E.1 7)), (1, .long (dgB (fun b i => dTl (nI i) (g 20 b) (g 21 b) (nI (sCn (pOf g (nI b)) n)) (nI (sCn (pOv g (nI b)) n)) (sLast (pLM g (nI b) 100000) n)) (sDig (fun i => dTc (nI i) (nI (sPrM (g 14) 6)) (sSi (g 17) 4) (g 7 13) (g 7 16) (nI (sCn (pV g) n))) 17 5) i)), (3, .int (nI i)), (4, .int 0)]) [1, 2, 3, 0] rfl ?_
              have e1 : (dgB (fun b i => dTl (nI i) (g 20 b) (g 21 b) (nI (sCn (pOf g (nI b)) n)) (nI (sCn (pOv g (nI b)) n)) (sLast (pLM g (nI b) 100000) n)) (sDig (fun i => dTc (nI i) (nI (sPrM (g 14) 6)) (sSi (g 17) 4) (g 7 13) (g 7 16) (nI (sCn (pV g) n))) 17 5) i : Int64) = (sDig ((fun b i => dTl (nI i) (g 20 b) (g 21 b) (nI (sCn (pOf g (nI b)) n)) (nI (sCn (pOv g (nI b)) n)) (sLast (pLM g (nI b) 100000) n)) i) (dgB (fun b i => dTl (nI i) (g 20 b) (g 21 b) (nI (sCn (pOf g (nI b)) n)) (nI (sCn (pOv g (nI b)) n)) (sLast (pLM g (nI b) 100000) n)) (sDig (fun i => dTc (nI i) (nI (sPrM (g 14) 6)) (sSi (g 17) 4) (g 7 13) (g 7 16) (nI (sCn (pV g) n))) 17 5) i) 0) := by rfl
              have e4 : (0 : Int32) = (nI 0) := by rfl
              refine jr_loc (lc_n (lc_l e1 (lc_n (lc_i e4 rfl)))) ?_
              exact key7 (6) 0 (by omega) (by omega)
        refine jr_pick (L' := [(0, .ref (E.1 7)), (1, .long (sDig (fun i => dTc (nI i) (nI (sPrM (g 14) 6)) (sSi (g 17) 4) (g 7 13) (g 7 16) (nI (sCn (pV g) n))) 17 i)), (3, .int 0)]) [1, 2, 0] rfl ?_
        have e1 : (sDig (fun i => dTc (nI i) (nI (sPrM (g 14) 6)) (sSi (g 17) 4) (g 7 13) (g 7 16) (nI (sCn (pV g) n))) 17 i : Int64) = (dgB (fun b i => dTl (nI i) (g 20 b) (g 21 b) (nI (sCn (pOf g (nI b)) n)) (nI (sCn (pOv g (nI b)) n)) (sLast (pLM g (nI b) 100000) n)) (sDig (fun i => dTc (nI i) (nI (sPrM (g 14) 6)) (sSi (g 17) 4) (g 7 13) (g 7 16) (nI (sCn (pV g) n))) 17 5) 0) := by rw [show i = 5 by omega]; rfl
        have e3 : (0 : Int32) = (nI 0) := by rfl
        refine jr_loc (lc_n (lc_l e1 (lc_i e3 rfl))) ?_
        exact key2 (nb + 1) 0 (by omega) (by omega)
      · have n8 : ¬ (4 < i) := fun qq9 => c8 ((nI_ltI (a := 4) (b := i) (by omega) (by omega)).mpr qq9)
        refine jr_ldc2 cx dX7_digest_11 mc_213 ?_
        refine jr_lload_n cx dX7_digest_14 1 rfl rfl ?_
        refine jr_lmul cx dX7_digest_15 ?_
        refine jr_aload_n cx dX7_digest_16 0 rfl rfl ?_
        refine jr_iload_n cx dX7_digest_17 2 rfl rfl ?_
        refine jr_vi [.int (nI i)] 1 cx dX7_digest_18 (c_X7_tellsCount E g h (nI i) n hn hs) (by decide) rfl rfl gX7_digest_X7_tellsCount rfl (by decide +kernel) ⟨Nat.le_of_ble_eq_true rfl, Nat.le_of_ble_eq_true rfl⟩ rfl rfl (Nat.le_of_ble_eq_true rfl) ?_
        refine jr_i2l cx dX7_digest_21 ?_
        refine jr_ladd cx dX7_digest_22 ?_
        refine jr_lstore_n (L' := [(1, .long ((31 * (sDig (fun i => dTc (nI i) (nI (sPrM (g 14) 6)) (sSi (g 17) 4) (g 7 13) (g 7 16) (nI (sCn (pV g) n))) 17 i)) + (Int32.toInt64 (dTc (nI i) (nI (sPrM (g 14) 6)) (sSi (g 17) 4) (g 7 13) (g 7 16) (nI (sCn (pV g) n)))))), (0, .ref (E.1 7)), (3, .int (nI i))]) cx dX7_digest_23 rfl (by decide) rfl ?_
        refine jr_iinc (n := 2) (v := nI (i + 1)) (L' := [(3, .int (nI (i + 1))), (1, .long ((31 * (sDig (fun i => dTc (nI i) (nI (sPrM (g 14) 6)) (sSi (g 17) 4) (g 7 13) (g 7 16) (nI (sCn (pV g) n))) 17 i)) + (Int32.toInt64 (dTc (nI i) (nI (sPrM (g 14) 6)) (sSi (g 17) 4) (g 7 13) (g 7 16) (nI (sCn (pV g) n)))))), (0, .ref (E.1 7))]) cx dX7_digest_24 rfl (nI_1 _) (by decide) rfl ?_
        refine jr_goto (tgt := 6) cx dX7_digest_27 (by decide) ?_
        refine jr_pick (L' := [(0, .ref (E.1 7)), (1, .long ((31 * (sDig (fun i => dTc (nI i) (nI (sPrM (g 14) 6)) (sSi (g 17) 4) (g 7 13) (g 7 16) (nI (sCn (pV g) n))) 17 i)) + (Int32.toInt64 (dTc (nI i) (nI (sPrM (g 14) 6)) (sSi (g 17) 4) (g 7 13) (g 7 16) (nI (sCn (pV g) n)))))), (3, .int (nI (i + 1)))]) [2, 1, 0] rfl ?_
        have e1 : ((31 * (sDig (fun i => dTc (nI i) (nI (sPrM (g 14) 6)) (sSi (g 17) 4) (g 7 13) (g 7 16) (nI (sCn (pV g) n))) 17 i)) + (Int32.toInt64 (dTc (nI i) (nI (sPrM (g 14) 6)) (sSi (g 17) 4) (g 7 13) (g 7 16) (nI (sCn (pV g) n)))) : Int64) = (sDig (fun i => dTc (nI i) (nI (sPrM (g 14) 6)) (sSi (g 17) 4) (g 7 13) (g 7 16) (nI (sCn (pV g) n))) 17 (i + 1)) := by rfl
        refine jr_loc (lc_n (lc_l e1 (lc_n rfl))) ?_
        exact ih1 (i + 1) (by omega) (by omega)
  refine jr_pick (L' := [(0, .ref (E.1 7)), (1, .long 17), (3, .int 0)]) [2, 1, 0] rfl ?_
  have e1 : (17 : Int64) = (sDig (fun i => dTc (nI i) (nI (sPrM (g 14) 6)) (sSi (g 17) 4) (g 7 13) (g 7 16) (nI (sCn (pV g) n))) 17 0) := by rfl
  have e3 : (0 : Int32) = (nI 0) := by rfl
  refine jr_loc (lc_n (lc_l e1 (lc_i e3 rfl))) ?_
  exact key1 (5 + 1) 0 (by omega) (by omega)
