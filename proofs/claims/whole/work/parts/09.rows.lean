def fillM (g : mm_I) (k : Nat) (v : Int32) (n : Nat) : mm_I := fun q => if q = k then (fun b => if b < n then v else g k b) else g q
theorem fillM_0 (g : mm_I) (k : Nat) (v : Int32) : fillM g k v 0 = g := by
  funext q; unfold fillM; split
  · subst_vars; funext b; simp
  · rfl
theorem fillM_s (g : mm_I) (k : Nat) (v : Int32) (n : Nat) : up2 (fillM g k v n) k n v = fillM g k v (n + 1) := by
  funext q; unfold up2 fillM upd
  by_cases e : q = k
  · subst e
    simp only [if_true]
    funext b
    by_cases hb : b = n
    · subst hb; simp
    · simp only [hb, if_false]
      by_cases h2 : b < n
      · rw [if_pos h2, if_pos (by omega)]
      · rw [if_neg h2, if_neg (by omega)]
  · simp only [e, if_false]
def sHeld (f : Nat → Int32) : Nat → Nat
  | 0 => 0
  | n + 1 => if f n = -9 then sHeld f n else sHeld f n + 1
theorem sHeld_le (f : Nat → Int32) : ∀ n, sHeld f n ≤ n
  | 0 => Nat.le_refl 0
  | n + 1 => by have := sHeld_le f n; unfold sHeld; split <;> omega
def sSum (f : Nat → Int32) (a : Nat) : Nat → Int32
  | 0 => 0
  | n + 1 => if f (a + n) = -9 then sSum f a n else sSum f a n + f (a + n)
def sLvl (f : Nat → Int32) (w : Int32) : Int32 → Int32 → Nat → Nat → Nat
  | _, _, _, 0 => 0
  | lo, hi, i, k + 1 => if f i = -9 ∨ ¬ (if hi < f i then f i else hi) - (if f i < lo then f i else lo) ≤ w then 0 else sLvl f w (if f i < lo then f i else lo) (if hi < f i then f i else hi) (i + 1) k + 1
theorem sLvl_z {f : Nat → Int32} {w lo hi : Int32} {i k : Nat} (hc : f i = -9 ∨ ¬ (if hi < f i then f i else hi) - (if f i < lo then f i else lo) ≤ w) : sLvl f w lo hi i (k + 1) = 0 := by rw [sLvl]; exact if_pos hc
theorem sLvl_s {f : Nat → Int32} {w lo hi : Int32} {i k : Nat} (hc : ¬ (f i = -9 ∨ ¬ (if hi < f i then f i else hi) - (if f i < lo then f i else lo) ≤ w)) : sLvl f w lo hi i (k + 1) = sLvl f w (if f i < lo then f i else lo) (if hi < f i then f i else hi) (i + 1) k + 1 := by rw [sLvl]; exact if_neg hc
theorem sLvl_le (f : Nat → Int32) (w : Int32) : ∀ k lo hi i, sLvl f w lo hi i k ≤ k
  | 0, _, _, _ => Nat.le_refl 0
  | k + 1, lo, hi, i => by
    have h9 := sLvl_le f w k (if f i < lo then f i else lo) (if hi < f i then f i else hi) (i + 1)
    by_cases hc : f i = -9 ∨ ¬ (if hi < f i then f i else hi) - (if f i < lo then f i else lo) ≤ w
    · rw [sLvl_z hc]; omega
    · rw [sLvl_s hc]; omega
def sBest (len : Nat → Nat) : Nat → Nat × Nat
  | 0 => (0, 0)
  | n + 1 => if len n ≤ (sBest len n).2 then sBest len n else (n, len n)
def sPres (f : Nat → Int32) : Nat → Nat
  | 0 => 0
  | n + 1 => if f n = -1 then sPres f n else sPres f n + 1
theorem sPres_le (f : Nat → Int32) : ∀ n, sPres f n ≤ n
  | 0 => Nat.le_refl 0
  | n + 1 => by have := sPres_le f n; unfold sPres; split <;> omega
def sDig (f : Nat → Int32) (h0 : Int64) : Nat → Int64
  | 0 => h0
  | n + 1 => 31 * sDig f h0 n + (f n).toInt64
set_option maxHeartbeats 4000000 in
set_option maxRecDepth 100000 in
theorem c_J7_fill_53178 (E : mm_E) (g : mm_I) (h : mm_L) (k : Nat) (hk : mm_isI k) (v : Int32) : Cv E yJ7_fill_53178 wsJ7_fill_53178 0 0 [.ref (E.1 k), .int v] g h (fillM g k v (mm_len k)) h := by
  refine ci_v (bytes := cJ7_fill_53178) (maxL := 4) (by decide) rfl (Nat.le_of_ble_eq_true rfl) (fun X cx hR => ?_)
  change Cx E X cJ7_fill_53178 RJ7 wsJ7_fill_53178 4 0 0 at cx
  change JJ E X g h 0 [(0, .ref (E.1 k)), (1, .int v)] []
  have hlk := mm_len_lt k
  refine jr_iconst (v := 0) cx dJ7_fill_53178_0 (by decide) ?_
  refine jr_istore_n (L' := [(2, .int 0), (0, .ref (E.1 k)), (1, .int v)]) cx dJ7_fill_53178_1 rfl (by decide) rfl ?_
  refine jr_aload_n cx dJ7_fill_53178_2 1 rfl rfl ?_
  refine jr_alen cx dJ7_fill_53178_3 hk ?_
  refine jr_istore_n (L' := [(3, .int (nI (mm_len k))), (2, .int 0), (0, .ref (E.1 k)), (1, .int v)]) cx dJ7_fill_53178_4 rfl (by decide) rfl ?_
  have key1 : ∀ (fu1 : Nat) (i : Nat), mm_len k + 1 ≤ i + fu1 → (i ≤ mm_len k) → JJ E X (fillM g k v i) h 5 [(0, .ref (E.1 k)), (1, .int v), (2, .int (nI i)), (3, .int (nI (mm_len k)))] [] := by
    intro fu1
    induction fu1 with
    | zero => intro i hfu1 h1; exfalso; omega
    | succ fu1 ih1 =>
      intro i hfu1 h1
      refine jr_iload_n cx dJ7_fill_53178_5 2 rfl rfl ?_
      refine jr_iload_n cx dJ7_fill_53178_6 3 rfl rfl ?_
      refine jr_icmp_ge (tgt := 20) cx dJ7_fill_53178_7 (by decide) (fun c7 => ?_) (fun c7 => ?_)
      · have n7 : mm_len k ≤ i := (nI_leI (a := mm_len k) (b := i) (by omega) (by omega)).mp c7
        have hq : i = mm_len k := by omega
        exact jr_rv (by rw [hq]) (by rfl) (hR 20 _ dJ7_fill_53178_20)
      · have n7 : ¬ (mm_len k ≤ i) := fun q => c7 ((nI_leI (a := mm_len k) (b := i) (by omega) (by omega)).mpr q)
        refine jr_aload_n cx dJ7_fill_53178_10 0 rfl rfl ?_
        refine jr_iload_n cx dJ7_fill_53178_11 2 rfl rfl ?_
        refine jr_iload_n cx dJ7_fill_53178_12 1 rfl rfl ?_
        refine jr_iast cx dJ7_fill_53178_13 hk i rfl (by omega) ?_
        refine jr_iinc (n := 2) (v := nI (i + 1)) (L' := [(2, .int (nI (i + 1))), (0, .ref (E.1 k)), (1, .int v), (3, .int (nI (mm_len k)))]) cx dJ7_fill_53178_14 rfl (nI_1 _) (by decide) rfl ?_
        refine jr_goto (tgt := 5) cx dJ7_fill_53178_17 (by decide) ?_
        refine jr_pick (L' := [(0, .ref (E.1 k)), (1, .int v), (2, .int (nI (i + 1))), (3, .int (nI (mm_len k)))]) [1, 2, 0, 3] rfl ?_
        refine jr_mem (g' := fillM g k v (i + 1)) (h' := h) (by exact fillM_s g k v i) (by rfl) ?_
        exact ih1 (i + 1) (by omega) (by omega)
  refine jr_pick (L' := [(0, .ref (E.1 k)), (1, .int v), (2, .int 0), (3, .int (nI (mm_len k)))]) [2, 3, 1, 0] rfl ?_
  have e2 : (0 : Int32) = (nI 0) := by rfl
  refine jr_loc (lc_n (lc_n (lc_i e2 (lc_n rfl)))) ?_
  refine jr_mem (g' := fillM g k v 0) (h' := h) (by exact (fillM_0 g k v).symm) (by rfl) ?_
  exact key1 (mm_len k + 1) 0 (by omega) (by omega)
set_option maxHeartbeats 4000000 in
set_option maxRecDepth 100000 in
theorem c_X4_isMissing (E : mm_E) (g : mm_I) (h : mm_L) (j : Nat) (hj : j < 6) : Ci E yX4_isMissing wsX4_isMissing 0 0 [.ref (E.1 1), .int (nI j)] g h (bI (g 9 j = -1)) g h := by
  refine ci_z (bytes := cX4_isMissing) (maxL := 2) (by decide) rfl (Nat.le_of_ble_eq_true rfl) (bI_01 _) (fun X cx hR => ?_)
  change Cx E X cX4_isMissing RX4 wsX4_isMissing 2 0 0 at cx
  change JJ E X g h 0 [(0, .ref (E.1 1)), (1, .int (nI j))] []
  have hinX4 : ∀ w ∈ u_ws RX4 TX4 2, w ∈ wsX4_isMissing := by decide +kernel
  have mf_16 : Cond.fieldLink RX4 16 (TX4 1).1 (TX4 1).2.1 (TX4 1).2.2.1 ∈ wsX4_isMissing := by decide +kernel
  refine jr_aload_n cx dX4_isMissing_0 0 rfl rfl ?_
  refine jr_get (f := 1) (v := .ref (E.1 9)) cx dX4_isMissing_1 (by decide) rfl rfl hinX4 (by decide) mf_16 rfl ?_
  refine jr_iload_n cx dX4_isMissing_4 1 rfl rfl ?_
  refine jr_iald cx dX4_isMissing_5 (Or.inl ⟨by decide, by decide⟩) j rfl (show _ < 6 by omega) ?_
  refine jr_iconst (v := (-1)) cx dX4_isMissing_6 (by decide) ?_
  refine jr_icmp_ne (tgt := 14) cx dX4_isMissing_7 (by decide) (fun c7 => ?_) (fun c7 => ?_)
  · refine jr_iconst (v := 0) cx dX4_isMissing_14 (by decide) ?_
    exact jr_ri (by simp [bI, c7]) (by rfl) (by rfl) (hR 15 _ dX4_isMissing_15)
  · refine jr_iconst (v := 1) cx dX4_isMissing_10 (by decide) ?_
    refine jr_goto (tgt := 15) cx dX4_isMissing_11 (by decide) ?_
    exact jr_ri (by simp [bI, c7]) (by rfl) (by rfl) (hR 15 _ dX4_isMissing_15)
set_option maxHeartbeats 4000000 in
set_option maxRecDepth 100000 in
theorem c_X4_sizeOf (E : mm_E) (g : mm_I) (h : mm_L) (j : Nat) (hj : j < 6) : Ci E yX4_sizeOf wsX4_sizeOf 0 0 [.ref (E.1 1), .int (nI j)] g h (g 9 j) g h := by
  refine ci_i (bytes := cX4_sizeOf) (maxL := 2) (by decide) rfl (Nat.le_of_ble_eq_true rfl) (fun X cx hR => ?_)
  change Cx E X cX4_sizeOf RX4 wsX4_sizeOf 2 0 0 at cx
  change JJ E X g h 0 [(0, .ref (E.1 1)), (1, .int (nI j))] []
  have hinX4 : ∀ w ∈ u_ws RX4 TX4 2, w ∈ wsX4_sizeOf := by decide +kernel
  have mf_16 : Cond.fieldLink RX4 16 (TX4 1).1 (TX4 1).2.1 (TX4 1).2.2.1 ∈ wsX4_sizeOf := by decide +kernel
  refine jr_aload_n cx dX4_sizeOf_0 0 rfl rfl ?_
  refine jr_get (f := 1) (v := .ref (E.1 9)) cx dX4_sizeOf_1 (by decide) rfl rfl hinX4 (by decide) mf_16 rfl ?_
  refine jr_iload_n cx dX4_sizeOf_4 1 rfl rfl ?_
  refine jr_iald cx dX4_sizeOf_5 (Or.inl ⟨by decide, by decide⟩) j rfl (show _ < 6 by omega) ?_
  exact jr_ri (by rfl) (by rfl) (by rfl) (hR 6 _ dX4_sizeOf_6)
def mkC (g : mm_I) (j : Nat) (n : Int32) : mm_I := up2 (fillM g (39 + j) 0 40) 9 j n
set_option maxHeartbeats 4000000 in
set_option maxRecDepth 100000 in
theorem c_X4_make (E : mm_E) (g : mm_I) (h : mm_L) (j : Nat) (hj : j < 6) (n : Int32) : Cv E yX4_make wsX4_make 1 23 [.ref (E.1 1), .int (nI j), .int n] g h (mkC g j n) h := by
  refine ci_v (bytes := cX4_make) (maxL := 3) (by decide) rfl (Nat.le_of_ble_eq_true rfl) (fun X cx hR => ?_)
  change Cx E X cX4_make RX4 wsX4_make 3 1 23 at cx
  change JJ E X g h 0 [(0, .ref (E.1 1)), (1, .int (nI j)), (2, .int n)] []
  have hinX4 : ∀ w ∈ u_ws RX4 TX4 2, w ∈ wsX4_make := by decide +kernel
  have mf_11 : Cond.fieldLink RX4 11 (TX4 0).1 (TX4 0).2.1 (TX4 0).2.2.1 ∈ wsX4_make := by decide +kernel
  have mf_16 : Cond.fieldLink RX4 16 (TX4 1).1 (TX4 1).2.1 (TX4 1).2.2.1 ∈ wsX4_make := by decide +kernel
  refine jr_aload_n cx dX4_make_0 0 rfl rfl ?_
  refine jr_get (f := 0) (v := .ref (E.1 33)) cx dX4_make_1 (by decide) rfl rfl hinX4 (by decide) mf_11 rfl ?_
  refine jr_iload_n cx dX4_make_4 1 rfl rfl ?_
  refine jr_aald cx dX4_make_5 ⟨by decide, by decide⟩ j rfl (show j < 6 by omega) (39 + j) rfl ?_
  refine jr_iconst (v := 0) cx dX4_make_6 (by decide) ?_
  refine jr_sv [.ref (E.1 (39 + j)), .int 0] 2 cx dX4_make_7 (c_J7_fill_53178 E g h (39 + j) (is_rd hj) 0) gX4_make_J7_fill_53178 rfl (by decide +kernel) ⟨Nat.le_of_ble_eq_true rfl, Nat.le_of_ble_eq_true rfl⟩ rfl rfl (Nat.le_of_ble_eq_true rfl) ?_
  refine jr_aload_n cx dX4_make_10 0 rfl rfl ?_
  refine jr_get (f := 1) (v := .ref (E.1 9)) cx dX4_make_11 (by decide) rfl rfl hinX4 (by decide) mf_16 rfl ?_
  refine jr_iload_n cx dX4_make_14 1 rfl rfl ?_
  refine jr_iload_n cx dX4_make_15 2 rfl rfl ?_
  refine jr_iast cx dX4_make_16 (Or.inl ⟨by decide, by decide⟩) j rfl (show _ < 6 by omega) ?_
  exact jr_rv (by unfold mkC; rw [ml_rd hj]) (by rfl) (hR 17 _ dX4_make_17)
set_option maxHeartbeats 4000000 in
set_option maxRecDepth 100000 in
theorem c_X4_drop (E : mm_E) (g : mm_I) (h : mm_L) (j : Nat) (hj : j < 6) : Cv E yX4_drop wsX4_drop 0 0 [.ref (E.1 1), .int (nI j)] g h (up2 g 9 j (-1)) h := by
  refine ci_v (bytes := cX4_drop) (maxL := 2) (by decide) rfl (Nat.le_of_ble_eq_true rfl) (fun X cx hR => ?_)
  change Cx E X cX4_drop RX4 wsX4_drop 2 0 0 at cx
  change JJ E X g h 0 [(0, .ref (E.1 1)), (1, .int (nI j))] []
  have hinX4 : ∀ w ∈ u_ws RX4 TX4 2, w ∈ wsX4_drop := by decide +kernel
  have mf_16 : Cond.fieldLink RX4 16 (TX4 1).1 (TX4 1).2.1 (TX4 1).2.2.1 ∈ wsX4_drop := by decide +kernel
  refine jr_aload_n cx dX4_drop_0 0 rfl rfl ?_
  refine jr_get (f := 1) (v := .ref (E.1 9)) cx dX4_drop_1 (by decide) rfl rfl hinX4 (by decide) mf_16 rfl ?_
  refine jr_iload_n cx dX4_drop_4 1 rfl rfl ?_
  refine jr_iconst (v := (-1)) cx dX4_drop_5 (by decide) ?_
  refine jr_iast cx dX4_drop_6 (Or.inl ⟨by decide, by decide⟩) j rfl (show _ < 6 by omega) ?_
  exact jr_rv (by rfl) (by rfl) (hR 7 _ dX4_drop_7)
set_option maxHeartbeats 4000000 in
set_option maxRecDepth 100000 in
theorem c_X4_hasPlaces (E : mm_E) (g : mm_I) (h : mm_L) (j : Nat) (hj : j < 6) (f n : Int32) : Ci E yX4_hasPlaces wsX4_hasPlaces 1 22 [.ref (E.1 1), .int (nI j), .int f, .int n] g h (bI ((¬ f < 0 ∧ ¬ g 9 j < f) ∧ ¬ n < 0 ∧ ¬ g 9 j - f < n)) g h := by
  refine ci_z (bytes := cX4_hasPlaces) (maxL := 4) (by decide) rfl (Nat.le_of_ble_eq_true rfl) (bI_01 _) (fun X cx hR => ?_)
  change Cx E X cX4_hasPlaces RX4 wsX4_hasPlaces 4 1 22 at cx
  change JJ E X g h 0 [(0, .ref (E.1 1)), (1, .int (nI j)), (2, .int f), (3, .int n)] []
  have hinX4 : ∀ w ∈ u_ws RX4 TX4 2, w ∈ wsX4_hasPlaces := by decide +kernel
  have mf_16 : Cond.fieldLink RX4 16 (TX4 1).1 (TX4 1).2.1 (TX4 1).2.2.1 ∈ wsX4_hasPlaces := by decide +kernel
  have mini_X6_isBetween : Cond.initialized yX6_isBetween.cls ∈ wsX4_hasPlaces := by decide +kernel
  have msta_X6_isBetween : Cond.static yX6_isBetween ∈ wsX4_hasPlaces := by decide +kernel
  refine jr_iload_n cx dX4_hasPlaces_0 2 rfl rfl ?_
  refine jr_iconst (v := 0) cx dX4_hasPlaces_1 (by decide) ?_
  refine jr_aload_n cx dX4_hasPlaces_2 0 rfl rfl ?_
  refine jr_get (f := 1) (v := .ref (E.1 9)) cx dX4_hasPlaces_3 (by decide) rfl rfl hinX4 (by decide) mf_16 rfl ?_
  refine jr_iload_n cx dX4_hasPlaces_6 1 rfl rfl ?_
  refine jr_iald cx dX4_hasPlaces_7 (Or.inl ⟨by decide, by decide⟩) j rfl (show _ < 6 by omega) ?_
  refine jr_ni (host := RX6) [.int f, .int 0, .int (g 9 j)] 3 cx dX4_hasPlaces_8 (c_X6_isBetween E g h f 0 (g 9 j)) gX4_hasPlaces_X6_isBetween_n26 rfl (fun U hN => hN.2.2.2.2.2.1) mini_X6_isBetween msta_X6_isBetween (by decide +kernel) ⟨Nat.le_of_ble_eq_true rfl, Nat.le_of_ble_eq_true rfl⟩ rfl rfl (Nat.le_of_ble_eq_true rfl) ?_
  refine jr_bif_eq (tgt := 34) cx dX4_hasPlaces_11 (by decide) (fun c11 => ?_) (fun c11 => ?_)
  · refine jr_iconst (v := 0) cx dX4_hasPlaces_34 (by decide) ?_
    exact jr_ri (by exact (bI_f fun q => c11 q.1).symm) (by rfl) (by rfl) (hR 35 _ dX4_hasPlaces_35)
  · refine jr_iload_n cx dX4_hasPlaces_14 3 rfl rfl ?_
    refine jr_iconst (v := 0) cx dX4_hasPlaces_15 (by decide) ?_
    refine jr_aload_n cx dX4_hasPlaces_16 0 rfl rfl ?_
    refine jr_get (f := 1) (v := .ref (E.1 9)) cx dX4_hasPlaces_17 (by decide) rfl rfl hinX4 (by decide) mf_16 rfl ?_
    refine jr_iload_n cx dX4_hasPlaces_20 1 rfl rfl ?_
    refine jr_iald cx dX4_hasPlaces_21 (Or.inl ⟨by decide, by decide⟩) j rfl (show _ < 6 by omega) ?_
    refine jr_iload_n cx dX4_hasPlaces_22 2 rfl rfl ?_
    refine jr_isub cx dX4_hasPlaces_23 ?_
    refine jr_ni (host := RX6) [.int n, .int 0, .int ((g 9 j) - f)] 3 cx dX4_hasPlaces_24 (c_X6_isBetween E g h n 0 ((g 9 j) - f)) gX4_hasPlaces_X6_isBetween_n26 rfl (fun U hN => hN.2.2.2.2.2.1) mini_X6_isBetween msta_X6_isBetween (by decide +kernel) ⟨Nat.le_of_ble_eq_true rfl, Nat.le_of_ble_eq_true rfl⟩ rfl rfl (Nat.le_of_ble_eq_true rfl) ?_
    refine jr_bif_eq (tgt := 34) cx dX4_hasPlaces_27 (by decide) (fun c27 => ?_) (fun c27 => ?_)
    · refine jr_iconst (v := 0) cx dX4_hasPlaces_34 (by decide) ?_
      exact jr_ri (by exact (bI_f fun q => c27 q.2).symm) (by rfl) (by rfl) (hR 35 _ dX4_hasPlaces_35)
    · refine jr_iconst (v := 1) cx dX4_hasPlaces_30 (by decide) ?_
      refine jr_goto (tgt := 35) cx dX4_hasPlaces_31 (by decide) ?_
      exact jr_ri (by exact (bI_t ⟨c11, c27⟩).symm) (by rfl) (by rfl) (hR 35 _ dX4_hasPlaces_35)
set_option maxHeartbeats 4000000 in
set_option maxRecDepth 100000 in
theorem c_X4_readingAt (E : mm_E) (g : mm_I) (h : mm_L) (j : Nat) (hj : j < 6) (i : Nat) (hi : i < 40) : Ci E yX4_readingAt wsX4_readingAt 0 0 [.ref (E.1 1), .int (nI j), .int (nI i)] g h (g (39 + j) i) g h := by
  refine ci_i (bytes := cX4_readingAt) (maxL := 3) (by decide) rfl (Nat.le_of_ble_eq_true rfl) (fun X cx hR => ?_)
  change Cx E X cX4_readingAt RX4 wsX4_readingAt 3 0 0 at cx
  change JJ E X g h 0 [(0, .ref (E.1 1)), (1, .int (nI j)), (2, .int (nI i))] []
  have hinX4 : ∀ w ∈ u_ws RX4 TX4 2, w ∈ wsX4_readingAt := by decide +kernel
  have mf_11 : Cond.fieldLink RX4 11 (TX4 0).1 (TX4 0).2.1 (TX4 0).2.2.1 ∈ wsX4_readingAt := by decide +kernel
  refine jr_aload_n cx dX4_readingAt_0 0 rfl rfl ?_
  refine jr_get (f := 0) (v := .ref (E.1 33)) cx dX4_readingAt_1 (by decide) rfl rfl hinX4 (by decide) mf_11 rfl ?_
  refine jr_iload_n cx dX4_readingAt_4 1 rfl rfl ?_
  refine jr_aald cx dX4_readingAt_5 ⟨by decide, by decide⟩ j rfl (show j < 6 by omega) (39 + j) rfl ?_
  refine jr_iload_n cx dX4_readingAt_6 2 rfl rfl ?_
  refine jr_iald cx dX4_readingAt_7 (is_rd (show j < 6 by omega)) i rfl (by rw [ml_rd (show j < 6 by omega)]; omega) ?_
  exact jr_ri (by rfl) (by rfl) (by rfl) (hR 8 _ dX4_readingAt_8)
set_option maxHeartbeats 4000000 in
set_option maxRecDepth 100000 in
theorem c_X4_put (E : mm_E) (g : mm_I) (h : mm_L) (j : Nat) (hj : j < 6) (i : Nat) (hi : i < 40) (v : Int32) : Cv E yX4_put wsX4_put 0 0 [.ref (E.1 1), .int (nI j), .int (nI i), .int v] g h (up2 g (39 + j) i v) h := by
  refine ci_v (bytes := cX4_put) (maxL := 4) (by decide) rfl (Nat.le_of_ble_eq_true rfl) (fun X cx hR => ?_)
  change Cx E X cX4_put RX4 wsX4_put 4 0 0 at cx
  change JJ E X g h 0 [(0, .ref (E.1 1)), (1, .int (nI j)), (2, .int (nI i)), (3, .int v)] []
  have hinX4 : ∀ w ∈ u_ws RX4 TX4 2, w ∈ wsX4_put := by decide +kernel
  have mf_11 : Cond.fieldLink RX4 11 (TX4 0).1 (TX4 0).2.1 (TX4 0).2.2.1 ∈ wsX4_put := by decide +kernel
  refine jr_aload_n cx dX4_put_0 0 rfl rfl ?_
  refine jr_get (f := 0) (v := .ref (E.1 33)) cx dX4_put_1 (by decide) rfl rfl hinX4 (by decide) mf_11 rfl ?_
  refine jr_iload_n cx dX4_put_4 1 rfl rfl ?_
  refine jr_aald cx dX4_put_5 ⟨by decide, by decide⟩ j rfl (show j < 6 by omega) (39 + j) rfl ?_
  refine jr_iload_n cx dX4_put_6 2 rfl rfl ?_
  refine jr_iload_n cx dX4_put_7 3 rfl rfl ?_
  refine jr_iast cx dX4_put_8 (is_rd (show j < 6 by omega)) i rfl (by rw [ml_rd (show j < 6 by omega)]; omega) ?_
  exact jr_rv (by rfl) (by rfl) (hR 9 _ dX4_put_9)
def cpM (g : mm_I) (k k2 a b z : Nat) : mm_I := fun q => if q = k2 then va_cpy (g k) (g k2) a b z else g q
set_option maxHeartbeats 4000000 in
set_option maxRecDepth 100000 in
theorem c_X4_carry (E : mm_E) (g : mm_I) (h : mm_L) (r t : Nat) (hr : r < 6) (ht : t < 6) (a b z : Nat) (ha : a + z ≤ 40) (hb : b + z ≤ 40) : Cv E yX4_carry wsX4_carry 1 60 [.ref (E.1 1), .int (nI r), .int (nI a), .int (nI t), .int (nI b), .int (nI z)] g h (cpM g (39 + r) (39 + t) a b z) h := by
  refine ci_v (bytes := cX4_carry) (maxL := 6) (by decide) rfl (Nat.le_of_ble_eq_true rfl) (fun X cx hR => ?_)
  change Cx E X cX4_carry RX4 wsX4_carry 6 1 60 at cx
  change JJ E X g h 0 [(0, .ref (E.1 1)), (1, .int (nI r)), (2, .int (nI a)), (3, .int (nI t)), (4, .int (nI b)), (5, .int (nI z))] []
  have hinX4 : ∀ w ∈ u_ws RX4 TX4 2, w ∈ wsX4_carry := by decide +kernel
  have mf_11 : Cond.fieldLink RX4 11 (TX4 0).1 (TX4 0).2.1 (TX4 0).2.2.1 ∈ wsX4_carry := by decide +kernel
  have ml_cp : Cond.methodLink RX4 30 arraycopyName ∈ wsX4_carry := by decide +kernel
  have mnat : Cond.native arraycopyName ∈ wsX4_carry := by decide +kernel
  have mst_cp : Cond.static arraycopyName ∈ wsX4_carry := by decide +kernel
  have mi_sys : Cond.initialized "java/lang/System" ∈ wsX4_carry := by decide +kernel
  refine jr_aload_n cx dX4_carry_0 0 rfl rfl ?_
  refine jr_get (f := 0) (v := .ref (E.1 33)) cx dX4_carry_1 (by decide) rfl rfl hinX4 (by decide) mf_11 rfl ?_
  refine jr_iload_n cx dX4_carry_4 1 rfl rfl ?_
  refine jr_aald cx dX4_carry_5 ⟨by decide, by decide⟩ r rfl (show r < 6 by omega) (39 + r) rfl ?_
  refine jr_iload_n cx dX4_carry_6 2 rfl rfl ?_
  refine jr_aload_n cx dX4_carry_7 0 rfl rfl ?_
  refine jr_get (f := 0) (v := .ref (E.1 33)) cx dX4_carry_8 (by decide) rfl rfl hinX4 (by decide) mf_11 rfl ?_
  refine jr_iload_n cx dX4_carry_11 3 rfl rfl ?_
  refine jr_aald cx dX4_carry_12 ⟨by decide, by decide⟩ t rfl (show t < 6 by omega) (39 + t) rfl ?_
  refine jr_iload cx dX4_carry_13 4 rfl ?_
  refine jr_iload cx dX4_carry_15 5 rfl ?_
  refine jr_copy cx dX4_carry_17 ml_cp mnat mst_cp mi_sys (is_rd (show r < 6 by omega)) (is_rd (show t < 6 by omega)) a b z rfl rfl rfl (by rw [ml_rd (show r < 6 by omega)]; omega) (by rw [ml_rd (show t < 6 by omega)]; omega) (by decide) (by decide) ?_
  exact jr_rv (by rfl) (by rfl) (hR 20 _ dX4_carry_20)
set_option maxHeartbeats 4000000 in
set_option maxRecDepth 100000 in
theorem c_X4_heldCount (E : mm_E) (g : mm_I) (h : mm_L) (j : Nat) (hj : j < 6) (n : Nat) (hn : n ≤ 40) (hs : g 9 j = nI n) : Ci E yX4_heldCount wsX4_heldCount 0 0 [.ref (E.1 1), .int (nI j)] g h (nI (sHeld (g (39 + j)) n)) g h := by
  refine ci_i (bytes := cX4_heldCount) (maxL := 4) (by decide) rfl (Nat.le_of_ble_eq_true rfl) (fun X cx hR => ?_)
  change Cx E X cX4_heldCount RX4 wsX4_heldCount 4 0 0 at cx
  change JJ E X g h 0 [(0, .ref (E.1 1)), (1, .int (nI j))] []
  have hinX4 : ∀ w ∈ u_ws RX4 TX4 2, w ∈ wsX4_heldCount := by decide +kernel
  have mf_16 : Cond.fieldLink RX4 16 (TX4 1).1 (TX4 1).2.1 (TX4 1).2.2.1 ∈ wsX4_heldCount := by decide +kernel
  have mf_11 : Cond.fieldLink RX4 11 (TX4 0).1 (TX4 0).2.1 (TX4 0).2.2.1 ∈ wsX4_heldCount := by decide +kernel
  refine jr_iconst (v := 0) cx dX4_heldCount_0 (by decide) ?_
  refine jr_istore_n (L' := [(2, .int 0), (0, .ref (E.1 1)), (1, .int (nI j))]) cx dX4_heldCount_1 rfl (by decide) rfl ?_
  refine jr_iconst (v := 0) cx dX4_heldCount_2 (by decide) ?_
  refine jr_istore_n (L' := [(3, .int 0), (2, .int 0), (0, .ref (E.1 1)), (1, .int (nI j))]) cx dX4_heldCount_3 rfl (by decide) rfl ?_
  have key1 : ∀ (fu1 : Nat) (i : Nat), n + 1 ≤ i + fu1 → (i ≤ n) → JJ E X g h 4 [(0, .ref (E.1 1)), (1, .int (nI j)), (2, .int (nI (sHeld (g (39 + j)) i))), (3, .int (nI i))] [] := by
    intro fu1
    induction fu1 with
    | zero => intro i hfu1 h1; exfalso; omega
    | succ fu1 ih1 =>
      intro i hfu1 h1
      refine jr_iload_n cx dX4_heldCount_4 3 rfl rfl ?_
      refine jr_aload_n cx dX4_heldCount_5 0 rfl rfl ?_
      refine jr_get (f := 1) (v := .ref (E.1 9)) cx dX4_heldCount_6 (by decide) rfl rfl hinX4 (by decide) mf_16 rfl ?_
      refine jr_iload_n cx dX4_heldCount_9 1 rfl rfl ?_
      refine jr_iald cx dX4_heldCount_10 (Or.inl ⟨by decide, by decide⟩) j rfl (show _ < 6 by omega) ?_
      refine jr_top hs ?_
      refine jr_icmp_ge (tgt := 36) cx dX4_heldCount_11 (by decide) (fun c11 => ?_) (fun c11 => ?_)
      · have n11 : n ≤ i := (nI_leI (a := n) (b := i) (by omega) (by omega)).mp c11
        refine jr_iload_n cx dX4_heldCount_36 2 rfl rfl ?_
        exact jr_ri (by rw [show i = n by omega]) (by rfl) (by rfl) (hR 37 _ dX4_heldCount_37)
      · have n11 : ¬ (n ≤ i) := fun q => c11 ((nI_leI (a := n) (b := i) (by omega) (by omega)).mpr q)
        refine jr_aload_n cx dX4_heldCount_14 0 rfl rfl ?_
        refine jr_get (f := 0) (v := .ref (E.1 33)) cx dX4_heldCount_15 (by decide) rfl rfl hinX4 (by decide) mf_11 rfl ?_
        refine jr_iload_n cx dX4_heldCount_18 1 rfl rfl ?_
        refine jr_aald cx dX4_heldCount_19 ⟨by decide, by decide⟩ j rfl (show j < 6 by omega) (39 + j) rfl ?_
        refine jr_iload_n cx dX4_heldCount_20 3 rfl rfl ?_
        refine jr_iald cx dX4_heldCount_21 (is_rd (show j < 6 by omega)) i rfl (by rw [ml_rd (show j < 6 by omega)]; omega) ?_
        refine jr_bipush (v := (-9)) cx dX4_heldCount_22 (by decide) ?_
        refine jr_icmp_eq (tgt := 30) cx dX4_heldCount_24 (by decide) (fun c24 => ?_) (fun c24 => ?_)
        · refine jr_iinc (n := 3) (v := nI (i + 1)) (L' := [(3, .int (nI (i + 1))), (0, .ref (E.1 1)), (1, .int (nI j)), (2, .int (nI (sHeld (g (39 + j)) i)))]) cx dX4_heldCount_30 rfl (nI_1 _) (by decide) rfl ?_
          refine jr_goto (tgt := 4) cx dX4_heldCount_33 (by decide) ?_
          refine jr_pick (L' := [(0, .ref (E.1 1)), (1, .int (nI j)), (2, .int (nI (sHeld (g (39 + j)) i))), (3, .int (nI (i + 1)))]) [1, 2, 3, 0] rfl ?_
          have e2 : (nI (sHeld (g (39 + j)) i) : Int32) = (nI (sHeld (g (39 + j)) (i + 1))) := by simp [sHeld, c11, n11, c24]
          refine jr_loc (lc_n (lc_n (lc_i e2 (lc_n rfl)))) ?_
          exact ih1 (i + 1) (by omega) (by omega)
        · refine jr_iinc (n := 2) (v := nI (sHeld (g (39 + j)) i + 1)) (L' := [(2, .int (nI (sHeld (g (39 + j)) i + 1))), (0, .ref (E.1 1)), (1, .int (nI j)), (3, .int (nI i))]) cx dX4_heldCount_27 rfl (nI_1 _) (by decide) rfl ?_
          refine jr_iinc (n := 3) (v := nI (i + 1)) (L' := [(3, .int (nI (i + 1))), (2, .int (nI (sHeld (g (39 + j)) i + 1))), (0, .ref (E.1 1)), (1, .int (nI j))]) cx dX4_heldCount_30 rfl (nI_1 _) (by decide) rfl ?_
          refine jr_goto (tgt := 4) cx dX4_heldCount_33 (by decide) ?_
          refine jr_pick (L' := [(0, .ref (E.1 1)), (1, .int (nI j)), (2, .int (nI (sHeld (g (39 + j)) i + 1))), (3, .int (nI (i + 1)))]) [2, 3, 1, 0] rfl ?_
          have e2 : (nI (sHeld (g (39 + j)) i + 1) : Int32) = (nI (sHeld (g (39 + j)) (i + 1))) := by simp [sHeld, c11, n11, c24]
          refine jr_loc (lc_n (lc_n (lc_i e2 (lc_n rfl)))) ?_
          exact ih1 (i + 1) (by omega) (by omega)
  refine jr_pick (L' := [(0, .ref (E.1 1)), (1, .int (nI j)), (2, .int 0), (3, .int 0)]) [2, 3, 1, 0] rfl ?_
  have e2 : (0 : Int32) = (nI (sHeld (g (39 + j)) 0)) := by rfl
  have e3 : (0 : Int32) = (nI 0) := by rfl
  refine jr_loc (lc_n (lc_n (lc_i e2 (lc_i e3 rfl)))) ?_
  exact key1 (n + 1) 0 (by omega) (by omega)
set_option maxHeartbeats 4000000 in
set_option maxRecDepth 100000 in
theorem c_X4_heldSum (E : mm_E) (g : mm_I) (h : mm_L) (j : Nat) (hj : j < 6) (a n : Nat) (hn : a + n ≤ 40) : Ci E yX4_heldSum wsX4_heldSum 0 0 [.ref (E.1 1), .int (nI j), .int (nI a), .int (nI n)] g h (sSum (g (39 + j)) a n) g h := by
  refine ci_i (bytes := cX4_heldSum) (maxL := 6) (by decide) rfl (Nat.le_of_ble_eq_true rfl) (fun X cx hR => ?_)
  change Cx E X cX4_heldSum RX4 wsX4_heldSum 6 0 0 at cx
  change JJ E X g h 0 [(0, .ref (E.1 1)), (1, .int (nI j)), (2, .int (nI a)), (3, .int (nI n))] []
  have hinX4 : ∀ w ∈ u_ws RX4 TX4 2, w ∈ wsX4_heldSum := by decide +kernel
  have mf_11 : Cond.fieldLink RX4 11 (TX4 0).1 (TX4 0).2.1 (TX4 0).2.2.1 ∈ wsX4_heldSum := by decide +kernel
  refine jr_iconst (v := 0) cx dX4_heldSum_0 (by decide) ?_
  refine jr_istore (L' := [(4, .int 0), (0, .ref (E.1 1)), (1, .int (nI j)), (2, .int (nI a)), (3, .int (nI n))]) cx dX4_heldSum_1 (by decide) rfl ?_
  refine jr_iload_n cx dX4_heldSum_3 3 rfl rfl ?_
  refine jr_istore (L' := [(5, .int (nI a)), (4, .int 0), (0, .ref (E.1 1)), (1, .int (nI j)), (2, .int (nI a)), (3, .int (nI n))]) cx dX4_heldSum_4 (by decide) rfl ?_
  have key1 : ∀ (fu1 : Nat) (i : Nat), n + 1 ≤ i + fu1 → (i ≤ n) → JJ E X g h 6 [(0, .ref (E.1 1)), (1, .int (nI j)), (2, .int (nI a)), (3, .int (nI n)), (4, .int (sSum (g (39 + j)) a i)), (5, .int (nI (a + i)))] [] := by
    intro fu1
    induction fu1 with
    | zero => intro i hfu1 h1; exfalso; omega
    | succ fu1 ih1 =>
      intro i hfu1 h1
      refine jr_iload cx dX4_heldSum_6 5 rfl ?_
      refine jr_iload_n cx dX4_heldSum_8 2 rfl rfl ?_
      refine jr_iload_n cx dX4_heldSum_9 3 rfl rfl ?_
      refine jr_iadd cx dX4_heldSum_10 ?_
      refine jr_top (show (nI a : Int32) + (nI n) = nI (a + n) from nI_add a n) ?_
      refine jr_icmp_ge (tgt := 48) cx dX4_heldSum_11 (by decide) (fun c11 => ?_) (fun c11 => ?_)
      · have n11 : a + n ≤ a + i := (nI_leI (a := a + n) (b := a + i) (by omega) (by omega)).mp c11
        refine jr_iload cx dX4_heldSum_48 4 rfl ?_
        exact jr_ri (by rw [show i = n by omega]) (by rfl) (by rfl) (hR 50 _ dX4_heldSum_50)
      · have n11 : ¬ (a + n ≤ a + i) := fun q => c11 ((nI_leI (a := a + n) (b := a + i) (by omega) (by omega)).mpr q)
        refine jr_aload_n cx dX4_heldSum_14 0 rfl rfl ?_
        refine jr_get (f := 0) (v := .ref (E.1 33)) cx dX4_heldSum_15 (by decide) rfl rfl hinX4 (by decide) mf_11 rfl ?_
        refine jr_iload_n cx dX4_heldSum_18 1 rfl rfl ?_
        refine jr_aald cx dX4_heldSum_19 ⟨by decide, by decide⟩ j rfl (show j < 6 by omega) (39 + j) rfl ?_
        refine jr_iload cx dX4_heldSum_20 5 rfl ?_
        refine jr_iald cx dX4_heldSum_22 (is_rd (show j < 6 by omega)) (a + i) rfl (by rw [ml_rd (show j < 6 by omega)]; omega) ?_
        refine jr_bipush (v := (-9)) cx dX4_heldSum_23 (by decide) ?_
        refine jr_icmp_eq (tgt := 42) cx dX4_heldSum_25 (by decide) (fun c25 => ?_) (fun c25 => ?_)
        · refine jr_iinc (n := 5) (v := nI (a + i + 1)) (L' := [(5, .int (nI (a + i + 1))), (0, .ref (E.1 1)), (1, .int (nI j)), (2, .int (nI a)), (3, .int (nI n)), (4, .int (sSum (g (39 + j)) a i))]) cx dX4_heldSum_42 rfl (nI_1 _) (by decide) rfl ?_
          refine jr_goto (tgt := 6) cx dX4_heldSum_45 (by decide) ?_
          refine jr_pick (L' := [(0, .ref (E.1 1)), (1, .int (nI j)), (2, .int (nI a)), (3, .int (nI n)), (4, .int (sSum (g (39 + j)) a i)), (5, .int (nI (a + i + 1)))]) [1, 2, 3, 4, 5, 0] rfl ?_
          have e4 : (sSum (g (39 + j)) a i : Int32) = (sSum (g (39 + j)) a (i + 1)) := by simp [sSum, c11, n11, c25]
          have e5 : (nI (a + i + 1) : Int32) = (nI (a + (i + 1))) := by rfl
          refine jr_loc (lc_n (lc_n (lc_n (lc_n (lc_i e4 (lc_i e5 rfl)))))) ?_
          exact ih1 (i + 1) (by omega) (by omega)
        · refine jr_iload cx dX4_heldSum_28 4 rfl ?_
          refine jr_aload_n cx dX4_heldSum_30 0 rfl rfl ?_
          refine jr_get (f := 0) (v := .ref (E.1 33)) cx dX4_heldSum_31 (by decide) rfl rfl hinX4 (by decide) mf_11 rfl ?_
          refine jr_iload_n cx dX4_heldSum_34 1 rfl rfl ?_
          refine jr_aald cx dX4_heldSum_35 ⟨by decide, by decide⟩ j rfl (show j < 6 by omega) (39 + j) rfl ?_
          refine jr_iload cx dX4_heldSum_36 5 rfl ?_
          refine jr_iald cx dX4_heldSum_38 (is_rd (show j < 6 by omega)) (a + i) rfl (by rw [ml_rd (show j < 6 by omega)]; omega) ?_
          refine jr_iadd cx dX4_heldSum_39 ?_
          refine jr_istore (L' := [(4, .int ((sSum (g (39 + j)) a i) + (g (39 + j) (a + i)))), (0, .ref (E.1 1)), (1, .int (nI j)), (2, .int (nI a)), (3, .int (nI n)), (5, .int (nI (a + i)))]) cx dX4_heldSum_40 (by decide) rfl ?_
          refine jr_iinc (n := 5) (v := nI (a + i + 1)) (L' := [(5, .int (nI (a + i + 1))), (4, .int ((sSum (g (39 + j)) a i) + (g (39 + j) (a + i)))), (0, .ref (E.1 1)), (1, .int (nI j)), (2, .int (nI a)), (3, .int (nI n))]) cx dX4_heldSum_42 rfl (nI_1 _) (by decide) rfl ?_
          refine jr_goto (tgt := 6) cx dX4_heldSum_45 (by decide) ?_
          refine jr_pick (L' := [(0, .ref (E.1 1)), (1, .int (nI j)), (2, .int (nI a)), (3, .int (nI n)), (4, .int ((sSum (g (39 + j)) a i) + (g (39 + j) (a + i)))), (5, .int (nI (a + i + 1)))]) [2, 3, 4, 5, 1, 0] rfl ?_
          have e4 : ((sSum (g (39 + j)) a i) + (g (39 + j) (a + i)) : Int32) = (sSum (g (39 + j)) a (i + 1)) := by simp [sSum, c11, n11, c25]
          have e5 : (nI (a + i + 1) : Int32) = (nI (a + (i + 1))) := by rfl
          refine jr_loc (lc_n (lc_n (lc_n (lc_n (lc_i e4 (lc_i e5 rfl)))))) ?_
          exact ih1 (i + 1) (by omega) (by omega)
  refine jr_pick (L' := [(0, .ref (E.1 1)), (1, .int (nI j)), (2, .int (nI a)), (3, .int (nI n)), (4, .int 0), (5, .int (nI a))]) [2, 3, 4, 5, 1, 0] rfl ?_
  have e4 : (0 : Int32) = (sSum (g (39 + j)) a 0) := by rfl
  have e5 : (nI a : Int32) = (nI (a + 0)) := by rfl
  refine jr_loc (lc_n (lc_n (lc_n (lc_n (lc_i e4 (lc_i e5 rfl)))))) ?_
  exact key1 (n + 1) 0 (by omega) (by omega)
set_option maxHeartbeats 4000000 in
set_option maxRecDepth 100000 in
theorem c_X4_mirrorSum (E : mm_E) (g : mm_I) (h : mm_L) (j : Nat) (hj : j < 6) (n i : Nat) (hn : n ≤ 40) (hi : i < n) (hs : g 9 j = nI n) : Ci E yX4_mirrorSum wsX4_mirrorSum 0 0 [.ref (E.1 1), .int (nI j), .int (nI i)] g h (g (39 + j) i + g (39 + j) (n - 1 - i)) g h := by
  refine ci_i (bytes := cX4_mirrorSum) (maxL := 3) (by decide) rfl (Nat.le_of_ble_eq_true rfl) (fun X cx hR => ?_)
  change Cx E X cX4_mirrorSum RX4 wsX4_mirrorSum 3 0 0 at cx
  change JJ E X g h 0 [(0, .ref (E.1 1)), (1, .int (nI j)), (2, .int (nI i))] []
  have hinX4 : ∀ w ∈ u_ws RX4 TX4 2, w ∈ wsX4_mirrorSum := by decide +kernel
  have mf_11 : Cond.fieldLink RX4 11 (TX4 0).1 (TX4 0).2.1 (TX4 0).2.2.1 ∈ wsX4_mirrorSum := by decide +kernel
  have mf_16 : Cond.fieldLink RX4 16 (TX4 1).1 (TX4 1).2.1 (TX4 1).2.2.1 ∈ wsX4_mirrorSum := by decide +kernel
  refine jr_aload_n cx dX4_mirrorSum_0 0 rfl rfl ?_
  refine jr_get (f := 0) (v := .ref (E.1 33)) cx dX4_mirrorSum_1 (by decide) rfl rfl hinX4 (by decide) mf_11 rfl ?_
  refine jr_iload_n cx dX4_mirrorSum_4 1 rfl rfl ?_
  refine jr_aald cx dX4_mirrorSum_5 ⟨by decide, by decide⟩ j rfl (show j < 6 by omega) (39 + j) rfl ?_
  refine jr_iload_n cx dX4_mirrorSum_6 2 rfl rfl ?_
  refine jr_iald cx dX4_mirrorSum_7 (is_rd (show j < 6 by omega)) i rfl (by rw [ml_rd (show j < 6 by omega)]; omega) ?_
  refine jr_aload_n cx dX4_mirrorSum_8 0 rfl rfl ?_
  refine jr_get (f := 0) (v := .ref (E.1 33)) cx dX4_mirrorSum_9 (by decide) rfl rfl hinX4 (by decide) mf_11 rfl ?_
  refine jr_iload_n cx dX4_mirrorSum_12 1 rfl rfl ?_
  refine jr_aald cx dX4_mirrorSum_13 ⟨by decide, by decide⟩ j rfl (show j < 6 by omega) (39 + j) rfl ?_
  refine jr_aload_n cx dX4_mirrorSum_14 0 rfl rfl ?_
  refine jr_get (f := 1) (v := .ref (E.1 9)) cx dX4_mirrorSum_15 (by decide) rfl rfl hinX4 (by decide) mf_16 rfl ?_
  refine jr_iload_n cx dX4_mirrorSum_18 1 rfl rfl ?_
  refine jr_iald cx dX4_mirrorSum_19 (Or.inl ⟨by decide, by decide⟩) j rfl (show _ < 6 by omega) ?_
  refine jr_top hs ?_
  refine jr_iconst (v := 1) cx dX4_mirrorSum_20 (by decide) ?_
  refine jr_isub cx dX4_mirrorSum_21 ?_
  refine jr_top (show (nI n : Int32) - 1 = nI (n - 1) from pk_sub (a := n) (b := 1) (by omega)) ?_
  refine jr_iload_n cx dX4_mirrorSum_22 2 rfl rfl ?_
  refine jr_isub cx dX4_mirrorSum_23 ?_
  refine jr_top (show (nI (n - 1) : Int32) - (nI i) = nI ((n - 1) - i) from pk_sub (a := n - 1) (b := i) (by omega)) ?_
  refine jr_iald cx dX4_mirrorSum_24 (is_rd (show j < 6 by omega)) ((n - 1) - i) rfl (by rw [ml_rd (show j < 6 by omega)]; omega) ?_
  refine jr_iadd cx dX4_mirrorSum_25 ?_
  exact jr_ri (by rfl) (by rfl) (by rfl) (hR 26 _ dX4_mirrorSum_26)
set_option maxHeartbeats 4000000 in
set_option maxRecDepth 100000 in
theorem c_X4_levelLength (E : mm_E) (g : mm_I) (h : mm_L) (j : Nat) (hj : j < 6) (a n : Nat) (w : Int32) (hn : n ≤ 40) (ha : a ≤ n) (hs : g 9 j = nI n) : Ci E yX4_levelLength wsX4_levelLength 1 23 [.ref (E.1 1), .int (nI j), .int (nI a), .int w] g h (nI (sLvl (g (39 + j)) w 100000 (-100000) a (n - a))) g h := by
  refine ci_i (bytes := cX4_levelLength) (maxL := 9) (by decide) rfl (Nat.le_of_ble_eq_true rfl) (fun X cx hR => ?_)
  change Cx E X cX4_levelLength RX4 wsX4_levelLength 9 1 23 at cx
  change JJ E X g h 0 [(0, .ref (E.1 1)), (1, .int (nI j)), (2, .int (nI a)), (3, .int w)] []
  have hinX4 : ∀ w ∈ u_ws RX4 TX4 2, w ∈ wsX4_levelLength := by decide +kernel
  have mc_40 : Cond.constant RX4 40 100000 ∈ wsX4_levelLength := by decide +kernel
  have mc_41 : Cond.constant RX4 41 (-100000) ∈ wsX4_levelLength := by decide +kernel
  have mf_16 : Cond.fieldLink RX4 16 (TX4 1).1 (TX4 1).2.1 (TX4 1).2.2.1 ∈ wsX4_levelLength := by decide +kernel
  have mf_11 : Cond.fieldLink RX4 11 (TX4 0).1 (TX4 0).2.1 (TX4 0).2.2.1 ∈ wsX4_levelLength := by decide +kernel
  have ml_mmin : Cond.methodLink RX4 42 Lib.Math.min.name ∈ wsX4_levelLength := by decide +kernel
  have mst_mmin : Cond.static Lib.Math.min.name ∈ wsX4_levelLength := by decide +kernel
  have mi_math : Cond.initialized "java/lang/Math" ∈ wsX4_levelLength := by decide +kernel
  have mco_mmin : Cond.code Lib.Math.min.name Lib.Math.min.code 2 (some .int) ∈ wsX4_levelLength := by first | decide +kernel | (unfold wsX4_levelLength; simp)
  have ml_mmax : Cond.methodLink RX4 48 Lib.Math.max.name ∈ wsX4_levelLength := by decide +kernel
  have mst_mmax : Cond.static Lib.Math.max.name ∈ wsX4_levelLength := by decide +kernel
  have mco_mmax : Cond.code Lib.Math.max.name Lib.Math.max.code 2 (some .int) ∈ wsX4_levelLength := by first | decide +kernel | (unfold wsX4_levelLength; simp)
  refine jr_ldc cx dX4_levelLength_0 mc_40 ?_
  refine jr_istore (L' := [(4, .int 100000), (0, .ref (E.1 1)), (1, .int (nI j)), (2, .int (nI a)), (3, .int w)]) cx dX4_levelLength_2 (by decide) rfl ?_
  refine jr_ldc cx dX4_levelLength_4 mc_41 ?_
  refine jr_istore (L' := [(5, .int (-100000)), (4, .int 100000), (0, .ref (E.1 1)), (1, .int (nI j)), (2, .int (nI a)), (3, .int w)]) cx dX4_levelLength_6 (by decide) rfl ?_
  refine jr_iconst (v := 0) cx dX4_levelLength_8 (by decide) ?_
  refine jr_istore (L' := [(6, .int 0), (5, .int (-100000)), (4, .int 100000), (0, .ref (E.1 1)), (1, .int (nI j)), (2, .int (nI a)), (3, .int w)]) cx dX4_levelLength_9 (by decide) rfl ?_
  refine jr_iload_n cx dX4_levelLength_11 5 rfl rfl ?_
  refine jr_istore (L' := [(7, .int (nI a)), (6, .int 0), (5, .int (-100000)), (4, .int 100000), (0, .ref (E.1 1)), (1, .int (nI j)), (2, .int (nI a)), (3, .int w)]) cx dX4_levelLength_12 (by decide) rfl ?_
  have key1 : ∀ (fu1 : Nat) (i c : Nat) (lo hi : Int32), n + 1 ≤ i + fu1 → (i ≤ n) → (c ≤ i) → (c + sLvl (g (39 + j)) w lo hi i (n - i) = sLvl (g (39 + j)) w 100000 (-100000) a (n - a)) → JJ E X g h 14 [(0, .ref (E.1 1)), (1, .int (nI j)), (3, .int w), (4, .int lo), (5, .int hi), (6, .int (nI c)), (7, .int (nI i))] [] := by
    intro fu1
    induction fu1 with
    | zero => intro i c lo hi hfu1 h1 h2 h3; exfalso; omega
    | succ fu1 ih1 =>
      intro i c lo hi hfu1 h1 h2 h3
      refine jr_iload cx dX4_levelLength_14 6 rfl ?_
      refine jr_aload_n cx dX4_levelLength_16 0 rfl rfl ?_
      refine jr_get (f := 1) (v := .ref (E.1 9)) cx dX4_levelLength_17 (by decide) rfl rfl hinX4 (by decide) mf_16 rfl ?_
      refine jr_iload_n cx dX4_levelLength_20 1 rfl rfl ?_
      refine jr_iald cx dX4_levelLength_21 (Or.inl ⟨by decide, by decide⟩) j rfl (show _ < 6 by omega) ?_
      refine jr_top hs ?_
      refine jr_icmp_ge (tgt := 82) cx dX4_levelLength_22 (by decide) (fun c22 => ?_) (fun c22 => ?_)
      · have n22 : n ≤ i := (nI_leI (a := n) (b := i) (by omega) (by omega)).mp c22
        refine jr_iload cx dX4_levelLength_82 5 rfl ?_
        exact jr_ri (by rw [← h3, show n - i = 0 by omega]; rfl) (by rfl) (by rfl) (hR 84 _ dX4_levelLength_84)
      · have n22 : ¬ (n ≤ i) := fun q => c22 ((nI_leI (a := n) (b := i) (by omega) (by omega)).mpr q)
        refine jr_aload_n cx dX4_levelLength_25 0 rfl rfl ?_
        refine jr_get (f := 0) (v := .ref (E.1 33)) cx dX4_levelLength_26 (by decide) rfl rfl hinX4 (by decide) mf_11 rfl ?_
        refine jr_iload_n cx dX4_levelLength_29 1 rfl rfl ?_
        refine jr_aald cx dX4_levelLength_30 ⟨by decide, by decide⟩ j rfl (show j < 6 by omega) (39 + j) rfl ?_
        refine jr_iload cx dX4_levelLength_31 6 rfl ?_
        refine jr_iald cx dX4_levelLength_33 (is_rd (show j < 6 by omega)) i rfl (by rw [ml_rd (show j < 6 by omega)]; omega) ?_
        refine jr_istore (L' := [(8, .int (g (39 + j) i)), (0, .ref (E.1 1)), (1, .int (nI j)), (3, .int w), (4, .int lo), (5, .int hi), (6, .int (nI c)), (7, .int (nI i))]) cx dX4_levelLength_34 (by decide) rfl ?_
        refine jr_iload cx dX4_levelLength_36 4 rfl ?_
        refine jr_iload cx dX4_levelLength_38 0 rfl ?_
        refine jr_mmin cx dX4_levelLength_40 ml_mmin mst_mmin mi_math mco_mmin (by decide) (Nat.le_of_ble_eq_true rfl) ?_
        refine jr_istore (L' := [(4, .int (if g (39 + j) i < lo then g (39 + j) i else lo)), (8, .int (g (39 + j) i)), (0, .ref (E.1 1)), (1, .int (nI j)), (3, .int w), (5, .int hi), (6, .int (nI c)), (7, .int (nI i))]) cx dX4_levelLength_43 (by decide) rfl ?_
        refine jr_iload cx dX4_levelLength_45 5 rfl ?_
        refine jr_iload cx dX4_levelLength_47 1 rfl ?_
        refine jr_mmax cx dX4_levelLength_49 ml_mmax mst_mmax mi_math mco_mmax (by decide) (Nat.le_of_ble_eq_true rfl) ?_
        refine jr_istore (L' := [(5, .int (if hi < g (39 + j) i then g (39 + j) i else hi)), (4, .int (if g (39 + j) i < lo then g (39 + j) i else lo)), (8, .int (g (39 + j) i)), (0, .ref (E.1 1)), (1, .int (nI j)), (3, .int w), (6, .int (nI c)), (7, .int (nI i))]) cx dX4_levelLength_52 (by decide) rfl ?_
        refine jr_iload cx dX4_levelLength_54 2 rfl ?_
        refine jr_bipush (v := (-9)) cx dX4_levelLength_56 (by decide) ?_
        refine jr_icmp_eq (tgt := 82) cx dX4_levelLength_58 (by decide) (fun c58 => ?_) (fun c58 => ?_)
        · refine jr_iload cx dX4_levelLength_82 6 rfl ?_
          exact jr_ri (by rw [← h3, show n - i = (n - (i + 1)) + 1 by omega]; rw [sLvl_z (Or.inl c58)]; rfl) (by rfl) (by rfl) (hR 84 _ dX4_levelLength_84)
        · refine jr_iload cx dX4_levelLength_61 0 rfl ?_
          refine jr_iload cx dX4_levelLength_63 1 rfl ?_
          refine jr_isub cx dX4_levelLength_65 ?_
          refine jr_iload_n cx dX4_levelLength_66 5 rfl rfl ?_
          refine jr_icmp_le (tgt := 73) cx dX4_levelLength_67 (by decide) (fun c67 => ?_) (fun c67 => ?_)
          · refine jr_iinc (n := 6) (v := nI (c + 1)) (L' := [(6, .int (nI (c + 1))), (5, .int (if hi < g (39 + j) i then g (39 + j) i else hi)), (4, .int (if g (39 + j) i < lo then g (39 + j) i else lo)), (8, .int (g (39 + j) i)), (0, .ref (E.1 1)), (1, .int (nI j)), (3, .int w), (7, .int (nI i))]) cx dX4_levelLength_73 rfl (nI_1 _) (by decide) rfl ?_
            refine jr_iinc (n := 7) (v := nI (i + 1)) (L' := [(7, .int (nI (i + 1))), (6, .int (nI (c + 1))), (5, .int (if hi < g (39 + j) i then g (39 + j) i else hi)), (4, .int (if g (39 + j) i < lo then g (39 + j) i else lo)), (8, .int (g (39 + j) i)), (0, .ref (E.1 1)), (1, .int (nI j)), (3, .int w)]) cx dX4_levelLength_76 rfl (nI_1 _) (by decide) rfl ?_
            refine jr_goto (tgt := 14) cx dX4_levelLength_79 (by decide) ?_
            refine jr_pick (L' := [(0, .ref (E.1 1)), (1, .int (nI j)), (3, .int w), (4, .int (if g (39 + j) i < lo then g (39 + j) i else lo)), (5, .int (if hi < g (39 + j) i then g (39 + j) i else hi)), (6, .int (nI (c + 1))), (7, .int (nI (i + 1)))]) [5, 6, 7, 3, 2, 1, 0] rfl ?_
            exact ih1 (i + 1) (c + 1) (if g (39 + j) i < lo then g (39 + j) i else lo) (if hi < g (39 + j) i then g (39 + j) i else hi) (by omega) (by omega) (by omega) (by rw [← h3, show n - i = (n - (i + 1)) + 1 by omega]; rw [sLvl_s (fun q => q.elim c58 (fun q => q c67))]; omega)
          · refine jr_goto (tgt := 82) cx dX4_levelLength_70 (by decide) ?_
            refine jr_iload cx dX4_levelLength_82 6 rfl ?_
            exact jr_ri (by rw [← h3, show n - i = (n - (i + 1)) + 1 by omega]; rw [sLvl_z (Or.inr c67)]; rfl) (by rfl) (by rfl) (hR 84 _ dX4_levelLength_84)
  refine jr_pick (L' := [(0, .ref (E.1 1)), (1, .int (nI j)), (3, .int w), (4, .int 100000), (5, .int (-100000)), (6, .int 0), (7, .int (nI a))]) [4, 5, 7, 3, 2, 1, 0] rfl ?_
  have e6 : (0 : Int32) = (nI 0) := by rfl
  refine jr_loc (lc_n (lc_n (lc_n (lc_n (lc_n (lc_i e6 (lc_n rfl))))))) ?_
  exact key1 (n + 1) a 0 100000 (-100000) (by omega) (by omega) (by omega) (by omega)
theorem sBest_le (len : Nat → Nat) : ∀ n, (sBest len n).1 ≤ n
  | 0 => Nat.le_refl 0
  | n + 1 => by have := sBest_le len n; unfold sBest; split
                · omega
                · exact Nat.le_succ n
set_option maxHeartbeats 4000000 in
set_option maxRecDepth 100000 in
theorem c_X4_longestLevelStart (E : mm_E) (g : mm_I) (h : mm_L) (j : Nat) (hj : j < 6) (n : Nat) (w : Int32) (hn : n ≤ 40) (hs : g 9 j = nI n) : Ci E yX4_longestLevelStart wsX4_longestLevelStart 2 51 [.ref (E.1 1), .int (nI j), .int w] g h (nI (sBest (fun q => sLvl (g (39 + j)) w 100000 (-100000) q (n - q)) n).1) g h := by
  refine ci_i (bytes := cX4_longestLevelStart) (maxL := 7) (by decide) rfl (Nat.le_of_ble_eq_true rfl) (fun X cx hR => ?_)
  change Cx E X cX4_longestLevelStart RX4 wsX4_longestLevelStart 7 2 51 at cx
  change JJ E X g h 0 [(0, .ref (E.1 1)), (1, .int (nI j)), (2, .int w)] []
  have hinX4 : ∀ w ∈ u_ws RX4 TX4 2, w ∈ wsX4_longestLevelStart := by decide +kernel
  have mf_16 : Cond.fieldLink RX4 16 (TX4 1).1 (TX4 1).2.1 (TX4 1).2.2.1 ∈ wsX4_longestLevelStart := by decide +kernel
  have hb2 : ∀ i, i ≤ n → (sBest (fun q => sLvl (g (39 + j)) w 100000 (-100000) q (n - q)) i).2 ≤ 40 := by
    intro i; induction i with
    | zero => intro _; exact Nat.zero_le _
    | succ i ih => intro hi; have := ih (by omega); have h9 := sLvl_le (g (39 + j)) w (n - i) 100000 (-100000) i; unfold sBest; split
                   · exact this
                   · show sLvl _ _ _ _ _ _ ≤ 40; omega
  refine jr_iconst (v := 0) cx dX4_longestLevelStart_0 (by decide) ?_
  refine jr_istore_n (L' := [(3, .int 0), (0, .ref (E.1 1)), (1, .int (nI j)), (2, .int w)]) cx dX4_longestLevelStart_1 rfl (by decide) rfl ?_
  refine jr_iconst (v := 0) cx dX4_longestLevelStart_2 (by decide) ?_
  refine jr_istore (L' := [(4, .int 0), (3, .int 0), (0, .ref (E.1 1)), (1, .int (nI j)), (2, .int w)]) cx dX4_longestLevelStart_3 (by decide) rfl ?_
  refine jr_iconst (v := 0) cx dX4_longestLevelStart_5 (by decide) ?_
  refine jr_istore (L' := [(5, .int 0), (4, .int 0), (3, .int 0), (0, .ref (E.1 1)), (1, .int (nI j)), (2, .int w)]) cx dX4_longestLevelStart_6 (by decide) rfl ?_
  have key1 : ∀ (fu1 : Nat) (i : Nat), n + 1 ≤ i + fu1 → (i ≤ n) → JJ E X g h 8 [(0, .ref (E.1 1)), (1, .int (nI j)), (2, .int w), (3, .int (nI ((sBest (fun q => sLvl (g (39 + j)) w 100000 (-100000) q (n - q)) i).1))), (4, .int (nI ((sBest (fun q => sLvl (g (39 + j)) w 100000 (-100000) q (n - q)) i).2))), (5, .int (nI i))] [] := by
    intro fu1
    induction fu1 with
    | zero => intro i hfu1 h1; exfalso; omega
    | succ fu1 ih1 =>
      intro i hfu1 h1
      refine jr_iload cx dX4_longestLevelStart_8 5 rfl ?_
      refine jr_aload_n cx dX4_longestLevelStart_10 0 rfl rfl ?_
      refine jr_get (f := 1) (v := .ref (E.1 9)) cx dX4_longestLevelStart_11 (by decide) rfl rfl hinX4 (by decide) mf_16 rfl ?_
      refine jr_iload_n cx dX4_longestLevelStart_14 1 rfl rfl ?_
      refine jr_iald cx dX4_longestLevelStart_15 (Or.inl ⟨by decide, by decide⟩) j rfl (show _ < 6 by omega) ?_
      refine jr_top hs ?_
      refine jr_icmp_ge (tgt := 49) cx dX4_longestLevelStart_16 (by decide) (fun c16 => ?_) (fun c16 => ?_)
      · have n16 : n ≤ i := (nI_leI (a := n) (b := i) (by omega) (by omega)).mp c16
        refine jr_iload_n cx dX4_longestLevelStart_49 3 rfl rfl ?_
        exact jr_ri (by rw [show i = n by omega]) (by rfl) (by rfl) (hR 50 _ dX4_longestLevelStart_50)
      · have n16 : ¬ (n ≤ i) := fun q => c16 ((nI_leI (a := n) (b := i) (by omega) (by omega)).mpr q)
        have hq1 := hb2 i (by omega)
        have hq2 := sLvl_le (g (39 + j)) w (n - i) 100000 (-100000) i
        refine jr_aload_n cx dX4_longestLevelStart_19 0 rfl rfl ?_
        refine jr_iload_n cx dX4_longestLevelStart_20 1 rfl rfl ?_
        refine jr_iload cx dX4_longestLevelStart_21 5 rfl ?_
        refine jr_iload_n cx dX4_longestLevelStart_23 2 rfl rfl ?_
        refine jr_vi [.int (nI j), .int (nI i), .int w] 3 cx dX4_longestLevelStart_24 (c_X4_levelLength E g h j (by omega) i n w hn (by omega) hs) (by decide) rfl rfl gX4_longestLevelStart_X4_levelLength rfl (by decide +kernel) ⟨Nat.le_of_ble_eq_true rfl, Nat.le_of_ble_eq_true rfl⟩ rfl rfl (Nat.le_of_ble_eq_true rfl) ?_
        refine jr_istore (L' := [(6, .int (nI (sLvl (g (39 + j)) w 100000 (-100000) i (n - i)))), (0, .ref (E.1 1)), (1, .int (nI j)), (2, .int w), (3, .int (nI ((sBest (fun q => sLvl (g (39 + j)) w 100000 (-100000) q (n - q)) i).1))), (4, .int (nI ((sBest (fun q => sLvl (g (39 + j)) w 100000 (-100000) q (n - q)) i).2))), (5, .int (nI i))]) cx dX4_longestLevelStart_27 (by decide) rfl ?_
        refine jr_iload cx dX4_longestLevelStart_29 0 rfl ?_
        refine jr_iload cx dX4_longestLevelStart_31 5 rfl ?_
        refine jr_icmp_le (tgt := 43) cx dX4_longestLevelStart_33 (by decide) (fun c33 => ?_) (fun c33 => ?_)
        · have n33 : sLvl (g (39 + j)) w 100000 (-100000) i (n - i) ≤ (sBest (fun q => sLvl (g (39 + j)) w 100000 (-100000) q (n - q)) i).2 := (nI_leI (a := sLvl (g (39 + j)) w 100000 (-100000) i (n - i)) (b := (sBest (fun q => sLvl (g (39 + j)) w 100000 (-100000) q (n - q)) i).2) (by omega) (by omega)).mp c33
          refine jr_iinc (n := 6) (v := nI (i + 1)) (L' := [(5, .int (nI (i + 1))), (6, .int (nI (sLvl (g (39 + j)) w 100000 (-100000) i (n - i)))), (0, .ref (E.1 1)), (1, .int (nI j)), (2, .int w), (3, .int (nI ((sBest (fun q => sLvl (g (39 + j)) w 100000 (-100000) q (n - q)) i).1))), (4, .int (nI ((sBest (fun q => sLvl (g (39 + j)) w 100000 (-100000) q (n - q)) i).2)))]) cx dX4_longestLevelStart_43 rfl (nI_1 _) (by decide) rfl ?_
          refine jr_goto (tgt := 8) cx dX4_longestLevelStart_46 (by decide) ?_
          refine jr_pick (L' := [(0, .ref (E.1 1)), (1, .int (nI j)), (2, .int w), (3, .int (nI ((sBest (fun q => sLvl (g (39 + j)) w 100000 (-100000) q (n - q)) i).1))), (4, .int (nI ((sBest (fun q => sLvl (g (39 + j)) w 100000 (-100000) q (n - q)) i).2))), (5, .int (nI (i + 1)))]) [2, 3, 4, 5, 6, 0] rfl ?_
          have e3 : (nI ((sBest (fun q => sLvl (g (39 + j)) w 100000 (-100000) q (n - q)) i).1) : Int32) = (nI ((sBest (fun q => sLvl (g (39 + j)) w 100000 (-100000) q (n - q)) (i + 1)).1)) := by simp only [sBest, if_neg c16, if_neg n16, if_pos c33, if_pos n33]
          have e4 : (nI ((sBest (fun q => sLvl (g (39 + j)) w 100000 (-100000) q (n - q)) i).2) : Int32) = (nI ((sBest (fun q => sLvl (g (39 + j)) w 100000 (-100000) q (n - q)) (i + 1)).2)) := by simp only [sBest, if_neg c16, if_neg n16, if_pos c33, if_pos n33]
          refine jr_loc (lc_n (lc_n (lc_n (lc_i e3 (lc_i e4 (lc_n rfl)))))) ?_
          exact ih1 (i + 1) (by omega) (by omega)
        · have n33 : ¬ (sLvl (g (39 + j)) w 100000 (-100000) i (n - i) ≤ (sBest (fun q => sLvl (g (39 + j)) w 100000 (-100000) q (n - q)) i).2) := fun q => c33 ((nI_leI (a := sLvl (g (39 + j)) w 100000 (-100000) i (n - i)) (b := (sBest (fun q => sLvl (g (39 + j)) w 100000 (-100000) q (n - q)) i).2) (by omega) (by omega)).mpr q)
          refine jr_iload cx dX4_longestLevelStart_36 0 rfl ?_
          refine jr_istore (L' := [(4, .int (nI (sLvl (g (39 + j)) w 100000 (-100000) i (n - i)))), (6, .int (nI (sLvl (g (39 + j)) w 100000 (-100000) i (n - i)))), (0, .ref (E.1 1)), (1, .int (nI j)), (2, .int w), (3, .int (nI ((sBest (fun q => sLvl (g (39 + j)) w 100000 (-100000) q (n - q)) i).1))), (5, .int (nI i))]) cx dX4_longestLevelStart_38 (by decide) rfl ?_
          refine jr_iload cx dX4_longestLevelStart_40 6 rfl ?_
          refine jr_istore_n (L' := [(3, .int (nI i)), (4, .int (nI (sLvl (g (39 + j)) w 100000 (-100000) i (n - i)))), (6, .int (nI (sLvl (g (39 + j)) w 100000 (-100000) i (n - i)))), (0, .ref (E.1 1)), (1, .int (nI j)), (2, .int w), (5, .int (nI i))]) cx dX4_longestLevelStart_42 rfl (by decide) rfl ?_
          refine jr_iinc (n := 6) (v := nI (i + 1)) (L' := [(5, .int (nI (i + 1))), (3, .int (nI i)), (4, .int (nI (sLvl (g (39 + j)) w 100000 (-100000) i (n - i)))), (6, .int (nI (sLvl (g (39 + j)) w 100000 (-100000) i (n - i)))), (0, .ref (E.1 1)), (1, .int (nI j)), (2, .int w)]) cx dX4_longestLevelStart_43 rfl (nI_1 _) (by decide) rfl ?_
          refine jr_goto (tgt := 8) cx dX4_longestLevelStart_46 (by decide) ?_
          refine jr_pick (L' := [(0, .ref (E.1 1)), (1, .int (nI j)), (2, .int w), (3, .int (nI i)), (4, .int (nI (sLvl (g (39 + j)) w 100000 (-100000) i (n - i)))), (5, .int (nI (i + 1)))]) [4, 5, 6, 1, 2, 0] rfl ?_
          have e3 : (nI i : Int32) = (nI ((sBest (fun q => sLvl (g (39 + j)) w 100000 (-100000) q (n - q)) (i + 1)).1)) := by simp only [sBest, if_neg c16, if_neg n16, if_neg c33, if_neg n33]
          have e4 : (nI (sLvl (g (39 + j)) w 100000 (-100000) i (n - i)) : Int32) = (nI ((sBest (fun q => sLvl (g (39 + j)) w 100000 (-100000) q (n - q)) (i + 1)).2)) := by simp only [sBest, if_neg c16, if_neg n16, if_neg c33, if_neg n33]
          refine jr_loc (lc_n (lc_n (lc_n (lc_i e3 (lc_i e4 (lc_n rfl)))))) ?_
          exact ih1 (i + 1) (by omega) (by omega)
  refine jr_pick (L' := [(0, .ref (E.1 1)), (1, .int (nI j)), (2, .int w), (3, .int 0), (4, .int 0), (5, .int 0)]) [3, 4, 5, 2, 1, 0] rfl ?_
  have e3 : (0 : Int32) = (nI ((sBest (fun q => sLvl (g (39 + j)) w 100000 (-100000) q (n - q)) 0).1)) := by rfl
  have e4 : (0 : Int32) = (nI ((sBest (fun q => sLvl (g (39 + j)) w 100000 (-100000) q (n - q)) 0).2)) := by rfl
  have e5 : (0 : Int32) = (nI 0) := by rfl
  refine jr_loc (lc_n (lc_n (lc_n (lc_i e3 (lc_i e4 (lc_i e5 rfl)))))) ?_
  exact key1 (n + 1) 0 (by omega) (by omega)
set_option maxHeartbeats 4000000 in
set_option maxRecDepth 100000 in
theorem c_X4_presentCount (E : mm_E) (g : mm_I) (h : mm_L) : Ci E yX4_presentCount wsX4_presentCount 0 0 [.ref (E.1 1)] g h (nI (sPres (g 9) 6)) g h := by
  refine ci_i (bytes := cX4_presentCount) (maxL := 3) (by decide) rfl (Nat.le_of_ble_eq_true rfl) (fun X cx hR => ?_)
  change Cx E X cX4_presentCount RX4 wsX4_presentCount 3 0 0 at cx
  change JJ E X g h 0 [(0, .ref (E.1 1))] []
  have hinX4 : ∀ w ∈ u_ws RX4 TX4 2, w ∈ wsX4_presentCount := by decide +kernel
  have mf_16 : Cond.fieldLink RX4 16 (TX4 1).1 (TX4 1).2.1 (TX4 1).2.2.1 ∈ wsX4_presentCount := by decide +kernel
  refine jr_iconst (v := 0) cx dX4_presentCount_0 (by decide) ?_
  refine jr_istore_n (L' := [(1, .int 0), (0, .ref (E.1 1))]) cx dX4_presentCount_1 rfl (by decide) rfl ?_
  refine jr_iconst (v := 0) cx dX4_presentCount_2 (by decide) ?_
  refine jr_istore_n (L' := [(2, .int 0), (1, .int 0), (0, .ref (E.1 1))]) cx dX4_presentCount_3 rfl (by decide) rfl ?_
  have key1 : ∀ (fu1 : Nat) (i : Nat), 6 + 1 ≤ i + fu1 → (i ≤ 6) → JJ E X g h 4 [(0, .ref (E.1 1)), (1, .int (nI (sPres (g 9) i))), (2, .int (nI i))] [] := by
    intro fu1
    induction fu1 with
    | zero => intro i hfu1 h1; exfalso; omega
    | succ fu1 ih1 =>
      intro i hfu1 h1
      refine jr_iload_n cx dX4_presentCount_4 2 rfl rfl ?_
      refine jr_bipush (v := 6) cx dX4_presentCount_5 (by decide) ?_
      refine jr_icmp_ge (tgt := 29) cx dX4_presentCount_7 (by decide) (fun c7 => ?_) (fun c7 => ?_)
      · have n7 : 6 ≤ i := (nI_leI (a := 6) (b := i) (by omega) (by omega)).mp c7
        refine jr_iload_n cx dX4_presentCount_29 1 rfl rfl ?_
        exact jr_ri (by rw [show i = 6 by omega]) (by rfl) (by rfl) (hR 30 _ dX4_presentCount_30)
      · have n7 : ¬ (6 ≤ i) := fun q => c7 ((nI_leI (a := 6) (b := i) (by omega) (by omega)).mpr q)
        refine jr_aload_n cx dX4_presentCount_10 0 rfl rfl ?_
        refine jr_get (f := 1) (v := .ref (E.1 9)) cx dX4_presentCount_11 (by decide) rfl rfl hinX4 (by decide) mf_16 rfl ?_
        refine jr_iload_n cx dX4_presentCount_14 2 rfl rfl ?_
        refine jr_iald cx dX4_presentCount_15 (Or.inl ⟨by decide, by decide⟩) i rfl (show _ < 6 by omega) ?_
        refine jr_iconst (v := (-1)) cx dX4_presentCount_16 (by decide) ?_
        refine jr_icmp_eq (tgt := 23) cx dX4_presentCount_17 (by decide) (fun c17 => ?_) (fun c17 => ?_)
        · refine jr_iinc (n := 2) (v := nI (i + 1)) (L' := [(2, .int (nI (i + 1))), (0, .ref (E.1 1)), (1, .int (nI (sPres (g 9) i)))]) cx dX4_presentCount_23 rfl (nI_1 _) (by decide) rfl ?_
          refine jr_goto (tgt := 4) cx dX4_presentCount_26 (by decide) ?_
          refine jr_pick (L' := [(0, .ref (E.1 1)), (1, .int (nI (sPres (g 9) i))), (2, .int (nI (i + 1)))]) [1, 2, 0] rfl ?_
          have e1 : (nI (sPres (g 9) i) : Int32) = (nI (sPres (g 9) (i + 1))) := by simp [sPres, c7, n7, c17]
          refine jr_loc (lc_n (lc_i e1 (lc_n rfl))) ?_
          exact ih1 (i + 1) (by omega) (by omega)
        · refine jr_iinc (n := 1) (v := nI (sPres (g 9) i + 1)) (L' := [(1, .int (nI (sPres (g 9) i + 1))), (0, .ref (E.1 1)), (2, .int (nI i))]) cx dX4_presentCount_20 rfl (nI_1 _) (by decide) rfl ?_
          refine jr_iinc (n := 2) (v := nI (i + 1)) (L' := [(2, .int (nI (i + 1))), (1, .int (nI (sPres (g 9) i + 1))), (0, .ref (E.1 1))]) cx dX4_presentCount_23 rfl (nI_1 _) (by decide) rfl ?_
          refine jr_goto (tgt := 4) cx dX4_presentCount_26 (by decide) ?_
          refine jr_pick (L' := [(0, .ref (E.1 1)), (1, .int (nI (sPres (g 9) i + 1))), (2, .int (nI (i + 1)))]) [2, 1, 0] rfl ?_
          have e1 : (nI (sPres (g 9) i + 1) : Int32) = (nI (sPres (g 9) (i + 1))) := by simp [sPres, c7, n7, c17]
          refine jr_loc (lc_n (lc_i e1 (lc_n rfl))) ?_
          exact ih1 (i + 1) (by omega) (by omega)
  refine jr_pick (L' := [(0, .ref (E.1 1)), (1, .int 0), (2, .int 0)]) [2, 1, 0] rfl ?_
  have e1 : (0 : Int32) = (nI (sPres (g 9) 0)) := by rfl
  have e2 : (0 : Int32) = (nI 0) := by rfl
  refine jr_loc (lc_n (lc_i e1 (lc_i e2 rfl))) ?_
  exact key1 (6 + 1) 0 (by omega) (by omega)
set_option maxHeartbeats 4000000 in
set_option maxRecDepth 100000 in
theorem c_X4_digestOn (E : mm_E) (g : mm_I) (h : mm_L) (b : Int64) (j : Nat) (hj : j < 6) (n : Nat) (hn : n ≤ 40) (hs : g 9 j = nI n) : Cl E yX4_digestOn wsX4_digestOn 0 0 [.ref (E.1 1), .long b, .int (nI j)] g h (sDig (g (39 + j)) (31 * b + (nI n).toInt64) n) g h := by
  refine ci_l (bytes := cX4_digestOn) (maxL := 7) (by decide) rfl (Nat.le_of_ble_eq_true rfl) (fun X cx hR => ?_)
  change Cx E X cX4_digestOn RX4 wsX4_digestOn 7 0 0 at cx
  change JJ E X g h 0 [(0, .ref (E.1 1)), (1, .long b), (3, .int (nI j))] []
  have hinX4 : ∀ w ∈ u_ws RX4 TX4 2, w ∈ wsX4_digestOn := by decide +kernel
  have mc_51 : Cond.constantLong RX4 51 31 ∈ wsX4_digestOn := by decide +kernel
  have mf_16 : Cond.fieldLink RX4 16 (TX4 1).1 (TX4 1).2.1 (TX4 1).2.2.1 ∈ wsX4_digestOn := by decide +kernel
  have mf_11 : Cond.fieldLink RX4 11 (TX4 0).1 (TX4 0).2.1 (TX4 0).2.2.1 ∈ wsX4_digestOn := by decide +kernel
  refine jr_ldc2 cx dX4_digestOn_0 mc_51 ?_
  refine jr_lload_n cx dX4_digestOn_3 1 rfl rfl ?_
  refine jr_lmul cx dX4_digestOn_4 ?_
  refine jr_aload_n cx dX4_digestOn_5 0 rfl rfl ?_
  refine jr_get (f := 1) (v := .ref (E.1 9)) cx dX4_digestOn_6 (by decide) rfl rfl hinX4 (by decide) mf_16 rfl ?_
  refine jr_iload_n cx dX4_digestOn_9 2 rfl rfl ?_
  refine jr_iald cx dX4_digestOn_10 (Or.inl ⟨by decide, by decide⟩) j rfl (show _ < 6 by omega) ?_
  refine jr_top hs ?_
  refine jr_i2l cx dX4_digestOn_11 ?_
  refine jr_ladd cx dX4_digestOn_12 ?_
  refine jr_lstore (L' := [(4, .long ((31 * b) + (Int32.toInt64 (nI n)))), (0, .ref (E.1 1)), (1, .long b), (3, .int (nI j))]) cx dX4_digestOn_13 (by decide) rfl ?_
  refine jr_iconst (v := 0) cx dX4_digestOn_15 (by decide) ?_
  refine jr_istore (L' := [(6, .int 0), (4, .long ((31 * b) + (Int32.toInt64 (nI n)))), (0, .ref (E.1 1)), (1, .long b), (3, .int (nI j))]) cx dX4_digestOn_16 (by decide) rfl ?_
  have key1 : ∀ (fu1 : Nat) (i : Nat), n + 1 ≤ i + fu1 → (i ≤ n) → JJ E X g h 18 [(0, .ref (E.1 1)), (3, .int (nI j)), (4, .long (sDig (g (39 + j)) (31 * b + (nI n).toInt64) i)), (6, .int (nI i))] [] := by
    intro fu1
    induction fu1 with
    | zero => intro i hfu1 h1; exfalso; omega
    | succ fu1 ih1 =>
      intro i hfu1 h1
      refine jr_iload cx dX4_digestOn_18 3 rfl ?_
      refine jr_aload_n cx dX4_digestOn_20 0 rfl rfl ?_
      refine jr_get (f := 1) (v := .ref (E.1 9)) cx dX4_digestOn_21 (by decide) rfl rfl hinX4 (by decide) mf_16 rfl ?_
      refine jr_iload_n cx dX4_digestOn_24 1 rfl rfl ?_
      refine jr_iald cx dX4_digestOn_25 (Or.inl ⟨by decide, by decide⟩) j rfl (show _ < 6 by omega) ?_
      refine jr_top hs ?_
      refine jr_icmp_ge (tgt := 54) cx dX4_digestOn_26 (by decide) (fun c26 => ?_) (fun c26 => ?_)
      · have n26 : n ≤ i := (nI_leI (a := n) (b := i) (by omega) (by omega)).mp c26
        refine jr_lload cx dX4_digestOn_54 2 rfl ?_
        exact jr_rl (by rw [show i = n by omega]) (by rfl) (by rfl) (hR 56 _ dX4_digestOn_56)
      · have n26 : ¬ (n ≤ i) := fun q => c26 ((nI_leI (a := n) (b := i) (by omega) (by omega)).mpr q)
        refine jr_ldc2 cx dX4_digestOn_29 mc_51 ?_
        refine jr_lload cx dX4_digestOn_32 2 rfl ?_
        refine jr_lmul cx dX4_digestOn_34 ?_
        refine jr_aload_n cx dX4_digestOn_35 0 rfl rfl ?_
        refine jr_get (f := 0) (v := .ref (E.1 33)) cx dX4_digestOn_36 (by decide) rfl rfl hinX4 (by decide) mf_11 rfl ?_
        refine jr_iload_n cx dX4_digestOn_39 1 rfl rfl ?_
        refine jr_aald cx dX4_digestOn_40 ⟨by decide, by decide⟩ j rfl (show j < 6 by omega) (39 + j) rfl ?_
        refine jr_iload cx dX4_digestOn_41 3 rfl ?_
        refine jr_iald cx dX4_digestOn_43 (is_rd (show j < 6 by omega)) i rfl (by rw [ml_rd (show j < 6 by omega)]; omega) ?_
        refine jr_i2l cx dX4_digestOn_44 ?_
        refine jr_ladd cx dX4_digestOn_45 ?_
        refine jr_lstore (L' := [(4, .long ((31 * (sDig (g (39 + j)) (31 * b + (nI n).toInt64) i)) + (Int32.toInt64 (g (39 + j) i)))), (0, .ref (E.1 1)), (3, .int (nI j)), (6, .int (nI i))]) cx dX4_digestOn_46 (by decide) rfl ?_
        refine jr_iinc (n := 3) (v := nI (i + 1)) (L' := [(6, .int (nI (i + 1))), (4, .long ((31 * (sDig (g (39 + j)) (31 * b + (nI n).toInt64) i)) + (Int32.toInt64 (g (39 + j) i)))), (0, .ref (E.1 1)), (3, .int (nI j))]) cx dX4_digestOn_48 rfl (nI_1 _) (by decide) rfl ?_
        refine jr_goto (tgt := 18) cx dX4_digestOn_51 (by decide) ?_
        refine jr_pick (L' := [(0, .ref (E.1 1)), (3, .int (nI j)), (4, .long ((31 * (sDig (g (39 + j)) (31 * b + (nI n).toInt64) i)) + (Int32.toInt64 (g (39 + j) i)))), (6, .int (nI (i + 1)))]) [2, 3, 1, 0] rfl ?_
        have e4 : ((31 * (sDig (g (39 + j)) (31 * b + (nI n).toInt64) i)) + (Int32.toInt64 (g (39 + j) i)) : Int64) = (sDig (g (39 + j)) (31 * b + (nI n).toInt64) (i + 1)) := by rfl
        refine jr_loc (lc_n (lc_n (lc_l e4 (lc_n rfl)))) ?_
        exact ih1 (i + 1) (by omega) (by omega)
  refine jr_pick (L' := [(0, .ref (E.1 1)), (3, .int (nI j)), (4, .long ((31 * b) + (Int32.toInt64 (nI n)))), (6, .int 0)]) [2, 4, 1, 0] rfl ?_
  have e4 : ((31 * b) + (Int32.toInt64 (nI n)) : Int64) = (sDig (g (39 + j)) (31 * b + (nI n).toInt64) 0) := by rfl
  have e6 : (0 : Int32) = (nI 0) := by rfl
  refine jr_loc (lc_n (lc_n (lc_l e4 (lc_i e6 rfl)))) ?_
  exact key1 (n + 1) 0 (by omega) (by omega)
set_option maxHeartbeats 4000000 in
set_option maxRecDepth 100000 in
theorem c_X4_digestOnM (E : mm_E) (g : mm_I) (h : mm_L) (b : Int64) (j : Nat) (hj : j < 6) (hs : g 9 j = -1) : Cl E yX4_digestOn wsX4_digestOn 0 0 [.ref (E.1 1), .long b, .int (nI j)] g h (31 * b + Int32.toInt64 (-1)) g h := by
  refine ci_l (bytes := cX4_digestOn) (maxL := 7) (by decide) rfl (Nat.le_of_ble_eq_true rfl) (fun X cx hR => ?_)
  change Cx E X cX4_digestOn RX4 wsX4_digestOn 7 0 0 at cx
  change JJ E X g h 0 [(0, .ref (E.1 1)), (1, .long b), (3, .int (nI j))] []
  have hinX4 : ∀ w ∈ u_ws RX4 TX4 2, w ∈ wsX4_digestOn := by decide +kernel
  have mc_51 : Cond.constantLong RX4 51 31 ∈ wsX4_digestOn := by decide +kernel
  have mf_16 : Cond.fieldLink RX4 16 (TX4 1).1 (TX4 1).2.1 (TX4 1).2.2.1 ∈ wsX4_digestOn := by decide +kernel
  refine jr_ldc2 cx dX4_digestOn_0 mc_51 ?_
  refine jr_lload_n cx dX4_digestOn_3 1 rfl rfl ?_
  refine jr_lmul cx dX4_digestOn_4 ?_
  refine jr_aload_n cx dX4_digestOn_5 0 rfl rfl ?_
  refine jr_get (f := 1) (v := .ref (E.1 9)) cx dX4_digestOn_6 (by decide) rfl rfl hinX4 (by decide) mf_16 rfl ?_
  refine jr_iload_n cx dX4_digestOn_9 2 rfl rfl ?_
  refine jr_iald cx dX4_digestOn_10 (Or.inl ⟨by decide, by decide⟩) j rfl (show _ < 6 by omega) ?_
  refine jr_top hs ?_
  refine jr_i2l cx dX4_digestOn_11 ?_
  refine jr_ladd cx dX4_digestOn_12 ?_
  refine jr_lstore (L' := [(4, .long ((31 * b) + (Int32.toInt64 (-1)))), (0, .ref (E.1 1)), (1, .long b), (3, .int (nI j))]) cx dX4_digestOn_13 (by decide) rfl ?_
  refine jr_iconst (v := 0) cx dX4_digestOn_15 (by decide) ?_
  refine jr_istore (L' := [(6, .int 0), (4, .long ((31 * b) + (Int32.toInt64 (-1)))), (0, .ref (E.1 1)), (1, .long b), (3, .int (nI j))]) cx dX4_digestOn_16 (by decide) rfl ?_
  refine jr_iload cx dX4_digestOn_18 0 rfl ?_
  refine jr_aload_n cx dX4_digestOn_20 2 rfl rfl ?_
  refine jr_get (f := 1) (v := .ref (E.1 9)) cx dX4_digestOn_21 (by decide) rfl rfl hinX4 (by decide) mf_16 rfl ?_
  refine jr_iload_n cx dX4_digestOn_24 4 rfl rfl ?_
  refine jr_iald cx dX4_digestOn_25 (Or.inl ⟨by decide, by decide⟩) j rfl (show _ < 6 by omega) ?_
  refine jr_top hs ?_
  refine jr_icmp_ge (tgt := 54) cx dX4_digestOn_26 (by decide) (fun c26 => ?_) (fun c26 => ?_)
  · refine jr_lload cx dX4_digestOn_54 1 rfl ?_
    exact jr_rl (by rfl) (by rfl) (by rfl) (hR 56 _ dX4_digestOn_56)
  · exact absurd (by decide) c26
