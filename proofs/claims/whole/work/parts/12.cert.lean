set_option maxHeartbeats 4000000 in
set_option maxRecDepth 100000 in
theorem c_X1_size (E : mm_E) (g : mm_I) (h : mm_L) : Ci E yX1_size wsX1_size 0 0 [.ref (E.1 4)] g h (g 4 1) g h := by
  refine ci_i (bytes := cX1_size) (maxL := 1) (by decide) rfl (Nat.le_of_ble_eq_true rfl) (fun X cx hR => ?_)
  change Cx E X cX1_size RX1 wsX1_size 1 0 0 at cx
  change JJ E X g h 0 [(0, .ref (E.1 4))] []
  have hinX1 : ∀ w ∈ u_ws RX1 TX1 2, w ∈ wsX1_size := by decide +kernel
  have mf_16 : Cond.fieldLink RX1 16 (TX1 1).1 (TX1 1).2.1 (TX1 1).2.2.1 ∈ wsX1_size := by decide +kernel
  refine jr_aload_n cx dX1_size_0 0 rfl rfl ?_
  refine jr_get (f := 1) (v := .int (g 4 1)) cx dX1_size_1 (by decide) rfl rfl hinX1 (by decide) mf_16 rfl ?_
  exact jr_ri (by rfl) (by rfl) (by rfl) (hR 4 _ dX1_size_4)
set_option maxHeartbeats 4000000 in
set_option maxRecDepth 100000 in
theorem c_X1_has (E : mm_E) (g : mm_I) (h : mm_L) (b : Int32) (n : Nat) (hn : n ≤ 40) (hs : g 4 1 = nI n) : Ci E yX1_has wsX1_has 1 22 [.ref (E.1 4), .int b] g h (bI (¬ b < 0 ∧ ¬ nI n - 1 < b)) g h := by
  refine ci_z (bytes := cX1_has) (maxL := 2) (by decide) rfl (Nat.le_of_ble_eq_true rfl) (bI_01 _) (fun X cx hR => ?_)
  change Cx E X cX1_has RX1 wsX1_has 2 1 22 at cx
  change JJ E X g h 0 [(0, .ref (E.1 4)), (1, .int b)] []
  have hinX1 : ∀ w ∈ u_ws RX1 TX1 2, w ∈ wsX1_has := by decide +kernel
  have mf_16 : Cond.fieldLink RX1 16 (TX1 1).1 (TX1 1).2.1 (TX1 1).2.2.1 ∈ wsX1_has := by decide +kernel
  have mini_X6_isBetween : Cond.initialized yX6_isBetween.cls ∈ wsX1_has := by decide +kernel
  have msta_X6_isBetween : Cond.static yX6_isBetween ∈ wsX1_has := by decide +kernel
  refine jr_iload_n cx dX1_has_0 1 rfl rfl ?_
  refine jr_iconst (v := 0) cx dX1_has_1 (by decide) ?_
  refine jr_aload_n cx dX1_has_2 0 rfl rfl ?_
  refine jr_get (f := 1) (v := .int (g 4 1)) cx dX1_has_3 (by decide) rfl rfl hinX1 (by decide) mf_16 rfl ?_
  refine jr_top hs ?_
  refine jr_iconst (v := 1) cx dX1_has_6 (by decide) ?_
  refine jr_isub cx dX1_has_7 ?_
  refine jr_ni (host := RX6) [.int b, .int 0, .int ((nI n) - 1)] 3 cx dX1_has_8 (c_X6_isBetween E g h b 0 ((nI n) - 1)) gX1_has_X6_isBetween_n20 rfl (fun U hN => hN.2.2.2.1) mini_X6_isBetween msta_X6_isBetween (by decide +kernel) ⟨Nat.le_of_ble_eq_true rfl, Nat.le_of_ble_eq_true rfl⟩ rfl rfl (Nat.le_of_ble_eq_true rfl) ?_
  exact jr_ri (by rfl) (by rfl) (by rfl) (hR 11 _ dX1_has_11)
set_option maxHeartbeats 4000000 in
set_option maxRecDepth 100000 in
theorem c_X1_fact (E : mm_E) (g : mm_I) (h : mm_L) (c q : Nat) (hc : c < 40) (hq : q < 8) : Ci E yX1_fact wsX1_fact 0 0 [.ref (E.1 4), .int (nI c), .int (nI q)] g h (g (53 + c) q) g h := by
  refine ci_i (bytes := cX1_fact) (maxL := 3) (by decide) rfl (Nat.le_of_ble_eq_true rfl) (fun X cx hR => ?_)
  change Cx E X cX1_fact RX1 wsX1_fact 3 0 0 at cx
  change JJ E X g h 0 [(0, .ref (E.1 4)), (1, .int (nI c)), (2, .int (nI q))] []
  have hinX1 : ∀ w ∈ u_ws RX1 TX1 2, w ∈ wsX1_fact := by decide +kernel
  have mf_13 : Cond.fieldLink RX1 13 (TX1 0).1 (TX1 0).2.1 (TX1 0).2.2.1 ∈ wsX1_fact := by decide +kernel
  refine jr_aload_n cx dX1_fact_0 0 rfl rfl ?_
  refine jr_get (f := 0) (v := .ref (E.1 36)) cx dX1_fact_1 (by decide) rfl rfl hinX1 (by decide) mf_13 rfl ?_
  refine jr_iload_n cx dX1_fact_4 1 rfl rfl ?_
  refine jr_aald cx dX1_fact_5 ⟨by decide, by decide⟩ c rfl (show c < 40 by omega) (53 + c) rfl ?_
  refine jr_iload_n cx dX1_fact_6 2 rfl rfl ?_
  refine jr_iald cx dX1_fact_7 (is_fa (show c < 40 by omega)) q rfl (by rw [ml_fa (show c < 40 by omega)]; omega) ?_
  exact jr_ri (by rfl) (by rfl) (by rfl) (hR 8 _ dX1_fact_8)
def adC (g : mm_I) (n : Nat) (b y ba d o e r : Int32) : mm_I := up2 (up2 (up2 (up2 (up2 (up2 (up2 (up2 (up2 g (53 + n) 0 b) (53 + n) 1 y) (53 + n) 2 ba) (53 + n) 3 d) (53 + n) 4 e) (53 + n) 5 0) (53 + n) 6 r) (53 + n) 7 o) 4 1 (nI (n + 1))
theorem rd4 {g : mm_I} {n k j : Nat} {v : Int32} : up2 g (53 + n) j v 4 k = g 4 k := by rw [up2_n _ _ _ (by omega)]
set_option maxHeartbeats 4000000 in
set_option maxRecDepth 100000 in
theorem c_X1_add (E : mm_E) (g : mm_I) (h : mm_L) (b y ba d o e r : Int32) (n : Nat) (hn : n < 40) (hs : g 4 1 = nI n) : Ci E yX1_add wsX1_add 0 0 [.ref (E.1 4), .int b, .int y, .int ba, .int d, .int o, .int e, .int r] g h (nI n) (adC g n b y ba d o e r) h := by
  refine ci_i (bytes := cX1_add) (maxL := 9) (by decide) rfl (Nat.le_of_ble_eq_true rfl) (fun X cx hR => ?_)
  change Cx E X cX1_add RX1 wsX1_add 9 0 0 at cx
  change JJ E X g h 0 [(0, .ref (E.1 4)), (1, .int b), (2, .int y), (3, .int ba), (4, .int d), (5, .int o), (6, .int e), (7, .int r)] []
  have hinX1 : ∀ w ∈ u_ws RX1 TX1 2, w ∈ wsX1_add := by decide +kernel
  have mf_13 : Cond.fieldLink RX1 13 (TX1 0).1 (TX1 0).2.1 (TX1 0).2.2.1 ∈ wsX1_add := by decide +kernel
  have mf_16 : Cond.fieldLink RX1 16 (TX1 1).1 (TX1 1).2.1 (TX1 1).2.2.1 ∈ wsX1_add := by decide +kernel
  refine jr_aload_n cx dX1_add_0 0 rfl rfl ?_
  refine jr_get (f := 0) (v := .ref (E.1 36)) cx dX1_add_1 (by decide) rfl rfl hinX1 (by decide) mf_13 rfl ?_
  refine jr_aload_n cx dX1_add_4 0 rfl rfl ?_
  refine jr_get (f := 1) (v := .int (g 4 1)) cx dX1_add_5 (by decide) rfl rfl hinX1 (by decide) mf_16 rfl ?_
  refine jr_top hs ?_
  refine jr_aald cx dX1_add_8 ⟨by decide, by decide⟩ n rfl (show n < 40 by omega) (53 + n) rfl ?_
  refine jr_astore (L' := [(8, .ref (E.1 (53 + n))), (0, .ref (E.1 4)), (1, .int b), (2, .int y), (3, .int ba), (4, .int d), (5, .int o), (6, .int e), (7, .int r)]) cx dX1_add_9 (by decide) rfl ?_
  refine jr_aload cx dX1_add_11 0 rfl ?_
  refine jr_iconst (v := 0) cx dX1_add_13 (by decide) ?_
  refine jr_iload_n cx dX1_add_14 2 rfl rfl ?_
  refine jr_iast cx dX1_add_15 (is_fa (show n < 40 by omega)) 0 rfl (by rw [ml_fa (show n < 40 by omega)]; omega) ?_
  refine jr_aload cx dX1_add_16 0 rfl ?_
  refine jr_iconst (v := 1) cx dX1_add_18 (by decide) ?_
  refine jr_iload_n cx dX1_add_19 3 rfl rfl ?_
  refine jr_iast cx dX1_add_20 (is_fa (show n < 40 by omega)) 1 rfl (by rw [ml_fa (show n < 40 by omega)]; omega) ?_
  refine jr_aload cx dX1_add_21 0 rfl ?_
  refine jr_iconst (v := 2) cx dX1_add_23 (by decide) ?_
  refine jr_iload_n cx dX1_add_24 4 rfl rfl ?_
  refine jr_iast cx dX1_add_25 (is_fa (show n < 40 by omega)) 2 rfl (by rw [ml_fa (show n < 40 by omega)]; omega) ?_
  refine jr_aload cx dX1_add_26 0 rfl ?_
  refine jr_iconst (v := 3) cx dX1_add_28 (by decide) ?_
  refine jr_iload cx dX1_add_29 5 rfl ?_
  refine jr_iast cx dX1_add_31 (is_fa (show n < 40 by omega)) 3 rfl (by rw [ml_fa (show n < 40 by omega)]; omega) ?_
  refine jr_aload cx dX1_add_32 0 rfl ?_
  refine jr_iconst (v := 4) cx dX1_add_34 (by decide) ?_
  refine jr_iload cx dX1_add_35 7 rfl ?_
  refine jr_iast cx dX1_add_37 (is_fa (show n < 40 by omega)) 4 rfl (by rw [ml_fa (show n < 40 by omega)]; omega) ?_
  refine jr_aload cx dX1_add_38 0 rfl ?_
  refine jr_iconst (v := 5) cx dX1_add_40 (by decide) ?_
  refine jr_iconst (v := 0) cx dX1_add_41 (by decide) ?_
  refine jr_iast cx dX1_add_42 (is_fa (show n < 40 by omega)) 5 rfl (by rw [ml_fa (show n < 40 by omega)]; omega) ?_
  refine jr_aload cx dX1_add_43 0 rfl ?_
  refine jr_bipush (v := 6) cx dX1_add_45 (by decide) ?_
  refine jr_iload cx dX1_add_47 8 rfl ?_
  refine jr_iast cx dX1_add_49 (is_fa (show n < 40 by omega)) 6 rfl (by rw [ml_fa (show n < 40 by omega)]; omega) ?_
  refine jr_aload cx dX1_add_50 0 rfl ?_
  refine jr_bipush (v := 7) cx dX1_add_52 (by decide) ?_
  refine jr_iload cx dX1_add_54 6 rfl ?_
  refine jr_iast cx dX1_add_56 (is_fa (show n < 40 by omega)) 7 rfl (by rw [ml_fa (show n < 40 by omega)]; omega) ?_
  refine jr_aload_n cx dX1_add_57 1 rfl rfl ?_
  refine jr_dup cx dX1_add_58 rfl ?_
  refine jr_get (f := 1) (v := .int ((up2 (up2 (up2 (up2 (up2 (up2 (up2 (up2 g (53 + n) 0 b) (53 + n) 1 y) (53 + n) 2 ba) (53 + n) 3 d) (53 + n) 4 e) (53 + n) 5 0) (53 + n) 6 r) (53 + n) 7 o) 4 1)) cx dX1_add_59 (by decide) rfl rfl hinX1 (by decide) mf_16 rfl ?_
  refine jr_top (show _ = nI n by rw [rd4, rd4, rd4, rd4, rd4, rd4, rd4, rd4]; exact hs) ?_
  refine jr_iconst (v := 1) cx dX1_add_62 (by decide) ?_
  refine jr_iadd cx dX1_add_63 ?_
  refine jr_top (show (nI n : Int32) + 1 = nI (n + 1) from nI_add n 1) ?_
  refine jr_put_X1_1 cx dX1_add_64 hinX1 mf_16 ?_
  refine jr_aload_n cx dX1_add_67 1 rfl rfl ?_
  refine jr_get (f := 1) (v := .int ((up2 (up2 (up2 (up2 (up2 (up2 (up2 (up2 (up2 g (53 + n) 0 b) (53 + n) 1 y) (53 + n) 2 ba) (53 + n) 3 d) (53 + n) 4 e) (53 + n) 5 0) (53 + n) 6 r) (53 + n) 7 o) 4 1 (nI (n + 1))) 4 1)) cx dX1_add_68 (by decide) rfl rfl hinX1 (by decide) mf_16 rfl ?_
  refine jr_top (show _ = nI (n + 1) from rfl) ?_
  refine jr_iconst (v := 1) cx dX1_add_71 (by decide) ?_
  refine jr_isub cx dX1_add_72 ?_
  refine jr_top (nI_pred n) ?_
  exact jr_ri (by rfl) (by rfl) (by rfl) (hR 73 _ dX1_add_73)
abbrev pLU (g : mm_I) (b d : Int32) : Nat → Prop := fun i => g (53 + i) 0 = b ∧ g (53 + i) 5 = 0 ∧ ¬ d < g (53 + i) 3
theorem pred_lt {m : Nat} (h : m < 2 ^ 30) : nI m - 1 < 0 ↔ m = 0 := by
  rcases m with _ | m
  · exact ⟨fun _ => rfl, fun _ => by decide⟩
  · rw [nI_pred]
    exact ⟨fun q => absurd q (nI_pos (by omega)), fun q => by omega⟩
theorem min_nI {c n : Nat} (h : c ≤ n) (hn : n < 2 ^ 31) : (if nI n < nI c then nI n else nI c) = nI c := if_neg (nI_nlt h hn)
theorem dec1 (m : Nat) : nI (m + 1) + (-1) = nI m := pk_m1 m
set_option maxHeartbeats 4000000 in
set_option maxRecDepth 100000 in
theorem c_X1_lastUntil (E : mm_E) (g : mm_I) (h : mm_L) (b d : Int32) (c : Nat) (n : Nat) (hn : n ≤ 40) (hs : g 4 1 = nI n) (hcn : c ≤ n) : Ci E yX1_lastUntil wsX1_lastUntil 1 23 [.ref (E.1 4), .int b, .int d, .int (nI c)] g h (sLast (pLU g b d) c) g h := by
  refine ci_i (bytes := cX1_lastUntil) (maxL := 5) (by decide) rfl (Nat.le_of_ble_eq_true rfl) (fun X cx hR => ?_)
  change Cx E X cX1_lastUntil RX1 wsX1_lastUntil 5 1 23 at cx
  change JJ E X g h 0 [(0, .ref (E.1 4)), (1, .int b), (2, .int d), (3, .int (nI c))] []
  have hinX1 : ∀ w ∈ u_ws RX1 TX1 2, w ∈ wsX1_lastUntil := by decide +kernel
  have mf_16 : Cond.fieldLink RX1 16 (TX1 1).1 (TX1 1).2.1 (TX1 1).2.2.1 ∈ wsX1_lastUntil := by decide +kernel
  have ml_mmin : Cond.methodLink RX1 24 Lib.Math.min.name ∈ wsX1_lastUntil := by decide +kernel
  have mst_mmin : Cond.static Lib.Math.min.name ∈ wsX1_lastUntil := by decide +kernel
  have mi_math : Cond.initialized "java/lang/Math" ∈ wsX1_lastUntil := by decide +kernel
  have mco_mmin : Cond.code Lib.Math.min.name Lib.Math.min.code 2 (some .int) ∈ wsX1_lastUntil := by first | decide +kernel | (unfold wsX1_lastUntil; simp)
  have mf_13 : Cond.fieldLink RX1 13 (TX1 0).1 (TX1 0).2.1 (TX1 0).2.2.1 ∈ wsX1_lastUntil := by decide +kernel
  refine jr_iload_n cx dX1_lastUntil_0 3 rfl rfl ?_
  refine jr_aload_n cx dX1_lastUntil_1 0 rfl rfl ?_
  refine jr_get (f := 1) (v := .int (g 4 1)) cx dX1_lastUntil_2 (by decide) rfl rfl hinX1 (by decide) mf_16 rfl ?_
  refine jr_top hs ?_
  refine jr_mmin cx dX1_lastUntil_5 ml_mmin mst_mmin mi_math mco_mmin (by decide) (Nat.le_of_ble_eq_true rfl) ?_
  refine jr_top (min_nI hcn (by omega)) ?_
  refine jr_iconst (v := 1) cx dX1_lastUntil_8 (by decide) ?_
  refine jr_isub cx dX1_lastUntil_9 ?_
  refine jr_istore (L' := [(4, .int ((nI c) - 1)), (0, .ref (E.1 4)), (1, .int b), (2, .int d), (3, .int (nI c))]) cx dX1_lastUntil_10 (by decide) rfl ?_
  have key1 : ∀ (fu1 : Nat) (m : Nat), m + 1 ≤ fu1 → (m ≤ n) → (sLast (pLU g b d) m = sLast (pLU g b d) c) → JJ E X g h 12 [(0, .ref (E.1 4)), (1, .int b), (2, .int d), (3, .int (nI c)), (4, .int (nI m - 1))] [] := by
    intro fu1
    induction fu1 with
    | zero => intro m hfu1 h1 h2; exfalso; omega
    | succ fu1 ih1 =>
      intro m hfu1 h1 h2
      refine jr_iload cx dX1_lastUntil_12 4 rfl ?_
      refine jr_if_lt (tgt := 64) cx dX1_lastUntil_14 (by decide) (fun c14 => ?_) (fun c14 => ?_)
      · have hm0 : m = 0 := (pred_lt (by omega)).mp c14
        refine jr_bipush (v := (-9)) cx dX1_lastUntil_64 (by decide) ?_
        exact jr_ri (by rw [← h2, hm0]; rfl) (by rfl) (by rfl) (hR 66 _ dX1_lastUntil_66)
      · obtain ⟨i, rfl⟩ : ∃ i, m = i + 1 := ⟨m - 1, by have := mt (pred_lt (m := m) (by omega)).mpr c14; omega⟩
        refine jr_loc (lc_n (lc_n (lc_n (lc_n (lc_i (nI_pred i) rfl))))) ?_
        refine jr_aload_n cx dX1_lastUntil_17 0 rfl rfl ?_
        refine jr_get (f := 0) (v := .ref (E.1 36)) cx dX1_lastUntil_18 (by decide) rfl rfl hinX1 (by decide) mf_13 rfl ?_
        refine jr_iload cx dX1_lastUntil_21 4 rfl ?_
        refine jr_aald cx dX1_lastUntil_23 ⟨by decide, by decide⟩ i rfl (show i < 40 by omega) (53 + i) rfl ?_
        refine jr_iconst (v := 0) cx dX1_lastUntil_24 (by decide) ?_
        refine jr_iald cx dX1_lastUntil_25 (is_fa (show i < 40 by omega)) 0 rfl (by rw [ml_fa (show i < 40 by omega)]; omega) ?_
        refine jr_iload_n cx dX1_lastUntil_26 1 rfl rfl ?_
        refine jr_icmp_ne (tgt := 58) cx dX1_lastUntil_27 (by decide) (fun c27 => ?_) (fun c27 => ?_)
        · refine jr_iinc (n := 4) (v := (nI i) + (-1)) (L' := [(4, .int ((nI i) + (-1))), (0, .ref (E.1 4)), (1, .int b), (2, .int d), (3, .int (nI c))]) cx dX1_lastUntil_58 rfl rfl (by decide) rfl ?_
          refine jr_goto (tgt := 12) cx dX1_lastUntil_61 (by decide) ?_
          refine jr_pick (L' := [(0, .ref (E.1 4)), (1, .int b), (2, .int d), (3, .int (nI c)), (4, .int ((nI i) + (-1)))]) [1, 2, 3, 4, 0] rfl ?_
          have e4 : ((nI i) + (-1) : Int32) = (nI i - 1) := by exact (Int32.sub_eq_add_neg _ _).symm
          refine jr_loc (lc_n (lc_n (lc_n (lc_n (lc_i e4 rfl))))) ?_
          exact ih1 i (by omega) (by omega) (by rw [← h2]; exact (if_neg (fun q : pLU g b d i => c27 q.1)).symm)
        · refine jr_aload_n cx dX1_lastUntil_30 0 rfl rfl ?_
          refine jr_get (f := 0) (v := .ref (E.1 36)) cx dX1_lastUntil_31 (by decide) rfl rfl hinX1 (by decide) mf_13 rfl ?_
          refine jr_iload cx dX1_lastUntil_34 4 rfl ?_
          refine jr_aald cx dX1_lastUntil_36 ⟨by decide, by decide⟩ i rfl (show i < 40 by omega) (53 + i) rfl ?_
          refine jr_iconst (v := 5) cx dX1_lastUntil_37 (by decide) ?_
          refine jr_iald cx dX1_lastUntil_38 (is_fa (show i < 40 by omega)) 5 rfl (by rw [ml_fa (show i < 40 by omega)]; omega) ?_
          refine jr_if_ne (tgt := 58) cx dX1_lastUntil_39 (by decide) (fun c39 => ?_) (fun c39 => ?_)
          · refine jr_iinc (n := 4) (v := (nI i) + (-1)) (L' := [(4, .int ((nI i) + (-1))), (0, .ref (E.1 4)), (1, .int b), (2, .int d), (3, .int (nI c))]) cx dX1_lastUntil_58 rfl rfl (by decide) rfl ?_
            refine jr_goto (tgt := 12) cx dX1_lastUntil_61 (by decide) ?_
            refine jr_pick (L' := [(0, .ref (E.1 4)), (1, .int b), (2, .int d), (3, .int (nI c)), (4, .int ((nI i) + (-1)))]) [1, 2, 3, 4, 0] rfl ?_
            have e4 : ((nI i) + (-1) : Int32) = (nI i - 1) := by exact (Int32.sub_eq_add_neg _ _).symm
            refine jr_loc (lc_n (lc_n (lc_n (lc_n (lc_i e4 rfl))))) ?_
            exact ih1 i (by omega) (by omega) (by rw [← h2]; exact (if_neg (fun q : pLU g b d i => c39 q.2.1)).symm)
          · refine jr_aload_n cx dX1_lastUntil_42 0 rfl rfl ?_
            refine jr_get (f := 0) (v := .ref (E.1 36)) cx dX1_lastUntil_43 (by decide) rfl rfl hinX1 (by decide) mf_13 rfl ?_
            refine jr_iload cx dX1_lastUntil_46 4 rfl ?_
            refine jr_aald cx dX1_lastUntil_48 ⟨by decide, by decide⟩ i rfl (show i < 40 by omega) (53 + i) rfl ?_
            refine jr_iconst (v := 3) cx dX1_lastUntil_49 (by decide) ?_
            refine jr_iald cx dX1_lastUntil_50 (is_fa (show i < 40 by omega)) 3 rfl (by rw [ml_fa (show i < 40 by omega)]; omega) ?_
            refine jr_iload_n cx dX1_lastUntil_51 2 rfl rfl ?_
            refine jr_icmp_gt (tgt := 58) cx dX1_lastUntil_52 (by decide) (fun c52 => ?_) (fun c52 => ?_)
            · refine jr_iinc (n := 4) (v := (nI i) + (-1)) (L' := [(4, .int ((nI i) + (-1))), (0, .ref (E.1 4)), (1, .int b), (2, .int d), (3, .int (nI c))]) cx dX1_lastUntil_58 rfl rfl (by decide) rfl ?_
              refine jr_goto (tgt := 12) cx dX1_lastUntil_61 (by decide) ?_
              refine jr_pick (L' := [(0, .ref (E.1 4)), (1, .int b), (2, .int d), (3, .int (nI c)), (4, .int ((nI i) + (-1)))]) [1, 2, 3, 4, 0] rfl ?_
              have e4 : ((nI i) + (-1) : Int32) = (nI i - 1) := by exact (Int32.sub_eq_add_neg _ _).symm
              refine jr_loc (lc_n (lc_n (lc_n (lc_n (lc_i e4 rfl))))) ?_
              exact ih1 i (by omega) (by omega) (by rw [← h2]; exact (if_neg (fun q : pLU g b d i => q.2.2 c52)).symm)
            · refine jr_iload cx dX1_lastUntil_55 4 rfl ?_
              exact jr_ri (by rw [← h2]; exact (if_pos (show pLU g b d i from ⟨c27, c39, c52⟩)).symm) (by rfl) (by rfl) (hR 57 _ dX1_lastUntil_57)
  refine jr_pick (L' := [(0, .ref (E.1 4)), (1, .int b), (2, .int d), (3, .int (nI c)), (4, .int ((nI c) - 1))]) [1, 2, 3, 4, 0] rfl ?_
  have e4 : ((nI c) - 1 : Int32) = (nI c - 1) := by rfl
  refine jr_loc (lc_n (lc_n (lc_n (lc_n (lc_i e4 rfl))))) ?_
  exact key1 (c + 1) c (by omega) hcn rfl
set_option maxHeartbeats 4000000 in
set_option maxRecDepth 100000 in
theorem c_X1_latestOf (E : mm_E) (g : mm_I) (h : mm_L) (b : Int32) (n : Nat) (hn : n ≤ 40) (hs : g 4 1 = nI n) : Ci E yX1_latestOf wsX1_latestOf 2 47 [.ref (E.1 4), .int b] g h (sLast (pLU g b 100000) n) g h := by
  refine ci_i (bytes := cX1_latestOf) (maxL := 2) (by decide) rfl (Nat.le_of_ble_eq_true rfl) (fun X cx hR => ?_)
  change Cx E X cX1_latestOf RX1 wsX1_latestOf 2 2 47 at cx
  change JJ E X g h 0 [(0, .ref (E.1 4)), (1, .int b)] []
  have hinX1 : ∀ w ∈ u_ws RX1 TX1 2, w ∈ wsX1_latestOf := by decide +kernel
  have mc_30 : Cond.constant RX1 30 100000 ∈ wsX1_latestOf := by decide +kernel
  have mf_16 : Cond.fieldLink RX1 16 (TX1 1).1 (TX1 1).2.1 (TX1 1).2.2.1 ∈ wsX1_latestOf := by decide +kernel
  refine jr_aload_n cx dX1_latestOf_0 0 rfl rfl ?_
  refine jr_iload_n cx dX1_latestOf_1 1 rfl rfl ?_
  refine jr_ldc cx dX1_latestOf_2 mc_30 ?_
  refine jr_aload_n cx dX1_latestOf_4 0 rfl rfl ?_
  refine jr_get (f := 1) (v := .int (g 4 1)) cx dX1_latestOf_5 (by decide) rfl rfl hinX1 (by decide) mf_16 rfl ?_
  refine jr_top hs ?_
  refine jr_vi [.int b, .int 100000, .int (nI n)] 3 cx dX1_latestOf_8 (c_X1_lastUntil E g h b 100000 n n hn hs (Nat.le_refl n)) (by decide) rfl rfl gX1_latestOf_X1_lastUntil rfl (by decide +kernel) ⟨Nat.le_of_ble_eq_true rfl, Nat.le_of_ble_eq_true rfl⟩ rfl rfl (Nat.le_of_ble_eq_true rfl) ?_
  exact jr_ri (by rfl) (by rfl) (by rfl) (hR 11 _ dX1_latestOf_11)
abbrev pCO (g : mm_I) (q : Nat) (v z : Int32) : Nat → Prop := fun c => g (53 + c) q = v ∧ (z = 0 ∨ ¬ g (53 + c) 5 = 1)
set_option maxHeartbeats 4000000 in
set_option maxRecDepth 100000 in
theorem c_X1_countOf (E : mm_E) (g : mm_I) (h : mm_L) (q : Nat) (hq : q < 8) (v z : Int32) (n : Nat) (hn : n ≤ 40) (hs : g 4 1 = nI n) : Ci E yX1_countOf wsX1_countOf 0 0 [.ref (E.1 4), .int (nI q), .int v, .int z] g h (nI (sCn (pCO g q v z) n)) g h := by
  refine ci_i (bytes := cX1_countOf) (maxL := 6) (by decide) rfl (Nat.le_of_ble_eq_true rfl) (fun X cx hR => ?_)
  change Cx E X cX1_countOf RX1 wsX1_countOf 6 0 0 at cx
  change JJ E X g h 0 [(0, .ref (E.1 4)), (1, .int (nI q)), (2, .int v), (3, .int z)] []
  have hinX1 : ∀ w ∈ u_ws RX1 TX1 2, w ∈ wsX1_countOf := by decide +kernel
  have mf_16 : Cond.fieldLink RX1 16 (TX1 1).1 (TX1 1).2.1 (TX1 1).2.2.1 ∈ wsX1_countOf := by decide +kernel
  have mf_13 : Cond.fieldLink RX1 13 (TX1 0).1 (TX1 0).2.1 (TX1 0).2.2.1 ∈ wsX1_countOf := by decide +kernel
  refine jr_iconst (v := 0) cx dX1_countOf_0 (by decide) ?_
  refine jr_istore (L' := [(4, .int 0), (0, .ref (E.1 4)), (1, .int (nI q)), (2, .int v), (3, .int z)]) cx dX1_countOf_1 (by decide) rfl ?_
  refine jr_iconst (v := 0) cx dX1_countOf_3 (by decide) ?_
  refine jr_istore (L' := [(5, .int 0), (4, .int 0), (0, .ref (E.1 4)), (1, .int (nI q)), (2, .int v), (3, .int z)]) cx dX1_countOf_4 (by decide) rfl ?_
  have key1 : ∀ (fu1 : Nat) (i : Nat), n + 1 ≤ i + fu1 → (i ≤ n) → JJ E X g h 6 [(0, .ref (E.1 4)), (1, .int (nI q)), (2, .int v), (3, .int z), (4, .int (nI (sCn (pCO g q v z) i))), (5, .int (nI i))] [] := by
    intro fu1
    induction fu1 with
    | zero => intro i hfu1 h1; exfalso; omega
    | succ fu1 ih1 =>
      intro i hfu1 h1
      refine jr_iload cx dX1_countOf_6 5 rfl ?_
      refine jr_aload_n cx dX1_countOf_8 0 rfl rfl ?_
      refine jr_get (f := 1) (v := .int (g 4 1)) cx dX1_countOf_9 (by decide) rfl rfl hinX1 (by decide) mf_16 rfl ?_
      refine jr_top hs ?_
      refine jr_icmp_ge (tgt := 54) cx dX1_countOf_12 (by decide) (fun c12 => ?_) (fun c12 => ?_)
      · have n12 : n ≤ i := (nI_leI (a := n) (b := i) (by omega) (by omega)).mp c12
        refine jr_iload cx dX1_countOf_54 4 rfl ?_
        exact jr_ri (by rw [show i = n by omega]) (by rfl) (by rfl) (hR 56 _ dX1_countOf_56)
      · have n12 : ¬ (n ≤ i) := fun q => c12 ((nI_leI (a := n) (b := i) (by omega) (by omega)).mpr q)
        refine jr_aload_n cx dX1_countOf_15 0 rfl rfl ?_
        refine jr_get (f := 0) (v := .ref (E.1 36)) cx dX1_countOf_16 (by decide) rfl rfl hinX1 (by decide) mf_13 rfl ?_
        refine jr_iload cx dX1_countOf_19 5 rfl ?_
        refine jr_aald cx dX1_countOf_21 ⟨by decide, by decide⟩ i rfl (show i < 40 by omega) (53 + i) rfl ?_
        refine jr_iload_n cx dX1_countOf_22 1 rfl rfl ?_
        refine jr_iald cx dX1_countOf_23 (is_fa (show i < 40 by omega)) q rfl (by rw [ml_fa (show i < 40 by omega)]; omega) ?_
        refine jr_iload_n cx dX1_countOf_24 2 rfl rfl ?_
        refine jr_icmp_ne (tgt := 48) cx dX1_countOf_25 (by decide) (fun c25 => ?_) (fun c25 => ?_)
        · refine jr_iinc (n := 5) (v := nI (i + 1)) (L' := [(5, .int (nI (i + 1))), (0, .ref (E.1 4)), (1, .int (nI q)), (2, .int v), (3, .int z), (4, .int (nI (sCn (pCO g q v z) i)))]) cx dX1_countOf_48 rfl (nI_1 _) (by decide) rfl ?_
          refine jr_goto (tgt := 6) cx dX1_countOf_51 (by decide) ?_
          refine jr_pick (L' := [(0, .ref (E.1 4)), (1, .int (nI q)), (2, .int v), (3, .int z), (4, .int (nI (sCn (pCO g q v z) i))), (5, .int (nI (i + 1)))]) [1, 2, 3, 4, 5, 0] rfl ?_
          have e4 : (nI (sCn (pCO g q v z) i) : Int32) = (nI (sCn (pCO g q v z) (i + 1))) := by exact congrArg nI (if_neg (fun q : pCO g q v z i => c25 q.1)).symm
          refine jr_loc (lc_n (lc_n (lc_n (lc_n (lc_i e4 (lc_n rfl)))))) ?_
          exact ih1 (i + 1) (by omega) (by omega)
        · refine jr_iload_n cx dX1_countOf_28 3 rfl rfl ?_
          refine jr_if_eq (tgt := 45) cx dX1_countOf_29 (by decide) (fun c29 => ?_) (fun c29 => ?_)
          · refine jr_iinc (n := 4) (v := nI (sCn (pCO g q v z) i + 1)) (L' := [(4, .int (nI (sCn (pCO g q v z) i + 1))), (0, .ref (E.1 4)), (1, .int (nI q)), (2, .int v), (3, .int z), (5, .int (nI i))]) cx dX1_countOf_45 rfl (nI_1 _) (by decide) rfl ?_
            refine jr_iinc (n := 5) (v := nI (i + 1)) (L' := [(5, .int (nI (i + 1))), (4, .int (nI (sCn (pCO g q v z) i + 1))), (0, .ref (E.1 4)), (1, .int (nI q)), (2, .int v), (3, .int z)]) cx dX1_countOf_48 rfl (nI_1 _) (by decide) rfl ?_
            refine jr_goto (tgt := 6) cx dX1_countOf_51 (by decide) ?_
            refine jr_pick (L' := [(0, .ref (E.1 4)), (1, .int (nI q)), (2, .int v), (3, .int z), (4, .int (nI (sCn (pCO g q v z) i + 1))), (5, .int (nI (i + 1)))]) [2, 3, 4, 5, 1, 0] rfl ?_
            have e4 : (nI (sCn (pCO g q v z) i + 1) : Int32) = (nI (sCn (pCO g q v z) (i + 1))) := by exact congrArg nI (if_pos (show pCO g q v z i from ⟨c25, Or.inl c29⟩)).symm
            refine jr_loc (lc_n (lc_n (lc_n (lc_n (lc_i e4 (lc_n rfl)))))) ?_
            exact ih1 (i + 1) (by omega) (by omega)
          · refine jr_aload_n cx dX1_countOf_32 0 rfl rfl ?_
            refine jr_get (f := 0) (v := .ref (E.1 36)) cx dX1_countOf_33 (by decide) rfl rfl hinX1 (by decide) mf_13 rfl ?_
            refine jr_iload cx dX1_countOf_36 5 rfl ?_
            refine jr_aald cx dX1_countOf_38 ⟨by decide, by decide⟩ i rfl (show i < 40 by omega) (53 + i) rfl ?_
            refine jr_iconst (v := 5) cx dX1_countOf_39 (by decide) ?_
            refine jr_iald cx dX1_countOf_40 (is_fa (show i < 40 by omega)) 5 rfl (by rw [ml_fa (show i < 40 by omega)]; omega) ?_
            refine jr_iconst (v := 1) cx dX1_countOf_41 (by decide) ?_
            refine jr_icmp_eq (tgt := 48) cx dX1_countOf_42 (by decide) (fun c42 => ?_) (fun c42 => ?_)
            · refine jr_iinc (n := 5) (v := nI (i + 1)) (L' := [(5, .int (nI (i + 1))), (0, .ref (E.1 4)), (1, .int (nI q)), (2, .int v), (3, .int z), (4, .int (nI (sCn (pCO g q v z) i)))]) cx dX1_countOf_48 rfl (nI_1 _) (by decide) rfl ?_
              refine jr_goto (tgt := 6) cx dX1_countOf_51 (by decide) ?_
              refine jr_pick (L' := [(0, .ref (E.1 4)), (1, .int (nI q)), (2, .int v), (3, .int z), (4, .int (nI (sCn (pCO g q v z) i))), (5, .int (nI (i + 1)))]) [1, 2, 3, 4, 5, 0] rfl ?_
              have e4 : (nI (sCn (pCO g q v z) i) : Int32) = (nI (sCn (pCO g q v z) (i + 1))) := by exact congrArg nI (if_neg (fun q : pCO g q v z i => q.2.elim c29 (fun q => q c42))).symm
              refine jr_loc (lc_n (lc_n (lc_n (lc_n (lc_i e4 (lc_n rfl)))))) ?_
              exact ih1 (i + 1) (by omega) (by omega)
            · refine jr_iinc (n := 4) (v := nI (sCn (pCO g q v z) i + 1)) (L' := [(4, .int (nI (sCn (pCO g q v z) i + 1))), (0, .ref (E.1 4)), (1, .int (nI q)), (2, .int v), (3, .int z), (5, .int (nI i))]) cx dX1_countOf_45 rfl (nI_1 _) (by decide) rfl ?_
              refine jr_iinc (n := 5) (v := nI (i + 1)) (L' := [(5, .int (nI (i + 1))), (4, .int (nI (sCn (pCO g q v z) i + 1))), (0, .ref (E.1 4)), (1, .int (nI q)), (2, .int v), (3, .int z)]) cx dX1_countOf_48 rfl (nI_1 _) (by decide) rfl ?_
              refine jr_goto (tgt := 6) cx dX1_countOf_51 (by decide) ?_
              refine jr_pick (L' := [(0, .ref (E.1 4)), (1, .int (nI q)), (2, .int v), (3, .int z), (4, .int (nI (sCn (pCO g q v z) i + 1))), (5, .int (nI (i + 1)))]) [2, 3, 4, 5, 1, 0] rfl ?_
              have e4 : (nI (sCn (pCO g q v z) i + 1) : Int32) = (nI (sCn (pCO g q v z) (i + 1))) := by exact congrArg nI (if_pos (show pCO g q v z i from ⟨c25, Or.inr c42⟩)).symm
              refine jr_loc (lc_n (lc_n (lc_n (lc_n (lc_i e4 (lc_n rfl)))))) ?_
              exact ih1 (i + 1) (by omega) (by omega)
  refine jr_pick (L' := [(0, .ref (E.1 4)), (1, .int (nI q)), (2, .int v), (3, .int z), (4, .int 0), (5, .int 0)]) [2, 3, 4, 5, 1, 0] rfl ?_
  have e4 : (0 : Int32) = (nI (sCn (pCO g q v z) 0)) := by rfl
  have e5 : (0 : Int32) = (nI 0) := by rfl
  refine jr_loc (lc_n (lc_n (lc_n (lc_n (lc_i e4 (lc_i e5 rfl)))))) ?_
  exact key1 (n + 1) 0 (by omega) (by omega)
set_option maxHeartbeats 4000000 in
set_option maxRecDepth 100000 in
theorem c_X1_rise (E : mm_E) (g : mm_I) (h : mm_L) (q a b : Nat) (hq : q < 8) (ha : a < 40) (hb : b < 40) : Ci E yX1_rise wsX1_rise 0 0 [.ref (E.1 4), .int (nI q), .int (nI a), .int (nI b)] g h (g (53 + b) q - g (53 + a) q) g h := by
  refine ci_i (bytes := cX1_rise) (maxL := 4) (by decide) rfl (Nat.le_of_ble_eq_true rfl) (fun X cx hR => ?_)
  change Cx E X cX1_rise RX1 wsX1_rise 4 0 0 at cx
  change JJ E X g h 0 [(0, .ref (E.1 4)), (1, .int (nI q)), (2, .int (nI a)), (3, .int (nI b))] []
  have hinX1 : ∀ w ∈ u_ws RX1 TX1 2, w ∈ wsX1_rise := by decide +kernel
  have mf_13 : Cond.fieldLink RX1 13 (TX1 0).1 (TX1 0).2.1 (TX1 0).2.2.1 ∈ wsX1_rise := by decide +kernel
  refine jr_aload_n cx dX1_rise_0 0 rfl rfl ?_
  refine jr_get (f := 0) (v := .ref (E.1 36)) cx dX1_rise_1 (by decide) rfl rfl hinX1 (by decide) mf_13 rfl ?_
  refine jr_iload_n cx dX1_rise_4 3 rfl rfl ?_
  refine jr_aald cx dX1_rise_5 ⟨by decide, by decide⟩ b rfl (show b < 40 by omega) (53 + b) rfl ?_
  refine jr_iload_n cx dX1_rise_6 1 rfl rfl ?_
  refine jr_iald cx dX1_rise_7 (is_fa (show b < 40 by omega)) q rfl (by rw [ml_fa (show b < 40 by omega)]; omega) ?_
  refine jr_aload_n cx dX1_rise_8 0 rfl rfl ?_
  refine jr_get (f := 0) (v := .ref (E.1 36)) cx dX1_rise_9 (by decide) rfl rfl hinX1 (by decide) mf_13 rfl ?_
  refine jr_iload_n cx dX1_rise_12 2 rfl rfl ?_
  refine jr_aald cx dX1_rise_13 ⟨by decide, by decide⟩ a rfl (show a < 40 by omega) (53 + a) rfl ?_
  refine jr_iload_n cx dX1_rise_14 1 rfl rfl ?_
  refine jr_iald cx dX1_rise_15 (is_fa (show a < 40 by omega)) q rfl (by rw [ml_fa (show a < 40 by omega)]; omega) ?_
  refine jr_isub cx dX1_rise_16 ?_
  exact jr_ri (by rfl) (by rfl) (by rfl) (hR 17 _ dX1_rise_17)
abbrev rov (g : mm_I) (n : Nat) (x : Int32) : Prop := (¬ x < 0 ∧ ¬ nI n - 1 < x) ∧ g (53 + x.toNatClampNeg) 5 = 1
theorem cl_nI {d : Nat} (h : d < 1000) : (nI d).toNatClampNeg = d := nI_clamp (by omega)
set_option maxHeartbeats 4000000 in
set_option maxRecDepth 100000 in
theorem c_X1_restsOnVoid (E : mm_E) (g : mm_I) (h : mm_L) (c : Nat) (hc : c < 40) (x : Int32) (hx : g (53 + c) 6 = x) (n : Nat) (hn : n ≤ 40) (hs : g 4 1 = nI n) : Ci E yX1_restsOnVoid wsX1_restsOnVoid 2 43 [.ref (E.1 4), .int (nI c)] g h (bI (rov g n x)) g h := by
  refine ci_z (bytes := cX1_restsOnVoid) (maxL := 3) (by decide) rfl (Nat.le_of_ble_eq_true rfl) (bI_01 _) (fun X cx hR => ?_)
  change Cx E X cX1_restsOnVoid RX1 wsX1_restsOnVoid 3 2 43 at cx
  change JJ E X g h 0 [(0, .ref (E.1 4)), (1, .int (nI c))] []
  have hinX1 : ∀ w ∈ u_ws RX1 TX1 2, w ∈ wsX1_restsOnVoid := by decide +kernel
  have mf_13 : Cond.fieldLink RX1 13 (TX1 0).1 (TX1 0).2.1 (TX1 0).2.2.1 ∈ wsX1_restsOnVoid := by decide +kernel
  refine jr_aload_n cx dX1_restsOnVoid_0 0 rfl rfl ?_
  refine jr_get (f := 0) (v := .ref (E.1 36)) cx dX1_restsOnVoid_1 (by decide) rfl rfl hinX1 (by decide) mf_13 rfl ?_
  refine jr_iload_n cx dX1_restsOnVoid_4 1 rfl rfl ?_
  refine jr_aald cx dX1_restsOnVoid_5 ⟨by decide, by decide⟩ c rfl (show c < 40 by omega) (53 + c) rfl ?_
  refine jr_bipush (v := 6) cx dX1_restsOnVoid_6 (by decide) ?_
  refine jr_iald cx dX1_restsOnVoid_8 (is_fa (show c < 40 by omega)) 6 rfl (by rw [ml_fa (show c < 40 by omega)]; omega) ?_
  refine jr_top hx ?_
  refine jr_istore_n (L' := [(2, .int x), (0, .ref (E.1 4)), (1, .int (nI c))]) cx dX1_restsOnVoid_9 rfl (by decide) rfl ?_
  refine jr_aload_n cx dX1_restsOnVoid_10 1 rfl rfl ?_
  refine jr_iload_n cx dX1_restsOnVoid_11 0 rfl rfl ?_
  refine jr_vi [.int x] 1 cx dX1_restsOnVoid_12 (c_X1_has E g h x n hn hs) (by decide) rfl rfl gX1_restsOnVoid_X1_has rfl (by decide +kernel) ⟨Nat.le_of_ble_eq_true rfl, Nat.le_of_ble_eq_true rfl⟩ rfl rfl (Nat.le_of_ble_eq_true rfl) ?_
  refine jr_bif_eq (tgt := 34) cx dX1_restsOnVoid_15 (by decide) (fun c15 => ?_) (fun c15 => ?_)
  · refine jr_iconst (v := 0) cx dX1_restsOnVoid_34 (by decide) ?_
    exact jr_ri (by exact (bI_f (fun q => c15 q.1)).symm) (by rfl) (by rfl) (hR 35 _ dX1_restsOnVoid_35)
  · obtain ⟨d, hd, rfl⟩ := has_nat (by omega) c15
    refine jr_aload_n cx dX1_restsOnVoid_18 1 rfl rfl ?_
    refine jr_get (f := 0) (v := .ref (E.1 36)) cx dX1_restsOnVoid_19 (by decide) rfl rfl hinX1 (by decide) mf_13 rfl ?_
    refine jr_iload_n cx dX1_restsOnVoid_22 0 rfl rfl ?_
    refine jr_aald cx dX1_restsOnVoid_23 ⟨by decide, by decide⟩ d rfl (show d < 40 by omega) (53 + d) rfl ?_
    refine jr_iconst (v := 5) cx dX1_restsOnVoid_24 (by decide) ?_
    refine jr_iald cx dX1_restsOnVoid_25 (is_fa (show d < 40 by omega)) 5 rfl (by rw [ml_fa (show d < 40 by omega)]; omega) ?_
    refine jr_iconst (v := 1) cx dX1_restsOnVoid_26 (by decide) ?_
    refine jr_icmp_ne (tgt := 34) cx dX1_restsOnVoid_27 (by decide) (fun c27 => ?_) (fun c27 => ?_)
    · refine jr_iconst (v := 0) cx dX1_restsOnVoid_34 (by decide) ?_
      exact jr_ri (by exact (bI_f (fun q => c27 (by have q2 := q.2; rw [cl_nI (by omega)] at q2; exact q2))).symm) (by rfl) (by rfl) (hR 35 _ dX1_restsOnVoid_35)
    · refine jr_iconst (v := 1) cx dX1_restsOnVoid_30 (by decide) ?_
      refine jr_goto (tgt := 35) cx dX1_restsOnVoid_31 (by decide) ?_
      exact jr_ri (by exact (bI_t ⟨c15, by rw [cl_nI (by omega)]; exact c27⟩).symm) (by rfl) (by rfl) (hR 35 _ dX1_restsOnVoid_35)
theorem chN_n {r : Nat → Int32} {n k : Nat} {x : Int32} (h : ¬ (¬ x < 0 ∧ ¬ nI n - 1 < x)) : chN r n k x = 0 := by
  cases k with
  | zero => rfl
  | succ k => exact if_neg h
theorem chN_y {r : Nat → Int32} {n k d : Nat} (hd : d < 1000) (h : ¬ nI d < 0 ∧ ¬ nI n - 1 < nI d) : chN r n (k + 1) (nI d) = chN r n k (r d) + 1 := by
  have e := cl_nI hd
  show (if _ then _ else _) = _
  rw [if_pos h, e]
theorem chS_n {r e : Nat → Int32} {n k : Nat} {x : Int32} (h : ¬ (¬ x < 0 ∧ ¬ nI n - 1 < x)) : chS r e n k x = 0 := by
  cases k with
  | zero => rfl
  | succ k => exact if_neg h
theorem chS_y {r e : Nat → Int32} {n k d : Nat} (hd : d < 1000) (h : ¬ nI d < 0 ∧ ¬ nI n - 1 < nI d) : chS r e n (k + 1) (nI d) = (e d).toInt64 * (e d).toInt64 + chS r e n k (r d) := by
  have e := cl_nI hd
  show (if _ then _ else _) = _
  rw [if_pos h, e]
theorem chP_n {r : Nat → Int32} {n k : Nat} {p : Nat → Bool} {x : Int32} (h : ¬ (¬ x < 0 ∧ ¬ nI n - 1 < x)) : chP r n p k x = false := by
  cases k with
  | zero => rfl
  | succ k => exact if_neg h
theorem chP_y {r : Nat → Int32} {n k d : Nat} {p : Nat → Bool} (hd : d < 1000) (h : ¬ nI d < 0 ∧ ¬ nI n - 1 < nI d) : chP r n p (k + 1) (nI d) = (if p d then true else chP r n p k (r d)) := by
  have e := cl_nI hd
  show (if _ then _ else _) = _
  rw [if_pos h, e]
set_option maxHeartbeats 4000000 in
set_option maxRecDepth 100000 in
theorem c_X1_chainLength (E : mm_E) (g : mm_I) (h : mm_L) (a : Nat) (n : Nat) (hn : n ≤ 40) (hs : g 4 1 = nI n) : Ci E yX1_chainLength wsX1_chainLength 2 43 [.ref (E.1 4), .int (nI a)] g h (nI (chN (fun q => g (53 + q) 6) n 40 (nI a))) g h := by
  refine ci_i (bytes := cX1_chainLength) (maxL := 5) (by decide) rfl (Nat.le_of_ble_eq_true rfl) (fun X cx hR => ?_)
  change Cx E X cX1_chainLength RX1 wsX1_chainLength 5 2 43 at cx
  change JJ E X g h 0 [(0, .ref (E.1 4)), (1, .int (nI a))] []
  have hinX1 : ∀ w ∈ u_ws RX1 TX1 2, w ∈ wsX1_chainLength := by decide +kernel
  have mf_13 : Cond.fieldLink RX1 13 (TX1 0).1 (TX1 0).2.1 (TX1 0).2.2.1 ∈ wsX1_chainLength := by decide +kernel
  refine jr_iconst (v := 0) cx dX1_chainLength_0 (by decide) ?_
  refine jr_istore_n (L' := [(2, .int 0), (0, .ref (E.1 4)), (1, .int (nI a))]) cx dX1_chainLength_1 rfl (by decide) rfl ?_
  refine jr_iload_n cx dX1_chainLength_2 2 rfl rfl ?_
  refine jr_istore_n (L' := [(3, .int (nI a)), (2, .int 0), (0, .ref (E.1 4)), (1, .int (nI a))]) cx dX1_chainLength_3 rfl (by decide) rfl ?_
  refine jr_iconst (v := 0) cx dX1_chainLength_4 (by decide) ?_
  refine jr_istore (L' := [(4, .int 0), (3, .int (nI a)), (2, .int 0), (0, .ref (E.1 4)), (1, .int (nI a))]) cx dX1_chainLength_5 (by decide) rfl ?_
  have key1 : ∀ (fu1 : Nat) (s c : Nat) (x : Int32), 41 ≤ s + fu1 → (s ≤ 40) → (c + chN (fun q => g (53 + q) 6) n (40 - s) x = chN (fun q => g (53 + q) 6) n 40 (nI a)) → JJ E X g h 7 [(0, .ref (E.1 4)), (2, .int (nI c)), (3, .int x), (4, .int (nI s))] [] := by
    intro fu1
    induction fu1 with
    | zero => intro s c x hfu1 h1 h2; exfalso; omega
    | succ fu1 ih1 =>
      intro s c x hfu1 h1 h2
      refine jr_iload cx dX1_chainLength_7 3 rfl ?_
      refine jr_bipush (v := 40) cx dX1_chainLength_9 (by decide) ?_
      refine jr_icmp_ge (tgt := 41) cx dX1_chainLength_11 (by decide) (fun c11 => ?_) (fun c11 => ?_)
      · have n11 : 40 ≤ s := (nI_leI (a := 40) (b := s) (by omega) (by omega)).mp c11
        refine jr_iload_n cx dX1_chainLength_41 1 rfl rfl ?_
        exact jr_ri (by rw [← h2, show 40 - s = 0 by omega]; rfl) (by rfl) (by rfl) (hR 42 _ dX1_chainLength_42)
      · have n11 : ¬ (40 ≤ s) := fun q => c11 ((nI_leI (a := 40) (b := s) (by omega) (by omega)).mpr q)
        refine jr_aload_n cx dX1_chainLength_14 0 rfl rfl ?_
        refine jr_iload_n cx dX1_chainLength_15 2 rfl rfl ?_
        refine jr_vi [.int x] 1 cx dX1_chainLength_16 (c_X1_has E g h x n hn hs) (by decide) rfl rfl gX1_chainLength_X1_has rfl (by decide +kernel) ⟨Nat.le_of_ble_eq_true rfl, Nat.le_of_ble_eq_true rfl⟩ rfl rfl (Nat.le_of_ble_eq_true rfl) ?_
        refine jr_bif_eq (tgt := 41) cx dX1_chainLength_19 (by decide) (fun c19 => ?_) (fun c19 => ?_)
        · refine jr_iload_n cx dX1_chainLength_41 1 rfl rfl ?_
          exact jr_ri (by rw [← h2, chN_n c19]; rfl) (by rfl) (by rfl) (hR 42 _ dX1_chainLength_42)
        · obtain ⟨d, hd, rfl⟩ := has_nat (by omega) c19
          refine jr_iinc (n := 1) (v := nI (c + 1)) (L' := [(2, .int (nI (c + 1))), (0, .ref (E.1 4)), (3, .int (nI d)), (4, .int (nI s))]) cx dX1_chainLength_22 rfl (nI_1 _) (by decide) rfl ?_
          refine jr_aload_n cx dX1_chainLength_25 1 rfl rfl ?_
          refine jr_get (f := 0) (v := .ref (E.1 36)) cx dX1_chainLength_26 (by decide) rfl rfl hinX1 (by decide) mf_13 rfl ?_
          refine jr_iload_n cx dX1_chainLength_29 2 rfl rfl ?_
          refine jr_aald cx dX1_chainLength_30 ⟨by decide, by decide⟩ d rfl (show d < 40 by omega) (53 + d) rfl ?_
          refine jr_bipush (v := 6) cx dX1_chainLength_31 (by decide) ?_
          refine jr_iald cx dX1_chainLength_33 (is_fa (show d < 40 by omega)) 6 rfl (by rw [ml_fa (show d < 40 by omega)]; omega) ?_
          refine jr_istore_n (L' := [(3, .int (g (53 + d) 6)), (2, .int (nI (c + 1))), (0, .ref (E.1 4)), (4, .int (nI s))]) cx dX1_chainLength_34 rfl (by decide) rfl ?_
          refine jr_iinc (n := 3) (v := nI (s + 1)) (L' := [(4, .int (nI (s + 1))), (3, .int (g (53 + d) 6)), (2, .int (nI (c + 1))), (0, .ref (E.1 4))]) cx dX1_chainLength_35 rfl (nI_1 _) (by decide) rfl ?_
          refine jr_goto (tgt := 7) cx dX1_chainLength_38 (by decide) ?_
          refine jr_pick (L' := [(0, .ref (E.1 4)), (2, .int (nI (c + 1))), (3, .int (g (53 + d) 6)), (4, .int (nI (s + 1)))]) [3, 2, 1, 0] rfl ?_
          have e3 : (g (53 + d) 6 : Int32) = (g (53 + d) 6) := by rfl
          refine jr_loc (lc_n (lc_n (lc_i e3 (lc_n rfl)))) ?_
          exact ih1 (s + 1) (c + 1) (g (53 + d) 6) (by omega) (by omega) (by rw [← h2, show 40 - s = (40 - (s + 1)) + 1 by omega, chN_y (by omega) c19]; omega)
  refine jr_pick (L' := [(0, .ref (E.1 4)), (2, .int 0), (3, .int (nI a)), (4, .int 0)]) [3, 2, 1, 0] rfl ?_
  have e2 : (0 : Int32) = (nI 0) := by rfl
  have e3 : (nI a : Int32) = (nI a) := by rfl
  have e4 : (0 : Int32) = (nI 0) := by rfl
  refine jr_loc (lc_n (lc_i e2 (lc_i e3 (lc_i e4 rfl)))) ?_
  exact key1 (41) 0 0 (nI a) (by omega) (by omega) (Nat.zero_add _)
set_option maxHeartbeats 4000000 in
set_option maxRecDepth 100000 in
theorem c_X1_squaredEnds (E : mm_E) (g : mm_I) (h : mm_L) (a : Nat) (n : Nat) (hn : n ≤ 40) (hs : g 4 1 = nI n) : Cl E yX1_squaredEnds wsX1_squaredEnds 2 43 [.ref (E.1 4), .int (nI a)] g h (chS (fun q => g (53 + q) 6) (fun q => g (53 + q) 4) n 40 (nI a)) g h := by
  refine ci_l (bytes := cX1_squaredEnds) (maxL := 8) (by decide) rfl (Nat.le_of_ble_eq_true rfl) (fun X cx hR => ?_)
  change Cx E X cX1_squaredEnds RX1 wsX1_squaredEnds 8 2 43 at cx
  change JJ E X g h 0 [(0, .ref (E.1 4)), (1, .int (nI a))] []
  have hinX1 : ∀ w ∈ u_ws RX1 TX1 2, w ∈ wsX1_squaredEnds := by decide +kernel
  have mf_13 : Cond.fieldLink RX1 13 (TX1 0).1 (TX1 0).2.1 (TX1 0).2.2.1 ∈ wsX1_squaredEnds := by decide +kernel
  refine jr_lconst (v := 0) cx dX1_squaredEnds_0 (by decide) ?_
  refine jr_lstore_n (L' := [(2, .long 0), (0, .ref (E.1 4)), (1, .int (nI a))]) cx dX1_squaredEnds_1 rfl (by decide) rfl ?_
  refine jr_iload_n cx dX1_squaredEnds_2 2 rfl rfl ?_
  refine jr_istore (L' := [(4, .int (nI a)), (2, .long 0), (0, .ref (E.1 4)), (1, .int (nI a))]) cx dX1_squaredEnds_3 (by decide) rfl ?_
  refine jr_iconst (v := 0) cx dX1_squaredEnds_5 (by decide) ?_
  refine jr_istore (L' := [(5, .int 0), (4, .int (nI a)), (2, .long 0), (0, .ref (E.1 4)), (1, .int (nI a))]) cx dX1_squaredEnds_6 (by decide) rfl ?_
  have key1 : ∀ (fu1 : Nat) (s : Nat) (v : Int64) (x : Int32), 41 ≤ s + fu1 → (s ≤ 40) → (v + chS (fun q => g (53 + q) 6) (fun q => g (53 + q) 4) n (40 - s) x = chS (fun q => g (53 + q) 6) (fun q => g (53 + q) 4) n 40 (nI a)) → JJ E X g h 8 [(0, .ref (E.1 4)), (2, .long v), (4, .int x), (5, .int (nI s))] [] := by
    intro fu1
    induction fu1 with
    | zero => intro s v x hfu1 h1 h2; exfalso; omega
    | succ fu1 ih1 =>
      intro s v x hfu1 h1 h2
      refine jr_iload cx dX1_squaredEnds_8 3 rfl ?_
      refine jr_bipush (v := 40) cx dX1_squaredEnds_10 (by decide) ?_
      refine jr_icmp_ge (tgt := 62) cx dX1_squaredEnds_12 (by decide) (fun c12 => ?_) (fun c12 => ?_)
      · have n12 : 40 ≤ s := (nI_leI (a := 40) (b := s) (by omega) (by omega)).mp c12
        refine jr_lload_n cx dX1_squaredEnds_62 1 rfl rfl ?_
        exact jr_rl (by rw [← h2, show 40 - s = 0 by omega]; exact (Int64.add_zero v).symm) (by rfl) (by rfl) (hR 63 _ dX1_squaredEnds_63)
      · have n12 : ¬ (40 ≤ s) := fun q => c12 ((nI_leI (a := 40) (b := s) (by omega) (by omega)).mpr q)
        refine jr_aload_n cx dX1_squaredEnds_15 0 rfl rfl ?_
        refine jr_iload cx dX1_squaredEnds_16 2 rfl ?_
        refine jr_vi [.int x] 1 cx dX1_squaredEnds_18 (c_X1_has E g h x n hn hs) (by decide) rfl rfl gX1_squaredEnds_X1_has rfl (by decide +kernel) ⟨Nat.le_of_ble_eq_true rfl, Nat.le_of_ble_eq_true rfl⟩ rfl rfl (Nat.le_of_ble_eq_true rfl) ?_
        refine jr_bif_eq (tgt := 62) cx dX1_squaredEnds_21 (by decide) (fun c21 => ?_) (fun c21 => ?_)
        · refine jr_lload_n cx dX1_squaredEnds_62 1 rfl rfl ?_
          exact jr_rl (by rw [← h2, chS_n c21]; exact (Int64.add_zero v).symm) (by rfl) (by rfl) (hR 63 _ dX1_squaredEnds_63)
        · obtain ⟨d, hd, rfl⟩ := has_nat (by omega) c21
          refine jr_aload_n cx dX1_squaredEnds_24 0 rfl rfl ?_
          refine jr_get (f := 0) (v := .ref (E.1 36)) cx dX1_squaredEnds_25 (by decide) rfl rfl hinX1 (by decide) mf_13 rfl ?_
          refine jr_iload cx dX1_squaredEnds_28 2 rfl ?_
          refine jr_aald cx dX1_squaredEnds_30 ⟨by decide, by decide⟩ d rfl (show d < 40 by omega) (53 + d) rfl ?_
          refine jr_iconst (v := 4) cx dX1_squaredEnds_31 (by decide) ?_
          refine jr_iald cx dX1_squaredEnds_32 (is_fa (show d < 40 by omega)) 4 rfl (by rw [ml_fa (show d < 40 by omega)]; omega) ?_
          refine jr_i2l cx dX1_squaredEnds_33 ?_
          refine jr_lstore (L' := [(6, .long (Int32.toInt64 (g (53 + d) 4))), (0, .ref (E.1 4)), (2, .long v), (4, .int (nI d)), (5, .int (nI s))]) cx dX1_squaredEnds_34 (by decide) rfl ?_
          refine jr_lload_n cx dX1_squaredEnds_36 2 rfl rfl ?_
          refine jr_lload cx dX1_squaredEnds_37 0 rfl ?_
          refine jr_lload cx dX1_squaredEnds_39 0 rfl ?_
          refine jr_lmul cx dX1_squaredEnds_41 ?_
          refine jr_ladd cx dX1_squaredEnds_42 ?_
          refine jr_lstore_n (L' := [(2, .long (v + ((Int32.toInt64 (g (53 + d) 4)) * (Int32.toInt64 (g (53 + d) 4))))), (6, .long (Int32.toInt64 (g (53 + d) 4))), (0, .ref (E.1 4)), (4, .int (nI d)), (5, .int (nI s))]) cx dX1_squaredEnds_43 rfl (by decide) rfl ?_
          refine jr_aload_n cx dX1_squaredEnds_44 2 rfl rfl ?_
          refine jr_get (f := 0) (v := .ref (E.1 36)) cx dX1_squaredEnds_45 (by decide) rfl rfl hinX1 (by decide) mf_13 rfl ?_
          refine jr_iload cx dX1_squaredEnds_48 3 rfl ?_
          refine jr_aald cx dX1_squaredEnds_50 ⟨by decide, by decide⟩ d rfl (show d < 40 by omega) (53 + d) rfl ?_
          refine jr_bipush (v := 6) cx dX1_squaredEnds_51 (by decide) ?_
          refine jr_iald cx dX1_squaredEnds_53 (is_fa (show d < 40 by omega)) 6 rfl (by rw [ml_fa (show d < 40 by omega)]; omega) ?_
          refine jr_istore (L' := [(4, .int (g (53 + d) 6)), (2, .long (v + ((Int32.toInt64 (g (53 + d) 4)) * (Int32.toInt64 (g (53 + d) 4))))), (6, .long (Int32.toInt64 (g (53 + d) 4))), (0, .ref (E.1 4)), (5, .int (nI s))]) cx dX1_squaredEnds_54 (by decide) rfl ?_
          refine jr_iinc (n := 4) (v := nI (s + 1)) (L' := [(5, .int (nI (s + 1))), (4, .int (g (53 + d) 6)), (2, .long (v + ((Int32.toInt64 (g (53 + d) 4)) * (Int32.toInt64 (g (53 + d) 4))))), (6, .long (Int32.toInt64 (g (53 + d) 4))), (0, .ref (E.1 4))]) cx dX1_squaredEnds_56 rfl (nI_1 _) (by decide) rfl ?_
          refine jr_goto (tgt := 8) cx dX1_squaredEnds_59 (by decide) ?_
          refine jr_pick (L' := [(0, .ref (E.1 4)), (2, .long (v + ((Int32.toInt64 (g (53 + d) 4)) * (Int32.toInt64 (g (53 + d) 4))))), (4, .int (g (53 + d) 6)), (5, .int (nI (s + 1)))]) [4, 2, 1, 0] rfl ?_
          have e2 : (v + ((Int32.toInt64 (g (53 + d) 4)) * (Int32.toInt64 (g (53 + d) 4))) : Int64) = (v + Int32.toInt64 (g (53 + d) 4) * Int32.toInt64 (g (53 + d) 4)) := by rfl
          have e4 : (g (53 + d) 6 : Int32) = (g (53 + d) 6) := by rfl
          refine jr_loc (lc_n (lc_l e2 (lc_i e4 (lc_n rfl)))) ?_
          exact ih1 (s + 1) (v + Int32.toInt64 (g (53 + d) 4) * Int32.toInt64 (g (53 + d) 4)) (g (53 + d) 6) (by omega) (by omega) (by rw [← h2, show 40 - s = (40 - (s + 1)) + 1 by omega, chS_y (by omega) c21, Int64.add_assoc])
  refine jr_pick (L' := [(0, .ref (E.1 4)), (2, .long 0), (4, .int (nI a)), (5, .int 0)]) [3, 2, 1, 0] rfl ?_
  have e4 : (nI a : Int32) = (nI a) := by rfl
  have e5 : (0 : Int32) = (nI 0) := by rfl
  refine jr_loc (lc_n (lc_n (lc_i e4 (lc_i e5 rfl)))) ?_
  exact key1 (41) 0 0 (nI a) (by omega) (by omega) (Int64.zero_add _)
set_option maxHeartbeats 4000000 in
set_option maxRecDepth 100000 in
theorem c_X1_isOver (E : mm_E) (g : mm_I) (h : mm_L) (c : Nat) (hc : c < 40) (b : Nat) (hb : b < 40) (n : Nat) (hn : n ≤ 40) (hs : g 4 1 = nI n) : Ci E yX1_isOver wsX1_isOver 2 43 [.ref (E.1 4), .int (nI c), .int (nI b)] g h (bI (chP (fun q => g (53 + q) 6) n (fun q => decide (nI q = nI b)) 40 (g (53 + c) 6) = true)) g h := by
  refine ci_z (bytes := cX1_isOver) (maxL := 5) (by decide) rfl (Nat.le_of_ble_eq_true rfl) (bI_01 _) (fun X cx hR => ?_)
  change Cx E X cX1_isOver RX1 wsX1_isOver 5 2 43 at cx
  change JJ E X g h 0 [(0, .ref (E.1 4)), (1, .int (nI c)), (2, .int (nI b))] []
  have hinX1 : ∀ w ∈ u_ws RX1 TX1 2, w ∈ wsX1_isOver := by decide +kernel
  have mf_13 : Cond.fieldLink RX1 13 (TX1 0).1 (TX1 0).2.1 (TX1 0).2.2.1 ∈ wsX1_isOver := by decide +kernel
  refine jr_aload_n cx dX1_isOver_0 0 rfl rfl ?_
  refine jr_get (f := 0) (v := .ref (E.1 36)) cx dX1_isOver_1 (by decide) rfl rfl hinX1 (by decide) mf_13 rfl ?_
  refine jr_iload_n cx dX1_isOver_4 1 rfl rfl ?_
  refine jr_aald cx dX1_isOver_5 ⟨by decide, by decide⟩ c rfl (show c < 40 by omega) (53 + c) rfl ?_
  refine jr_bipush (v := 6) cx dX1_isOver_6 (by decide) ?_
  refine jr_iald cx dX1_isOver_8 (is_fa (show c < 40 by omega)) 6 rfl (by rw [ml_fa (show c < 40 by omega)]; omega) ?_
  refine jr_istore_n (L' := [(3, .int (g (53 + c) 6)), (0, .ref (E.1 4)), (1, .int (nI c)), (2, .int (nI b))]) cx dX1_isOver_9 rfl (by decide) rfl ?_
  refine jr_iconst (v := 0) cx dX1_isOver_10 (by decide) ?_
  refine jr_istore (L' := [(4, .int 0), (3, .int (g (53 + c) 6)), (0, .ref (E.1 4)), (1, .int (nI c)), (2, .int (nI b))]) cx dX1_isOver_11 (by decide) rfl ?_
  have key1 : ∀ (fu1 : Nat) (s : Nat) (x : Int32), 41 ≤ s + fu1 → (s ≤ 40) → (chP (fun q => g (53 + q) 6) n (fun q => decide (nI q = nI b)) (40 - s) x = chP (fun q => g (53 + q) 6) n (fun q => decide (nI q = nI b)) 40 (g (53 + c) 6)) → JJ E X g h 13 [(0, .ref (E.1 4)), (2, .int (nI b)), (3, .int x), (4, .int (nI s))] [] := by
    intro fu1
    induction fu1 with
    | zero => intro s x hfu1 h1 h2; exfalso; omega
    | succ fu1 ih1 =>
      intro s x hfu1 h1 h2
      refine jr_iload cx dX1_isOver_13 3 rfl ?_
      refine jr_bipush (v := 40) cx dX1_isOver_15 (by decide) ?_
      refine jr_icmp_ge (tgt := 51) cx dX1_isOver_17 (by decide) (fun c17 => ?_) (fun c17 => ?_)
      · have n17 : 40 ≤ s := (nI_leI (a := 40) (b := s) (by omega) (by omega)).mp c17
        refine jr_iconst (v := 0) cx dX1_isOver_51 (by decide) ?_
        exact jr_ri (by exact (bI_f (by rw [← h2, show 40 - s = 0 by omega]; exact Bool.false_ne_true)).symm) (by rfl) (by rfl) (hR 52 _ dX1_isOver_52)
      · have n17 : ¬ (40 ≤ s) := fun q => c17 ((nI_leI (a := 40) (b := s) (by omega) (by omega)).mpr q)
        refine jr_aload_n cx dX1_isOver_20 0 rfl rfl ?_
        refine jr_iload_n cx dX1_isOver_21 2 rfl rfl ?_
        refine jr_vi [.int x] 1 cx dX1_isOver_22 (c_X1_has E g h x n hn hs) (by decide) rfl rfl gX1_isOver_X1_has rfl (by decide +kernel) ⟨Nat.le_of_ble_eq_true rfl, Nat.le_of_ble_eq_true rfl⟩ rfl rfl (Nat.le_of_ble_eq_true rfl) ?_
        refine jr_bif_eq (tgt := 51) cx dX1_isOver_25 (by decide) (fun c25 => ?_) (fun c25 => ?_)
        · refine jr_iconst (v := 0) cx dX1_isOver_51 (by decide) ?_
          exact jr_ri (by exact (bI_f (by rw [← h2, chP_n c25]; exact Bool.false_ne_true)).symm) (by rfl) (by rfl) (hR 52 _ dX1_isOver_52)
        · obtain ⟨d, hd, rfl⟩ := has_nat (by omega) c25
          refine jr_iload_n cx dX1_isOver_28 2 rfl rfl ?_
          refine jr_iload_n cx dX1_isOver_29 1 rfl rfl ?_
          refine jr_icmp_ne (tgt := 35) cx dX1_isOver_30 (by decide) (fun c30 => ?_) (fun c30 => ?_)
          · have n30 : ¬ (d = b) := fun q => c30 ((nI_eq (a := d) (b := b) (by omega) (by omega)).mpr q)
            refine jr_aload_n cx dX1_isOver_35 0 rfl rfl ?_
            refine jr_get (f := 0) (v := .ref (E.1 36)) cx dX1_isOver_36 (by decide) rfl rfl hinX1 (by decide) mf_13 rfl ?_
            refine jr_iload_n cx dX1_isOver_39 2 rfl rfl ?_
            refine jr_aald cx dX1_isOver_40 ⟨by decide, by decide⟩ d rfl (show d < 40 by omega) (53 + d) rfl ?_
            refine jr_bipush (v := 6) cx dX1_isOver_41 (by decide) ?_
            refine jr_iald cx dX1_isOver_43 (is_fa (show d < 40 by omega)) 6 rfl (by rw [ml_fa (show d < 40 by omega)]; omega) ?_
            refine jr_istore_n (L' := [(3, .int (g (53 + d) 6)), (0, .ref (E.1 4)), (2, .int (nI b)), (4, .int (nI s))]) cx dX1_isOver_44 rfl (by decide) rfl ?_
            refine jr_iinc (n := 3) (v := nI (s + 1)) (L' := [(4, .int (nI (s + 1))), (3, .int (g (53 + d) 6)), (0, .ref (E.1 4)), (2, .int (nI b))]) cx dX1_isOver_45 rfl (nI_1 _) (by decide) rfl ?_
            refine jr_goto (tgt := 13) cx dX1_isOver_48 (by decide) ?_
            refine jr_pick (L' := [(0, .ref (E.1 4)), (2, .int (nI b)), (3, .int (g (53 + d) 6)), (4, .int (nI (s + 1)))]) [2, 3, 1, 0] rfl ?_
            have e3 : (g (53 + d) 6 : Int32) = (g (53 + d) 6) := by rfl
            refine jr_loc (lc_n (lc_n (lc_i e3 (lc_n rfl)))) ?_
            exact ih1 (s + 1) (g (53 + d) 6) (by omega) (by omega) (by rw [← h2, show 40 - s = (40 - (s + 1)) + 1 by omega, chP_y (by omega) c25, if_neg (by simpa using c30)])
          · have n30 : d = b := (nI_eq (a := d) (b := b) (by omega) (by omega)).mp c30
            refine jr_iconst (v := 1) cx dX1_isOver_33 (by decide) ?_
            exact jr_ri (by exact (bI_t (by rw [← h2, show 40 - s = (40 - (s + 1)) + 1 by omega, chP_y (by omega) c25, if_pos (by simpa using c30)])).symm) (by rfl) (by rfl) (hR 34 _ dX1_isOver_34)
  refine jr_pick (L' := [(0, .ref (E.1 4)), (2, .int (nI b)), (3, .int (g (53 + c) 6)), (4, .int 0)]) [2, 4, 1, 0] rfl ?_
  have e3 : (g (53 + c) 6 : Int32) = (g (53 + c) 6) := by rfl
  have e4 : (0 : Int32) = (nI 0) := by rfl
  refine jr_loc (lc_n (lc_n (lc_i e3 (lc_i e4 rfl)))) ?_
  exact key1 (41) 0 (g (53 + c) 6) (by omega) (by omega) rfl
set_option maxHeartbeats 4000000 in
set_option maxRecDepth 100000 in
theorem c_X1_isOverBulb (E : mm_E) (g : mm_I) (h : mm_L) (c : Nat) (hc : c < 40) (b : Int32) (n : Nat) (hn : n ≤ 40) (hs : g 4 1 = nI n) : Ci E yX1_isOverBulb wsX1_isOverBulb 2 43 [.ref (E.1 4), .int (nI c), .int b] g h (bI (chP (fun q => g (53 + q) 6) n (fun q => decide (g (53 + q) 0 = b)) 40 (g (53 + c) 6) = true)) g h := by
  refine ci_z (bytes := cX1_isOverBulb) (maxL := 5) (by decide) rfl (Nat.le_of_ble_eq_true rfl) (bI_01 _) (fun X cx hR => ?_)
  change Cx E X cX1_isOverBulb RX1 wsX1_isOverBulb 5 2 43 at cx
  change JJ E X g h 0 [(0, .ref (E.1 4)), (1, .int (nI c)), (2, .int b)] []
  have hinX1 : ∀ w ∈ u_ws RX1 TX1 2, w ∈ wsX1_isOverBulb := by decide +kernel
  have mf_13 : Cond.fieldLink RX1 13 (TX1 0).1 (TX1 0).2.1 (TX1 0).2.2.1 ∈ wsX1_isOverBulb := by decide +kernel
  refine jr_aload_n cx dX1_isOverBulb_0 0 rfl rfl ?_
  refine jr_get (f := 0) (v := .ref (E.1 36)) cx dX1_isOverBulb_1 (by decide) rfl rfl hinX1 (by decide) mf_13 rfl ?_
  refine jr_iload_n cx dX1_isOverBulb_4 1 rfl rfl ?_
  refine jr_aald cx dX1_isOverBulb_5 ⟨by decide, by decide⟩ c rfl (show c < 40 by omega) (53 + c) rfl ?_
  refine jr_bipush (v := 6) cx dX1_isOverBulb_6 (by decide) ?_
  refine jr_iald cx dX1_isOverBulb_8 (is_fa (show c < 40 by omega)) 6 rfl (by rw [ml_fa (show c < 40 by omega)]; omega) ?_
  refine jr_istore_n (L' := [(3, .int (g (53 + c) 6)), (0, .ref (E.1 4)), (1, .int (nI c)), (2, .int b)]) cx dX1_isOverBulb_9 rfl (by decide) rfl ?_
  refine jr_iconst (v := 0) cx dX1_isOverBulb_10 (by decide) ?_
  refine jr_istore (L' := [(4, .int 0), (3, .int (g (53 + c) 6)), (0, .ref (E.1 4)), (1, .int (nI c)), (2, .int b)]) cx dX1_isOverBulb_11 (by decide) rfl ?_
  have key1 : ∀ (fu1 : Nat) (s : Nat) (x : Int32), 41 ≤ s + fu1 → (s ≤ 40) → (chP (fun q => g (53 + q) 6) n (fun q => decide (g (53 + q) 0 = b)) (40 - s) x = chP (fun q => g (53 + q) 6) n (fun q => decide (g (53 + q) 0 = b)) 40 (g (53 + c) 6)) → JJ E X g h 13 [(0, .ref (E.1 4)), (2, .int b), (3, .int x), (4, .int (nI s))] [] := by
    intro fu1
    induction fu1 with
    | zero => intro s x hfu1 h1 h2; exfalso; omega
    | succ fu1 ih1 =>
      intro s x hfu1 h1 h2
      refine jr_iload cx dX1_isOverBulb_13 3 rfl ?_
      refine jr_bipush (v := 40) cx dX1_isOverBulb_15 (by decide) ?_
      refine jr_icmp_ge (tgt := 58) cx dX1_isOverBulb_17 (by decide) (fun c17 => ?_) (fun c17 => ?_)
      · have n17 : 40 ≤ s := (nI_leI (a := 40) (b := s) (by omega) (by omega)).mp c17
        refine jr_iconst (v := 0) cx dX1_isOverBulb_58 (by decide) ?_
        exact jr_ri (by exact (bI_f (by rw [← h2, show 40 - s = 0 by omega]; exact Bool.false_ne_true)).symm) (by rfl) (by rfl) (hR 59 _ dX1_isOverBulb_59)
      · have n17 : ¬ (40 ≤ s) := fun q => c17 ((nI_leI (a := 40) (b := s) (by omega) (by omega)).mpr q)
        refine jr_aload_n cx dX1_isOverBulb_20 0 rfl rfl ?_
        refine jr_iload_n cx dX1_isOverBulb_21 2 rfl rfl ?_
        refine jr_vi [.int x] 1 cx dX1_isOverBulb_22 (c_X1_has E g h x n hn hs) (by decide) rfl rfl gX1_isOverBulb_X1_has rfl (by decide +kernel) ⟨Nat.le_of_ble_eq_true rfl, Nat.le_of_ble_eq_true rfl⟩ rfl rfl (Nat.le_of_ble_eq_true rfl) ?_
        refine jr_bif_eq (tgt := 58) cx dX1_isOverBulb_25 (by decide) (fun c25 => ?_) (fun c25 => ?_)
        · refine jr_iconst (v := 0) cx dX1_isOverBulb_58 (by decide) ?_
          exact jr_ri (by exact (bI_f (by rw [← h2, chP_n c25]; exact Bool.false_ne_true)).symm) (by rfl) (by rfl) (hR 59 _ dX1_isOverBulb_59)
        · obtain ⟨d, hd, rfl⟩ := has_nat (by omega) c25
          refine jr_aload_n cx dX1_isOverBulb_28 0 rfl rfl ?_
          refine jr_get (f := 0) (v := .ref (E.1 36)) cx dX1_isOverBulb_29 (by decide) rfl rfl hinX1 (by decide) mf_13 rfl ?_
          refine jr_iload_n cx dX1_isOverBulb_32 2 rfl rfl ?_
          refine jr_aald cx dX1_isOverBulb_33 ⟨by decide, by decide⟩ d rfl (show d < 40 by omega) (53 + d) rfl ?_
          refine jr_iconst (v := 0) cx dX1_isOverBulb_34 (by decide) ?_
          refine jr_iald cx dX1_isOverBulb_35 (is_fa (show d < 40 by omega)) 0 rfl (by rw [ml_fa (show d < 40 by omega)]; omega) ?_
          refine jr_iload_n cx dX1_isOverBulb_36 1 rfl rfl ?_
          refine jr_icmp_ne (tgt := 42) cx dX1_isOverBulb_37 (by decide) (fun c37 => ?_) (fun c37 => ?_)
          · refine jr_aload_n cx dX1_isOverBulb_42 0 rfl rfl ?_
            refine jr_get (f := 0) (v := .ref (E.1 36)) cx dX1_isOverBulb_43 (by decide) rfl rfl hinX1 (by decide) mf_13 rfl ?_
            refine jr_iload_n cx dX1_isOverBulb_46 2 rfl rfl ?_
            refine jr_aald cx dX1_isOverBulb_47 ⟨by decide, by decide⟩ d rfl (show d < 40 by omega) (53 + d) rfl ?_
            refine jr_bipush (v := 6) cx dX1_isOverBulb_48 (by decide) ?_
            refine jr_iald cx dX1_isOverBulb_50 (is_fa (show d < 40 by omega)) 6 rfl (by rw [ml_fa (show d < 40 by omega)]; omega) ?_
            refine jr_istore_n (L' := [(3, .int (g (53 + d) 6)), (0, .ref (E.1 4)), (2, .int b), (4, .int (nI s))]) cx dX1_isOverBulb_51 rfl (by decide) rfl ?_
            refine jr_iinc (n := 3) (v := nI (s + 1)) (L' := [(4, .int (nI (s + 1))), (3, .int (g (53 + d) 6)), (0, .ref (E.1 4)), (2, .int b)]) cx dX1_isOverBulb_52 rfl (nI_1 _) (by decide) rfl ?_
            refine jr_goto (tgt := 13) cx dX1_isOverBulb_55 (by decide) ?_
            refine jr_pick (L' := [(0, .ref (E.1 4)), (2, .int b), (3, .int (g (53 + d) 6)), (4, .int (nI (s + 1)))]) [2, 3, 1, 0] rfl ?_
            have e3 : (g (53 + d) 6 : Int32) = (g (53 + d) 6) := by rfl
            refine jr_loc (lc_n (lc_n (lc_i e3 (lc_n rfl)))) ?_
            exact ih1 (s + 1) (g (53 + d) 6) (by omega) (by omega) (by rw [← h2, show 40 - s = (40 - (s + 1)) + 1 by omega, chP_y (by omega) c25, if_neg (by simpa using c37)])
          · refine jr_iconst (v := 1) cx dX1_isOverBulb_40 (by decide) ?_
            exact jr_ri (by exact (bI_t (by rw [← h2, show 40 - s = (40 - (s + 1)) + 1 by omega, chP_y (by omega) c25, if_pos (by simpa using c37)])).symm) (by rfl) (by rfl) (hR 41 _ dX1_isOverBulb_41)
  refine jr_pick (L' := [(0, .ref (E.1 4)), (2, .int b), (3, .int (g (53 + c) 6)), (4, .int 0)]) [2, 4, 1, 0] rfl ?_
  have e3 : (g (53 + c) 6 : Int32) = (g (53 + c) 6) := by rfl
  have e4 : (0 : Int32) = (nI 0) := by rfl
  refine jr_loc (lc_n (lc_n (lc_i e3 (lc_i e4 rfl)))) ?_
  exact key1 (41) 0 (g (53 + c) 6) (by omega) (by omega) rfl
set_option maxHeartbeats 4000000 in
set_option maxRecDepth 100000 in
theorem c_X1_countOver (E : mm_E) (g : mm_I) (h : mm_L) (b : Nat) (n : Nat) (hn : n ≤ 40) (hs : g 4 1 = nI n) (hb : b < n) : Ci E yX1_countOver wsX1_countOver 3 67 [.ref (E.1 4), .int (nI b)] g h (nI (sCb (fun c => chP (fun q => g (53 + q) 6) n (fun q => decide (nI q = nI b)) 40 (g (53 + c) 6)) (b + 1) (n - (b + 1)))) g h := by
  refine ci_i (bytes := cX1_countOver) (maxL := 4) (by decide) rfl (Nat.le_of_ble_eq_true rfl) (fun X cx hR => ?_)
  change Cx E X cX1_countOver RX1 wsX1_countOver 4 3 67 at cx
  change JJ E X g h 0 [(0, .ref (E.1 4)), (1, .int (nI b))] []
  have hinX1 : ∀ w ∈ u_ws RX1 TX1 2, w ∈ wsX1_countOver := by decide +kernel
  have mf_16 : Cond.fieldLink RX1 16 (TX1 1).1 (TX1 1).2.1 (TX1 1).2.2.1 ∈ wsX1_countOver := by decide +kernel
  refine jr_iconst (v := 0) cx dX1_countOver_0 (by decide) ?_
  refine jr_istore_n (L' := [(2, .int 0), (0, .ref (E.1 4)), (1, .int (nI b))]) cx dX1_countOver_1 rfl (by decide) rfl ?_
  refine jr_iload_n cx dX1_countOver_2 2 rfl rfl ?_
  refine jr_iconst (v := 1) cx dX1_countOver_3 (by decide) ?_
  refine jr_iadd cx dX1_countOver_4 ?_
  refine jr_top (show (nI b : Int32) + 1 = nI (b + 1) from nI_add b 1) ?_
  refine jr_istore_n (L' := [(3, .int (nI (b + 1))), (2, .int 0), (0, .ref (E.1 4)), (1, .int (nI b))]) cx dX1_countOver_5 rfl (by decide) rfl ?_
  have key1 : ∀ (fu1 : Nat) (i : Nat), n ≤ b + i + fu1 → (b + 1 + i ≤ n) → JJ E X g h 6 [(0, .ref (E.1 4)), (1, .int (nI b)), (2, .int (nI (sCb (fun c => chP (fun q => g (53 + q) 6) n (fun q => decide (nI q = nI b)) 40 (g (53 + c) 6)) (b + 1) i))), (3, .int (nI (b + 1 + i)))] [] := by
    intro fu1
    induction fu1 with
    | zero => intro i hfu1 h1; exfalso; omega
    | succ fu1 ih1 =>
      intro i hfu1 h1
      refine jr_iload_n cx dX1_countOver_6 3 rfl rfl ?_
      refine jr_aload_n cx dX1_countOver_7 0 rfl rfl ?_
      refine jr_get (f := 1) (v := .int (g 4 1)) cx dX1_countOver_8 (by decide) rfl rfl hinX1 (by decide) mf_16 rfl ?_
      refine jr_top hs ?_
      refine jr_icmp_ge (tgt := 32) cx dX1_countOver_11 (by decide) (fun c11 => ?_) (fun c11 => ?_)
      · have n11 : n ≤ b + 1 + i := (nI_leI (a := n) (b := b + 1 + i) (by omega) (by omega)).mp c11
        refine jr_iload_n cx dX1_countOver_32 2 rfl rfl ?_
        exact jr_ri (by rw [show n - (b + 1) = i by omega]) (by rfl) (by rfl) (hR 33 _ dX1_countOver_33)
      · have n11 : ¬ (n ≤ b + 1 + i) := fun q => c11 ((nI_leI (a := n) (b := b + 1 + i) (by omega) (by omega)).mpr q)
        refine jr_aload_n cx dX1_countOver_14 0 rfl rfl ?_
        refine jr_iload_n cx dX1_countOver_15 3 rfl rfl ?_
        refine jr_iload_n cx dX1_countOver_16 1 rfl rfl ?_
        refine jr_vi [.int (nI (b + 1 + i)), .int (nI b)] 2 cx dX1_countOver_17 (c_X1_isOver E g h (b + 1 + i) (by omega) b (by omega) n hn hs) (by decide) rfl rfl gX1_countOver_X1_isOver rfl (by decide +kernel) ⟨Nat.le_of_ble_eq_true rfl, Nat.le_of_ble_eq_true rfl⟩ rfl rfl (Nat.le_of_ble_eq_true rfl) ?_
        refine jr_bif_eq (tgt := 26) cx dX1_countOver_20 (by decide) (fun c20 => ?_) (fun c20 => ?_)
        · refine jr_iinc (n := 3) (v := nI (b + 1 + i + 1)) (L' := [(3, .int (nI (b + 1 + i + 1))), (0, .ref (E.1 4)), (1, .int (nI b)), (2, .int (nI (sCb (fun c => chP (fun q => g (53 + q) 6) n (fun q => decide (nI q = nI b)) 40 (g (53 + c) 6)) (b + 1) i)))]) cx dX1_countOver_26 rfl (nI_1 _) (by decide) rfl ?_
          refine jr_goto (tgt := 6) cx dX1_countOver_29 (by decide) ?_
          refine jr_pick (L' := [(0, .ref (E.1 4)), (1, .int (nI b)), (2, .int (nI (sCb (fun c => chP (fun q => g (53 + q) 6) n (fun q => decide (nI q = nI b)) 40 (g (53 + c) 6)) (b + 1) i))), (3, .int (nI (b + 1 + i + 1)))]) [1, 2, 3, 0] rfl ?_
          have e2 : (nI (sCb (fun c => chP (fun q => g (53 + q) 6) n (fun q => decide (nI q = nI b)) 40 (g (53 + c) 6)) (b + 1) i) : Int32) = (nI (sCb (fun c => chP (fun q => g (53 + q) 6) n (fun q => decide (nI q = nI b)) 40 (g (53 + c) 6)) (b + 1) (i + 1))) := by simp only [sCb, if_neg c11, if_neg n11, if_neg c20]
          have e3 : (nI (b + 1 + i + 1) : Int32) = (nI (b + 1 + (i + 1))) := by rfl
          refine jr_loc (lc_n (lc_n (lc_i e2 (lc_i e3 rfl)))) ?_
          exact ih1 (i + 1) (by omega) (by omega)
        · refine jr_iinc (n := 2) (v := nI (sCb (fun c => chP (fun q => g (53 + q) 6) n (fun q => decide (nI q = nI b)) 40 (g (53 + c) 6)) (b + 1) i + 1)) (L' := [(2, .int (nI (sCb (fun c => chP (fun q => g (53 + q) 6) n (fun q => decide (nI q = nI b)) 40 (g (53 + c) 6)) (b + 1) i + 1))), (0, .ref (E.1 4)), (1, .int (nI b)), (3, .int (nI (b + 1 + i)))]) cx dX1_countOver_23 rfl (nI_1 _) (by decide) rfl ?_
          refine jr_iinc (n := 3) (v := nI (b + 1 + i + 1)) (L' := [(3, .int (nI (b + 1 + i + 1))), (2, .int (nI (sCb (fun c => chP (fun q => g (53 + q) 6) n (fun q => decide (nI q = nI b)) 40 (g (53 + c) 6)) (b + 1) i + 1))), (0, .ref (E.1 4)), (1, .int (nI b))]) cx dX1_countOver_26 rfl (nI_1 _) (by decide) rfl ?_
          refine jr_goto (tgt := 6) cx dX1_countOver_29 (by decide) ?_
          refine jr_pick (L' := [(0, .ref (E.1 4)), (1, .int (nI b)), (2, .int (nI (sCb (fun c => chP (fun q => g (53 + q) 6) n (fun q => decide (nI q = nI b)) 40 (g (53 + c) 6)) (b + 1) i + 1))), (3, .int (nI (b + 1 + i + 1)))]) [2, 3, 1, 0] rfl ?_
          have e2 : (nI (sCb (fun c => chP (fun q => g (53 + q) 6) n (fun q => decide (nI q = nI b)) 40 (g (53 + c) 6)) (b + 1) i + 1) : Int32) = (nI (sCb (fun c => chP (fun q => g (53 + q) 6) n (fun q => decide (nI q = nI b)) 40 (g (53 + c) 6)) (b + 1) (i + 1))) := by simp only [sCb, if_neg c11, if_neg n11, if_pos c20]
          have e3 : (nI (b + 1 + i + 1) : Int32) = (nI (b + 1 + (i + 1))) := by rfl
          refine jr_loc (lc_n (lc_n (lc_i e2 (lc_i e3 rfl)))) ?_
          exact ih1 (i + 1) (by omega) (by omega)
  refine jr_pick (L' := [(0, .ref (E.1 4)), (1, .int (nI b)), (2, .int 0), (3, .int (nI (b + 1)))]) [2, 3, 1, 0] rfl ?_
  have e2 : (0 : Int32) = (nI (sCb (fun c => chP (fun q => g (53 + q) 6) n (fun q => decide (nI q = nI b)) 40 (g (53 + c) 6)) (b + 1) 0)) := by rfl
  have e3 : (nI (b + 1) : Int32) = (nI (b + 1 + 0)) := by rfl
  refine jr_loc (lc_n (lc_n (lc_i e2 (lc_i e3 rfl)))) ?_
  exact key1 (n) 0 (by omega) (by omega)
abbrev pCB (g : mm_I) (n : Nat) (b : Int32) : Nat → Prop := (fun c => g (53 + c) 5 = 0 ∧ chP (fun q => g (53 + q) 6) n (fun q => decide (g (53 + q) 0 = b)) 40 (g (53 + c) 6) = true)
set_option maxHeartbeats 4000000 in
set_option maxRecDepth 100000 in
theorem c_X1_countOverBulb (E : mm_E) (g : mm_I) (h : mm_L) (b : Int32) (n : Nat) (hn : n ≤ 40) (hs : g 4 1 = nI n) : Ci E yX1_countOverBulb wsX1_countOverBulb 3 67 [.ref (E.1 4), .int b] g h (nI (sCn (pCB g n b) n)) g h := by
  refine ci_i (bytes := cX1_countOverBulb) (maxL := 4) (by decide) rfl (Nat.le_of_ble_eq_true rfl) (fun X cx hR => ?_)
  change Cx E X cX1_countOverBulb RX1 wsX1_countOverBulb 4 3 67 at cx
  change JJ E X g h 0 [(0, .ref (E.1 4)), (1, .int b)] []
  have hinX1 : ∀ w ∈ u_ws RX1 TX1 2, w ∈ wsX1_countOverBulb := by decide +kernel
  have mf_16 : Cond.fieldLink RX1 16 (TX1 1).1 (TX1 1).2.1 (TX1 1).2.2.1 ∈ wsX1_countOverBulb := by decide +kernel
  have mf_13 : Cond.fieldLink RX1 13 (TX1 0).1 (TX1 0).2.1 (TX1 0).2.2.1 ∈ wsX1_countOverBulb := by decide +kernel
  refine jr_iconst (v := 0) cx dX1_countOverBulb_0 (by decide) ?_
  refine jr_istore_n (L' := [(2, .int 0), (0, .ref (E.1 4)), (1, .int b)]) cx dX1_countOverBulb_1 rfl (by decide) rfl ?_
  refine jr_iconst (v := 0) cx dX1_countOverBulb_2 (by decide) ?_
  refine jr_istore_n (L' := [(3, .int 0), (2, .int 0), (0, .ref (E.1 4)), (1, .int b)]) cx dX1_countOverBulb_3 rfl (by decide) rfl ?_
  have key1 : ∀ (fu1 : Nat) (i : Nat), n + 1 ≤ i + fu1 → (i ≤ n) → JJ E X g h 4 [(0, .ref (E.1 4)), (1, .int b), (2, .int (nI (sCn (pCB g n b) i))), (3, .int (nI i))] [] := by
    intro fu1
    induction fu1 with
    | zero => intro i hfu1 h1; exfalso; omega
    | succ fu1 ih1 =>
      intro i hfu1 h1
      refine jr_iload_n cx dX1_countOverBulb_4 3 rfl rfl ?_
      refine jr_aload_n cx dX1_countOverBulb_5 0 rfl rfl ?_
      refine jr_get (f := 1) (v := .int (g 4 1)) cx dX1_countOverBulb_6 (by decide) rfl rfl hinX1 (by decide) mf_16 rfl ?_
      refine jr_top hs ?_
      refine jr_icmp_ge (tgt := 41) cx dX1_countOverBulb_9 (by decide) (fun c9 => ?_) (fun c9 => ?_)
      · have n9 : n ≤ i := (nI_leI (a := n) (b := i) (by omega) (by omega)).mp c9
        refine jr_iload_n cx dX1_countOverBulb_41 2 rfl rfl ?_
        exact jr_ri (by rw [show i = n by omega]) (by rfl) (by rfl) (hR 42 _ dX1_countOverBulb_42)
      · have n9 : ¬ (n ≤ i) := fun q => c9 ((nI_leI (a := n) (b := i) (by omega) (by omega)).mpr q)
        refine jr_aload_n cx dX1_countOverBulb_12 0 rfl rfl ?_
        refine jr_get (f := 0) (v := .ref (E.1 36)) cx dX1_countOverBulb_13 (by decide) rfl rfl hinX1 (by decide) mf_13 rfl ?_
        refine jr_iload_n cx dX1_countOverBulb_16 3 rfl rfl ?_
        refine jr_aald cx dX1_countOverBulb_17 ⟨by decide, by decide⟩ i rfl (show i < 40 by omega) (53 + i) rfl ?_
        refine jr_iconst (v := 5) cx dX1_countOverBulb_18 (by decide) ?_
        refine jr_iald cx dX1_countOverBulb_19 (is_fa (show i < 40 by omega)) 5 rfl (by rw [ml_fa (show i < 40 by omega)]; omega) ?_
        refine jr_if_ne (tgt := 35) cx dX1_countOverBulb_20 (by decide) (fun c20 => ?_) (fun c20 => ?_)
        · refine jr_iinc (n := 3) (v := nI (i + 1)) (L' := [(3, .int (nI (i + 1))), (0, .ref (E.1 4)), (1, .int b), (2, .int (nI (sCn (pCB g n b) i)))]) cx dX1_countOverBulb_35 rfl (nI_1 _) (by decide) rfl ?_
          refine jr_goto (tgt := 4) cx dX1_countOverBulb_38 (by decide) ?_
          refine jr_pick (L' := [(0, .ref (E.1 4)), (1, .int b), (2, .int (nI (sCn (pCB g n b) i))), (3, .int (nI (i + 1)))]) [1, 2, 3, 0] rfl ?_
          have e2 : (nI (sCn (pCB g n b) i) : Int32) = (nI (sCn (pCB g n b) (i + 1))) := by exact congrArg nI (if_neg (fun q : pCB g n b i => c20 q.1)).symm
          refine jr_loc (lc_n (lc_n (lc_i e2 (lc_n rfl)))) ?_
          exact ih1 (i + 1) (by omega) (by omega)
        · refine jr_aload_n cx dX1_countOverBulb_23 0 rfl rfl ?_
          refine jr_iload_n cx dX1_countOverBulb_24 3 rfl rfl ?_
          refine jr_iload_n cx dX1_countOverBulb_25 1 rfl rfl ?_
          refine jr_vi [.int (nI i), .int b] 2 cx dX1_countOverBulb_26 (c_X1_isOverBulb E g h i (by omega) b n hn hs) (by decide) rfl rfl gX1_countOverBulb_X1_isOverBulb rfl (by decide +kernel) ⟨Nat.le_of_ble_eq_true rfl, Nat.le_of_ble_eq_true rfl⟩ rfl rfl (Nat.le_of_ble_eq_true rfl) ?_
          refine jr_bif_eq (tgt := 35) cx dX1_countOverBulb_29 (by decide) (fun c29 => ?_) (fun c29 => ?_)
          · refine jr_iinc (n := 3) (v := nI (i + 1)) (L' := [(3, .int (nI (i + 1))), (0, .ref (E.1 4)), (1, .int b), (2, .int (nI (sCn (pCB g n b) i)))]) cx dX1_countOverBulb_35 rfl (nI_1 _) (by decide) rfl ?_
            refine jr_goto (tgt := 4) cx dX1_countOverBulb_38 (by decide) ?_
            refine jr_pick (L' := [(0, .ref (E.1 4)), (1, .int b), (2, .int (nI (sCn (pCB g n b) i))), (3, .int (nI (i + 1)))]) [1, 2, 3, 0] rfl ?_
            have e2 : (nI (sCn (pCB g n b) i) : Int32) = (nI (sCn (pCB g n b) (i + 1))) := by exact congrArg nI (if_neg (fun q : pCB g n b i => c29 q.2)).symm
            refine jr_loc (lc_n (lc_n (lc_i e2 (lc_n rfl)))) ?_
            exact ih1 (i + 1) (by omega) (by omega)
          · refine jr_iinc (n := 2) (v := nI (sCn (pCB g n b) i + 1)) (L' := [(2, .int (nI (sCn (pCB g n b) i + 1))), (0, .ref (E.1 4)), (1, .int b), (3, .int (nI i))]) cx dX1_countOverBulb_32 rfl (nI_1 _) (by decide) rfl ?_
            refine jr_iinc (n := 3) (v := nI (i + 1)) (L' := [(3, .int (nI (i + 1))), (2, .int (nI (sCn (pCB g n b) i + 1))), (0, .ref (E.1 4)), (1, .int b)]) cx dX1_countOverBulb_35 rfl (nI_1 _) (by decide) rfl ?_
            refine jr_goto (tgt := 4) cx dX1_countOverBulb_38 (by decide) ?_
            refine jr_pick (L' := [(0, .ref (E.1 4)), (1, .int b), (2, .int (nI (sCn (pCB g n b) i + 1))), (3, .int (nI (i + 1)))]) [2, 3, 1, 0] rfl ?_
            have e2 : (nI (sCn (pCB g n b) i + 1) : Int32) = (nI (sCn (pCB g n b) (i + 1))) := by exact congrArg nI (if_pos (show pCB g n b i from ⟨c20, c29⟩)).symm
            refine jr_loc (lc_n (lc_n (lc_i e2 (lc_n rfl)))) ?_
            exact ih1 (i + 1) (by omega) (by omega)
  refine jr_pick (L' := [(0, .ref (E.1 4)), (1, .int b), (2, .int 0), (3, .int 0)]) [2, 3, 1, 0] rfl ?_
  have e2 : (0 : Int32) = (nI (sCn (pCB g n b) 0)) := by rfl
  have e3 : (0 : Int32) = (nI 0) := by rfl
  refine jr_loc (lc_n (lc_n (lc_i e2 (lc_i e3 rfl)))) ?_
  exact key1 (n + 1) 0 (by omega) (by omega)
abbrev mvC (n : Nat) (ba a b : Int32) (G : mm_I) (i : Nat) : Prop := G (53 + i) 5 = 0 ∧ ((G (53 + i) 2 = ba ∧ ¬ G (53 + i) 3 < a ∧ ¬ b < G (53 + i) 3) ∨ rov G n (G (53 + i) 6))
def mvG (n : Nat) (ba a b : Int32) (g : mm_I) : Nat → mm_I
  | 0 => g
  | i + 1 => if mvC n ba a b (mvG n ba a b g i) i then up2 (mvG n ba a b g i) (53 + i) 5 1 else mvG n ba a b g i
def mvN (n : Nat) (ba a b : Int32) (g : mm_I) : Nat → Nat
  | 0 => 0
  | i + 1 => if mvC n ba a b (mvG n ba a b g i) i then mvN n ba a b g i + 1 else mvN n ba a b g i
theorem mvN_le (n : Nat) (ba a b : Int32) (g : mm_I) : ∀ i, mvN n ba a b g i ≤ i
  | 0 => Nat.le_refl 0
  | i + 1 => by have := mvN_le n ba a b g i; unfold mvN; split <;> omega
theorem mvG_lo (n : Nat) (ba a b : Int32) (g : mm_I) {k : Nat} (hk : k < 53) : ∀ i, mvG n ba a b g i k = g k
  | 0 => rfl
  | i + 1 => by
    have h9 := mvG_lo n ba a b g hk i
    unfold mvG
    split
    · rw [up2_n _ _ _ (by omega)]; exact h9
    · exact h9
set_option maxHeartbeats 4000000 in
set_option maxRecDepth 100000 in
theorem c_X1_makeVoid (E : mm_E) (g : mm_I) (h : mm_L) (ba a b : Int32) (n : Nat) (hn : n ≤ 40) (hs : g 4 1 = nI n) : Ci E yX1_makeVoid wsX1_makeVoid 3 65 [.ref (E.1 4), .int ba, .int a, .int b] g h (nI (mvN n ba a b g n)) (mvG n ba a b g n) h := by
  refine ci_i (bytes := cX1_makeVoid) (maxL := 7) (by decide) rfl (Nat.le_of_ble_eq_true rfl) (fun X cx hR => ?_)
  change Cx E X cX1_makeVoid RX1 wsX1_makeVoid 7 3 65 at cx
  change JJ E X g h 0 [(0, .ref (E.1 4)), (1, .int ba), (2, .int a), (3, .int b)] []
  have hinX1 : ∀ w ∈ u_ws RX1 TX1 2, w ∈ wsX1_makeVoid := by decide +kernel
  have mf_16 : Cond.fieldLink RX1 16 (TX1 1).1 (TX1 1).2.1 (TX1 1).2.2.1 ∈ wsX1_makeVoid := by decide +kernel
  have mf_13 : Cond.fieldLink RX1 13 (TX1 0).1 (TX1 0).2.1 (TX1 0).2.2.1 ∈ wsX1_makeVoid := by decide +kernel
  have mini_X6_isBetween : Cond.initialized yX6_isBetween.cls ∈ wsX1_makeVoid := by decide +kernel
  have msta_X6_isBetween : Cond.static yX6_isBetween ∈ wsX1_makeVoid := by decide +kernel
  have hle := mvN_le n ba a b g
  refine jr_iconst (v := 0) cx dX1_makeVoid_0 (by decide) ?_
  refine jr_istore (L' := [(4, .int 0), (0, .ref (E.1 4)), (1, .int ba), (2, .int a), (3, .int b)]) cx dX1_makeVoid_1 (by decide) rfl ?_
  refine jr_iconst (v := 0) cx dX1_makeVoid_3 (by decide) ?_
  refine jr_istore (L' := [(5, .int 0), (4, .int 0), (0, .ref (E.1 4)), (1, .int ba), (2, .int a), (3, .int b)]) cx dX1_makeVoid_4 (by decide) rfl ?_
  have key1 : ∀ (fu1 : Nat) (i : Nat), n + 1 ≤ i + fu1 → (i ≤ n) → JJ E X (mvG n ba a b g i) h 6 [(0, .ref (E.1 4)), (1, .int ba), (2, .int a), (3, .int b), (4, .int (nI (mvN n ba a b g i))), (5, .int (nI i))] [] := by
    intro fu1
    induction fu1 with
    | zero => intro i hfu1 h1; exfalso; omega
    | succ fu1 ih1 =>
      intro i hfu1 h1
      refine jr_iload cx dX1_makeVoid_6 5 rfl ?_
      refine jr_aload_n cx dX1_makeVoid_8 0 rfl rfl ?_
      refine jr_get (f := 1) (v := .int ((mvG n ba a b g i) 4 1)) cx dX1_makeVoid_9 (by decide) rfl rfl hinX1 (by decide) mf_16 rfl ?_
      refine jr_top (show _ = nI n by rw [mvG_lo _ _ _ _ _ (by omega)]; exact hs) ?_
      refine jr_icmp_ge (tgt := 97) cx dX1_makeVoid_12 (by decide) (fun c12 => ?_) (fun c12 => ?_)
      · have n12 : n ≤ i := (nI_leI (a := n) (b := i) (by omega) (by omega)).mp c12
        refine jr_iload cx dX1_makeVoid_97 4 rfl ?_
        exact jr_ri (by rw [show i = n by omega]) (by rw [show i = n by omega]) (by rfl) (hR 99 _ dX1_makeVoid_99)
      · have n12 : ¬ (n ≤ i) := fun q => c12 ((nI_leI (a := n) (b := i) (by omega) (by omega)).mpr q)
        refine jr_aload_n cx dX1_makeVoid_15 0 rfl rfl ?_
        refine jr_get (f := 0) (v := .ref (E.1 36)) cx dX1_makeVoid_16 (by decide) rfl rfl hinX1 (by decide) mf_13 rfl ?_
        refine jr_iload cx dX1_makeVoid_19 5 rfl ?_
        refine jr_aald cx dX1_makeVoid_21 ⟨by decide, by decide⟩ i rfl (show i < 40 by omega) (53 + i) rfl ?_
        refine jr_iconst (v := 2) cx dX1_makeVoid_22 (by decide) ?_
        refine jr_iald cx dX1_makeVoid_23 (is_fa (show i < 40 by omega)) 2 rfl (by rw [ml_fa (show i < 40 by omega)]; omega) ?_
        refine jr_iload_n cx dX1_makeVoid_24 1 rfl rfl ?_
        refine jr_icmp_ne (tgt := 49) cx dX1_makeVoid_25 (by decide) (fun c25 => ?_) (fun c25 => ?_)
        · refine jr_iconst (v := 0) cx dX1_makeVoid_49 (by decide) ?_
          refine jr_istore (L' := [(6, .int 0), (0, .ref (E.1 4)), (1, .int ba), (2, .int a), (3, .int b), (4, .int (nI (mvN n ba a b g i))), (5, .int (nI i))]) cx dX1_makeVoid_50 (by decide) rfl ?_
          refine jr_aload_n cx dX1_makeVoid_52 1 rfl rfl ?_
          refine jr_get (f := 0) (v := .ref (E.1 36)) cx dX1_makeVoid_53 (by decide) rfl rfl hinX1 (by decide) mf_13 rfl ?_
          refine jr_iload cx dX1_makeVoid_56 6 rfl ?_
          refine jr_aald cx dX1_makeVoid_58 ⟨by decide, by decide⟩ i rfl (show i < 40 by omega) (53 + i) rfl ?_
          refine jr_iconst (v := 5) cx dX1_makeVoid_59 (by decide) ?_
          refine jr_iald cx dX1_makeVoid_60 (is_fa (show i < 40 by omega)) 5 rfl (by rw [ml_fa (show i < 40 by omega)]; omega) ?_
          refine jr_if_ne (tgt := 91) cx dX1_makeVoid_61 (by decide) (fun c61 => ?_) (fun c61 => ?_)
          · refine jr_iinc (n := 6) (v := nI (i + 1)) (L' := [(5, .int (nI (i + 1))), (6, .int 0), (0, .ref (E.1 4)), (1, .int ba), (2, .int a), (3, .int b), (4, .int (nI (mvN n ba a b g i)))]) cx dX1_makeVoid_91 rfl (nI_1 _) (by decide) rfl ?_
            refine jr_goto (tgt := 6) cx dX1_makeVoid_94 (by decide) ?_
            refine jr_pick (L' := [(0, .ref (E.1 4)), (1, .int ba), (2, .int a), (3, .int b), (4, .int (nI (mvN n ba a b g i))), (5, .int (nI (i + 1)))]) [2, 3, 4, 5, 6, 0] rfl ?_
            have e4 : (nI (mvN n ba a b g i) : Int32) = (nI (mvN n ba a b g (i + 1))) := by exact congrArg nI (if_neg (fun q : mvC n ba a b (mvG n ba a b g i) i => c61 q.1)).symm
            refine jr_loc (lc_n (lc_n (lc_n (lc_n (lc_i e4 (lc_n rfl)))))) ?_
            refine jr_mem (g' := mvG n ba a b g (i + 1)) (h' := h) (by exact (if_neg (fun q : mvC n ba a b (mvG n ba a b g i) i => c61 q.1)).symm) (by rfl) ?_
            exact ih1 (i + 1) (by omega) (by omega)
          · refine jr_iload cx dX1_makeVoid_64 0 rfl ?_
            refine jr_if_ne (tgt := 78) cx dX1_makeVoid_66 (by decide) (fun c66 => absurd c66 (by decide)) (fun c66 => ?_)
            refine jr_aload_n cx dX1_makeVoid_69 1 rfl rfl ?_
            refine jr_iload cx dX1_makeVoid_70 6 rfl ?_
            refine jr_vi [.int (nI i)] 1 cx dX1_makeVoid_72 (c_X1_restsOnVoid E (mvG n ba a b g i) h i (by omega) ((mvG n ba a b g i) (53 + i) 6) rfl n hn (by rw [mvG_lo _ _ _ _ _ (by omega)]; exact hs)) (by decide) rfl rfl gX1_makeVoid_X1_restsOnVoid rfl (by decide +kernel) ⟨Nat.le_of_ble_eq_true rfl, Nat.le_of_ble_eq_true rfl⟩ rfl rfl (Nat.le_of_ble_eq_true rfl) ?_
            refine jr_bif_eq (tgt := 91) cx dX1_makeVoid_75 (by decide) (fun c75 => ?_) (fun c75 => ?_)
            · refine jr_iinc (n := 6) (v := nI (i + 1)) (L' := [(5, .int (nI (i + 1))), (6, .int 0), (0, .ref (E.1 4)), (1, .int ba), (2, .int a), (3, .int b), (4, .int (nI (mvN n ba a b g i)))]) cx dX1_makeVoid_91 rfl (nI_1 _) (by decide) rfl ?_
              refine jr_goto (tgt := 6) cx dX1_makeVoid_94 (by decide) ?_
              refine jr_pick (L' := [(0, .ref (E.1 4)), (1, .int ba), (2, .int a), (3, .int b), (4, .int (nI (mvN n ba a b g i))), (5, .int (nI (i + 1)))]) [2, 3, 4, 5, 6, 0] rfl ?_
              have e4 : (nI (mvN n ba a b g i) : Int32) = (nI (mvN n ba a b g (i + 1))) := by exact congrArg nI (if_neg (fun q : mvC n ba a b (mvG n ba a b g i) i => q.2.elim (fun q => c25 q.1) c75)).symm
              refine jr_loc (lc_n (lc_n (lc_n (lc_n (lc_i e4 (lc_n rfl)))))) ?_
              refine jr_mem (g' := mvG n ba a b g (i + 1)) (h' := h) (by exact (if_neg (fun q : mvC n ba a b (mvG n ba a b g i) i => q.2.elim (fun q => c25 q.1) c75)).symm) (by rfl) ?_
              exact ih1 (i + 1) (by omega) (by omega)
            · refine jr_aload_n cx dX1_makeVoid_78 1 rfl rfl ?_
              refine jr_get (f := 0) (v := .ref (E.1 36)) cx dX1_makeVoid_79 (by decide) rfl rfl hinX1 (by decide) mf_13 rfl ?_
              refine jr_iload cx dX1_makeVoid_82 6 rfl ?_
              refine jr_aald cx dX1_makeVoid_84 ⟨by decide, by decide⟩ i rfl (show i < 40 by omega) (53 + i) rfl ?_
              refine jr_iconst (v := 5) cx dX1_makeVoid_85 (by decide) ?_
              refine jr_iconst (v := 1) cx dX1_makeVoid_86 (by decide) ?_
              refine jr_iast cx dX1_makeVoid_87 (is_fa (show i < 40 by omega)) 5 rfl (by rw [ml_fa (show i < 40 by omega)]; omega) ?_
              refine jr_iinc (n := 5) (v := nI (mvN n ba a b g i + 1)) (L' := [(4, .int (nI (mvN n ba a b g i + 1))), (6, .int 0), (0, .ref (E.1 4)), (1, .int ba), (2, .int a), (3, .int b), (5, .int (nI i))]) cx dX1_makeVoid_88 rfl (nI_1 _) (by decide) rfl ?_
              refine jr_iinc (n := 6) (v := nI (i + 1)) (L' := [(5, .int (nI (i + 1))), (4, .int (nI (mvN n ba a b g i + 1))), (6, .int 0), (0, .ref (E.1 4)), (1, .int ba), (2, .int a), (3, .int b)]) cx dX1_makeVoid_91 rfl (nI_1 _) (by decide) rfl ?_
              refine jr_goto (tgt := 6) cx dX1_makeVoid_94 (by decide) ?_
              refine jr_pick (L' := [(0, .ref (E.1 4)), (1, .int ba), (2, .int a), (3, .int b), (4, .int (nI (mvN n ba a b g i + 1))), (5, .int (nI (i + 1)))]) [3, 4, 5, 6, 1, 0] rfl ?_
              have e4 : (nI (mvN n ba a b g i + 1) : Int32) = (nI (mvN n ba a b g (i + 1))) := by exact congrArg nI (if_pos (show mvC n ba a b (mvG n ba a b g i) i from ⟨c61, Or.inr c75⟩)).symm
              refine jr_loc (lc_n (lc_n (lc_n (lc_n (lc_i e4 (lc_n rfl)))))) ?_
              refine jr_mem (g' := mvG n ba a b g (i + 1)) (h' := h) (by exact (if_pos (show mvC n ba a b (mvG n ba a b g i) i from ⟨c61, Or.inr c75⟩)).symm) (by rfl) ?_
              exact ih1 (i + 1) (by omega) (by omega)
        · refine jr_aload_n cx dX1_makeVoid_28 0 rfl rfl ?_
          refine jr_get (f := 0) (v := .ref (E.1 36)) cx dX1_makeVoid_29 (by decide) rfl rfl hinX1 (by decide) mf_13 rfl ?_
          refine jr_iload cx dX1_makeVoid_32 5 rfl ?_
          refine jr_aald cx dX1_makeVoid_34 ⟨by decide, by decide⟩ i rfl (show i < 40 by omega) (53 + i) rfl ?_
          refine jr_iconst (v := 3) cx dX1_makeVoid_35 (by decide) ?_
          refine jr_iald cx dX1_makeVoid_36 (is_fa (show i < 40 by omega)) 3 rfl (by rw [ml_fa (show i < 40 by omega)]; omega) ?_
          refine jr_iload_n cx dX1_makeVoid_37 2 rfl rfl ?_
          refine jr_iload_n cx dX1_makeVoid_38 3 rfl rfl ?_
          refine jr_ni (host := RX6) [.int ((mvG n ba a b g i) (53 + i) 3), .int a, .int b] 3 cx dX1_makeVoid_39 (c_X6_isBetween E (mvG n ba a b g i) h ((mvG n ba a b g i) (53 + i) 3) a b) gX1_makeVoid_X6_isBetween_n20 rfl (fun U hN => hN.2.2.2.1) mini_X6_isBetween msta_X6_isBetween (by decide +kernel) ⟨Nat.le_of_ble_eq_true rfl, Nat.le_of_ble_eq_true rfl⟩ rfl rfl (Nat.le_of_ble_eq_true rfl) ?_
          refine jr_bif_eq (tgt := 49) cx dX1_makeVoid_42 (by decide) (fun c42 => ?_) (fun c42 => ?_)
          · refine jr_iconst (v := 0) cx dX1_makeVoid_49 (by decide) ?_
            refine jr_istore (L' := [(6, .int 0), (0, .ref (E.1 4)), (1, .int ba), (2, .int a), (3, .int b), (4, .int (nI (mvN n ba a b g i))), (5, .int (nI i))]) cx dX1_makeVoid_50 (by decide) rfl ?_
            refine jr_aload_n cx dX1_makeVoid_52 1 rfl rfl ?_
            refine jr_get (f := 0) (v := .ref (E.1 36)) cx dX1_makeVoid_53 (by decide) rfl rfl hinX1 (by decide) mf_13 rfl ?_
            refine jr_iload cx dX1_makeVoid_56 6 rfl ?_
            refine jr_aald cx dX1_makeVoid_58 ⟨by decide, by decide⟩ i rfl (show i < 40 by omega) (53 + i) rfl ?_
            refine jr_iconst (v := 5) cx dX1_makeVoid_59 (by decide) ?_
            refine jr_iald cx dX1_makeVoid_60 (is_fa (show i < 40 by omega)) 5 rfl (by rw [ml_fa (show i < 40 by omega)]; omega) ?_
            refine jr_if_ne (tgt := 91) cx dX1_makeVoid_61 (by decide) (fun c61 => ?_) (fun c61 => ?_)
            · refine jr_iinc (n := 6) (v := nI (i + 1)) (L' := [(5, .int (nI (i + 1))), (6, .int 0), (0, .ref (E.1 4)), (1, .int ba), (2, .int a), (3, .int b), (4, .int (nI (mvN n ba a b g i)))]) cx dX1_makeVoid_91 rfl (nI_1 _) (by decide) rfl ?_
              refine jr_goto (tgt := 6) cx dX1_makeVoid_94 (by decide) ?_
              refine jr_pick (L' := [(0, .ref (E.1 4)), (1, .int ba), (2, .int a), (3, .int b), (4, .int (nI (mvN n ba a b g i))), (5, .int (nI (i + 1)))]) [2, 3, 4, 5, 6, 0] rfl ?_
              have e4 : (nI (mvN n ba a b g i) : Int32) = (nI (mvN n ba a b g (i + 1))) := by exact congrArg nI (if_neg (fun q : mvC n ba a b (mvG n ba a b g i) i => c61 q.1)).symm
              refine jr_loc (lc_n (lc_n (lc_n (lc_n (lc_i e4 (lc_n rfl)))))) ?_
              refine jr_mem (g' := mvG n ba a b g (i + 1)) (h' := h) (by exact (if_neg (fun q : mvC n ba a b (mvG n ba a b g i) i => c61 q.1)).symm) (by rfl) ?_
              exact ih1 (i + 1) (by omega) (by omega)
            · refine jr_iload cx dX1_makeVoid_64 0 rfl ?_
              refine jr_if_ne (tgt := 78) cx dX1_makeVoid_66 (by decide) (fun c66 => absurd c66 (by decide)) (fun c66 => ?_)
              refine jr_aload_n cx dX1_makeVoid_69 1 rfl rfl ?_
              refine jr_iload cx dX1_makeVoid_70 6 rfl ?_
              refine jr_vi [.int (nI i)] 1 cx dX1_makeVoid_72 (c_X1_restsOnVoid E (mvG n ba a b g i) h i (by omega) ((mvG n ba a b g i) (53 + i) 6) rfl n hn (by rw [mvG_lo _ _ _ _ _ (by omega)]; exact hs)) (by decide) rfl rfl gX1_makeVoid_X1_restsOnVoid rfl (by decide +kernel) ⟨Nat.le_of_ble_eq_true rfl, Nat.le_of_ble_eq_true rfl⟩ rfl rfl (Nat.le_of_ble_eq_true rfl) ?_
              refine jr_bif_eq (tgt := 91) cx dX1_makeVoid_75 (by decide) (fun c75 => ?_) (fun c75 => ?_)
              · refine jr_iinc (n := 6) (v := nI (i + 1)) (L' := [(5, .int (nI (i + 1))), (6, .int 0), (0, .ref (E.1 4)), (1, .int ba), (2, .int a), (3, .int b), (4, .int (nI (mvN n ba a b g i)))]) cx dX1_makeVoid_91 rfl (nI_1 _) (by decide) rfl ?_
                refine jr_goto (tgt := 6) cx dX1_makeVoid_94 (by decide) ?_
                refine jr_pick (L' := [(0, .ref (E.1 4)), (1, .int ba), (2, .int a), (3, .int b), (4, .int (nI (mvN n ba a b g i))), (5, .int (nI (i + 1)))]) [2, 3, 4, 5, 6, 0] rfl ?_
                have e4 : (nI (mvN n ba a b g i) : Int32) = (nI (mvN n ba a b g (i + 1))) := by exact congrArg nI (if_neg (fun q : mvC n ba a b (mvG n ba a b g i) i => q.2.elim (fun q => c42 q.2) c75)).symm
                refine jr_loc (lc_n (lc_n (lc_n (lc_n (lc_i e4 (lc_n rfl)))))) ?_
                refine jr_mem (g' := mvG n ba a b g (i + 1)) (h' := h) (by exact (if_neg (fun q : mvC n ba a b (mvG n ba a b g i) i => q.2.elim (fun q => c42 q.2) c75)).symm) (by rfl) ?_
                exact ih1 (i + 1) (by omega) (by omega)
              · refine jr_aload_n cx dX1_makeVoid_78 1 rfl rfl ?_
                refine jr_get (f := 0) (v := .ref (E.1 36)) cx dX1_makeVoid_79 (by decide) rfl rfl hinX1 (by decide) mf_13 rfl ?_
                refine jr_iload cx dX1_makeVoid_82 6 rfl ?_
                refine jr_aald cx dX1_makeVoid_84 ⟨by decide, by decide⟩ i rfl (show i < 40 by omega) (53 + i) rfl ?_
                refine jr_iconst (v := 5) cx dX1_makeVoid_85 (by decide) ?_
                refine jr_iconst (v := 1) cx dX1_makeVoid_86 (by decide) ?_
                refine jr_iast cx dX1_makeVoid_87 (is_fa (show i < 40 by omega)) 5 rfl (by rw [ml_fa (show i < 40 by omega)]; omega) ?_
                refine jr_iinc (n := 5) (v := nI (mvN n ba a b g i + 1)) (L' := [(4, .int (nI (mvN n ba a b g i + 1))), (6, .int 0), (0, .ref (E.1 4)), (1, .int ba), (2, .int a), (3, .int b), (5, .int (nI i))]) cx dX1_makeVoid_88 rfl (nI_1 _) (by decide) rfl ?_
                refine jr_iinc (n := 6) (v := nI (i + 1)) (L' := [(5, .int (nI (i + 1))), (4, .int (nI (mvN n ba a b g i + 1))), (6, .int 0), (0, .ref (E.1 4)), (1, .int ba), (2, .int a), (3, .int b)]) cx dX1_makeVoid_91 rfl (nI_1 _) (by decide) rfl ?_
                refine jr_goto (tgt := 6) cx dX1_makeVoid_94 (by decide) ?_
                refine jr_pick (L' := [(0, .ref (E.1 4)), (1, .int ba), (2, .int a), (3, .int b), (4, .int (nI (mvN n ba a b g i + 1))), (5, .int (nI (i + 1)))]) [3, 4, 5, 6, 1, 0] rfl ?_
                have e4 : (nI (mvN n ba a b g i + 1) : Int32) = (nI (mvN n ba a b g (i + 1))) := by exact congrArg nI (if_pos (show mvC n ba a b (mvG n ba a b g i) i from ⟨c61, Or.inr c75⟩)).symm
                refine jr_loc (lc_n (lc_n (lc_n (lc_n (lc_i e4 (lc_n rfl)))))) ?_
                refine jr_mem (g' := mvG n ba a b g (i + 1)) (h' := h) (by exact (if_pos (show mvC n ba a b (mvG n ba a b g i) i from ⟨c61, Or.inr c75⟩)).symm) (by rfl) ?_
                exact ih1 (i + 1) (by omega) (by omega)
          · refine jr_iconst (v := 1) cx dX1_makeVoid_45 (by decide) ?_
            refine jr_goto (tgt := 50) cx dX1_makeVoid_46 (by decide) ?_
            refine jr_istore (L' := [(6, .int 1), (0, .ref (E.1 4)), (1, .int ba), (2, .int a), (3, .int b), (4, .int (nI (mvN n ba a b g i))), (5, .int (nI i))]) cx dX1_makeVoid_50 (by decide) rfl ?_
            refine jr_aload_n cx dX1_makeVoid_52 1 rfl rfl ?_
            refine jr_get (f := 0) (v := .ref (E.1 36)) cx dX1_makeVoid_53 (by decide) rfl rfl hinX1 (by decide) mf_13 rfl ?_
            refine jr_iload cx dX1_makeVoid_56 6 rfl ?_
            refine jr_aald cx dX1_makeVoid_58 ⟨by decide, by decide⟩ i rfl (show i < 40 by omega) (53 + i) rfl ?_
            refine jr_iconst (v := 5) cx dX1_makeVoid_59 (by decide) ?_
            refine jr_iald cx dX1_makeVoid_60 (is_fa (show i < 40 by omega)) 5 rfl (by rw [ml_fa (show i < 40 by omega)]; omega) ?_
            refine jr_if_ne (tgt := 91) cx dX1_makeVoid_61 (by decide) (fun c61 => ?_) (fun c61 => ?_)
            · refine jr_iinc (n := 6) (v := nI (i + 1)) (L' := [(5, .int (nI (i + 1))), (6, .int 1), (0, .ref (E.1 4)), (1, .int ba), (2, .int a), (3, .int b), (4, .int (nI (mvN n ba a b g i)))]) cx dX1_makeVoid_91 rfl (nI_1 _) (by decide) rfl ?_
              refine jr_goto (tgt := 6) cx dX1_makeVoid_94 (by decide) ?_
              refine jr_pick (L' := [(0, .ref (E.1 4)), (1, .int ba), (2, .int a), (3, .int b), (4, .int (nI (mvN n ba a b g i))), (5, .int (nI (i + 1)))]) [2, 3, 4, 5, 6, 0] rfl ?_
              have e4 : (nI (mvN n ba a b g i) : Int32) = (nI (mvN n ba a b g (i + 1))) := by exact congrArg nI (if_neg (fun q : mvC n ba a b (mvG n ba a b g i) i => c61 q.1)).symm
              refine jr_loc (lc_n (lc_n (lc_n (lc_n (lc_i e4 (lc_n rfl)))))) ?_
              refine jr_mem (g' := mvG n ba a b g (i + 1)) (h' := h) (by exact (if_neg (fun q : mvC n ba a b (mvG n ba a b g i) i => c61 q.1)).symm) (by rfl) ?_
              exact ih1 (i + 1) (by omega) (by omega)
            · refine jr_iload cx dX1_makeVoid_64 0 rfl ?_
              refine jr_if_ne (tgt := 78) cx dX1_makeVoid_66 (by decide) (fun c66 => ?_) (fun c66 => absurd c66 (by decide))
              refine jr_aload_n cx dX1_makeVoid_78 1 rfl rfl ?_
              refine jr_get (f := 0) (v := .ref (E.1 36)) cx dX1_makeVoid_79 (by decide) rfl rfl hinX1 (by decide) mf_13 rfl ?_
              refine jr_iload cx dX1_makeVoid_82 6 rfl ?_
              refine jr_aald cx dX1_makeVoid_84 ⟨by decide, by decide⟩ i rfl (show i < 40 by omega) (53 + i) rfl ?_
              refine jr_iconst (v := 5) cx dX1_makeVoid_85 (by decide) ?_
              refine jr_iconst (v := 1) cx dX1_makeVoid_86 (by decide) ?_
              refine jr_iast cx dX1_makeVoid_87 (is_fa (show i < 40 by omega)) 5 rfl (by rw [ml_fa (show i < 40 by omega)]; omega) ?_
              refine jr_iinc (n := 5) (v := nI (mvN n ba a b g i + 1)) (L' := [(4, .int (nI (mvN n ba a b g i + 1))), (6, .int 1), (0, .ref (E.1 4)), (1, .int ba), (2, .int a), (3, .int b), (5, .int (nI i))]) cx dX1_makeVoid_88 rfl (nI_1 _) (by decide) rfl ?_
              refine jr_iinc (n := 6) (v := nI (i + 1)) (L' := [(5, .int (nI (i + 1))), (4, .int (nI (mvN n ba a b g i + 1))), (6, .int 1), (0, .ref (E.1 4)), (1, .int ba), (2, .int a), (3, .int b)]) cx dX1_makeVoid_91 rfl (nI_1 _) (by decide) rfl ?_
              refine jr_goto (tgt := 6) cx dX1_makeVoid_94 (by decide) ?_
              refine jr_pick (L' := [(0, .ref (E.1 4)), (1, .int ba), (2, .int a), (3, .int b), (4, .int (nI (mvN n ba a b g i + 1))), (5, .int (nI (i + 1)))]) [3, 4, 5, 6, 1, 0] rfl ?_
              have e4 : (nI (mvN n ba a b g i + 1) : Int32) = (nI (mvN n ba a b g (i + 1))) := by exact congrArg nI (if_pos (show mvC n ba a b (mvG n ba a b g i) i from ⟨c61, Or.inl ⟨c25, c42⟩⟩)).symm
              refine jr_loc (lc_n (lc_n (lc_n (lc_n (lc_i e4 (lc_n rfl)))))) ?_
              refine jr_mem (g' := mvG n ba a b g (i + 1)) (h' := h) (by exact (if_pos (show mvC n ba a b (mvG n ba a b g i) i from ⟨c61, Or.inl ⟨c25, c42⟩⟩)).symm) (by rfl) ?_
              exact ih1 (i + 1) (by omega) (by omega)
  refine jr_pick (L' := [(0, .ref (E.1 4)), (1, .int ba), (2, .int a), (3, .int b), (4, .int 0), (5, .int 0)]) [2, 3, 4, 5, 1, 0] rfl ?_
  have e4 : (0 : Int32) = (nI (mvN n ba a b g 0)) := by rfl
  have e5 : (0 : Int32) = (nI 0) := by rfl
  refine jr_loc (lc_n (lc_n (lc_n (lc_n (lc_i e4 (lc_i e5 rfl)))))) ?_
  refine jr_mem (g' := mvG n ba a b g 0) (h' := h) (by rfl) (by rfl) ?_
  exact key1 (n + 1) 0 (by omega) (by omega)
