theorem has_nat {x : Int32} {n : Nat} (hn : n ≤ 1000) (h : ¬ x < 0 ∧ ¬ nI n - 1 < x) : ∃ d, d < n ∧ x = nI d := by
  obtain ⟨j, hj, rfl⟩ := nI_of h.1
  refine ⟨j, ?_, rfl⟩
  rcases Nat.lt_or_ge j n with q | q
  · exact q
  · exfalso
    apply h.2
    rcases n with _ | n
    · rw [fa_lt, nI_toInt hj]
      show (-1 : Int) < (j : Int)
      omega
    · rw [nI_pred]
      exact nI_lt (by omega) hj
theorem has_iff {n d : Nat} (hn : n ≤ 1000) (hd : d < 2 ^ 31) : (¬ nI d < 0 ∧ ¬ nI n - 1 < nI d) ↔ d < n := by
  constructor
  · intro h
    obtain ⟨e, he, h2⟩ := has_nat hn h
    rw [nI_eq hd (by omega)] at h2
    omega
  · intro h
    refine ⟨nI_pos hd, ?_⟩
    obtain ⟨m, rfl⟩ : ∃ m, n = m + 1 := ⟨n - 1, by omega⟩
    rw [nI_pred]
    exact nI_nlt (by omega) (by omega)
theorem to_nat {x : Int32} {M : Nat} {m : Int32} (hm : m.toInt = M) (h : ¬ x < 0 ∧ ¬ m < x) : ∃ d, d ≤ M ∧ x = nI d := nI_of2 hm h.1 (Int32.not_lt.mp h.2)
def sCn (p : Nat → Prop) [DecidablePred p] : Nat → Nat
  | 0 => 0
  | n + 1 => if p n then sCn p n + 1 else sCn p n
theorem sCn_le (p : Nat → Prop) [DecidablePred p] : ∀ n, sCn p n ≤ n
  | 0 => Nat.le_refl 0
  | n + 1 => by have := sCn_le p n; unfold sCn; split <;> omega
def sLast (p : Nat → Prop) [DecidablePred p] : Nat → Int32
  | 0 => -9
  | n + 1 => if p n then nI n else sLast p n
def chN (r : Nat → Int32) (n : Nat) : Nat → Int32 → Nat
  | 0, _ => 0
  | k + 1, x => if ¬ x < 0 ∧ ¬ nI n - 1 < x then chN r n k (r x.toNatClampNeg) + 1 else 0
theorem chN_le (r : Nat → Int32) (n : Nat) : ∀ k x, chN r n k x ≤ k
  | 0, _ => Nat.le_refl 0
  | k + 1, x => by have := chN_le r n k (r x.toNatClampNeg); unfold chN; split <;> omega
def chS (r e : Nat → Int32) (n : Nat) : Nat → Int32 → Int64
  | 0, _ => 0
  | k + 1, x => if ¬ x < 0 ∧ ¬ nI n - 1 < x then (e x.toNatClampNeg).toInt64 * (e x.toNatClampNeg).toInt64 + chS r e n k (r x.toNatClampNeg) else 0
def chP (r : Nat → Int32) (n : Nat) (p : Nat → Bool) : Nat → Int32 → Bool
  | 0, _ => false
  | k + 1, x => if ¬ x < 0 ∧ ¬ nI n - 1 < x then (if p x.toNatClampNeg then true else chP r n p k (r x.toNatClampNeg)) else false
def sCb (p : Nat → Bool) (a : Nat) : Nat → Nat
  | 0 => 0
  | k + 1 => if p (a + k) then sCb p a k + 1 else sCb p a k
theorem sCb_le (p : Nat → Bool) (a : Nat) : ∀ n, sCb p a n ≤ n
  | 0 => Nat.le_refl 0
  | n + 1 => by have := sCb_le p a n; unfold sCb; split <;> omega
set_option maxHeartbeats 4000000 in
set_option maxRecDepth 100000 in
theorem c_X0_size (E : mm_E) (g : mm_I) (h : mm_L) : Ci E yX0_size wsX0_size 0 0 [.ref (E.1 3)] g h (g 3 2) g h := by
  refine ci_i (bytes := cX0_size) (maxL := 1) (by decide) rfl (Nat.le_of_ble_eq_true rfl) (fun X cx hR => ?_)
  change Cx E X cX0_size RX0 wsX0_size 1 0 0 at cx
  change JJ E X g h 0 [(0, .ref (E.1 3))] []
  have hinX0 : ∀ w ∈ u_ws RX0 TX0 3, w ∈ wsX0_size := by decide +kernel
  have mf_18 : Cond.fieldLink RX0 18 (TX0 2).1 (TX0 2).2.1 (TX0 2).2.2.1 ∈ wsX0_size := by decide +kernel
  refine jr_aload_n cx dX0_size_0 0 rfl rfl ?_
  refine jr_get (f := 2) (v := .int (g 3 2)) cx dX0_size_1 (by decide) rfl rfl hinX0 (by decide) mf_18 rfl ?_
  exact jr_ri (by rfl) (by rfl) (by rfl) (hR 4 _ dX0_size_4)
set_option maxHeartbeats 4000000 in
set_option maxRecDepth 100000 in
theorem c_X0_has (E : mm_E) (g : mm_I) (h : mm_L) (b : Int32) (n : Nat) (hn : n ≤ 16) (hs : g 3 2 = nI n) : Ci E yX0_has wsX0_has 1 22 [.ref (E.1 3), .int b] g h (bI (¬ b < 0 ∧ ¬ nI n - 1 < b)) g h := by
  refine ci_z (bytes := cX0_has) (maxL := 2) (by decide) rfl (Nat.le_of_ble_eq_true rfl) (bI_01 _) (fun X cx hR => ?_)
  change Cx E X cX0_has RX0 wsX0_has 2 1 22 at cx
  change JJ E X g h 0 [(0, .ref (E.1 3)), (1, .int b)] []
  have hinX0 : ∀ w ∈ u_ws RX0 TX0 3, w ∈ wsX0_has := by decide +kernel
  have mf_18 : Cond.fieldLink RX0 18 (TX0 2).1 (TX0 2).2.1 (TX0 2).2.2.1 ∈ wsX0_has := by decide +kernel
  have mini_X6_isBetween : Cond.initialized yX6_isBetween.cls ∈ wsX0_has := by decide +kernel
  have msta_X6_isBetween : Cond.static yX6_isBetween ∈ wsX0_has := by decide +kernel
  refine jr_iload_n cx dX0_has_0 1 rfl rfl ?_
  refine jr_iconst (v := 0) cx dX0_has_1 (by decide) ?_
  refine jr_aload_n cx dX0_has_2 0 rfl rfl ?_
  refine jr_get (f := 2) (v := .int (g 3 2)) cx dX0_has_3 (by decide) rfl rfl hinX0 (by decide) mf_18 rfl ?_
  refine jr_top hs ?_
  refine jr_iconst (v := 1) cx dX0_has_6 (by decide) ?_
  refine jr_isub cx dX0_has_7 ?_
  refine jr_ni (host := RX6) [.int b, .int 0, .int ((nI n) - 1)] 3 cx dX0_has_8 (c_X6_isBetween E g h b 0 ((nI n) - 1)) gX0_has_X6_isBetween_n22 rfl (fun U hN => hN.2.2.1) mini_X6_isBetween msta_X6_isBetween (by decide +kernel) ⟨Nat.le_of_ble_eq_true rfl, Nat.le_of_ble_eq_true rfl⟩ rfl rfl (Nat.le_of_ble_eq_true rfl) ?_
  exact jr_ri (by rfl) (by rfl) (by rfl) (hR 11 _ dX0_has_11)
def adB (g : mm_I) (n : Nat) (k t : Int32) : mm_I := up2 (up2 (up2 g 11 n k) 12 n t) 3 2 (nI (n + 1))
set_option maxHeartbeats 4000000 in
set_option maxRecDepth 100000 in
theorem c_X0_add (E : mm_E) (g : mm_I) (h : mm_L) (k t : Int32) (n : Nat) (hn : n < 16) (hs : g 3 2 = nI n) : Ci E yX0_add wsX0_add 0 0 [.ref (E.1 3), .int k, .int t] g h (nI n) (adB g n k t) h := by
  refine ci_i (bytes := cX0_add) (maxL := 3) (by decide) rfl (Nat.le_of_ble_eq_true rfl) (fun X cx hR => ?_)
  change Cx E X cX0_add RX0 wsX0_add 3 0 0 at cx
  change JJ E X g h 0 [(0, .ref (E.1 3)), (1, .int k), (2, .int t)] []
  have hinX0 : ∀ w ∈ u_ws RX0 TX0 3, w ∈ wsX0_add := by decide +kernel
  have mf_9 : Cond.fieldLink RX0 9 (TX0 0).1 (TX0 0).2.1 (TX0 0).2.2.1 ∈ wsX0_add := by decide +kernel
  have mf_18 : Cond.fieldLink RX0 18 (TX0 2).1 (TX0 2).2.1 (TX0 2).2.2.1 ∈ wsX0_add := by decide +kernel
  have mf_15 : Cond.fieldLink RX0 15 (TX0 1).1 (TX0 1).2.1 (TX0 1).2.2.1 ∈ wsX0_add := by decide +kernel
  refine jr_aload_n cx dX0_add_0 0 rfl rfl ?_
  refine jr_get (f := 0) (v := .ref (E.1 11)) cx dX0_add_1 (by decide) rfl rfl hinX0 (by decide) mf_9 rfl ?_
  refine jr_aload_n cx dX0_add_4 0 rfl rfl ?_
  refine jr_get (f := 2) (v := .int (g 3 2)) cx dX0_add_5 (by decide) rfl rfl hinX0 (by decide) mf_18 rfl ?_
  refine jr_top hs ?_
  refine jr_iload_n cx dX0_add_8 1 rfl rfl ?_
  refine jr_iast cx dX0_add_9 (Or.inl ⟨by decide, by decide⟩) n rfl (show _ < 16 by omega) ?_
  refine jr_aload_n cx dX0_add_10 0 rfl rfl ?_
  refine jr_get (f := 1) (v := .ref (E.1 12)) cx dX0_add_11 (by decide) rfl rfl hinX0 (by decide) mf_15 rfl ?_
  refine jr_aload_n cx dX0_add_14 0 rfl rfl ?_
  refine jr_get (f := 2) (v := .int ((up2 g 11 n k) 3 2)) cx dX0_add_15 (by decide) rfl rfl hinX0 (by decide) mf_18 rfl ?_
  refine jr_top (show _ = nI n from hs) ?_
  refine jr_iload_n cx dX0_add_18 2 rfl rfl ?_
  refine jr_iast cx dX0_add_19 (Or.inl ⟨by decide, by decide⟩) n rfl (show _ < 16 by omega) ?_
  refine jr_aload_n cx dX0_add_20 0 rfl rfl ?_
  refine jr_dup cx dX0_add_21 rfl ?_
  refine jr_get (f := 2) (v := .int ((up2 (up2 g 11 n k) 12 n t) 3 2)) cx dX0_add_22 (by decide) rfl rfl hinX0 (by decide) mf_18 rfl ?_
  refine jr_top (show _ = nI n from hs) ?_
  refine jr_iconst (v := 1) cx dX0_add_25 (by decide) ?_
  refine jr_iadd cx dX0_add_26 ?_
  refine jr_top (show (nI n : Int32) + 1 = nI (n + 1) from nI_add n 1) ?_
  refine jr_put_X0_2 cx dX0_add_27 hinX0 mf_18 ?_
  refine jr_aload_n cx dX0_add_30 0 rfl rfl ?_
  refine jr_get (f := 2) (v := .int ((up2 (up2 (up2 g 11 n k) 12 n t) 3 2 (nI (n + 1))) 3 2)) cx dX0_add_31 (by decide) rfl rfl hinX0 (by decide) mf_18 rfl ?_
  refine jr_top (show _ = nI (n + 1) from rfl) ?_
  refine jr_iconst (v := 1) cx dX0_add_34 (by decide) ?_
  refine jr_isub cx dX0_add_35 ?_
  refine jr_top (nI_pred n) ?_
  exact jr_ri (by rfl) (by rfl) (by rfl) (hR 36 _ dX0_add_36)
set_option maxHeartbeats 4000000 in
set_option maxRecDepth 100000 in
theorem c_X0_kindOf (E : mm_E) (g : mm_I) (h : mm_L) (b : Nat) (hb : b < 16) : Ci E yX0_kindOf wsX0_kindOf 0 0 [.ref (E.1 3), .int (nI b)] g h (g 11 b) g h := by
  refine ci_i (bytes := cX0_kindOf) (maxL := 2) (by decide) rfl (Nat.le_of_ble_eq_true rfl) (fun X cx hR => ?_)
  change Cx E X cX0_kindOf RX0 wsX0_kindOf 2 0 0 at cx
  change JJ E X g h 0 [(0, .ref (E.1 3)), (1, .int (nI b))] []
  have hinX0 : ∀ w ∈ u_ws RX0 TX0 3, w ∈ wsX0_kindOf := by decide +kernel
  have mf_9 : Cond.fieldLink RX0 9 (TX0 0).1 (TX0 0).2.1 (TX0 0).2.2.1 ∈ wsX0_kindOf := by decide +kernel
  refine jr_aload_n cx dX0_kindOf_0 0 rfl rfl ?_
  refine jr_get (f := 0) (v := .ref (E.1 11)) cx dX0_kindOf_1 (by decide) rfl rfl hinX0 (by decide) mf_9 rfl ?_
  refine jr_iload_n cx dX0_kindOf_4 1 rfl rfl ?_
  refine jr_iald cx dX0_kindOf_5 (Or.inl ⟨by decide, by decide⟩) b rfl (show _ < 16 by omega) ?_
  exact jr_ri (by rfl) (by rfl) (by rfl) (hR 6 _ dX0_kindOf_6)
set_option maxHeartbeats 4000000 in
set_option maxRecDepth 100000 in
theorem c_X0_toleranceOf (E : mm_E) (g : mm_I) (h : mm_L) (b : Nat) (hb : b < 16) : Ci E yX0_toleranceOf wsX0_toleranceOf 0 0 [.ref (E.1 3), .int (nI b)] g h (g 12 b) g h := by
  refine ci_i (bytes := cX0_toleranceOf) (maxL := 2) (by decide) rfl (Nat.le_of_ble_eq_true rfl) (fun X cx hR => ?_)
  change Cx E X cX0_toleranceOf RX0 wsX0_toleranceOf 2 0 0 at cx
  change JJ E X g h 0 [(0, .ref (E.1 3)), (1, .int (nI b))] []
  have hinX0 : ∀ w ∈ u_ws RX0 TX0 3, w ∈ wsX0_toleranceOf := by decide +kernel
  have mf_15 : Cond.fieldLink RX0 15 (TX0 1).1 (TX0 1).2.1 (TX0 1).2.2.1 ∈ wsX0_toleranceOf := by decide +kernel
  refine jr_aload_n cx dX0_toleranceOf_0 0 rfl rfl ?_
  refine jr_get (f := 1) (v := .ref (E.1 12)) cx dX0_toleranceOf_1 (by decide) rfl rfl hinX0 (by decide) mf_15 rfl ?_
  refine jr_iload_n cx dX0_toleranceOf_4 1 rfl rfl ?_
  refine jr_iald cx dX0_toleranceOf_5 (Or.inl ⟨by decide, by decide⟩) b rfl (show _ < 16 by omega) ?_
  exact jr_ri (by rfl) (by rfl) (by rfl) (hR 6 _ dX0_toleranceOf_6)
set_option maxHeartbeats 4000000 in
set_option maxRecDepth 100000 in
theorem c_X0_isOf (E : mm_E) (g : mm_I) (h : mm_L) (b : Nat) (hb : b < 16) (k : Int32) : Ci E yX0_isOf wsX0_isOf 0 0 [.ref (E.1 3), .int (nI b), .int k] g h (bI (g 11 b = k ∨ g 11 b = 3 ∧ k = 2)) g h := by
  refine ci_z (bytes := cX0_isOf) (maxL := 3) (by decide) rfl (Nat.le_of_ble_eq_true rfl) (bI_01 _) (fun X cx hR => ?_)
  change Cx E X cX0_isOf RX0 wsX0_isOf 3 0 0 at cx
  change JJ E X g h 0 [(0, .ref (E.1 3)), (1, .int (nI b)), (2, .int k)] []
  have hinX0 : ∀ w ∈ u_ws RX0 TX0 3, w ∈ wsX0_isOf := by decide +kernel
  have mf_9 : Cond.fieldLink RX0 9 (TX0 0).1 (TX0 0).2.1 (TX0 0).2.2.1 ∈ wsX0_isOf := by decide +kernel
  refine jr_aload_n cx dX0_isOf_0 0 rfl rfl ?_
  refine jr_get (f := 0) (v := .ref (E.1 11)) cx dX0_isOf_1 (by decide) rfl rfl hinX0 (by decide) mf_9 rfl ?_
  refine jr_iload_n cx dX0_isOf_4 1 rfl rfl ?_
  refine jr_iald cx dX0_isOf_5 (Or.inl ⟨by decide, by decide⟩) b rfl (show _ < 16 by omega) ?_
  refine jr_iload_n cx dX0_isOf_6 2 rfl rfl ?_
  refine jr_icmp_eq (tgt := 25) cx dX0_isOf_7 (by decide) (fun c7 => ?_) (fun c7 => ?_)
  · refine jr_iconst (v := 1) cx dX0_isOf_25 (by decide) ?_
    refine jr_goto (tgt := 30) cx dX0_isOf_26 (by decide) ?_
    exact jr_ri (by exact (bI_t (Or.inl c7)).symm) (by rfl) (by rfl) (hR 30 _ dX0_isOf_30)
  · refine jr_aload_n cx dX0_isOf_10 0 rfl rfl ?_
    refine jr_get (f := 0) (v := .ref (E.1 11)) cx dX0_isOf_11 (by decide) rfl rfl hinX0 (by decide) mf_9 rfl ?_
    refine jr_iload_n cx dX0_isOf_14 1 rfl rfl ?_
    refine jr_iald cx dX0_isOf_15 (Or.inl ⟨by decide, by decide⟩) b rfl (show _ < 16 by omega) ?_
    refine jr_iconst (v := 3) cx dX0_isOf_16 (by decide) ?_
    refine jr_icmp_ne (tgt := 29) cx dX0_isOf_17 (by decide) (fun c17 => ?_) (fun c17 => ?_)
    · refine jr_iconst (v := 0) cx dX0_isOf_29 (by decide) ?_
      exact jr_ri (by exact (bI_f fun q => q.elim c7 (fun q => c17 q.1)).symm) (by rfl) (by rfl) (hR 30 _ dX0_isOf_30)
    · refine jr_iload_n cx dX0_isOf_20 2 rfl rfl ?_
      refine jr_iconst (v := 2) cx dX0_isOf_21 (by decide) ?_
      refine jr_icmp_ne (tgt := 29) cx dX0_isOf_22 (by decide) (fun c22 => ?_) (fun c22 => ?_)
      · refine jr_iconst (v := 0) cx dX0_isOf_29 (by decide) ?_
        exact jr_ri (by exact (bI_f fun q => q.elim c7 (fun q => c22 q.2)).symm) (by rfl) (by rfl) (hR 30 _ dX0_isOf_30)
      · refine jr_iconst (v := 1) cx dX0_isOf_25 (by decide) ?_
        refine jr_goto (tgt := 30) cx dX0_isOf_26 (by decide) ?_
        exact jr_ri (by exact (bI_t (Or.inr ⟨c17, c22⟩)).symm) (by rfl) (by rfl) (hR 30 _ dX0_isOf_30)
def puR (g : mm_I) (a b : Nat) (v e : Int32) : mm_I := up2 (up2 (up2 (up2 g (93 + a) b v) (93 + b) a (-v)) (99 + a) b e) (99 + b) a e
set_option maxHeartbeats 4000000 in
set_option maxRecDepth 100000 in
theorem c_X3_put (E : mm_E) (g : mm_I) (h : mm_L) (a b : Nat) (ha : a < 6) (hb : b < 6) (v e : Int32) : Cv E yX3_put wsX3_put 0 0 [.ref (E.1 5), .int (nI a), .int (nI b), .int v, .int e] g h (puR g a b v e) h := by
  refine ci_v (bytes := cX3_put) (maxL := 5) (by decide) rfl (Nat.le_of_ble_eq_true rfl) (fun X cx hR => ?_)
  change Cx E X cX3_put RX3 wsX3_put 5 0 0 at cx
  change JJ E X g h 0 [(0, .ref (E.1 5)), (1, .int (nI a)), (2, .int (nI b)), (3, .int v), (4, .int e)] []
  have hinX3 : ∀ w ∈ u_ws RX3 TX3 2, w ∈ wsX3_put := by decide +kernel
  have mf_11 : Cond.fieldLink RX3 11 (TX3 0).1 (TX3 0).2.1 (TX3 0).2.2.1 ∈ wsX3_put := by decide +kernel
  have mf_16 : Cond.fieldLink RX3 16 (TX3 1).1 (TX3 1).2.1 (TX3 1).2.2.1 ∈ wsX3_put := by decide +kernel
  refine jr_aload_n cx dX3_put_0 0 rfl rfl ?_
  refine jr_get (f := 0) (v := .ref (E.1 37)) cx dX3_put_1 (by decide) rfl rfl hinX3 (by decide) mf_11 rfl ?_
  refine jr_iload_n cx dX3_put_4 1 rfl rfl ?_
  refine jr_aald cx dX3_put_5 ⟨by decide, by decide⟩ a rfl (show a < 6 by omega) (93 + a) rfl ?_
  refine jr_iload_n cx dX3_put_6 2 rfl rfl ?_
  refine jr_iload_n cx dX3_put_7 3 rfl rfl ?_
  refine jr_iast cx dX3_put_8 (is_di (show a < 6 by omega)) b rfl (by rw [ml_di (show a < 6 by omega)]; omega) ?_
  refine jr_aload_n cx dX3_put_9 0 rfl rfl ?_
  refine jr_get (f := 0) (v := .ref (E.1 37)) cx dX3_put_10 (by decide) rfl rfl hinX3 (by decide) mf_11 rfl ?_
  refine jr_iload_n cx dX3_put_13 2 rfl rfl ?_
  refine jr_aald cx dX3_put_14 ⟨by decide, by decide⟩ b rfl (show b < 6 by omega) (93 + b) rfl ?_
  refine jr_iload_n cx dX3_put_15 1 rfl rfl ?_
  refine jr_iload_n cx dX3_put_16 3 rfl rfl ?_
  refine jr_ineg cx dX3_put_17 ?_
  refine jr_iast cx dX3_put_18 (is_di (show b < 6 by omega)) a rfl (by rw [ml_di (show b < 6 by omega)]; omega) ?_
  refine jr_aload_n cx dX3_put_19 0 rfl rfl ?_
  refine jr_get (f := 1) (v := .ref (E.1 38)) cx dX3_put_20 (by decide) rfl rfl hinX3 (by decide) mf_16 rfl ?_
  refine jr_iload_n cx dX3_put_23 1 rfl rfl ?_
  refine jr_aald cx dX3_put_24 ⟨by decide, by decide⟩ a rfl (show a < 6 by omega) (99 + a) rfl ?_
  refine jr_iload_n cx dX3_put_25 2 rfl rfl ?_
  refine jr_iload cx dX3_put_26 4 rfl ?_
  refine jr_iast cx dX3_put_28 (is_en (show a < 6 by omega)) b rfl (by rw [ml_en (show a < 6 by omega)]; omega) ?_
  refine jr_aload_n cx dX3_put_29 0 rfl rfl ?_
  refine jr_get (f := 1) (v := .ref (E.1 38)) cx dX3_put_30 (by decide) rfl rfl hinX3 (by decide) mf_16 rfl ?_
  refine jr_iload_n cx dX3_put_33 2 rfl rfl ?_
  refine jr_aald cx dX3_put_34 ⟨by decide, by decide⟩ b rfl (show b < 6 by omega) (99 + b) rfl ?_
  refine jr_iload_n cx dX3_put_35 1 rfl rfl ?_
  refine jr_iload cx dX3_put_36 4 rfl ?_
  refine jr_iast cx dX3_put_38 (is_en (show b < 6 by omega)) a rfl (by rw [ml_en (show b < 6 by omega)]; omega) ?_
  exact jr_rv (by rfl) (by rfl) (hR 39 _ dX3_put_39)
set_option maxHeartbeats 4000000 in
set_option maxRecDepth 100000 in
theorem c_X3_isKnown (E : mm_E) (g : mm_I) (h : mm_L) (a b c : Nat) (ha : a < 6) (hb : b < 6) (hc : c < 6) : Ci E yX3_isKnown wsX3_isKnown 0 0 [.ref (E.1 5), .int (nI a), .int (nI b), .int (nI c)] g h (bI (¬ g (99 + a) b = -1 ∧ ¬ g (99 + b) c = -1 ∧ ¬ g (99 + c) a = -1)) g h := by
  refine ci_z (bytes := cX3_isKnown) (maxL := 4) (by decide) rfl (Nat.le_of_ble_eq_true rfl) (bI_01 _) (fun X cx hR => ?_)
  change Cx E X cX3_isKnown RX3 wsX3_isKnown 4 0 0 at cx
  change JJ E X g h 0 [(0, .ref (E.1 5)), (1, .int (nI a)), (2, .int (nI b)), (3, .int (nI c))] []
  have hinX3 : ∀ w ∈ u_ws RX3 TX3 2, w ∈ wsX3_isKnown := by decide +kernel
  have mf_16 : Cond.fieldLink RX3 16 (TX3 1).1 (TX3 1).2.1 (TX3 1).2.2.1 ∈ wsX3_isKnown := by decide +kernel
  refine jr_aload_n cx dX3_isKnown_0 0 rfl rfl ?_
  refine jr_get (f := 1) (v := .ref (E.1 38)) cx dX3_isKnown_1 (by decide) rfl rfl hinX3 (by decide) mf_16 rfl ?_
  refine jr_iload_n cx dX3_isKnown_4 1 rfl rfl ?_
  refine jr_aald cx dX3_isKnown_5 ⟨by decide, by decide⟩ a rfl (show a < 6 by omega) (99 + a) rfl ?_
  refine jr_iload_n cx dX3_isKnown_6 2 rfl rfl ?_
  refine jr_iald cx dX3_isKnown_7 (is_en (show a < 6 by omega)) b rfl (by rw [ml_en (show a < 6 by omega)]; omega) ?_
  refine jr_iconst (v := (-1)) cx dX3_isKnown_8 (by decide) ?_
  refine jr_icmp_eq (tgt := 40) cx dX3_isKnown_9 (by decide) (fun c9 => ?_) (fun c9 => ?_)
  · refine jr_iconst (v := 0) cx dX3_isKnown_40 (by decide) ?_
    exact jr_ri (by exact (bI_f fun q => q.1 c9).symm) (by rfl) (by rfl) (hR 41 _ dX3_isKnown_41)
  · refine jr_aload_n cx dX3_isKnown_12 0 rfl rfl ?_
    refine jr_get (f := 1) (v := .ref (E.1 38)) cx dX3_isKnown_13 (by decide) rfl rfl hinX3 (by decide) mf_16 rfl ?_
    refine jr_iload_n cx dX3_isKnown_16 2 rfl rfl ?_
    refine jr_aald cx dX3_isKnown_17 ⟨by decide, by decide⟩ b rfl (show b < 6 by omega) (99 + b) rfl ?_
    refine jr_iload_n cx dX3_isKnown_18 3 rfl rfl ?_
    refine jr_iald cx dX3_isKnown_19 (is_en (show b < 6 by omega)) c rfl (by rw [ml_en (show b < 6 by omega)]; omega) ?_
    refine jr_iconst (v := (-1)) cx dX3_isKnown_20 (by decide) ?_
    refine jr_icmp_eq (tgt := 40) cx dX3_isKnown_21 (by decide) (fun c21 => ?_) (fun c21 => ?_)
    · refine jr_iconst (v := 0) cx dX3_isKnown_40 (by decide) ?_
      exact jr_ri (by exact (bI_f fun q => q.2.1 c21).symm) (by rfl) (by rfl) (hR 41 _ dX3_isKnown_41)
    · refine jr_aload_n cx dX3_isKnown_24 0 rfl rfl ?_
      refine jr_get (f := 1) (v := .ref (E.1 38)) cx dX3_isKnown_25 (by decide) rfl rfl hinX3 (by decide) mf_16 rfl ?_
      refine jr_iload_n cx dX3_isKnown_28 3 rfl rfl ?_
      refine jr_aald cx dX3_isKnown_29 ⟨by decide, by decide⟩ c rfl (show c < 6 by omega) (99 + c) rfl ?_
      refine jr_iload_n cx dX3_isKnown_30 1 rfl rfl ?_
      refine jr_iald cx dX3_isKnown_31 (is_en (show c < 6 by omega)) a rfl (by rw [ml_en (show c < 6 by omega)]; omega) ?_
      refine jr_iconst (v := (-1)) cx dX3_isKnown_32 (by decide) ?_
      refine jr_icmp_eq (tgt := 40) cx dX3_isKnown_33 (by decide) (fun c33 => ?_) (fun c33 => ?_)
      · refine jr_iconst (v := 0) cx dX3_isKnown_40 (by decide) ?_
        exact jr_ri (by exact (bI_f fun q => q.2.2 c33).symm) (by rfl) (by rfl) (hR 41 _ dX3_isKnown_41)
      · refine jr_iconst (v := 1) cx dX3_isKnown_36 (by decide) ?_
        refine jr_goto (tgt := 41) cx dX3_isKnown_37 (by decide) ?_
        exact jr_ri (by exact (bI_t ⟨c9, c21, c33⟩).symm) (by rfl) (by rfl) (hR 41 _ dX3_isKnown_41)
set_option maxHeartbeats 4000000 in
set_option maxRecDepth 100000 in
theorem c_X3_gap (E : mm_E) (g : mm_I) (h : mm_L) (a b c : Nat) (ha : a < 6) (hb : b < 6) (hc : c < 6) : Ci E yX3_gap wsX3_gap 0 0 [.ref (E.1 5), .int (nI a), .int (nI b), .int (nI c)] g h (g (93 + a) b + g (93 + b) c + g (93 + c) a) g h := by
  refine ci_i (bytes := cX3_gap) (maxL := 4) (by decide) rfl (Nat.le_of_ble_eq_true rfl) (fun X cx hR => ?_)
  change Cx E X cX3_gap RX3 wsX3_gap 4 0 0 at cx
  change JJ E X g h 0 [(0, .ref (E.1 5)), (1, .int (nI a)), (2, .int (nI b)), (3, .int (nI c))] []
  have hinX3 : ∀ w ∈ u_ws RX3 TX3 2, w ∈ wsX3_gap := by decide +kernel
  have mf_11 : Cond.fieldLink RX3 11 (TX3 0).1 (TX3 0).2.1 (TX3 0).2.2.1 ∈ wsX3_gap := by decide +kernel
  refine jr_aload_n cx dX3_gap_0 0 rfl rfl ?_
  refine jr_get (f := 0) (v := .ref (E.1 37)) cx dX3_gap_1 (by decide) rfl rfl hinX3 (by decide) mf_11 rfl ?_
  refine jr_iload_n cx dX3_gap_4 1 rfl rfl ?_
  refine jr_aald cx dX3_gap_5 ⟨by decide, by decide⟩ a rfl (show a < 6 by omega) (93 + a) rfl ?_
  refine jr_iload_n cx dX3_gap_6 2 rfl rfl ?_
  refine jr_iald cx dX3_gap_7 (is_di (show a < 6 by omega)) b rfl (by rw [ml_di (show a < 6 by omega)]; omega) ?_
  refine jr_aload_n cx dX3_gap_8 0 rfl rfl ?_
  refine jr_get (f := 0) (v := .ref (E.1 37)) cx dX3_gap_9 (by decide) rfl rfl hinX3 (by decide) mf_11 rfl ?_
  refine jr_iload_n cx dX3_gap_12 2 rfl rfl ?_
  refine jr_aald cx dX3_gap_13 ⟨by decide, by decide⟩ b rfl (show b < 6 by omega) (93 + b) rfl ?_
  refine jr_iload_n cx dX3_gap_14 3 rfl rfl ?_
  refine jr_iald cx dX3_gap_15 (is_di (show b < 6 by omega)) c rfl (by rw [ml_di (show b < 6 by omega)]; omega) ?_
  refine jr_iadd cx dX3_gap_16 ?_
  refine jr_aload_n cx dX3_gap_17 0 rfl rfl ?_
  refine jr_get (f := 0) (v := .ref (E.1 37)) cx dX3_gap_18 (by decide) rfl rfl hinX3 (by decide) mf_11 rfl ?_
  refine jr_iload_n cx dX3_gap_21 3 rfl rfl ?_
  refine jr_aald cx dX3_gap_22 ⟨by decide, by decide⟩ c rfl (show c < 6 by omega) (93 + c) rfl ?_
  refine jr_iload_n cx dX3_gap_23 1 rfl rfl ?_
  refine jr_iald cx dX3_gap_24 (is_di (show c < 6 by omega)) a rfl (by rw [ml_di (show c < 6 by omega)]; omega) ?_
  refine jr_iadd cx dX3_gap_25 ?_
  exact jr_ri (by rfl) (by rfl) (by rfl) (hR 26 _ dX3_gap_26)
def gpC (g : mm_I) (a b c : Nat) : Int32 := g (93 + a) b + g (93 + b) c + g (93 + c) a
def enC (g : mm_I) (a b c : Nat) : Int32 := g (99 + a) b + g (99 + b) c + g (99 + c) a
def abI (v : Int32) : Int32 := if 0 ≤ v then v else 0 - v
set_option maxHeartbeats 4000000 in
set_option maxRecDepth 100000 in
theorem c_X3_isShut (E : mm_E) (g : mm_I) (h : mm_L) (a b c : Nat) (ha : a < 6) (hb : b < 6) (hc : c < 6) : Ci E yX3_isShut wsX3_isShut 1 23 [.ref (E.1 5), .int (nI a), .int (nI b), .int (nI c)] g h (bI (¬ enC g a b c < abI (gpC g a b c))) g h := by
  refine ci_z (bytes := cX3_isShut) (maxL := 4) (by decide) rfl (Nat.le_of_ble_eq_true rfl) (bI_01 _) (fun X cx hR => ?_)
  change Cx E X cX3_isShut RX3 wsX3_isShut 4 1 23 at cx
  change JJ E X g h 0 [(0, .ref (E.1 5)), (1, .int (nI a)), (2, .int (nI b)), (3, .int (nI c))] []
  have hinX3 : ∀ w ∈ u_ws RX3 TX3 2, w ∈ wsX3_isShut := by decide +kernel
  have ml_mabs : Cond.methodLink RX3 29 Lib.Math.abs.name ∈ wsX3_isShut := by decide +kernel
  have mst_mabs : Cond.static Lib.Math.abs.name ∈ wsX3_isShut := by decide +kernel
  have mi_math : Cond.initialized "java/lang/Math" ∈ wsX3_isShut := by decide +kernel
  have mco_mabs : Cond.code Lib.Math.abs.name Lib.Math.abs.code 1 (some .int) ∈ wsX3_isShut := by first | decide +kernel | (unfold wsX3_isShut; simp)
  have mf_16 : Cond.fieldLink RX3 16 (TX3 1).1 (TX3 1).2.1 (TX3 1).2.2.1 ∈ wsX3_isShut := by decide +kernel
  refine jr_aload_n cx dX3_isShut_0 0 rfl rfl ?_
  refine jr_iload_n cx dX3_isShut_1 1 rfl rfl ?_
  refine jr_iload_n cx dX3_isShut_2 2 rfl rfl ?_
  refine jr_iload_n cx dX3_isShut_3 3 rfl rfl ?_
  refine jr_vi [.int (nI a), .int (nI b), .int (nI c)] 3 cx dX3_isShut_4 (c_X3_gap E g h a b c (by omega) (by omega) (by omega)) (by decide) rfl rfl gX3_isShut_X3_gap rfl (by decide +kernel) ⟨Nat.le_of_ble_eq_true rfl, Nat.le_of_ble_eq_true rfl⟩ rfl rfl (Nat.le_of_ble_eq_true rfl) ?_
  refine jr_mabs cx dX3_isShut_7 ml_mabs mst_mabs mi_math mco_mabs (by decide) (Nat.le_of_ble_eq_true rfl) ?_
  refine jr_aload_n cx dX3_isShut_10 0 rfl rfl ?_
  refine jr_get (f := 1) (v := .ref (E.1 38)) cx dX3_isShut_11 (by decide) rfl rfl hinX3 (by decide) mf_16 rfl ?_
  refine jr_iload_n cx dX3_isShut_14 1 rfl rfl ?_
  refine jr_aald cx dX3_isShut_15 ⟨by decide, by decide⟩ a rfl (show a < 6 by omega) (99 + a) rfl ?_
  refine jr_iload_n cx dX3_isShut_16 2 rfl rfl ?_
  refine jr_iald cx dX3_isShut_17 (is_en (show a < 6 by omega)) b rfl (by rw [ml_en (show a < 6 by omega)]; omega) ?_
  refine jr_aload_n cx dX3_isShut_18 0 rfl rfl ?_
  refine jr_get (f := 1) (v := .ref (E.1 38)) cx dX3_isShut_19 (by decide) rfl rfl hinX3 (by decide) mf_16 rfl ?_
  refine jr_iload_n cx dX3_isShut_22 2 rfl rfl ?_
  refine jr_aald cx dX3_isShut_23 ⟨by decide, by decide⟩ b rfl (show b < 6 by omega) (99 + b) rfl ?_
  refine jr_iload_n cx dX3_isShut_24 3 rfl rfl ?_
  refine jr_iald cx dX3_isShut_25 (is_en (show b < 6 by omega)) c rfl (by rw [ml_en (show b < 6 by omega)]; omega) ?_
  refine jr_iadd cx dX3_isShut_26 ?_
  refine jr_aload_n cx dX3_isShut_27 0 rfl rfl ?_
  refine jr_get (f := 1) (v := .ref (E.1 38)) cx dX3_isShut_28 (by decide) rfl rfl hinX3 (by decide) mf_16 rfl ?_
  refine jr_iload_n cx dX3_isShut_31 3 rfl rfl ?_
  refine jr_aald cx dX3_isShut_32 ⟨by decide, by decide⟩ c rfl (show c < 6 by omega) (99 + c) rfl ?_
  refine jr_iload_n cx dX3_isShut_33 1 rfl rfl ?_
  refine jr_iald cx dX3_isShut_34 (is_en (show c < 6 by omega)) a rfl (by rw [ml_en (show c < 6 by omega)]; omega) ?_
  refine jr_iadd cx dX3_isShut_35 ?_
  refine jr_icmp_gt (tgt := 43) cx dX3_isShut_36 (by decide) (fun c36 => ?_) (fun c36 => ?_)
  · refine jr_iconst (v := 0) cx dX3_isShut_43 (by decide) ?_
    exact jr_ri (by first | exact (bI_f (fun q => q c36)).symm | exact (bI_t c36).symm) (by rfl) (by rfl) (hR 44 _ dX3_isShut_44)
  · refine jr_iconst (v := 1) cx dX3_isShut_39 (by decide) ?_
    refine jr_goto (tgt := 44) cx dX3_isShut_40 (by decide) ?_
    exact jr_ri (by first | exact (bI_f (fun q => q c36)).symm | exact (bI_t c36).symm) (by rfl) (by rfl) (hR 44 _ dX3_isShut_44)
def sHas (f : Nat → Int32) (x : Int32) : Nat → Bool
  | 0 => false
  | n + 1 => sHas f x n || decide (f n = x)
theorem sHas_of {f : Nat → Int32} {x : Int32} {i n : Nat} (h : i < n) (e : f i = x) : sHas f x n = true := by
  induction n with
  | zero => omega
  | succ n ih =>
    unfold sHas
    rcases Nat.lt_or_ge i n with q | q
    · rw [ih q]; rfl
    · have : i = n := by omega
      subst this
      simp [e]
def pW (f : Nat → Int32) (l : Nat) (x : Int32) : Nat → Int64
  | 0 => 1
  | n + 1 => if n = l then pW f l x n else pW f l x n * (x - f n).toInt64
def cLw (f : Nat → Int32) (n : Nat) : Nat → Int64
  | 0 => 1
  | i + 1 => lcmL (cLw f n i) (pW f i (f i) n)
def wAt (f y : Nat → Int32) (x : Int32) (s : Int64) (n : Nat) : Nat → Int64
  | 0 => 0
  | i + 1 => if pW f i (f i) n = 0 then wAt f y x s n i else wAt f y x s n i + s / pW f i (f i) n * pW f i x n * (y i).toInt64
def sSi (f : Nat → Int32) : Nat → Int32
  | 0 => 0
  | n + 1 => sSi f n + f n
def adT (g : mm_I) (t n : Nat) (x y : Int32) : mm_I := up2 (up2 (up2 g (45 + t) n x) (49 + t) n y) 10 t (nI (n + 1))
set_option maxHeartbeats 4000000 in
set_option maxRecDepth 100000 in
theorem c_X5_sizeOf (E : mm_E) (g : mm_I) (h : mm_L) (t : Nat) (ht : t < 4) : Ci E yX5_sizeOf wsX5_sizeOf 0 0 [.ref (E.1 2), .int (nI t)] g h (g 10 t) g h := by
  refine ci_i (bytes := cX5_sizeOf) (maxL := 2) (by decide) rfl (Nat.le_of_ble_eq_true rfl) (fun X cx hR => ?_)
  change Cx E X cX5_sizeOf RX5 wsX5_sizeOf 2 0 0 at cx
  change JJ E X g h 0 [(0, .ref (E.1 2)), (1, .int (nI t))] []
  have hinX5 : ∀ w ∈ u_ws RX5 TX5 3, w ∈ wsX5_sizeOf := by decide +kernel
  have mf_19 : Cond.fieldLink RX5 19 (TX5 2).1 (TX5 2).2.1 (TX5 2).2.2.1 ∈ wsX5_sizeOf := by decide +kernel
  refine jr_aload_n cx dX5_sizeOf_0 0 rfl rfl ?_
  refine jr_get (f := 2) (v := .ref (E.1 10)) cx dX5_sizeOf_1 (by decide) rfl rfl hinX5 (by decide) mf_19 rfl ?_
  refine jr_iload_n cx dX5_sizeOf_4 1 rfl rfl ?_
  refine jr_iald cx dX5_sizeOf_5 (Or.inl ⟨by decide, by decide⟩) t rfl (show _ < 4 by omega) ?_
  exact jr_ri (by rfl) (by rfl) (by rfl) (hR 6 _ dX5_sizeOf_6)
set_option maxHeartbeats 4000000 in
set_option maxRecDepth 100000 in
theorem c_X5_hasX (E : mm_E) (g : mm_I) (h : mm_L) (t : Nat) (ht : t < 4) (n : Nat) (hn : n ≤ 4) (hs : g 10 t = nI n) (x : Int32) : Ci E yX5_hasX wsX5_hasX 0 0 [.ref (E.1 2), .int (nI t), .int x] g h (bI (sHas (g (45 + t)) x n = true)) g h := by
  refine ci_z (bytes := cX5_hasX) (maxL := 4) (by decide) rfl (Nat.le_of_ble_eq_true rfl) (bI_01 _) (fun X cx hR => ?_)
  change Cx E X cX5_hasX RX5 wsX5_hasX 4 0 0 at cx
  change JJ E X g h 0 [(0, .ref (E.1 2)), (1, .int (nI t)), (2, .int x)] []
  have hinX5 : ∀ w ∈ u_ws RX5 TX5 3, w ∈ wsX5_hasX := by decide +kernel
  have mf_19 : Cond.fieldLink RX5 19 (TX5 2).1 (TX5 2).2.1 (TX5 2).2.2.1 ∈ wsX5_hasX := by decide +kernel
  have mf_11 : Cond.fieldLink RX5 11 (TX5 0).1 (TX5 0).2.1 (TX5 0).2.2.1 ∈ wsX5_hasX := by decide +kernel
  refine jr_iconst (v := 0) cx dX5_hasX_0 (by decide) ?_
  refine jr_istore_n (L' := [(3, .int 0), (0, .ref (E.1 2)), (1, .int (nI t)), (2, .int x)]) cx dX5_hasX_1 rfl (by decide) rfl ?_
  have key1 : ∀ (fu1 : Nat) (i : Nat), n + 1 ≤ i + fu1 → (i ≤ n) → (sHas (g (45 + t)) x i = false) → JJ E X g h 2 [(0, .ref (E.1 2)), (1, .int (nI t)), (2, .int x), (3, .int (nI i))] [] := by
    intro fu1
    induction fu1 with
    | zero => intro i hfu1 h1 h2; exfalso; omega
    | succ fu1 ih1 =>
      intro i hfu1 h1 h2
      refine jr_iload_n cx dX5_hasX_2 3 rfl rfl ?_
      refine jr_aload_n cx dX5_hasX_3 0 rfl rfl ?_
      refine jr_get (f := 2) (v := .ref (E.1 10)) cx dX5_hasX_4 (by decide) rfl rfl hinX5 (by decide) mf_19 rfl ?_
      refine jr_iload_n cx dX5_hasX_7 1 rfl rfl ?_
      refine jr_iald cx dX5_hasX_8 (Or.inl ⟨by decide, by decide⟩) t rfl (show _ < 4 by omega) ?_
      refine jr_top hs ?_
      refine jr_icmp_ge (tgt := 32) cx dX5_hasX_9 (by decide) (fun c9 => ?_) (fun c9 => ?_)
      · have n9 : n ≤ i := (nI_leI (a := n) (b := i) (by omega) (by omega)).mp c9
        refine jr_iconst (v := 0) cx dX5_hasX_32 (by decide) ?_
        exact jr_ri (by rw [show n = i by omega]; exact (bI_f (by rw [h2]; decide)).symm) (by rfl) (by rfl) (hR 33 _ dX5_hasX_33)
      · have n9 : ¬ (n ≤ i) := fun q => c9 ((nI_leI (a := n) (b := i) (by omega) (by omega)).mpr q)
        refine jr_aload_n cx dX5_hasX_12 0 rfl rfl ?_
        refine jr_get (f := 0) (v := .ref (E.1 34)) cx dX5_hasX_13 (by decide) rfl rfl hinX5 (by decide) mf_11 rfl ?_
        refine jr_iload_n cx dX5_hasX_16 1 rfl rfl ?_
        refine jr_aald cx dX5_hasX_17 ⟨by decide, by decide⟩ t rfl (show t < 4 by omega) (45 + t) rfl ?_
        refine jr_iload_n cx dX5_hasX_18 3 rfl rfl ?_
        refine jr_iald cx dX5_hasX_19 (is_xs (show t < 4 by omega)) i rfl (by rw [ml_xs (show t < 4 by omega)]; omega) ?_
        refine jr_iload_n cx dX5_hasX_20 2 rfl rfl ?_
        refine jr_icmp_ne (tgt := 26) cx dX5_hasX_21 (by decide) (fun c21 => ?_) (fun c21 => ?_)
        · refine jr_iinc (n := 3) (v := nI (i + 1)) (L' := [(3, .int (nI (i + 1))), (0, .ref (E.1 2)), (1, .int (nI t)), (2, .int x)]) cx dX5_hasX_26 rfl (nI_1 _) (by decide) rfl ?_
          refine jr_goto (tgt := 2) cx dX5_hasX_29 (by decide) ?_
          refine jr_pick (L' := [(0, .ref (E.1 2)), (1, .int (nI t)), (2, .int x), (3, .int (nI (i + 1)))]) [1, 2, 3, 0] rfl ?_
          exact ih1 (i + 1) (by omega) (by omega) (by simp [sHas, h2, c21])
        · refine jr_iconst (v := 1) cx dX5_hasX_24 (by decide) ?_
          exact jr_ri (by exact (bI_t (sHas_of (by omega) c21)).symm) (by rfl) (by rfl) (hR 25 _ dX5_hasX_25)
  refine jr_pick (L' := [(0, .ref (E.1 2)), (1, .int (nI t)), (2, .int x), (3, .int 0)]) [1, 2, 3, 0] rfl ?_
  have e3 : (0 : Int32) = (nI 0) := by rfl
  refine jr_loc (lc_n (lc_n (lc_n (lc_i e3 rfl)))) ?_
  exact key1 (n + 1) 0 (by omega) (by omega) rfl
set_option maxHeartbeats 4000000 in
set_option maxRecDepth 100000 in
theorem c_X5_add (E : mm_E) (g : mm_I) (h : mm_L) (t : Nat) (ht : t < 4) (n : Nat) (hn : n < 4) (hs : g 10 t = nI n) (x y : Int32) : Ci E yX5_add wsX5_add 0 0 [.ref (E.1 2), .int (nI t), .int x, .int y] g h (nI (n + 1)) (adT g t n x y) h := by
  refine ci_i (bytes := cX5_add) (maxL := 5) (by decide) rfl (Nat.le_of_ble_eq_true rfl) (fun X cx hR => ?_)
  change Cx E X cX5_add RX5 wsX5_add 5 0 0 at cx
  change JJ E X g h 0 [(0, .ref (E.1 2)), (1, .int (nI t)), (2, .int x), (3, .int y)] []
  have hinX5 : ∀ w ∈ u_ws RX5 TX5 3, w ∈ wsX5_add := by decide +kernel
  have mf_19 : Cond.fieldLink RX5 19 (TX5 2).1 (TX5 2).2.1 (TX5 2).2.2.1 ∈ wsX5_add := by decide +kernel
  have mf_11 : Cond.fieldLink RX5 11 (TX5 0).1 (TX5 0).2.1 (TX5 0).2.2.1 ∈ wsX5_add := by decide +kernel
  have mf_16 : Cond.fieldLink RX5 16 (TX5 1).1 (TX5 1).2.1 (TX5 1).2.2.1 ∈ wsX5_add := by decide +kernel
  refine jr_aload_n cx dX5_add_0 0 rfl rfl ?_
  refine jr_get (f := 2) (v := .ref (E.1 10)) cx dX5_add_1 (by decide) rfl rfl hinX5 (by decide) mf_19 rfl ?_
  refine jr_iload_n cx dX5_add_4 1 rfl rfl ?_
  refine jr_iald cx dX5_add_5 (Or.inl ⟨by decide, by decide⟩) t rfl (show _ < 4 by omega) ?_
  refine jr_top hs ?_
  refine jr_istore (L' := [(4, .int (nI n)), (0, .ref (E.1 2)), (1, .int (nI t)), (2, .int x), (3, .int y)]) cx dX5_add_6 (by decide) rfl ?_
  refine jr_aload_n cx dX5_add_8 1 rfl rfl ?_
  refine jr_get (f := 0) (v := .ref (E.1 34)) cx dX5_add_9 (by decide) rfl rfl hinX5 (by decide) mf_11 rfl ?_
  refine jr_iload_n cx dX5_add_12 2 rfl rfl ?_
  refine jr_aald cx dX5_add_13 ⟨by decide, by decide⟩ t rfl (show t < 4 by omega) (45 + t) rfl ?_
  refine jr_iload cx dX5_add_14 0 rfl ?_
  refine jr_iload_n cx dX5_add_16 3 rfl rfl ?_
  refine jr_iast cx dX5_add_17 (is_xs (show t < 4 by omega)) n rfl (by rw [ml_xs (show t < 4 by omega)]; omega) ?_
  refine jr_aload_n cx dX5_add_18 1 rfl rfl ?_
  refine jr_get (f := 1) (v := .ref (E.1 35)) cx dX5_add_19 (by decide) rfl rfl hinX5 (by decide) mf_16 rfl ?_
  refine jr_iload_n cx dX5_add_22 2 rfl rfl ?_
  refine jr_aald cx dX5_add_23 ⟨by decide, by decide⟩ t rfl (show t < 4 by omega) (49 + t) rfl ?_
  refine jr_iload cx dX5_add_24 0 rfl ?_
  refine jr_iload_n cx dX5_add_26 4 rfl rfl ?_
  refine jr_iast cx dX5_add_27 (is_ys (show t < 4 by omega)) n rfl (by rw [ml_ys (show t < 4 by omega)]; omega) ?_
  refine jr_aload_n cx dX5_add_28 1 rfl rfl ?_
  refine jr_get (f := 2) (v := .ref (E.1 10)) cx dX5_add_29 (by decide) rfl rfl hinX5 (by decide) mf_19 rfl ?_
  refine jr_iload_n cx dX5_add_32 2 rfl rfl ?_
  refine jr_iload cx dX5_add_33 0 rfl ?_
  refine jr_iconst (v := 1) cx dX5_add_35 (by decide) ?_
  refine jr_iadd cx dX5_add_36 ?_
  refine jr_top (show (nI n : Int32) + 1 = nI (n + 1) from nI_add n 1) ?_
  refine jr_iast cx dX5_add_37 (Or.inl ⟨by decide, by decide⟩) t rfl (show _ < 4 by omega) ?_
  refine jr_iload cx dX5_add_38 0 rfl ?_
  refine jr_iconst (v := 1) cx dX5_add_40 (by decide) ?_
  refine jr_iadd cx dX5_add_41 ?_
  refine jr_top (show (nI n : Int32) + 1 = nI (n + 1) from nI_add n 1) ?_
  exact jr_ri (by rfl) (by rfl) (by rfl) (hR 42 _ dX5_add_42)
set_option maxHeartbeats 4000000 in
set_option maxRecDepth 100000 in
theorem c_X5_empty (E : mm_E) (g : mm_I) (h : mm_L) (t : Nat) (ht : t < 4) : Ci E yX5_empty wsX5_empty 0 0 [.ref (E.1 2), .int (nI t)] g h (g 10 t) (up2 g 10 t 0) h := by
  refine ci_i (bytes := cX5_empty) (maxL := 3) (by decide) rfl (Nat.le_of_ble_eq_true rfl) (fun X cx hR => ?_)
  change Cx E X cX5_empty RX5 wsX5_empty 3 0 0 at cx
  change JJ E X g h 0 [(0, .ref (E.1 2)), (1, .int (nI t))] []
  have hinX5 : ∀ w ∈ u_ws RX5 TX5 3, w ∈ wsX5_empty := by decide +kernel
  have mf_19 : Cond.fieldLink RX5 19 (TX5 2).1 (TX5 2).2.1 (TX5 2).2.2.1 ∈ wsX5_empty := by decide +kernel
  refine jr_aload_n cx dX5_empty_0 0 rfl rfl ?_
  refine jr_get (f := 2) (v := .ref (E.1 10)) cx dX5_empty_1 (by decide) rfl rfl hinX5 (by decide) mf_19 rfl ?_
  refine jr_iload_n cx dX5_empty_4 1 rfl rfl ?_
  refine jr_iald cx dX5_empty_5 (Or.inl ⟨by decide, by decide⟩) t rfl (show _ < 4 by omega) ?_
  refine jr_istore_n (L' := [(2, .int (g 10 t)), (0, .ref (E.1 2)), (1, .int (nI t))]) cx dX5_empty_6 rfl (by decide) rfl ?_
  refine jr_aload_n cx dX5_empty_7 1 rfl rfl ?_
  refine jr_get (f := 2) (v := .ref (E.1 10)) cx dX5_empty_8 (by decide) rfl rfl hinX5 (by decide) mf_19 rfl ?_
  refine jr_iload_n cx dX5_empty_11 2 rfl rfl ?_
  refine jr_iconst (v := 0) cx dX5_empty_12 (by decide) ?_
  refine jr_iast cx dX5_empty_13 (Or.inl ⟨by decide, by decide⟩) t rfl (show _ < 4 by omega) ?_
  refine jr_iload_n cx dX5_empty_14 0 rfl rfl ?_
  exact jr_ri (by rfl) (by rfl) (by rfl) (hR 15 _ dX5_empty_15)
set_option maxHeartbeats 4000000 in
set_option maxRecDepth 100000 in
theorem c_X5_pointCount (E : mm_E) (g : mm_I) (h : mm_L) : Ci E yX5_pointCount wsX5_pointCount 0 0 [.ref (E.1 2)] g h (sSi (g 10) 4) g h := by
  refine ci_i (bytes := cX5_pointCount) (maxL := 3) (by decide) rfl (Nat.le_of_ble_eq_true rfl) (fun X cx hR => ?_)
  change Cx E X cX5_pointCount RX5 wsX5_pointCount 3 0 0 at cx
  change JJ E X g h 0 [(0, .ref (E.1 2))] []
  have hinX5 : ∀ w ∈ u_ws RX5 TX5 3, w ∈ wsX5_pointCount := by decide +kernel
  have mf_19 : Cond.fieldLink RX5 19 (TX5 2).1 (TX5 2).2.1 (TX5 2).2.2.1 ∈ wsX5_pointCount := by decide +kernel
  refine jr_iconst (v := 0) cx dX5_pointCount_0 (by decide) ?_
  refine jr_istore_n (L' := [(1, .int 0), (0, .ref (E.1 2))]) cx dX5_pointCount_1 rfl (by decide) rfl ?_
  refine jr_iconst (v := 0) cx dX5_pointCount_2 (by decide) ?_
  refine jr_istore_n (L' := [(2, .int 0), (1, .int 0), (0, .ref (E.1 2))]) cx dX5_pointCount_3 rfl (by decide) rfl ?_
  have key1 : ∀ (fu1 : Nat) (i : Nat), 4 + 1 ≤ i + fu1 → (i ≤ 4) → JJ E X g h 4 [(0, .ref (E.1 2)), (1, .int (sSi (g 10) i)), (2, .int (nI i))] [] := by
    intro fu1
    induction fu1 with
    | zero => intro i hfu1 h1; exfalso; omega
    | succ fu1 ih1 =>
      intro i hfu1 h1
      refine jr_iload_n cx dX5_pointCount_4 2 rfl rfl ?_
      refine jr_iconst (v := 4) cx dX5_pointCount_5 (by decide) ?_
      refine jr_icmp_ge (tgt := 24) cx dX5_pointCount_6 (by decide) (fun c6 => ?_) (fun c6 => ?_)
      · have n6 : 4 ≤ i := (nI_leI (a := 4) (b := i) (by omega) (by omega)).mp c6
        refine jr_iload_n cx dX5_pointCount_24 1 rfl rfl ?_
        exact jr_ri (by rw [show i = 4 by omega]) (by rfl) (by rfl) (hR 25 _ dX5_pointCount_25)
      · have n6 : ¬ (4 ≤ i) := fun q => c6 ((nI_leI (a := 4) (b := i) (by omega) (by omega)).mpr q)
        refine jr_iload_n cx dX5_pointCount_9 1 rfl rfl ?_
        refine jr_aload_n cx dX5_pointCount_10 0 rfl rfl ?_
        refine jr_get (f := 2) (v := .ref (E.1 10)) cx dX5_pointCount_11 (by decide) rfl rfl hinX5 (by decide) mf_19 rfl ?_
        refine jr_iload_n cx dX5_pointCount_14 2 rfl rfl ?_
        refine jr_iald cx dX5_pointCount_15 (Or.inl ⟨by decide, by decide⟩) i rfl (show _ < 4 by omega) ?_
        refine jr_iadd cx dX5_pointCount_16 ?_
        refine jr_istore_n (L' := [(1, .int ((sSi (g 10) i) + (g 10 i))), (0, .ref (E.1 2)), (2, .int (nI i))]) cx dX5_pointCount_17 rfl (by decide) rfl ?_
        refine jr_iinc (n := 2) (v := nI (i + 1)) (L' := [(2, .int (nI (i + 1))), (1, .int ((sSi (g 10) i) + (g 10 i))), (0, .ref (E.1 2))]) cx dX5_pointCount_18 rfl (nI_1 _) (by decide) rfl ?_
        refine jr_goto (tgt := 4) cx dX5_pointCount_21 (by decide) ?_
        refine jr_pick (L' := [(0, .ref (E.1 2)), (1, .int ((sSi (g 10) i) + (g 10 i))), (2, .int (nI (i + 1)))]) [2, 1, 0] rfl ?_
        have e1 : ((sSi (g 10) i) + (g 10 i) : Int32) = (sSi (g 10) (i + 1)) := by rfl
        refine jr_loc (lc_n (lc_i e1 (lc_n rfl))) ?_
        exact ih1 (i + 1) (by omega) (by omega)
  refine jr_pick (L' := [(0, .ref (E.1 2)), (1, .int 0), (2, .int 0)]) [2, 1, 0] rfl ?_
  have e1 : (0 : Int32) = (sSi (g 10) 0) := by rfl
  have e2 : (0 : Int32) = (nI 0) := by rfl
  refine jr_loc (lc_n (lc_i e1 (lc_i e2 rfl))) ?_
  exact key1 (4 + 1) 0 (by omega) (by omega)
set_option maxHeartbeats 4000000 in
set_option maxRecDepth 100000 in
theorem c_X5_productWithout (E : mm_E) (g : mm_I) (h : mm_L) (t : Nat) (ht : t < 4) (n : Nat) (hn : n ≤ 4) (hs : g 10 t = nI n) (l : Nat) (hl : l ≤ 4) (x : Int32) : Cl E yX5_productWithout wsX5_productWithout 0 0 [.ref (E.1 2), .int (nI t), .int (nI l), .int x] g h (pW (g (45 + t)) l x n) g h := by
  refine ci_l (bytes := cX5_productWithout) (maxL := 7) (by decide) rfl (Nat.le_of_ble_eq_true rfl) (fun X cx hR => ?_)
  change Cx E X cX5_productWithout RX5 wsX5_productWithout 7 0 0 at cx
  change JJ E X g h 0 [(0, .ref (E.1 2)), (1, .int (nI t)), (2, .int (nI l)), (3, .int x)] []
  have hinX5 : ∀ w ∈ u_ws RX5 TX5 3, w ∈ wsX5_productWithout := by decide +kernel
  have mf_19 : Cond.fieldLink RX5 19 (TX5 2).1 (TX5 2).2.1 (TX5 2).2.2.1 ∈ wsX5_productWithout := by decide +kernel
  have mf_11 : Cond.fieldLink RX5 11 (TX5 0).1 (TX5 0).2.1 (TX5 0).2.2.1 ∈ wsX5_productWithout := by decide +kernel
  refine jr_lconst (v := 1) cx dX5_productWithout_0 (by decide) ?_
  refine jr_lstore (L' := [(4, .long 1), (0, .ref (E.1 2)), (1, .int (nI t)), (2, .int (nI l)), (3, .int x)]) cx dX5_productWithout_1 (by decide) rfl ?_
  refine jr_iconst (v := 0) cx dX5_productWithout_3 (by decide) ?_
  refine jr_istore (L' := [(6, .int 0), (4, .long 1), (0, .ref (E.1 2)), (1, .int (nI t)), (2, .int (nI l)), (3, .int x)]) cx dX5_productWithout_4 (by decide) rfl ?_
  have key1 : ∀ (fu1 : Nat) (i : Nat), n + 1 ≤ i + fu1 → (i ≤ n) → JJ E X g h 6 [(0, .ref (E.1 2)), (1, .int (nI t)), (2, .int (nI l)), (3, .int x), (4, .long (pW (g (45 + t)) l x i)), (6, .int (nI i))] [] := by
    intro fu1
    induction fu1 with
    | zero => intro i hfu1 h1; exfalso; omega
    | succ fu1 ih1 =>
      intro i hfu1 h1
      refine jr_iload cx dX5_productWithout_6 5 rfl ?_
      refine jr_aload_n cx dX5_productWithout_8 0 rfl rfl ?_
      refine jr_get (f := 2) (v := .ref (E.1 10)) cx dX5_productWithout_9 (by decide) rfl rfl hinX5 (by decide) mf_19 rfl ?_
      refine jr_iload_n cx dX5_productWithout_12 1 rfl rfl ?_
      refine jr_iald cx dX5_productWithout_13 (Or.inl ⟨by decide, by decide⟩) t rfl (show _ < 4 by omega) ?_
      refine jr_top hs ?_
      refine jr_icmp_ge (tgt := 46) cx dX5_productWithout_14 (by decide) (fun c14 => ?_) (fun c14 => ?_)
      · have n14 : n ≤ i := (nI_leI (a := n) (b := i) (by omega) (by omega)).mp c14
        refine jr_lload cx dX5_productWithout_46 4 rfl ?_
        exact jr_rl (by rw [show i = n by omega]) (by rfl) (by rfl) (hR 48 _ dX5_productWithout_48)
      · have n14 : ¬ (n ≤ i) := fun q => c14 ((nI_leI (a := n) (b := i) (by omega) (by omega)).mpr q)
        refine jr_iload cx dX5_productWithout_17 5 rfl ?_
        refine jr_iload_n cx dX5_productWithout_19 2 rfl rfl ?_
        refine jr_icmp_eq (tgt := 40) cx dX5_productWithout_20 (by decide) (fun c20 => ?_) (fun c20 => ?_)
        · have n20 : i = l := (nI_eq (a := i) (b := l) (by omega) (by omega)).mp c20
          refine jr_iinc (n := 5) (v := nI (i + 1)) (L' := [(6, .int (nI (i + 1))), (0, .ref (E.1 2)), (1, .int (nI t)), (2, .int (nI l)), (3, .int x), (4, .long (pW (g (45 + t)) l x i))]) cx dX5_productWithout_40 rfl (nI_1 _) (by decide) rfl ?_
          refine jr_goto (tgt := 6) cx dX5_productWithout_43 (by decide) ?_
          refine jr_pick (L' := [(0, .ref (E.1 2)), (1, .int (nI t)), (2, .int (nI l)), (3, .int x), (4, .long (pW (g (45 + t)) l x i)), (6, .int (nI (i + 1)))]) [1, 2, 3, 4, 5, 0] rfl ?_
          have e4 : (pW (g (45 + t)) l x i : Int64) = (pW (g (45 + t)) l x (i + 1)) := by simp only [pW, if_neg c14, if_neg n14, if_pos c20, if_pos n20]
          refine jr_loc (lc_n (lc_n (lc_n (lc_n (lc_l e4 (lc_n rfl)))))) ?_
          exact ih1 (i + 1) (by omega) (by omega)
        · have n20 : ¬ (i = l) := fun q => c20 ((nI_eq (a := i) (b := l) (by omega) (by omega)).mpr q)
          refine jr_lload cx dX5_productWithout_23 4 rfl ?_
          refine jr_iload_n cx dX5_productWithout_25 3 rfl rfl ?_
          refine jr_aload_n cx dX5_productWithout_26 0 rfl rfl ?_
          refine jr_get (f := 0) (v := .ref (E.1 34)) cx dX5_productWithout_27 (by decide) rfl rfl hinX5 (by decide) mf_11 rfl ?_
          refine jr_iload_n cx dX5_productWithout_30 1 rfl rfl ?_
          refine jr_aald cx dX5_productWithout_31 ⟨by decide, by decide⟩ t rfl (show t < 4 by omega) (45 + t) rfl ?_
          refine jr_iload cx dX5_productWithout_32 5 rfl ?_
          refine jr_iald cx dX5_productWithout_34 (is_xs (show t < 4 by omega)) i rfl (by rw [ml_xs (show t < 4 by omega)]; omega) ?_
          refine jr_isub cx dX5_productWithout_35 ?_
          refine jr_i2l cx dX5_productWithout_36 ?_
          refine jr_lmul cx dX5_productWithout_37 ?_
          refine jr_lstore (L' := [(4, .long ((pW (g (45 + t)) l x i) * (Int32.toInt64 (x - (g (45 + t) i))))), (0, .ref (E.1 2)), (1, .int (nI t)), (2, .int (nI l)), (3, .int x), (6, .int (nI i))]) cx dX5_productWithout_38 (by decide) rfl ?_
          refine jr_iinc (n := 5) (v := nI (i + 1)) (L' := [(6, .int (nI (i + 1))), (4, .long ((pW (g (45 + t)) l x i) * (Int32.toInt64 (x - (g (45 + t) i))))), (0, .ref (E.1 2)), (1, .int (nI t)), (2, .int (nI l)), (3, .int x)]) cx dX5_productWithout_40 rfl (nI_1 _) (by decide) rfl ?_
          refine jr_goto (tgt := 6) cx dX5_productWithout_43 (by decide) ?_
          refine jr_pick (L' := [(0, .ref (E.1 2)), (1, .int (nI t)), (2, .int (nI l)), (3, .int x), (4, .long ((pW (g (45 + t)) l x i) * (Int32.toInt64 (x - (g (45 + t) i))))), (6, .int (nI (i + 1)))]) [2, 3, 4, 5, 1, 0] rfl ?_
          have e4 : ((pW (g (45 + t)) l x i) * (Int32.toInt64 (x - (g (45 + t) i))) : Int64) = (pW (g (45 + t)) l x (i + 1)) := by simp only [pW, if_neg c14, if_neg n14, if_neg c20, if_neg n20]
          refine jr_loc (lc_n (lc_n (lc_n (lc_n (lc_l e4 (lc_n rfl)))))) ?_
          exact ih1 (i + 1) (by omega) (by omega)
  refine jr_pick (L' := [(0, .ref (E.1 2)), (1, .int (nI t)), (2, .int (nI l)), (3, .int x), (4, .long 1), (6, .int 0)]) [2, 3, 4, 5, 1, 0] rfl ?_
  have e4 : (1 : Int64) = (pW (g (45 + t)) l x 0) := by rfl
  have e6 : (0 : Int32) = (nI 0) := by rfl
  refine jr_loc (lc_n (lc_n (lc_n (lc_n (lc_l e4 (lc_i e6 rfl)))))) ?_
  exact key1 (n + 1) 0 (by omega) (by omega)
set_option maxHeartbeats 4000000 in
set_option maxRecDepth 100000 in
theorem c_X5_commonLower (E : mm_E) (g : mm_I) (h : mm_L) (t : Nat) (ht : t < 4) (n : Nat) (hn : n ≤ 4) (hs : g 10 t = nI n) (hb : ∀ i, i ≤ n → (cLw (g (45 + t)) n i).toInt.natAbs < 2 ^ 63) (hp : ∀ i, i < n → (pW (g (45 + t)) i (g (45 + t) i) n).toInt.natAbs < 2 ^ 63) : Cl E yX5_commonLower wsX5_commonLower 3 78 [.ref (E.1 2), .int (nI t)] g h (cLw (g (45 + t)) n n) g h := by
  refine ci_l (bytes := cX5_commonLower) (maxL := 5) (by decide) rfl (Nat.le_of_ble_eq_true rfl) (fun X cx hR => ?_)
  change Cx E X cX5_commonLower RX5 wsX5_commonLower 5 3 78 at cx
  change JJ E X g h 0 [(0, .ref (E.1 2)), (1, .int (nI t))] []
  have hinX5 : ∀ w ∈ u_ws RX5 TX5 3, w ∈ wsX5_commonLower := by decide +kernel
  have mf_19 : Cond.fieldLink RX5 19 (TX5 2).1 (TX5 2).2.1 (TX5 2).2.2.1 ∈ wsX5_commonLower := by decide +kernel
  have mf_11 : Cond.fieldLink RX5 11 (TX5 0).1 (TX5 0).2.1 (TX5 0).2.2.1 ∈ wsX5_commonLower := by decide +kernel
  have mini_X6_leastMultiple : Cond.initialized yX6_leastMultiple.cls ∈ wsX5_commonLower := by decide +kernel
  have msta_X6_leastMultiple : Cond.static yX6_leastMultiple ∈ wsX5_commonLower := by decide +kernel
  refine jr_lconst (v := 1) cx dX5_commonLower_0 (by decide) ?_
  refine jr_lstore_n (L' := [(2, .long 1), (0, .ref (E.1 2)), (1, .int (nI t))]) cx dX5_commonLower_1 rfl (by decide) rfl ?_
  refine jr_iconst (v := 0) cx dX5_commonLower_2 (by decide) ?_
  refine jr_istore (L' := [(4, .int 0), (2, .long 1), (0, .ref (E.1 2)), (1, .int (nI t))]) cx dX5_commonLower_3 (by decide) rfl ?_
  have key1 : ∀ (fu1 : Nat) (i : Nat), n + 1 ≤ i + fu1 → (i ≤ n) → JJ E X g h 5 [(0, .ref (E.1 2)), (1, .int (nI t)), (2, .long (cLw (g (45 + t)) n i)), (4, .int (nI i))] [] := by
    intro fu1
    induction fu1 with
    | zero => intro i hfu1 h1; exfalso; omega
    | succ fu1 ih1 =>
      intro i hfu1 h1
      refine jr_iload cx dX5_commonLower_5 3 rfl ?_
      refine jr_aload_n cx dX5_commonLower_7 0 rfl rfl ?_
      refine jr_get (f := 2) (v := .ref (E.1 10)) cx dX5_commonLower_8 (by decide) rfl rfl hinX5 (by decide) mf_19 rfl ?_
      refine jr_iload_n cx dX5_commonLower_11 1 rfl rfl ?_
      refine jr_iald cx dX5_commonLower_12 (Or.inl ⟨by decide, by decide⟩) t rfl (show _ < 4 by omega) ?_
      refine jr_top hs ?_
      refine jr_icmp_ge (tgt := 43) cx dX5_commonLower_13 (by decide) (fun c13 => ?_) (fun c13 => ?_)
      · have n13 : n ≤ i := (nI_leI (a := n) (b := i) (by omega) (by omega)).mp c13
        refine jr_lload_n cx dX5_commonLower_43 2 rfl rfl ?_
        exact jr_rl (by rw [show i = n by omega]) (by rfl) (by rfl) (hR 44 _ dX5_commonLower_44)
      · have n13 : ¬ (n ≤ i) := fun q => c13 ((nI_leI (a := n) (b := i) (by omega) (by omega)).mpr q)
        refine jr_lload_n cx dX5_commonLower_16 2 rfl rfl ?_
        refine jr_aload_n cx dX5_commonLower_17 0 rfl rfl ?_
        refine jr_iload_n cx dX5_commonLower_18 1 rfl rfl ?_
        refine jr_iload cx dX5_commonLower_19 3 rfl ?_
        refine jr_aload_n cx dX5_commonLower_21 0 rfl rfl ?_
        refine jr_get (f := 0) (v := .ref (E.1 34)) cx dX5_commonLower_22 (by decide) rfl rfl hinX5 (by decide) mf_11 rfl ?_
        refine jr_iload_n cx dX5_commonLower_25 1 rfl rfl ?_
        refine jr_aald cx dX5_commonLower_26 ⟨by decide, by decide⟩ t rfl (show t < 4 by omega) (45 + t) rfl ?_
        refine jr_iload cx dX5_commonLower_27 3 rfl ?_
        refine jr_iald cx dX5_commonLower_29 (is_xs (show t < 4 by omega)) i rfl (by rw [ml_xs (show t < 4 by omega)]; omega) ?_
        refine jr_vl [.int (nI t), .int (nI i), .int (g (45 + t) i)] 3 cx dX5_commonLower_30 (c_X5_productWithout E g h t (by omega) n hn hs i (by omega) (g (45 + t) i)) (by decide) rfl rfl gX5_commonLower_X5_productWithout rfl (by decide +kernel) ⟨Nat.le_of_ble_eq_true rfl, Nat.le_of_ble_eq_true rfl⟩ rfl rfl (Nat.le_of_ble_eq_true rfl) ?_
        refine jr_nl (host := RX6) [.long (cLw (g (45 + t)) n i), .long (pW (g (45 + t)) i (g (45 + t) i) n)] 2 cx dX5_commonLower_33 (c_X6_leastMultiple E g h (cLw (g (45 + t)) n i) (pW (g (45 + t)) i (g (45 + t) i) n) (hb i h1) (hp i (by omega))) gX5_commonLower_X6_leastMultiple_n27 rfl (fun U hN => hN.2.2.2.2.2.2) mini_X6_leastMultiple msta_X6_leastMultiple (by decide +kernel) ⟨Nat.le_of_ble_eq_true rfl, Nat.le_of_ble_eq_true rfl⟩ rfl rfl (Nat.le_of_ble_eq_true rfl) ?_
        refine jr_lstore_n (L' := [(2, .long (lcmL (cLw (g (45 + t)) n i) (pW (g (45 + t)) i (g (45 + t) i) n))), (0, .ref (E.1 2)), (1, .int (nI t)), (4, .int (nI i))]) cx dX5_commonLower_36 rfl (by decide) rfl ?_
        refine jr_iinc (n := 3) (v := nI (i + 1)) (L' := [(4, .int (nI (i + 1))), (2, .long (lcmL (cLw (g (45 + t)) n i) (pW (g (45 + t)) i (g (45 + t) i) n))), (0, .ref (E.1 2)), (1, .int (nI t))]) cx dX5_commonLower_37 rfl (nI_1 _) (by decide) rfl ?_
        refine jr_goto (tgt := 5) cx dX5_commonLower_40 (by decide) ?_
        refine jr_pick (L' := [(0, .ref (E.1 2)), (1, .int (nI t)), (2, .long (lcmL (cLw (g (45 + t)) n i) (pW (g (45 + t)) i (g (45 + t) i) n))), (4, .int (nI (i + 1)))]) [2, 3, 1, 0] rfl ?_
        have e2 : (lcmL (cLw (g (45 + t)) n i) (pW (g (45 + t)) i (g (45 + t) i) n) : Int64) = (cLw (g (45 + t)) n (i + 1)) := by rfl
        refine jr_loc (lc_n (lc_n (lc_l e2 (lc_n rfl)))) ?_
        exact ih1 (i + 1) (by omega) (by omega)
  refine jr_pick (L' := [(0, .ref (E.1 2)), (1, .int (nI t)), (2, .long 1), (4, .int 0)]) [2, 3, 1, 0] rfl ?_
  have e2 : (1 : Int64) = (cLw (g (45 + t)) n 0) := by rfl
  have e4 : (0 : Int32) = (nI 0) := by rfl
  refine jr_loc (lc_n (lc_n (lc_l e2 (lc_i e4 rfl)))) ?_
  exact key1 (n + 1) 0 (by omega) (by omega)
set_option maxHeartbeats 4000000 in
set_option maxRecDepth 100000 in
theorem c_X5_worthAt (E : mm_E) (g : mm_I) (h : mm_L) (t : Nat) (ht : t < 4) (n : Nat) (hn : n ≤ 4) (hs : g 10 t = nI n) (x : Int32) (s : Int64) : Cl E yX5_worthAt wsX5_worthAt 1 26 [.ref (E.1 2), .int (nI t), .int x, .long s] g h (wAt (g (45 + t)) (g (49 + t)) x s n n) g h := by
  refine ci_l (bytes := cX5_worthAt) (maxL := 10) (by decide) rfl (Nat.le_of_ble_eq_true rfl) (fun X cx hR => ?_)
  change Cx E X cX5_worthAt RX5 wsX5_worthAt 10 1 26 at cx
  change JJ E X g h 0 [(0, .ref (E.1 2)), (1, .int (nI t)), (2, .int x), (3, .long s)] []
  have hinX5 : ∀ w ∈ u_ws RX5 TX5 3, w ∈ wsX5_worthAt := by decide +kernel
  have mf_19 : Cond.fieldLink RX5 19 (TX5 2).1 (TX5 2).2.1 (TX5 2).2.2.1 ∈ wsX5_worthAt := by decide +kernel
  have mf_11 : Cond.fieldLink RX5 11 (TX5 0).1 (TX5 0).2.1 (TX5 0).2.2.1 ∈ wsX5_worthAt := by decide +kernel
  have mf_16 : Cond.fieldLink RX5 16 (TX5 1).1 (TX5 1).2.1 (TX5 1).2.2.1 ∈ wsX5_worthAt := by decide +kernel
  refine jr_lconst (v := 0) cx dX5_worthAt_0 (by decide) ?_
  refine jr_lstore (L' := [(5, .long 0), (0, .ref (E.1 2)), (1, .int (nI t)), (2, .int x), (3, .long s)]) cx dX5_worthAt_1 (by decide) rfl ?_
  refine jr_iconst (v := 0) cx dX5_worthAt_3 (by decide) ?_
  refine jr_istore (L' := [(7, .int 0), (5, .long 0), (0, .ref (E.1 2)), (1, .int (nI t)), (2, .int x), (3, .long s)]) cx dX5_worthAt_4 (by decide) rfl ?_
  have key1 : ∀ (fu1 : Nat) (i : Nat), n + 1 ≤ i + fu1 → (i ≤ n) → JJ E X g h 6 [(0, .ref (E.1 2)), (1, .int (nI t)), (2, .int x), (3, .long s), (5, .long (wAt (g (45 + t)) (g (49 + t)) x s n i)), (7, .int (nI i))] [] := by
    intro fu1
    induction fu1 with
    | zero => intro i hfu1 h1; exfalso; omega
    | succ fu1 ih1 =>
      intro i hfu1 h1
      refine jr_iload cx dX5_worthAt_6 5 rfl ?_
      refine jr_aload_n cx dX5_worthAt_8 0 rfl rfl ?_
      refine jr_get (f := 2) (v := .ref (E.1 10)) cx dX5_worthAt_9 (by decide) rfl rfl hinX5 (by decide) mf_19 rfl ?_
      refine jr_iload_n cx dX5_worthAt_12 1 rfl rfl ?_
      refine jr_iald cx dX5_worthAt_13 (Or.inl ⟨by decide, by decide⟩) t rfl (show _ < 4 by omega) ?_
      refine jr_top hs ?_
      refine jr_icmp_ge (tgt := 77) cx dX5_worthAt_14 (by decide) (fun c14 => ?_) (fun c14 => ?_)
      · have n14 : n ≤ i := (nI_leI (a := n) (b := i) (by omega) (by omega)).mp c14
        refine jr_lload cx dX5_worthAt_77 4 rfl ?_
        exact jr_rl (by rw [show i = n by omega]) (by rfl) (by rfl) (hR 79 _ dX5_worthAt_79)
      · have n14 : ¬ (n ≤ i) := fun q => c14 ((nI_leI (a := n) (b := i) (by omega) (by omega)).mpr q)
        refine jr_aload_n cx dX5_worthAt_17 0 rfl rfl ?_
        refine jr_iload_n cx dX5_worthAt_18 1 rfl rfl ?_
        refine jr_iload cx dX5_worthAt_19 5 rfl ?_
        refine jr_aload_n cx dX5_worthAt_21 0 rfl rfl ?_
        refine jr_get (f := 0) (v := .ref (E.1 34)) cx dX5_worthAt_22 (by decide) rfl rfl hinX5 (by decide) mf_11 rfl ?_
        refine jr_iload_n cx dX5_worthAt_25 1 rfl rfl ?_
        refine jr_aald cx dX5_worthAt_26 ⟨by decide, by decide⟩ t rfl (show t < 4 by omega) (45 + t) rfl ?_
        refine jr_iload cx dX5_worthAt_27 5 rfl ?_
        refine jr_iald cx dX5_worthAt_29 (is_xs (show t < 4 by omega)) i rfl (by rw [ml_xs (show t < 4 by omega)]; omega) ?_
        refine jr_vl [.int (nI t), .int (nI i), .int (g (45 + t) i)] 3 cx dX5_worthAt_30 (c_X5_productWithout E g h t (by omega) n hn hs i (by omega) (g (45 + t) i)) (by decide) rfl rfl gX5_worthAt_X5_productWithout rfl (by decide +kernel) ⟨Nat.le_of_ble_eq_true rfl, Nat.le_of_ble_eq_true rfl⟩ rfl rfl (Nat.le_of_ble_eq_true rfl) ?_
        refine jr_lstore (L' := [(8, .long (pW (g (45 + t)) i (g (45 + t) i) n)), (0, .ref (E.1 2)), (1, .int (nI t)), (2, .int x), (3, .long s), (5, .long (wAt (g (45 + t)) (g (49 + t)) x s n i)), (7, .int (nI i))]) cx dX5_worthAt_33 (by decide) rfl ?_
        refine jr_lload cx dX5_worthAt_35 0 rfl ?_
        refine jr_lconst (v := 0) cx dX5_worthAt_37 (by decide) ?_
        refine jr_lcmp cx dX5_worthAt_38 ?_
        refine jr_lif_eq (tgt := 71) cx dX5_worthAt_39 (by decide) (fun c39 => ?_) (fun c39 => ?_)
        · refine jr_iinc (n := 6) (v := nI (i + 1)) (L' := [(7, .int (nI (i + 1))), (8, .long (pW (g (45 + t)) i (g (45 + t) i) n)), (0, .ref (E.1 2)), (1, .int (nI t)), (2, .int x), (3, .long s), (5, .long (wAt (g (45 + t)) (g (49 + t)) x s n i))]) cx dX5_worthAt_71 rfl (nI_1 _) (by decide) rfl ?_
          refine jr_goto (tgt := 6) cx dX5_worthAt_74 (by decide) ?_
          refine jr_pick (L' := [(0, .ref (E.1 2)), (1, .int (nI t)), (2, .int x), (3, .long s), (5, .long (wAt (g (45 + t)) (g (49 + t)) x s n i)), (7, .int (nI (i + 1)))]) [2, 3, 4, 5, 6, 0] rfl ?_
          have e5 : (wAt (g (45 + t)) (g (49 + t)) x s n i : Int64) = (wAt (g (45 + t)) (g (49 + t)) x s n (i + 1)) := by simp only [wAt, if_neg c14, if_neg n14, if_pos c39]
          refine jr_loc (lc_n (lc_n (lc_n (lc_n (lc_l e5 (lc_n rfl)))))) ?_
          exact ih1 (i + 1) (by omega) (by omega)
        · refine jr_lload cx dX5_worthAt_42 5 rfl ?_
          refine jr_lload_n cx dX5_worthAt_44 4 rfl rfl ?_
          refine jr_lload cx dX5_worthAt_45 0 rfl ?_
          refine jr_ldiv cx dX5_worthAt_47 c39 ?_
          refine jr_aload_n cx dX5_worthAt_48 1 rfl rfl ?_
          refine jr_iload_n cx dX5_worthAt_49 2 rfl rfl ?_
          refine jr_iload cx dX5_worthAt_50 6 rfl ?_
          refine jr_iload_n cx dX5_worthAt_52 3 rfl rfl ?_
          refine jr_vl [.int (nI t), .int (nI i), .int x] 3 cx dX5_worthAt_53 (c_X5_productWithout E g h t (by omega) n hn hs i (by omega) x) (by decide) rfl rfl gX5_worthAt_X5_productWithout rfl (by decide +kernel) ⟨Nat.le_of_ble_eq_true rfl, Nat.le_of_ble_eq_true rfl⟩ rfl rfl (Nat.le_of_ble_eq_true rfl) ?_
          refine jr_lmul cx dX5_worthAt_56 ?_
          refine jr_aload_n cx dX5_worthAt_57 1 rfl rfl ?_
          refine jr_get (f := 1) (v := .ref (E.1 35)) cx dX5_worthAt_58 (by decide) rfl rfl hinX5 (by decide) mf_16 rfl ?_
          refine jr_iload_n cx dX5_worthAt_61 2 rfl rfl ?_
          refine jr_aald cx dX5_worthAt_62 ⟨by decide, by decide⟩ t rfl (show t < 4 by omega) (49 + t) rfl ?_
          refine jr_iload cx dX5_worthAt_63 6 rfl ?_
          refine jr_iald cx dX5_worthAt_65 (is_ys (show t < 4 by omega)) i rfl (by rw [ml_ys (show t < 4 by omega)]; omega) ?_
          refine jr_i2l cx dX5_worthAt_66 ?_
          refine jr_lmul cx dX5_worthAt_67 ?_
          refine jr_ladd cx dX5_worthAt_68 ?_
          refine jr_lstore (L' := [(5, .long ((wAt (g (45 + t)) (g (49 + t)) x s n i) + (((s / (pW (g (45 + t)) i (g (45 + t) i) n)) * (pW (g (45 + t)) i x n)) * (Int32.toInt64 (g (49 + t) i))))), (8, .long (pW (g (45 + t)) i (g (45 + t) i) n)), (0, .ref (E.1 2)), (1, .int (nI t)), (2, .int x), (3, .long s), (7, .int (nI i))]) cx dX5_worthAt_69 (by decide) rfl ?_
          refine jr_iinc (n := 6) (v := nI (i + 1)) (L' := [(7, .int (nI (i + 1))), (5, .long ((wAt (g (45 + t)) (g (49 + t)) x s n i) + (((s / (pW (g (45 + t)) i (g (45 + t) i) n)) * (pW (g (45 + t)) i x n)) * (Int32.toInt64 (g (49 + t) i))))), (8, .long (pW (g (45 + t)) i (g (45 + t) i) n)), (0, .ref (E.1 2)), (1, .int (nI t)), (2, .int x), (3, .long s)]) cx dX5_worthAt_71 rfl (nI_1 _) (by decide) rfl ?_
          refine jr_goto (tgt := 6) cx dX5_worthAt_74 (by decide) ?_
          refine jr_pick (L' := [(0, .ref (E.1 2)), (1, .int (nI t)), (2, .int x), (3, .long s), (5, .long ((wAt (g (45 + t)) (g (49 + t)) x s n i) + (((s / (pW (g (45 + t)) i (g (45 + t) i) n)) * (pW (g (45 + t)) i x n)) * (Int32.toInt64 (g (49 + t) i))))), (7, .int (nI (i + 1)))]) [3, 4, 5, 6, 1, 0] rfl ?_
          have e5 : ((wAt (g (45 + t)) (g (49 + t)) x s n i) + (((s / (pW (g (45 + t)) i (g (45 + t) i) n)) * (pW (g (45 + t)) i x n)) * (Int32.toInt64 (g (49 + t) i))) : Int64) = (wAt (g (45 + t)) (g (49 + t)) x s n (i + 1)) := by simp only [wAt, if_neg c14, if_neg n14, if_neg c39]
          refine jr_loc (lc_n (lc_n (lc_n (lc_n (lc_l e5 (lc_n rfl)))))) ?_
          exact ih1 (i + 1) (by omega) (by omega)
  refine jr_pick (L' := [(0, .ref (E.1 2)), (1, .int (nI t)), (2, .int x), (3, .long s), (5, .long 0), (7, .int 0)]) [2, 3, 4, 5, 1, 0] rfl ?_
  have e5 : (0 : Int64) = (wAt (g (45 + t)) (g (49 + t)) x s n 0) := by rfl
  have e7 : (0 : Int32) = (nI 0) := by rfl
  refine jr_loc (lc_n (lc_n (lc_n (lc_n (lc_l e5 (lc_i e7 rfl)))))) ?_
  exact key1 (n + 1) 0 (by omega) (by omega)
