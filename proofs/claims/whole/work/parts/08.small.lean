set_option maxHeartbeats 4000000 in
set_option maxRecDepth 100000 in
theorem c_X6_isBetween (E : mm_E) (g : mm_I) (h : mm_L) (v lo hi : Int32) : Ci E yX6_isBetween wsX6_isBetween 0 0 [.int v, .int lo, .int hi] g h (bI (¬ v < lo ∧ ¬ hi < v)) g h := by
  refine ci_z (bytes := cX6_isBetween) (maxL := 3) (by decide) rfl (Nat.le_of_ble_eq_true rfl) (bI_01 _) (fun X cx hR => ?_)
  change Cx E X cX6_isBetween RX6 wsX6_isBetween 3 0 0 at cx
  change JJ E X g h 0 [(0, .int v), (1, .int lo), (2, .int hi)] []
  refine jr_iload_n cx dX6_isBetween_0 0 rfl rfl ?_
  refine jr_iload_n cx dX6_isBetween_1 1 rfl rfl ?_
  refine jr_icmp_lt (tgt := 14) cx dX6_isBetween_2 (by decide) (fun c2 => ?_) (fun c2 => ?_)
  · refine jr_iconst (v := 0) cx dX6_isBetween_14 (by decide) ?_
    exact jr_ri (by simp [bI, c2]) (by rfl) (by rfl) (hR 15 _ dX6_isBetween_15)
  · refine jr_iload_n cx dX6_isBetween_5 0 rfl rfl ?_
    refine jr_iload_n cx dX6_isBetween_6 2 rfl rfl ?_
    refine jr_icmp_gt (tgt := 14) cx dX6_isBetween_7 (by decide) (fun c7 => ?_) (fun c7 => ?_)
    · refine jr_iconst (v := 0) cx dX6_isBetween_14 (by decide) ?_
      exact jr_ri (by simp [bI, c2, c7]) (by rfl) (by rfl) (hR 15 _ dX6_isBetween_15)
    · refine jr_iconst (v := 1) cx dX6_isBetween_10 (by decide) ?_
      refine jr_goto (tgt := 15) cx dX6_isBetween_11 (by decide) ?_
      exact jr_ri (by simp [bI, c2, c7]) (by rfl) (by rfl) (hR 15 _ dX6_isBetween_15)
set_option maxHeartbeats 4000000 in
set_option maxRecDepth 100000 in
theorem c_X7_in (E : mm_E) (g : mm_I) (h : mm_L) (v lo hi : Int32) : Ci E yX7_in wsX7_in 0 0 [.int v, .int lo, .int hi] g h (bI (¬ v < lo ∧ ¬ hi < v)) g h := by
  refine ci_z (bytes := cX7_in) (maxL := 3) (by decide) rfl (Nat.le_of_ble_eq_true rfl) (bI_01 _) (fun X cx hR => ?_)
  change Cx E X cX7_in RX7 wsX7_in 3 0 0 at cx
  change JJ E X g h 0 [(0, .int v), (1, .int lo), (2, .int hi)] []
  refine jr_iload_n cx dX7_in_0 0 rfl rfl ?_
  refine jr_iload_n cx dX7_in_1 1 rfl rfl ?_
  refine jr_icmp_lt (tgt := 14) cx dX7_in_2 (by decide) (fun c2 => ?_) (fun c2 => ?_)
  · refine jr_iconst (v := 0) cx dX7_in_14 (by decide) ?_
    exact jr_ri (by simp [bI, c2]) (by rfl) (by rfl) (hR 15 _ dX7_in_15)
  · refine jr_iload_n cx dX7_in_5 0 rfl rfl ?_
    refine jr_iload_n cx dX7_in_6 2 rfl rfl ?_
    refine jr_icmp_gt (tgt := 14) cx dX7_in_7 (by decide) (fun c7 => ?_) (fun c7 => ?_)
    · refine jr_iconst (v := 0) cx dX7_in_14 (by decide) ?_
      exact jr_ri (by simp [bI, c2, c7]) (by rfl) (by rfl) (hR 15 _ dX7_in_15)
    · refine jr_iconst (v := 1) cx dX7_in_10 (by decide) ?_
      refine jr_goto (tgt := 15) cx dX7_in_11 (by decide) ?_
      exact jr_ri (by simp [bI, c2, c7]) (by rfl) (by rfl) (hR 15 _ dX7_in_15)
set_option maxHeartbeats 4000000 in
set_option maxRecDepth 100000 in
theorem c_X6_isRow (E : mm_E) (g : mm_I) (h : mm_L) (v : Int32) : Ci E yX6_isRow wsX6_isRow 1 22 [.int v] g h (bI (¬ v < 0 ∧ ¬ 5 < v)) g h := by
  refine ci_z (bytes := cX6_isRow) (maxL := 1) (by decide) rfl (Nat.le_of_ble_eq_true rfl) (bI_01 _) (fun X cx hR => ?_)
  change Cx E X cX6_isRow RX6 wsX6_isRow 1 1 22 at cx
  change JJ E X g h 0 [(0, .int v)] []
  refine jr_iload_n cx dX6_isRow_0 0 rfl rfl ?_
  refine jr_iconst (v := 0) cx dX6_isRow_1 (by decide) ?_
  refine jr_iconst (v := 5) cx dX6_isRow_2 (by decide) ?_
  refine jr_si [.int v, .int 0, .int 5] 3 cx dX6_isRow_3 (c_X6_isBetween E g h v 0 5) gX6_isRow_X6_isBetween rfl (by decide +kernel) ⟨Nat.le_of_ble_eq_true rfl, Nat.le_of_ble_eq_true rfl⟩ rfl rfl (Nat.le_of_ble_eq_true rfl) ?_
  exact jr_ri (by rfl) (by rfl) (by rfl) (hR 6 _ dX6_isRow_6)
set_option maxHeartbeats 4000000 in
set_option maxRecDepth 100000 in
theorem c_X6_isTable (E : mm_E) (g : mm_I) (h : mm_L) (v : Int32) : Ci E yX6_isTable wsX6_isTable 1 22 [.int v] g h (bI (¬ v < 0 ∧ ¬ 3 < v)) g h := by
  refine ci_z (bytes := cX6_isTable) (maxL := 1) (by decide) rfl (Nat.le_of_ble_eq_true rfl) (bI_01 _) (fun X cx hR => ?_)
  change Cx E X cX6_isTable RX6 wsX6_isTable 1 1 22 at cx
  change JJ E X g h 0 [(0, .int v)] []
  refine jr_iload_n cx dX6_isTable_0 0 rfl rfl ?_
  refine jr_iconst (v := 0) cx dX6_isTable_1 (by decide) ?_
  refine jr_iconst (v := 3) cx dX6_isTable_2 (by decide) ?_
  refine jr_si [.int v, .int 0, .int 3] 3 cx dX6_isTable_3 (c_X6_isBetween E g h v 0 3) gX6_isTable_X6_isBetween rfl (by decide +kernel) ⟨Nat.le_of_ble_eq_true rfl, Nat.le_of_ble_eq_true rfl⟩ rfl rfl (Nat.le_of_ble_eq_true rfl) ?_
  exact jr_ri (by rfl) (by rfl) (by rfl) (hR 6 _ dX6_isTable_6)
set_option maxHeartbeats 4000000 in
set_option maxRecDepth 100000 in
theorem c_X6_isBath (E : mm_E) (g : mm_I) (h : mm_L) (v : Int32) : Ci E yX6_isBath wsX6_isBath 1 22 [.int v] g h (bI (¬ v < 0 ∧ ¬ 7 < v)) g h := by
  refine ci_z (bytes := cX6_isBath) (maxL := 1) (by decide) rfl (Nat.le_of_ble_eq_true rfl) (bI_01 _) (fun X cx hR => ?_)
  change Cx E X cX6_isBath RX6 wsX6_isBath 1 1 22 at cx
  change JJ E X g h 0 [(0, .int v)] []
  refine jr_iload_n cx dX6_isBath_0 0 rfl rfl ?_
  refine jr_iconst (v := 0) cx dX6_isBath_1 (by decide) ?_
  refine jr_bipush (v := 7) cx dX6_isBath_2 (by decide) ?_
  refine jr_si [.int v, .int 0, .int 7] 3 cx dX6_isBath_4 (c_X6_isBetween E g h v 0 7) gX6_isBath_X6_isBetween rfl (by decide +kernel) ⟨Nat.le_of_ble_eq_true rfl, Nat.le_of_ble_eq_true rfl⟩ rfl rfl (Nat.le_of_ble_eq_true rfl) ?_
  exact jr_ri (by rfl) (by rfl) (by rfl) (hR 7 _ dX6_isBath_7)
set_option maxHeartbeats 4000000 in
set_option maxRecDepth 100000 in
theorem c_X6_isDay (E : mm_E) (g : mm_I) (h : mm_L) (v : Int32) : Ci E yX6_isDay wsX6_isDay 1 22 [.int v] g h (bI (¬ v < 0 ∧ ¬ 100000 < v)) g h := by
  refine ci_z (bytes := cX6_isDay) (maxL := 1) (by decide) rfl (Nat.le_of_ble_eq_true rfl) (bI_01 _) (fun X cx hR => ?_)
  change Cx E X cX6_isDay RX6 wsX6_isDay 1 1 22 at cx
  change JJ E X g h 0 [(0, .int v)] []
  have mc_75 : Cond.constant RX6 75 100000 ∈ wsX6_isDay := by decide +kernel
  refine jr_iload_n cx dX6_isDay_0 0 rfl rfl ?_
  refine jr_iconst (v := 0) cx dX6_isDay_1 (by decide) ?_
  refine jr_ldc cx dX6_isDay_2 mc_75 ?_
  refine jr_si [.int v, .int 0, .int 100000] 3 cx dX6_isDay_4 (c_X6_isBetween E g h v 0 100000) gX6_isDay_X6_isBetween rfl (by decide +kernel) ⟨Nat.le_of_ble_eq_true rfl, Nat.le_of_ble_eq_true rfl⟩ rfl rfl (Nat.le_of_ble_eq_true rfl) ?_
  exact jr_ri (by rfl) (by rfl) (by rfl) (hR 7 _ dX6_isDay_7)
set_option maxHeartbeats 4000000 in
set_option maxRecDepth 100000 in
theorem c_X6_isLab (E : mm_E) (g : mm_I) (h : mm_L) (v : Int32) : Ci E yX6_isLab wsX6_isLab 1 22 [.int v] g h (bI (¬ v < 0 ∧ ¬ 5 < v)) g h := by
  refine ci_z (bytes := cX6_isLab) (maxL := 1) (by decide) rfl (Nat.le_of_ble_eq_true rfl) (bI_01 _) (fun X cx hR => ?_)
  change Cx E X cX6_isLab RX6 wsX6_isLab 1 1 22 at cx
  change JJ E X g h 0 [(0, .int v)] []
  refine jr_iload_n cx dX6_isLab_0 0 rfl rfl ?_
  refine jr_iconst (v := 0) cx dX6_isLab_1 (by decide) ?_
  refine jr_iconst (v := 5) cx dX6_isLab_2 (by decide) ?_
  refine jr_si [.int v, .int 0, .int 5] 3 cx dX6_isLab_3 (c_X6_isBetween E g h v 0 5) gX6_isLab_X6_isBetween rfl (by decide +kernel) ⟨Nat.le_of_ble_eq_true rfl, Nat.le_of_ble_eq_true rfl⟩ rfl rfl (Nat.le_of_ble_eq_true rfl) ?_
  exact jr_ri (by rfl) (by rfl) (by rfl) (hR 6 _ dX6_isLab_6)
set_option maxHeartbeats 4000000 in
set_option maxRecDepth 100000 in
theorem c_X7_isRow (E : mm_E) (g : mm_I) (h : mm_L) (v : Int32) : Ci E yX7_isRow wsX7_isRow 1 22 [.int v] g h (bI (¬ v < 0 ∧ ¬ 5 < v)) g h := by
  refine ci_z (bytes := cX7_isRow) (maxL := 1) (by decide) rfl (Nat.le_of_ble_eq_true rfl) (bI_01 _) (fun X cx hR => ?_)
  change Cx E X cX7_isRow RX7 wsX7_isRow 1 1 22 at cx
  change JJ E X g h 0 [(0, .int v)] []
  refine jr_iload_n cx dX7_isRow_0 0 rfl rfl ?_
  refine jr_iconst (v := 0) cx dX7_isRow_1 (by decide) ?_
  refine jr_iconst (v := 5) cx dX7_isRow_2 (by decide) ?_
  refine jr_si [.int v, .int 0, .int 5] 3 cx dX7_isRow_3 (c_X7_in E g h v 0 5) gX7_isRow_X7_in rfl (by decide +kernel) ⟨Nat.le_of_ble_eq_true rfl, Nat.le_of_ble_eq_true rfl⟩ rfl rfl (Nat.le_of_ble_eq_true rfl) ?_
  exact jr_ri (by rfl) (by rfl) (by rfl) (hR 6 _ dX7_isRow_6)
set_option maxHeartbeats 4000000 in
set_option maxRecDepth 100000 in
theorem c_X7_isTable (E : mm_E) (g : mm_I) (h : mm_L) (v : Int32) : Ci E yX7_isTable wsX7_isTable 1 22 [.int v] g h (bI (¬ v < 0 ∧ ¬ 3 < v)) g h := by
  refine ci_z (bytes := cX7_isTable) (maxL := 1) (by decide) rfl (Nat.le_of_ble_eq_true rfl) (bI_01 _) (fun X cx hR => ?_)
  change Cx E X cX7_isTable RX7 wsX7_isTable 1 1 22 at cx
  change JJ E X g h 0 [(0, .int v)] []
  refine jr_iload_n cx dX7_isTable_0 0 rfl rfl ?_
  refine jr_iconst (v := 0) cx dX7_isTable_1 (by decide) ?_
  refine jr_iconst (v := 3) cx dX7_isTable_2 (by decide) ?_
  refine jr_si [.int v, .int 0, .int 3] 3 cx dX7_isTable_3 (c_X7_in E g h v 0 3) gX7_isTable_X7_in rfl (by decide +kernel) ⟨Nat.le_of_ble_eq_true rfl, Nat.le_of_ble_eq_true rfl⟩ rfl rfl (Nat.le_of_ble_eq_true rfl) ?_
  exact jr_ri (by rfl) (by rfl) (by rfl) (hR 6 _ dX7_isTable_6)
set_option maxHeartbeats 4000000 in
set_option maxRecDepth 100000 in
theorem c_X7_isDay (E : mm_E) (g : mm_I) (h : mm_L) (v : Int32) : Ci E yX7_isDay wsX7_isDay 1 22 [.int v] g h (bI (¬ v < 0 ∧ ¬ 100000 < v)) g h := by
  refine ci_z (bytes := cX7_isDay) (maxL := 1) (by decide) rfl (Nat.le_of_ble_eq_true rfl) (bI_01 _) (fun X cx hR => ?_)
  change Cx E X cX7_isDay RX7 wsX7_isDay 1 1 22 at cx
  change JJ E X g h 0 [(0, .int v)] []
  have mc_106 : Cond.constant RX7 106 100000 ∈ wsX7_isDay := by decide +kernel
  refine jr_iload_n cx dX7_isDay_0 0 rfl rfl ?_
  refine jr_iconst (v := 0) cx dX7_isDay_1 (by decide) ?_
  refine jr_ldc cx dX7_isDay_2 mc_106 ?_
  refine jr_si [.int v, .int 0, .int 100000] 3 cx dX7_isDay_4 (c_X7_in E g h v 0 100000) gX7_isDay_X7_in rfl (by decide +kernel) ⟨Nat.le_of_ble_eq_true rfl, Nat.le_of_ble_eq_true rfl⟩ rfl rfl (Nat.le_of_ble_eq_true rfl) ?_
  exact jr_ri (by rfl) (by rfl) (by rfl) (hR 7 _ dX7_isDay_7)
set_option maxHeartbeats 4000000 in
set_option maxRecDepth 100000 in
theorem c_X7_isLab (E : mm_E) (g : mm_I) (h : mm_L) (v : Int32) : Ci E yX7_isLab wsX7_isLab 1 22 [.int v] g h (bI (¬ v < 0 ∧ ¬ 5 < v)) g h := by
  refine ci_z (bytes := cX7_isLab) (maxL := 1) (by decide) rfl (Nat.le_of_ble_eq_true rfl) (bI_01 _) (fun X cx hR => ?_)
  change Cx E X cX7_isLab RX7 wsX7_isLab 1 1 22 at cx
  change JJ E X g h 0 [(0, .int v)] []
  refine jr_iload_n cx dX7_isLab_0 0 rfl rfl ?_
  refine jr_iconst (v := 0) cx dX7_isLab_1 (by decide) ?_
  refine jr_iconst (v := 5) cx dX7_isLab_2 (by decide) ?_
  refine jr_si [.int v, .int 0, .int 5] 3 cx dX7_isLab_3 (c_X7_in E g h v 0 5) gX7_isLab_X7_in rfl (by decide +kernel) ⟨Nat.le_of_ble_eq_true rfl, Nat.le_of_ble_eq_true rfl⟩ rfl rfl (Nat.le_of_ble_eq_true rfl) ?_
  exact jr_ri (by rfl) (by rfl) (by rfl) (hR 6 _ dX7_isLab_6)
set_option maxHeartbeats 4000000 in
set_option maxRecDepth 100000 in
theorem c_X6_isWithin (E : mm_E) (g : mm_I) (h : mm_L) (v m : Int32) : Ci E yX6_isWithin wsX6_isWithin 1 22 [.int v, .int m] g h (bI (¬ v < -m ∧ ¬ m < v)) g h := by
  refine ci_z (bytes := cX6_isWithin) (maxL := 2) (by decide) rfl (Nat.le_of_ble_eq_true rfl) (bI_01 _) (fun X cx hR => ?_)
  change Cx E X cX6_isWithin RX6 wsX6_isWithin 2 1 22 at cx
  change JJ E X g h 0 [(0, .int v), (1, .int m)] []
  refine jr_iload_n cx dX6_isWithin_0 0 rfl rfl ?_
  refine jr_iload_n cx dX6_isWithin_1 1 rfl rfl ?_
  refine jr_ineg cx dX6_isWithin_2 ?_
  refine jr_iload_n cx dX6_isWithin_3 1 rfl rfl ?_
  refine jr_si [.int v, .int (-m), .int m] 3 cx dX6_isWithin_4 (c_X6_isBetween E g h v (-m) m) gX6_isWithin_X6_isBetween rfl (by decide +kernel) ⟨Nat.le_of_ble_eq_true rfl, Nat.le_of_ble_eq_true rfl⟩ rfl rfl (Nat.le_of_ble_eq_true rfl) ?_
  exact jr_ri (by rfl) (by rfl) (by rfl) (hR 7 _ dX6_isWithin_7)
set_option maxHeartbeats 4000000 in
set_option maxRecDepth 100000 in
theorem c_X7_isX (E : mm_E) (g : mm_I) (h : mm_L) (v : Int32) : Ci E yX7_isX wsX7_isX 1 22 [.int v] g h (bI (¬ v < -20 ∧ ¬ 20 < v)) g h := by
  refine ci_z (bytes := cX7_isX) (maxL := 1) (by decide) rfl (Nat.le_of_ble_eq_true rfl) (bI_01 _) (fun X cx hR => ?_)
  change Cx E X cX7_isX RX7 wsX7_isX 1 1 22 at cx
  change JJ E X g h 0 [(0, .int v)] []
  refine jr_iload_n cx dX7_isX_0 0 rfl rfl ?_
  refine jr_bipush (v := (-20)) cx dX7_isX_1 (by decide) ?_
  refine jr_bipush (v := 20) cx dX7_isX_3 (by decide) ?_
  refine jr_si [.int v, .int (-20), .int 20] 3 cx dX7_isX_5 (c_X7_in E g h v (-20) 20) gX7_isX_X7_in rfl (by decide +kernel) ⟨Nat.le_of_ble_eq_true rfl, Nat.le_of_ble_eq_true rfl⟩ rfl rfl (Nat.le_of_ble_eq_true rfl) ?_
  exact jr_ri (by rfl) (by rfl) (by rfl) (hR 8 _ dX7_isX_8)
def abL (v : Int64) : Int64 := if 0 ≤ v then v else -v
set_option maxHeartbeats 4000000 in
set_option maxRecDepth 100000 in
theorem c_X7_size (E : mm_E) (g : mm_I) (h : mm_L) (v : Int64) : Cl E yX7_size wsX7_size 0 0 [.long v] g h (abL v) g h := by
  refine ci_l (bytes := cX7_size) (maxL := 2) (by decide) rfl (Nat.le_of_ble_eq_true rfl) (fun X cx hR => ?_)
  change Cx E X cX7_size RX7 wsX7_size 2 0 0 at cx
  change JJ E X g h 0 [(0, .long v)] []
  refine jr_lload_n cx dX7_size_0 0 rfl rfl ?_
  refine jr_lconst (v := 0) cx dX7_size_1 (by decide) ?_
  refine jr_lcmp cx dX7_size_2 ?_
  refine jr_lif_ge (tgt := 11) cx dX7_size_3 (by decide) (fun c3 => ?_) (fun c3 => ?_)
  · refine jr_lload_n cx dX7_size_11 0 rfl rfl ?_
    exact jr_rl (by simp [abL, c3]) (by rfl) (by rfl) (hR 12 _ dX7_size_12)
  · refine jr_lload_n cx dX7_size_6 0 rfl rfl ?_
    refine jr_lneg cx dX7_size_7 ?_
    refine jr_goto (tgt := 12) cx dX7_size_8 (by decide) ?_
    exact jr_rl (by simp [abL, c3]) (by rfl) (by rfl) (hR 12 _ dX7_size_12)
set_option maxHeartbeats 4000000 in
set_option maxRecDepth 100000 in
theorem c_X6_asked (E : mm_E) (g : mm_I) (h : mm_L) : Cl E yX6_asked wsX6_asked 0 0 [.ref (E.1 0)] g h (h 0 8) g h := by
  refine ci_l (bytes := cX6_asked) (maxL := 1) (by decide) rfl (Nat.le_of_ble_eq_true rfl) (fun X cx hR => ?_)
  change Cx E X cX6_asked RX6 wsX6_asked 1 0 0 at cx
  change JJ E X g h 0 [(0, .ref (E.1 0))] []
  have hinX6 : ∀ w ∈ u_ws RX6 TX6 9, w ∈ wsX6_asked := by decide +kernel
  have mf_59 : Cond.fieldLink RX6 59 (TX6 8).1 (TX6 8).2.1 (TX6 8).2.2.1 ∈ wsX6_asked := by decide +kernel
  refine jr_aload_n cx dX6_asked_0 0 rfl rfl ?_
  refine jr_get (f := 8) (v := .long (h 0 8)) cx dX6_asked_1 (by decide) rfl rfl hinX6 (by decide) mf_59 rfl ?_
  exact jr_rl (by rfl) (by rfl) (by rfl) (hR 4 _ dX6_asked_4)
set_option maxHeartbeats 4000000 in
set_option maxRecDepth 100000 in
theorem c_X6_finding (E : mm_E) (g : mm_I) (h : mm_L) : Ci E yX6_finding wsX6_finding 0 0 [.ref (E.1 0)] g h (g 0 7) g h := by
  refine ci_i (bytes := cX6_finding) (maxL := 1) (by decide) rfl (Nat.le_of_ble_eq_true rfl) (fun X cx hR => ?_)
  change Cx E X cX6_finding RX6 wsX6_finding 1 0 0 at cx
  change JJ E X g h 0 [(0, .ref (E.1 0))] []
  have hinX6 : ∀ w ∈ u_ws RX6 TX6 9, w ∈ wsX6_finding := by decide +kernel
  have mf_55 : Cond.fieldLink RX6 55 (TX6 7).1 (TX6 7).2.1 (TX6 7).2.2.1 ∈ wsX6_finding := by decide +kernel
  refine jr_aload_n cx dX6_finding_0 0 rfl rfl ?_
  refine jr_get (f := 7) (v := .int (g 0 7)) cx dX6_finding_1 (by decide) rfl rfl hinX6 (by decide) mf_55 rfl ?_
  exact jr_ri (by rfl) (by rfl) (by rfl) (hR 4 _ dX6_finding_4)
set_option maxHeartbeats 4000000 in
set_option maxRecDepth 100000 in
theorem c_X6_upper (E : mm_E) (g : mm_I) (h : mm_L) : Cl E yX6_upper wsX6_upper 0 0 [.ref (E.1 0)] g h (h 6 0) g h := by
  refine ci_l (bytes := cX6_upper) (maxL := 1) (by decide) rfl (Nat.le_of_ble_eq_true rfl) (fun X cx hR => ?_)
  change Cx E X cX6_upper RX6 wsX6_upper 1 0 0 at cx
  change JJ E X g h 0 [(0, .ref (E.1 0))] []
  have hinX2 : ∀ w ∈ u_ws RX2 TX2 2, w ∈ wsX6_upper := by decide +kernel
  have hinX6 : ∀ w ∈ u_ws RX6 TX6 9, w ∈ wsX6_upper := by decide +kernel
  have mf_47 : Cond.fieldLink RX6 47 (TX6 5).1 (TX6 5).2.1 (TX6 5).2.2.1 ∈ wsX6_upper := by decide +kernel
  refine jr_aload_n cx dX6_upper_0 0 rfl rfl ?_
  refine jr_get (f := 5) (v := .ref (E.1 6)) cx dX6_upper_1 (by decide) rfl rfl hinX6 (by decide) mf_47 rfl ?_
  refine jr_getN (f := 0) (v := .long (h 6 0)) (host := RX6) cx dX6_upper_4 (by decide) rfl rfl hinX2 (by decide) (fun U hN => hN.1) rfl ?_
  exact jr_rl (by rfl) (by rfl) (by rfl) (hR 7 _ dX6_upper_7)
set_option maxHeartbeats 4000000 in
set_option maxRecDepth 100000 in
theorem c_X6_lower (E : mm_E) (g : mm_I) (h : mm_L) : Cl E yX6_lower wsX6_lower 0 0 [.ref (E.1 0)] g h (h 6 1) g h := by
  refine ci_l (bytes := cX6_lower) (maxL := 1) (by decide) rfl (Nat.le_of_ble_eq_true rfl) (fun X cx hR => ?_)
  change Cx E X cX6_lower RX6 wsX6_lower 1 0 0 at cx
  change JJ E X g h 0 [(0, .ref (E.1 0))] []
  have hinX2 : ∀ w ∈ u_ws RX2 TX2 2, w ∈ wsX6_lower := by decide +kernel
  have hinX6 : ∀ w ∈ u_ws RX6 TX6 9, w ∈ wsX6_lower := by decide +kernel
  have mf_47 : Cond.fieldLink RX6 47 (TX6 5).1 (TX6 5).2.1 (TX6 5).2.2.1 ∈ wsX6_lower := by decide +kernel
  refine jr_aload_n cx dX6_lower_0 0 rfl rfl ?_
  refine jr_get (f := 5) (v := .ref (E.1 6)) cx dX6_lower_1 (by decide) rfl rfl hinX6 (by decide) mf_47 rfl ?_
  refine jr_getN (f := 1) (v := .long (h 6 1)) (host := RX6) cx dX6_lower_4 (by decide) rfl rfl hinX2 (by decide) (fun U hN => hN.2.1) rfl ?_
  exact jr_rl (by rfl) (by rfl) (by rfl) (hR 7 _ dX6_lower_7)
set_option maxHeartbeats 4000000 in
set_option maxRecDepth 100000 in
theorem c_X7_asked (E : mm_E) (g : mm_I) (h : mm_L) : Cl E yX7_asked wsX7_asked 0 0 [.ref (E.1 7)] g h (h 7 2) g h := by
  refine ci_l (bytes := cX7_asked) (maxL := 1) (by decide) rfl (Nat.le_of_ble_eq_true rfl) (fun X cx hR => ?_)
  change Cx E X cX7_asked RX7 wsX7_asked 1 0 0 at cx
  change JJ E X g h 0 [(0, .ref (E.1 7))] []
  have hinX7 : ∀ w ∈ u_ws RX7 TX7 30, w ∈ wsX7_asked := by decide +kernel
  have mf_90 : Cond.fieldLink RX7 90 (TX7 2).1 (TX7 2).2.1 (TX7 2).2.2.1 ∈ wsX7_asked := by decide +kernel
  refine jr_aload_n cx dX7_asked_0 0 rfl rfl ?_
  refine jr_get (f := 2) (v := .long (h 7 2)) cx dX7_asked_1 (by decide) rfl rfl hinX7 (by decide) mf_90 rfl ?_
  exact jr_rl (by rfl) (by rfl) (by rfl) (hR 4 _ dX7_asked_4)
set_option maxHeartbeats 4000000 in
set_option maxRecDepth 100000 in
theorem c_X7_upper (E : mm_E) (g : mm_I) (h : mm_L) : Cl E yX7_upper wsX7_upper 0 0 [.ref (E.1 7)] g h (h 7 3) g h := by
  refine ci_l (bytes := cX7_upper) (maxL := 1) (by decide) rfl (Nat.le_of_ble_eq_true rfl) (fun X cx hR => ?_)
  change Cx E X cX7_upper RX7 wsX7_upper 1 0 0 at cx
  change JJ E X g h 0 [(0, .ref (E.1 7))] []
  have hinX7 : ∀ w ∈ u_ws RX7 TX7 30, w ∈ wsX7_upper := by decide +kernel
  have mf_87 : Cond.fieldLink RX7 87 (TX7 3).1 (TX7 3).2.1 (TX7 3).2.2.1 ∈ wsX7_upper := by decide +kernel
  refine jr_aload_n cx dX7_upper_0 0 rfl rfl ?_
  refine jr_get (f := 3) (v := .long (h 7 3)) cx dX7_upper_1 (by decide) rfl rfl hinX7 (by decide) mf_87 rfl ?_
  exact jr_rl (by rfl) (by rfl) (by rfl) (hR 4 _ dX7_upper_4)
set_option maxHeartbeats 4000000 in
set_option maxRecDepth 100000 in
theorem c_X7_lower (E : mm_E) (g : mm_I) (h : mm_L) : Cl E yX7_lower wsX7_lower 0 0 [.ref (E.1 7)] g h (h 7 4) g h := by
  refine ci_l (bytes := cX7_lower) (maxL := 1) (by decide) rfl (Nat.le_of_ble_eq_true rfl) (fun X cx hR => ?_)
  change Cx E X cX7_lower RX7 wsX7_lower 1 0 0 at cx
  change JJ E X g h 0 [(0, .ref (E.1 7))] []
  have hinX7 : ∀ w ∈ u_ws RX7 TX7 30, w ∈ wsX7_lower := by decide +kernel
  have mf_13 : Cond.fieldLink RX7 13 (TX7 4).1 (TX7 4).2.1 (TX7 4).2.2.1 ∈ wsX7_lower := by decide +kernel
  refine jr_aload_n cx dX7_lower_0 0 rfl rfl ?_
  refine jr_get (f := 4) (v := .long (h 7 4)) cx dX7_lower_1 (by decide) rfl rfl hinX7 (by decide) mf_13 rfl ?_
  exact jr_rl (by rfl) (by rfl) (by rfl) (hR 4 _ dX7_lower_4)
set_option maxHeartbeats 4000000 in
set_option maxRecDepth 100000 in
theorem c_X7_finding (E : mm_E) (g : mm_I) (h : mm_L) : Ci E yX7_finding wsX7_finding 0 0 [.ref (E.1 7)] g h (g 7 0) g h := by
  refine ci_i (bytes := cX7_finding) (maxL := 1) (by decide) rfl (Nat.le_of_ble_eq_true rfl) (fun X cx hR => ?_)
  change Cx E X cX7_finding RX7 wsX7_finding 1 0 0 at cx
  change JJ E X g h 0 [(0, .ref (E.1 7))] []
  have hinX7 : ∀ w ∈ u_ws RX7 TX7 30, w ∈ wsX7_finding := by decide +kernel
  have mf_75 : Cond.fieldLink RX7 75 (TX7 0).1 (TX7 0).2.1 (TX7 0).2.2.1 ∈ wsX7_finding := by decide +kernel
  refine jr_aload_n cx dX7_finding_0 0 rfl rfl ?_
  refine jr_get (f := 0) (v := .int (g 7 0)) cx dX7_finding_1 (by decide) rfl rfl hinX7 (by decide) mf_75 rfl ?_
  exact jr_ri (by rfl) (by rfl) (by rfl) (hR 4 _ dX7_finding_4)
