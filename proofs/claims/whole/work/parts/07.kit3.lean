def bI (P : Prop) [Decidable P] : Int32 := if P then 1 else 0
theorem bI_t {P : Prop} [Decidable P] (h : P) : bI P = 1 := if_pos h
theorem bI_f {P : Prop} [Decidable P] (h : ¬ P) : bI P = 0 := if_neg h
theorem bI_01 (P : Prop) [Decidable P] : bI P = 0 ∨ bI P = 1 := by unfold bI; split <;> simp
theorem bI_0 {P : Prop} [Decidable P] : bI P = 0 ↔ ¬ P := by unfold bI; split <;> simp_all
theorem bI_1 {P : Prop} [Decidable P] : bI P = 1 ↔ P := by unfold bI; split <;> simp_all
theorem bI_iff {P Q : Prop} [Decidable P] [Decidable Q] (h : P ↔ Q) : bI P = bI Q := by unfold bI; simp only [h]
theorem lg_cmp_eq0 (x y : Int64) : lg_cmp x y = 0 ↔ x = y := by
  have h1 := lg_cmp_ge x y
  have h2 := lg_cmp_le x y
  constructor
  · intro h0
    rw [h0] at h1 h2
    exact Int64.le_antisymm (h2.mp (by decide)) (h1.mp (by decide))
  · intro h0
    subst h0
    unfold lg_cmp
    simp
theorem lc_i {q : Nat} {x y : Int32} {l l' : List (Nat × Value)} (e : x = y) (r : l = l') : ((q, Value.int x) :: l) = (q, Value.int y) :: l' := by rw [e, r]
theorem lc_l {q : Nat} {x y : Int64} {l l' : List (Nat × Value)} (e : x = y) (r : l = l') : ((q, Value.long x) :: l) = (q, Value.long y) :: l' := by rw [e, r]
theorem lc_n {a : Nat × Value} {l l' : List (Nat × Value)} (r : l = l') : (a :: l) = a :: l' := by rw [r]
section JT
variable {E : mm_E} {X : mm_X} {cc : ByteArray} {own : String} {Ts : List Cond} {nL fr lo pc : Nat} {g g' : mm_I} {h h' : mm_L} {L L' : List (Nat × Value)} {st st' : List Value}
theorem jr_top {x y : Int32} (e : x = y) (k : JJ E X g h pc L (.int y :: st)) : JJ E X g h pc L (.int x :: st) := by rw [e]; exact k
theorem jr_topl {x y : Int64} (e : x = y) (k : JJ E X g h pc L (.long y :: st)) : JJ E X g h pc L (.long x :: st) := by rw [e]; exact k
theorem jr_loc (e : L = L') (k : JJ E X g h pc L' st) : JJ E X g h pc L st := by rw [e]; exact k
theorem jr_mem (e : g = g') (e2 : h = h') (k : JJ E X g' h' pc L st) : JJ E X g h pc L st := by rw [e, e2]; exact k
theorem jr_ri {v r : Int32} (hv : v = r) (hg : g = g') (hh : h = h') (k : JJ E X g' h' pc L [.int r]) : JJ E X g h pc L [.int v] := by subst hv hg hh; exact k
theorem jr_rl {v r : Int64} (hv : v = r) (hg : g = g') (hh : h = h') (k : JJ E X g' h' pc L [.long r]) : JJ E X g h pc L [.long v] := by subst hv hg hh; exact k
theorem jr_rv (hg : g = g') (hh : h = h') (k : JJ E X g' h' pc L []) : JJ E X g h pc L [] := by subst hg hh; exact k
theorem jr_bif_eq {P : Prop} [Decidable P] {off : Int} {tgt : Nat} (cx : Cx E X cc own Ts nL fr lo) (hd : decode cc pc = .ok (.ifCond .eq off, 3)) (ht : (pc : Int) + off = (tgt : Int)) (kt : ¬ P → JJ E X g h tgt L st) (kf : P → JJ E X g h (pc + 3) L st) : JJ E X g h pc L (.int (bI P) :: st) :=
  jr_if_eq cx hd ht (fun q => kt (bI_0.mp q)) (fun q => kf (Classical.byContradiction fun n => q (bI_0.mpr n)))
theorem jr_bif_ne {P : Prop} [Decidable P] {off : Int} {tgt : Nat} (cx : Cx E X cc own Ts nL fr lo) (hd : decode cc pc = .ok (.ifCond .ne off, 3)) (ht : (pc : Int) + off = (tgt : Int)) (kt : P → JJ E X g h tgt L st) (kf : ¬ P → JJ E X g h (pc + 3) L st) : JJ E X g h pc L (.int (bI P) :: st) :=
  jr_if_ne cx hd ht (fun q => kt (Classical.byContradiction fun n => q (bI_0.mpr n))) (fun q => kf (bI_0.mp q))
theorem jr_lif_eq {x y : Int64} {off : Int} {tgt : Nat} (cx : Cx E X cc own Ts nL fr lo) (hd : decode cc pc = .ok (.ifCond .eq off, 3)) (ht : (pc : Int) + off = (tgt : Int)) (kt : x = y → JJ E X g h tgt L st) (kf : ¬ x = y → JJ E X g h (pc + 3) L st) : JJ E X g h pc L (.int (lg_cmp x y) :: st) :=
  jr_if_eq cx hd ht (fun q => kt ((lg_cmp_eq0 x y).mp q)) (fun q => kf (fun n => q ((lg_cmp_eq0 x y).mpr n)))
theorem jr_lif_lt {x y : Int64} {off : Int} {tgt : Nat} (cx : Cx E X cc own Ts nL fr lo) (hd : decode cc pc = .ok (.ifCond .lt off, 3)) (ht : (pc : Int) + off = (tgt : Int)) (kt : x < y → JJ E X g h tgt L st) (kf : ¬ x < y → JJ E X g h (pc + 3) L st) : JJ E X g h pc L (.int (lg_cmp x y) :: st) :=
  jr_if_lt cx hd ht (fun q => kt ((lg_cmp_lt x y).mp q)) (fun q => kf (fun n => q ((lg_cmp_lt x y).mpr n)))
theorem jr_lif_ge {x y : Int64} {off : Int} {tgt : Nat} (cx : Cx E X cc own Ts nL fr lo) (hd : decode cc pc = .ok (.ifCond .ge off, 3)) (ht : (pc : Int) + off = (tgt : Int)) (kt : y ≤ x → JJ E X g h tgt L st) (kf : ¬ y ≤ x → JJ E X g h (pc + 3) L st) : JJ E X g h pc L (.int (lg_cmp x y) :: st) :=
  jr_if_ge cx hd ht (fun q => kt ((lg_cmp_ge x y).mp q)) (fun q => kf (fun n => q ((lg_cmp_ge x y).mpr n)))
theorem jr_lif_gt {x y : Int64} {off : Int} {tgt : Nat} (cx : Cx E X cc own Ts nL fr lo) (hd : decode cc pc = .ok (.ifCond .gt off, 3)) (ht : (pc : Int) + off = (tgt : Int)) (kt : y < x → JJ E X g h tgt L st) (kf : ¬ y < x → JJ E X g h (pc + 3) L st) : JJ E X g h pc L (.int (lg_cmp x y) :: st) :=
  jr_if_gt cx hd ht (fun q => kt ((lg_cmp_gt x y).mp q)) (fun q => kf (fun n => q ((lg_cmp_gt x y).mpr n)))
theorem jr_lif_le {x y : Int64} {off : Int} {tgt : Nat} (cx : Cx E X cc own Ts nL fr lo) (hd : decode cc pc = .ok (.ifCond .le off, 3)) (ht : (pc : Int) + off = (tgt : Int)) (kt : x ≤ y → JJ E X g h tgt L st) (kf : ¬ x ≤ y → JJ E X g h (pc + 3) L st) : JJ E X g h pc L (.int (lg_cmp x y) :: st) :=
  jr_if_le cx hd ht (fun q => kt ((lg_cmp_le x y).mp q)) (fun q => kf (fun n => q ((lg_cmp_le x y).mpr n)))
theorem jr_lif_ne {x y : Int64} {off : Int} {tgt : Nat} (cx : Cx E X cc own Ts nL fr lo) (hd : decode cc pc = .ok (.ifCond .ne off, 3)) (ht : (pc : Int) + off = (tgt : Int)) (kt : ¬ x = y → JJ E X g h tgt L st) (kf : x = y → JJ E X g h (pc + 3) L st) : JJ E X g h pc L (.int (lg_cmp x y) :: st) :=
  jr_if_ne cx hd ht (fun q => kt (fun n => q ((lg_cmp_eq0 x y).mpr n))) (fun q => kf ((lg_cmp_eq0 x y).mp q))
theorem is_rd {r : Nat} (h : r < 6) : mm_isI (39 + r) := Or.inr ⟨by omega, by omega⟩
theorem ml_rd {r : Nat} (h : r < 6) : mm_len (39 + r) = 40 := by
  unfold mm_len
  rw [List.getD_eq_getElem?_getD, List.getElem?_eq_none (by simp only [List.length_cons, List.length_nil]; omega), Option.getD_none]
  repeat' split
  all_goals first | rfl | omega
theorem is_xs {r : Nat} (h : r < 4) : mm_isI (45 + r) := Or.inr ⟨by omega, by omega⟩
theorem ml_xs {r : Nat} (h : r < 4) : mm_len (45 + r) = 4 := by
  unfold mm_len
  rw [List.getD_eq_getElem?_getD, List.getElem?_eq_none (by simp only [List.length_cons, List.length_nil]; omega), Option.getD_none]
  repeat' split
  all_goals first | rfl | omega
theorem is_ys {r : Nat} (h : r < 4) : mm_isI (49 + r) := Or.inr ⟨by omega, by omega⟩
theorem ml_ys {r : Nat} (h : r < 4) : mm_len (49 + r) = 4 := by
  unfold mm_len
  rw [List.getD_eq_getElem?_getD, List.getElem?_eq_none (by simp only [List.length_cons, List.length_nil]; omega), Option.getD_none]
  repeat' split
  all_goals first | rfl | omega
theorem is_fa {r : Nat} (h : r < 40) : mm_isI (53 + r) := Or.inr ⟨by omega, by omega⟩
theorem ml_fa {r : Nat} (h : r < 40) : mm_len (53 + r) = 8 := by
  unfold mm_len
  rw [List.getD_eq_getElem?_getD, List.getElem?_eq_none (by simp only [List.length_cons, List.length_nil]; omega), Option.getD_none]
  repeat' split
  all_goals first | rfl | omega
theorem is_di {r : Nat} (h : r < 6) : mm_isI (93 + r) := Or.inr ⟨by omega, by omega⟩
theorem ml_di {r : Nat} (h : r < 6) : mm_len (93 + r) = 6 := by
  unfold mm_len
  rw [List.getD_eq_getElem?_getD, List.getElem?_eq_none (by simp only [List.length_cons, List.length_nil]; omega), Option.getD_none]
  repeat' split
  all_goals first | rfl | omega
theorem is_en {r : Nat} (h : r < 6) : mm_isI (99 + r) := Or.inr ⟨by omega, by omega⟩
theorem ml_en {r : Nat} (h : r < 6) : mm_len (99 + r) = 6 := by
  unfold mm_len
  rw [List.getD_eq_getElem?_getD, List.getElem?_eq_none (by simp only [List.length_cons, List.length_nil]; omega), Option.getD_none]
  repeat' split
  all_goals first | rfl | omega
theorem jr_put_X6_7 {idx : Nat} {v : Int32} (cx : Cx E X cc own Ts nL fr lo) (hd : decode cc pc = .ok (.putfield idx, 3)) (hin : ∀ w ∈ u_ws RX6 TX6 9, w ∈ Ts) (hlk : Cond.fieldLink own idx (TX6 7).1 (TX6 7).2.1 (TX6 7).2.2.1 ∈ Ts) (kk : JJ E X (up2 g 0 7 v) h (pc + 3) L st) : JJ E X g h pc L (.int v :: .ref (E.1 0) :: st) := by
  refine jr_put (k := 0) (f := 7) (ty := .int) cx hd (by decide) rfl rfl hin tyX6_ok nmX6 (by decide) hlk rfl (by decide +kernel) rfl rfl (Nat.le_of_ble_eq_true rfl) ?_ ?_ ?_ kk
  · simp [mm_ob, up2, upd]
  · intro i hi hne
    rcases (show i = 0 ∨ i = 1 ∨ i = 2 ∨ i = 3 ∨ i = 4 ∨ i = 5 ∨ i = 6 ∨ i = 7 by omega) with rfl | rfl | rfl | rfl | rfl | rfl | rfl | rfl <;> first | (exact absurd rfl hne) | simp [mm_ob, up2, upd]
  · intro i hi
    exact up2_n g _ _ (by omega)
theorem jr_put_X6_8 {idx : Nat} {v : Int64} (cx : Cx E X cc own Ts nL fr lo) (hd : decode cc pc = .ok (.putfield idx, 3)) (hin : ∀ w ∈ u_ws RX6 TX6 9, w ∈ Ts) (hlk : Cond.fieldLink own idx (TX6 8).1 (TX6 8).2.1 (TX6 8).2.2.1 ∈ Ts) (kk : JJ E X g (upL h 0 8 v) (pc + 3) L st) : JJ E X g h pc L (.long v :: .ref (E.1 0) :: st) := by
  refine jr_put (k := 0) (f := 8) (ty := .long) cx hd (by decide) rfl rfl hin tyX6_ok nmX6 (by decide) hlk rfl (by decide +kernel) rfl rfl (Nat.le_of_ble_eq_true rfl) ?_ ?_ ?_ kk
  · simp [mm_ob, upL]
  · intro i hi hne
    rcases (show i = 0 ∨ i = 1 ∨ i = 2 ∨ i = 3 ∨ i = 4 ∨ i = 5 ∨ i = 6 ∨ i = 7 by omega) with rfl | rfl | rfl | rfl | rfl | rfl | rfl | rfl <;> first | (exact absurd rfl hne) | simp [mm_ob, upL]
  · intro i hi
    rfl
theorem jr_put_X0_2 {idx : Nat} {v : Int32} (cx : Cx E X cc own Ts nL fr lo) (hd : decode cc pc = .ok (.putfield idx, 3)) (hin : ∀ w ∈ u_ws RX0 TX0 3, w ∈ Ts) (hlk : Cond.fieldLink own idx (TX0 2).1 (TX0 2).2.1 (TX0 2).2.2.1 ∈ Ts) (kk : JJ E X (up2 g 3 2 v) h (pc + 3) L st) : JJ E X g h pc L (.int v :: .ref (E.1 3) :: st) := by
  refine jr_put (k := 3) (f := 2) (ty := .int) cx hd (by decide) rfl rfl hin tyX0_ok nmX0 (by decide) hlk rfl (by decide +kernel) rfl rfl (Nat.le_of_ble_eq_true rfl) ?_ ?_ ?_ kk
  · simp [mm_ob, up2, upd]
  · intro i hi hne
    rcases (show i = 0 ∨ i = 1 ∨ i = 2 ∨ i = 3 ∨ i = 4 ∨ i = 5 ∨ i = 6 ∨ i = 7 by omega) with rfl | rfl | rfl | rfl | rfl | rfl | rfl | rfl <;> first | (exact absurd rfl hne) | simp [mm_ob, up2, upd]
  · intro i hi
    exact up2_n g _ _ (by omega)
theorem jr_put_X1_1 {idx : Nat} {v : Int32} (cx : Cx E X cc own Ts nL fr lo) (hd : decode cc pc = .ok (.putfield idx, 3)) (hin : ∀ w ∈ u_ws RX1 TX1 2, w ∈ Ts) (hlk : Cond.fieldLink own idx (TX1 1).1 (TX1 1).2.1 (TX1 1).2.2.1 ∈ Ts) (kk : JJ E X (up2 g 4 1 v) h (pc + 3) L st) : JJ E X g h pc L (.int v :: .ref (E.1 4) :: st) := by
  refine jr_put (k := 4) (f := 1) (ty := .int) cx hd (by decide) rfl rfl hin tyX1_ok nmX1 (by decide) hlk rfl (by decide +kernel) rfl rfl (Nat.le_of_ble_eq_true rfl) ?_ ?_ ?_ kk
  · simp [mm_ob, up2, upd]
  · intro i hi hne
    rcases (show i = 0 ∨ i = 1 ∨ i = 2 ∨ i = 3 ∨ i = 4 ∨ i = 5 ∨ i = 6 ∨ i = 7 by omega) with rfl | rfl | rfl | rfl | rfl | rfl | rfl | rfl <;> first | (exact absurd rfl hne) | simp [mm_ob, up2, upd]
  · intro i hi
    exact up2_n g _ _ (by omega)
theorem jr_put_X2_0 {idx : Nat} {v : Int64} (cx : Cx E X cc own Ts nL fr lo) (hd : decode cc pc = .ok (.putfield idx, 3)) (hin : ∀ w ∈ u_ws RX2 TX2 2, w ∈ Ts) (hlk : Cond.fieldLink own idx (TX2 0).1 (TX2 0).2.1 (TX2 0).2.2.1 ∈ Ts) (kk : JJ E X g (upL h 6 0 v) (pc + 3) L st) : JJ E X g h pc L (.long v :: .ref (E.1 6) :: st) := by
  refine jr_put (k := 6) (f := 0) (ty := .long) cx hd (by decide) rfl rfl hin tyX2_ok nmX2 (by decide) hlk rfl (by decide +kernel) rfl rfl (Nat.le_of_ble_eq_true rfl) ?_ ?_ ?_ kk
  · simp [mm_ob, upL]
  · intro i hi hne
    rcases (show i = 0 ∨ i = 1 ∨ i = 2 ∨ i = 3 ∨ i = 4 ∨ i = 5 ∨ i = 6 ∨ i = 7 by omega) with rfl | rfl | rfl | rfl | rfl | rfl | rfl | rfl <;> first | (exact absurd rfl hne) | simp [mm_ob, upL]
  · intro i hi
    rfl
theorem jr_put_X2_1 {idx : Nat} {v : Int64} (cx : Cx E X cc own Ts nL fr lo) (hd : decode cc pc = .ok (.putfield idx, 3)) (hin : ∀ w ∈ u_ws RX2 TX2 2, w ∈ Ts) (hlk : Cond.fieldLink own idx (TX2 1).1 (TX2 1).2.1 (TX2 1).2.2.1 ∈ Ts) (kk : JJ E X g (upL h 6 1 v) (pc + 3) L st) : JJ E X g h pc L (.long v :: .ref (E.1 6) :: st) := by
  refine jr_put (k := 6) (f := 1) (ty := .long) cx hd (by decide) rfl rfl hin tyX2_ok nmX2 (by decide) hlk rfl (by decide +kernel) rfl rfl (Nat.le_of_ble_eq_true rfl) ?_ ?_ ?_ kk
  · simp [mm_ob, upL]
  · intro i hi hne
    rcases (show i = 0 ∨ i = 1 ∨ i = 2 ∨ i = 3 ∨ i = 4 ∨ i = 5 ∨ i = 6 ∨ i = 7 by omega) with rfl | rfl | rfl | rfl | rfl | rfl | rfl | rfl <;> first | (exact absurd rfl hne) | simp [mm_ob, upL]
  · intro i hi
    rfl
theorem jr_put_X7_0 {idx : Nat} {v : Int32} (cx : Cx E X cc own Ts nL fr lo) (hd : decode cc pc = .ok (.putfield idx, 3)) (hin : ∀ w ∈ u_ws RX7 TX7 30, w ∈ Ts) (hlk : Cond.fieldLink own idx (TX7 0).1 (TX7 0).2.1 (TX7 0).2.2.1 ∈ Ts) (kk : JJ E X (up2 g 7 0 v) h (pc + 3) L st) : JJ E X g h pc L (.int v :: .ref (E.1 7) :: st) := by
  refine jr_put (k := 7) (f := 0) (ty := .int) cx hd (by decide) rfl rfl hin tyX7_ok nmX7 (by decide) hlk rfl (by decide +kernel) rfl rfl (Nat.le_of_ble_eq_true rfl) ?_ ?_ ?_ kk
  · simp [mm_ob, up2, upd]
  · intro i hi hne
    rcases (show i = 0 ∨ i = 1 ∨ i = 2 ∨ i = 3 ∨ i = 4 ∨ i = 5 ∨ i = 6 ∨ i = 7 by omega) with rfl | rfl | rfl | rfl | rfl | rfl | rfl | rfl <;> first | (exact absurd rfl hne) | simp [mm_ob, up2, upd]
  · intro i hi
    exact up2_n g _ _ (by omega)
theorem jr_put_X7_2 {idx : Nat} {v : Int64} (cx : Cx E X cc own Ts nL fr lo) (hd : decode cc pc = .ok (.putfield idx, 3)) (hin : ∀ w ∈ u_ws RX7 TX7 30, w ∈ Ts) (hlk : Cond.fieldLink own idx (TX7 2).1 (TX7 2).2.1 (TX7 2).2.2.1 ∈ Ts) (kk : JJ E X g (upL h 7 2 v) (pc + 3) L st) : JJ E X g h pc L (.long v :: .ref (E.1 7) :: st) := by
  refine jr_put (k := 7) (f := 2) (ty := .long) cx hd (by decide) rfl rfl hin tyX7_ok nmX7 (by decide) hlk rfl (by decide +kernel) rfl rfl (Nat.le_of_ble_eq_true rfl) ?_ ?_ ?_ kk
  · simp [mm_ob, upL]
  · intro i hi hne
    rcases (show i = 0 ∨ i = 1 ∨ i = 2 ∨ i = 3 ∨ i = 4 ∨ i = 5 ∨ i = 6 ∨ i = 7 by omega) with rfl | rfl | rfl | rfl | rfl | rfl | rfl | rfl <;> first | (exact absurd rfl hne) | simp [mm_ob, upL]
  · intro i hi
    rfl
theorem jr_put_X7_3 {idx : Nat} {v : Int64} (cx : Cx E X cc own Ts nL fr lo) (hd : decode cc pc = .ok (.putfield idx, 3)) (hin : ∀ w ∈ u_ws RX7 TX7 30, w ∈ Ts) (hlk : Cond.fieldLink own idx (TX7 3).1 (TX7 3).2.1 (TX7 3).2.2.1 ∈ Ts) (kk : JJ E X g (upL h 7 3 v) (pc + 3) L st) : JJ E X g h pc L (.long v :: .ref (E.1 7) :: st) := by
  refine jr_put (k := 7) (f := 3) (ty := .long) cx hd (by decide) rfl rfl hin tyX7_ok nmX7 (by decide) hlk rfl (by decide +kernel) rfl rfl (Nat.le_of_ble_eq_true rfl) ?_ ?_ ?_ kk
  · simp [mm_ob, upL]
  · intro i hi hne
    rcases (show i = 0 ∨ i = 1 ∨ i = 2 ∨ i = 3 ∨ i = 4 ∨ i = 5 ∨ i = 6 ∨ i = 7 by omega) with rfl | rfl | rfl | rfl | rfl | rfl | rfl | rfl <;> first | (exact absurd rfl hne) | simp [mm_ob, upL]
  · intro i hi
    rfl
theorem jr_put_X7_4 {idx : Nat} {v : Int64} (cx : Cx E X cc own Ts nL fr lo) (hd : decode cc pc = .ok (.putfield idx, 3)) (hin : ∀ w ∈ u_ws RX7 TX7 30, w ∈ Ts) (hlk : Cond.fieldLink own idx (TX7 4).1 (TX7 4).2.1 (TX7 4).2.2.1 ∈ Ts) (kk : JJ E X g (upL h 7 4 v) (pc + 3) L st) : JJ E X g h pc L (.long v :: .ref (E.1 7) :: st) := by
  refine jr_put (k := 7) (f := 4) (ty := .long) cx hd (by decide) rfl rfl hin tyX7_ok nmX7 (by decide) hlk rfl (by decide +kernel) rfl rfl (Nat.le_of_ble_eq_true rfl) ?_ ?_ ?_ kk
  · simp [mm_ob, upL]
  · intro i hi hne
    rcases (show i = 0 ∨ i = 1 ∨ i = 2 ∨ i = 3 ∨ i = 4 ∨ i = 5 ∨ i = 6 ∨ i = 7 by omega) with rfl | rfl | rfl | rfl | rfl | rfl | rfl | rfl <;> first | (exact absurd rfl hne) | simp [mm_ob, upL]
  · intro i hi
    rfl
theorem jr_put_X7_11 {idx : Nat} {v : Int64} (cx : Cx E X cc own Ts nL fr lo) (hd : decode cc pc = .ok (.putfield idx, 3)) (hin : ∀ w ∈ u_ws RX7 TX7 30, w ∈ Ts) (hlk : Cond.fieldLink own idx (TX7 11).1 (TX7 11).2.1 (TX7 11).2.2.1 ∈ Ts) (kk : JJ E X g (upL h 7 11 v) (pc + 3) L st) : JJ E X g h pc L (.long v :: .ref (E.1 7) :: st) := by
  refine jr_put (k := 7) (f := 11) (ty := .long) cx hd (by decide) rfl rfl hin tyX7_ok nmX7 (by decide) hlk rfl (by decide +kernel) rfl rfl (Nat.le_of_ble_eq_true rfl) ?_ ?_ ?_ kk
  · simp [mm_ob, upL]
  · intro i hi hne
    rcases (show i = 0 ∨ i = 1 ∨ i = 2 ∨ i = 3 ∨ i = 4 ∨ i = 5 ∨ i = 6 ∨ i = 7 by omega) with rfl | rfl | rfl | rfl | rfl | rfl | rfl | rfl <;> first | (exact absurd rfl hne) | simp [mm_ob, upL]
  · intro i hi
    rfl
theorem jr_put_X7_12 {idx : Nat} {v : Int64} (cx : Cx E X cc own Ts nL fr lo) (hd : decode cc pc = .ok (.putfield idx, 3)) (hin : ∀ w ∈ u_ws RX7 TX7 30, w ∈ Ts) (hlk : Cond.fieldLink own idx (TX7 12).1 (TX7 12).2.1 (TX7 12).2.2.1 ∈ Ts) (kk : JJ E X g (upL h 7 12 v) (pc + 3) L st) : JJ E X g h pc L (.long v :: .ref (E.1 7) :: st) := by
  refine jr_put (k := 7) (f := 12) (ty := .long) cx hd (by decide) rfl rfl hin tyX7_ok nmX7 (by decide) hlk rfl (by decide +kernel) rfl rfl (Nat.le_of_ble_eq_true rfl) ?_ ?_ ?_ kk
  · simp [mm_ob, upL]
  · intro i hi hne
    rcases (show i = 0 ∨ i = 1 ∨ i = 2 ∨ i = 3 ∨ i = 4 ∨ i = 5 ∨ i = 6 ∨ i = 7 by omega) with rfl | rfl | rfl | rfl | rfl | rfl | rfl | rfl <;> first | (exact absurd rfl hne) | simp [mm_ob, upL]
  · intro i hi
    rfl
theorem jr_put_X7_13 {idx : Nat} {v : Int32} (cx : Cx E X cc own Ts nL fr lo) (hd : decode cc pc = .ok (.putfield idx, 3)) (hin : ∀ w ∈ u_ws RX7 TX7 30, w ∈ Ts) (hlk : Cond.fieldLink own idx (TX7 13).1 (TX7 13).2.1 (TX7 13).2.2.1 ∈ Ts) (kk : JJ E X (up2 g 7 13 v) h (pc + 3) L st) : JJ E X g h pc L (.int v :: .ref (E.1 7) :: st) := by
  refine jr_put (k := 7) (f := 13) (ty := .int) cx hd (by decide) rfl rfl hin tyX7_ok nmX7 (by decide) hlk rfl (by decide +kernel) rfl rfl (Nat.le_of_ble_eq_true rfl) ?_ ?_ ?_ kk
  · simp [mm_ob, up2, upd]
  · intro i hi hne
    rcases (show i = 0 ∨ i = 1 ∨ i = 2 ∨ i = 3 ∨ i = 4 ∨ i = 5 ∨ i = 6 ∨ i = 7 by omega) with rfl | rfl | rfl | rfl | rfl | rfl | rfl | rfl <;> first | (exact absurd rfl hne) | simp [mm_ob, up2, upd]
  · intro i hi
    exact up2_n g _ _ (by omega)
theorem jr_put_X7_16 {idx : Nat} {v : Int32} (cx : Cx E X cc own Ts nL fr lo) (hd : decode cc pc = .ok (.putfield idx, 3)) (hin : ∀ w ∈ u_ws RX7 TX7 30, w ∈ Ts) (hlk : Cond.fieldLink own idx (TX7 16).1 (TX7 16).2.1 (TX7 16).2.2.1 ∈ Ts) (kk : JJ E X (up2 g 7 16 v) h (pc + 3) L st) : JJ E X g h pc L (.int v :: .ref (E.1 7) :: st) := by
  refine jr_put (k := 7) (f := 16) (ty := .int) cx hd (by decide) rfl rfl hin tyX7_ok nmX7 (by decide) hlk rfl (by decide +kernel) rfl rfl (Nat.le_of_ble_eq_true rfl) ?_ ?_ ?_ kk
  · simp [mm_ob, up2, upd]
  · intro i hi hne
    rcases (show i = 0 ∨ i = 1 ∨ i = 2 ∨ i = 3 ∨ i = 4 ∨ i = 5 ∨ i = 6 ∨ i = 7 by omega) with rfl | rfl | rfl | rfl | rfl | rfl | rfl | rfl <;> first | (exact absurd rfl hne) | simp [mm_ob, up2, upd]
  · intro i hi
    exact up2_n g _ _ (by omega)
theorem jr_put_X7_25 {idx : Nat} {v : Int32} (cx : Cx E X cc own Ts nL fr lo) (hd : decode cc pc = .ok (.putfield idx, 3)) (hin : ∀ w ∈ u_ws RX7 TX7 30, w ∈ Ts) (hlk : Cond.fieldLink own idx (TX7 25).1 (TX7 25).2.1 (TX7 25).2.2.1 ∈ Ts) (kk : JJ E X (up2 g 7 25 v) h (pc + 3) L st) : JJ E X g h pc L (.int v :: .ref (E.1 7) :: st) := by
  refine jr_put (k := 7) (f := 25) (ty := .int) cx hd (by decide) rfl rfl hin tyX7_ok nmX7 (by decide) hlk rfl (by decide +kernel) rfl rfl (Nat.le_of_ble_eq_true rfl) ?_ ?_ ?_ kk
  · simp [mm_ob, up2, upd]
  · intro i hi hne
    rcases (show i = 0 ∨ i = 1 ∨ i = 2 ∨ i = 3 ∨ i = 4 ∨ i = 5 ∨ i = 6 ∨ i = 7 by omega) with rfl | rfl | rfl | rfl | rfl | rfl | rfl | rfl <;> first | (exact absurd rfl hne) | simp [mm_ob, up2, upd]
  · intro i hi
    exact up2_n g _ _ (by omega)
theorem jr_put_X7_26 {idx : Nat} {v : Int32} (cx : Cx E X cc own Ts nL fr lo) (hd : decode cc pc = .ok (.putfield idx, 3)) (hin : ∀ w ∈ u_ws RX7 TX7 30, w ∈ Ts) (hlk : Cond.fieldLink own idx (TX7 26).1 (TX7 26).2.1 (TX7 26).2.2.1 ∈ Ts) (kk : JJ E X (up2 g 7 26 v) h (pc + 3) L st) : JJ E X g h pc L (.int v :: .ref (E.1 7) :: st) := by
  refine jr_put (k := 7) (f := 26) (ty := .int) cx hd (by decide) rfl rfl hin tyX7_ok nmX7 (by decide) hlk rfl (by decide +kernel) rfl rfl (Nat.le_of_ble_eq_true rfl) ?_ ?_ ?_ kk
  · simp [mm_ob, up2, upd]
  · intro i hi hne
    rcases (show i = 0 ∨ i = 1 ∨ i = 2 ∨ i = 3 ∨ i = 4 ∨ i = 5 ∨ i = 6 ∨ i = 7 by omega) with rfl | rfl | rfl | rfl | rfl | rfl | rfl | rfl <;> first | (exact absurd rfl hne) | simp [mm_ob, up2, upd]
  · intro i hi
    exact up2_n g _ _ (by omega)
theorem jr_alen {k : Nat} (cx : Cx E X cc own Ts nL fr lo) (hd : decode cc pc = .ok (.arraylength, 1)) (hk : mm_isI k) (kk : JJ E X g h (pc + 1) L (.int (nI (mm_len k)) :: st)) : JJ E X g h pc L (.ref (E.1 k) :: st) := by
  obtain ⟨p, e, R, s, m, args, below, meth, c, cells, slots, Q, A⟩ := X
  obtain ⟨hx, hb, hml, hown, hts, hK, hA, hfr, hlo, hc, hs⟩ := cx
  intro ls H locs hl hP hS
  have hk5 : k < 105 := by unfold mm_isI at hk; omega
  exact va_alen (x := (mm_len k, .inl (g k))) hx hb hK.2.1 hP k 0 ((mm_at E g h hk5).trans (by rw [mm_ce_i E g h hk])) rfl rfl hd (kk ls H locs hl hP hS)
end JT
