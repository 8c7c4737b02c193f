def fil (f : Nat → Int32) (v : Int32) (i : Nat) : Nat → Int32 := fun j => if j < i then v else f j
theorem fil_s (f : Nat → Int32) (v : Int32) (i : Nat) : upd (fil f v i) i v = fil f v (i + 1) := by
  funext j
  unfold fil upd
  by_cases e : j = i
  · subst e; simp
  · simp only [if_neg e]
    by_cases h : j < i
    · rw [if_pos h, if_pos (by omega)]
    · rw [if_neg h, if_neg (by omega)]
theorem fil_0 (f : Nat → Int32) (v : Int32) : fil f v 0 = f := rfl
set_option maxHeartbeats 4000000 in
theorem k_fill (E : mm_E) (o sz N : Nat) (hN : N ≤ 1000) (f : Nat → Int32) (v : Int32) : Km E yJ7_fill_53178 wsJ7_fill_53178 0 0 0 0 [.ref o, .int v] o 1 sz sz [.inl (E.2.1, N, .inl f)] [.inl (E.2.1, N, .inl (fil f v N))] := by
  refine ck_v (bytes := cJ7_fill_53178) (maxL := 4) (ini := false) (by decide) rfl (Nat.le_of_ble_eq_true rfl) (fun h => by cases h) (fun X cx hR => ?_)
  change Ck E X cJ7_fill_53178 RJ7 wsJ7_fill_53178 4 o 1 0 0 0 0 false at cx
  change KK E X o sz 0 0 [.inl (E.2.1, N, .inl f)] 0 [(0, .ref o), (1, .int v)] []
  refine kk_iconst (v := 0) cx dJ7_fill_53178_0 (by decide) ?_
  refine kk_istore_n (L' := [(2, .int 0), (0, .ref o), (1, .int v)]) cx dJ7_fill_53178_1 rfl (by decide) rfl ?_
  refine kk_aload_n cx dJ7_fill_53178_2 1 rfl rfl ?_
  refine kk_alen (i := 0) cx dJ7_fill_53178_3 rfl ?_
  refine kk_istore_n (L' := [(3, .int (nI N)), (2, .int 0), (0, .ref o), (1, .int v)]) cx dJ7_fill_53178_4 rfl (by decide) rfl ?_
  have key1 : ∀ (fu1 : Nat) (i : Nat), N + 1 ≤ i + fu1 → (i ≤ N) → KK E X o sz 0 0 [.inl (E.2.1, N, .inl (fil f v i))] 5 [(0, .ref o), (1, .int v), (2, .int (nI i)), (3, .int (nI N))] [] := by
    intro fu1
    induction fu1 with
    | zero => intro i hfu1 h1; exfalso; omega
    | succ fu1 ih1 =>
      intro i hfu1 h1
      refine kk_iload_n cx dJ7_fill_53178_5 2 rfl rfl ?_
      refine kk_iload_n cx dJ7_fill_53178_6 3 rfl rfl ?_
      refine kk_icmp_ge (tgt := 20) cx dJ7_fill_53178_7 (by decide) (fun c7 => ?_) (fun c7 => ?_)
      · have n7 : N ≤ i := (nI_leI (a := N) (b := i) (by omega) (by omega)).mp c7
        have hq : i = N := by omega
        exact kk_cs (by rw [hq]) (hR 20 _ dJ7_fill_53178_20)
      · have n7 : ¬ (N ≤ i) := fun q => c7 ((nI_leI (a := N) (b := i) (by omega) (by omega)).mpr q)
        refine kk_aload_n cx dJ7_fill_53178_10 0 rfl rfl ?_
        refine kk_iload_n cx dJ7_fill_53178_11 2 rfl rfl ?_
        refine kk_iload_n cx dJ7_fill_53178_12 1 rfl rfl ?_
        refine kk_iast (i := 0) (j := i) cx dJ7_fill_53178_13 rfl rfl (by omega) hN (Nat.le_refl 1) ?_
        refine kk_iinc (j := 2) (v := nI (i + 1)) (L' := [(2, .int (nI (i + 1))), (0, .ref o), (1, .int v), (3, .int (nI N))]) cx dJ7_fill_53178_14 rfl (nI_1 _) (by decide) rfl ?_
        refine kk_goto (tgt := 5) cx dJ7_fill_53178_17 (by decide) ?_
        refine kk_pick (L' := [(0, .ref o), (1, .int v), (2, .int (nI (i + 1))), (3, .int (nI N))]) [1, 2, 0, 3] rfl ?_
        refine kk_cs (show _ = [.inl (E.2.1, N, .inl (fil f v (i + 1)))] by rw [← fil_s f v i]; rfl) ?_
        exact ih1 (i + 1) (by omega) (by omega)
  refine kk_pick (L' := [(0, .ref o), (1, .int v), (2, .int (nI 0)), (3, .int (nI N))]) [2, 3, 1, 0] rfl ?_
  exact key1 (N + 1) 0 (by omega) (by omega)
def kX0 (E : mm_E) (o : Nat) : List va_E := [.inr (0, [.ref (o + 1), .ref (o + 2), .int 0])] ++ [.inl (E.2.1, 16, .inl (fun _ => 0))] ++ [.inl (E.2.1, 16, .inl (fun _ => 0))]
set_option maxHeartbeats 4000000 in
set_option maxRecDepth 100000 in
theorem k_X0_init (E : mm_E) (o : Nat) : Km E yX0_init wsX0_init 1 20 2 32 [.ref o] o 3 (o + 1) (o + 3) [.inr (0, [.null, .null, .int 0])] (kX0 E o) := by
  refine ck_v (bytes := cX0_init) (maxL := 1) (ini := true) (by decide) rfl (Nat.le_of_ble_eq_true rfl) (fun _ => rfl) (fun X cx hR => ?_)
  change Ck E X cX0_init RX0 wsX0_init 1 o 3 1 20 2 32 true at cx
  change KK E X o (o + 1) 0 0 [.inr (0, [.null, .null, .int 0])] 0 [(0, .ref o)] []
  have hin : ∀ w ∈ u_ws RX0 TX0 3, w ∈ wsX0_init := by decide +kernel
  refine kk_aload_n cx dX0_init_0 0 rfl rfl ?_
  refine kk_obj cx dX0_init_1 (by decide +kernel) (by decide +kernel) (by decide +kernel) (by decide) (by decide) ?_
  refine kk_aload_n cx dX0_init_4 0 rfl rfl ?_
  refine kk_bipush (v := 16) cx dX0_init_5 (by decide) ?_
  refine kk_newi (N := 16) cx dX0_init_7 (by decide +kernel) rfl (by decide) rfl (Nat.le_of_ble_eq_true rfl) (Nat.le_of_ble_eq_true rfl) ?_
  refine kk_is (sz2 := o + 2) (k2 := 1) (n2 := 16) (ds := [.inr (0, [.null, .null, .int 0])] ++ [.inl (E.2.1, 16, .inl (fun _ => 0))]) (st2 := [.ref (o + 1), .ref o]) rfl rfl rfl rfl rfl ?_
  refine kk_putF (i := 0) (f := 0) (ty := .array .int) cx dX0_init_9 rfl rfl hin tyX0_ok nmX0 (by decide) (by decide +kernel) rfl rfl (by decide +kernel) rfl rfl (Nat.le_of_ble_eq_true rfl) (Nat.le_of_ble_eq_true rfl) ?_
  refine kk_is (sz2 := o + 2) (k2 := 1) (n2 := 16) (ds := [.inr (0, [.ref (o + 1), .null, .int 0])] ++ [.inl (E.2.1, 16, .inl (fun _ => 0))]) (st2 := []) rfl rfl rfl rfl rfl ?_
  refine kk_aload_n cx dX0_init_12 0 rfl rfl ?_
  refine kk_bipush (v := 16) cx dX0_init_13 (by decide) ?_
  refine kk_newi (N := 16) cx dX0_init_15 (by decide +kernel) rfl (by decide) rfl (Nat.le_of_ble_eq_true rfl) (Nat.le_of_ble_eq_true rfl) ?_
  refine kk_is (sz2 := o + 3) (k2 := 2) (n2 := 32) (ds := [.inr (0, [.ref (o + 1), .null, .int 0])] ++ [.inl (E.2.1, 16, .inl (fun _ => 0))] ++ [.inl (E.2.1, 16, .inl (fun _ => 0))]) (st2 := [.ref (o + 2), .ref o]) rfl rfl rfl rfl rfl ?_
  refine kk_putF (i := 0) (f := 1) (ty := .array .int) cx dX0_init_17 rfl rfl hin tyX0_ok nmX0 (by decide) (by decide +kernel) rfl rfl (by decide +kernel) rfl rfl (Nat.le_of_ble_eq_true rfl) (Nat.le_of_ble_eq_true rfl) ?_
  refine kk_is (sz2 := o + 3) (k2 := 2) (n2 := 32) (ds := [.inr (0, [.ref (o + 1), .ref (o + 2), .int 0])] ++ [.inl (E.2.1, 16, .inl (fun _ => 0))] ++ [.inl (E.2.1, 16, .inl (fun _ => 0))]) (st2 := []) rfl rfl rfl rfl rfl ?_
  refine kk_aload_n cx dX0_init_20 0 rfl rfl ?_
  refine kk_iconst (v := 0) cx dX0_init_21 (by decide) ?_
  refine kk_put (i := 0) (f := 2) (ty := .int) cx dX0_init_22 rfl rfl hin tyX0_ok nmX0 (by decide) (by decide +kernel) rfl (by decide +kernel) rfl rfl (Nat.le_of_ble_eq_true rfl) (Nat.le_of_ble_eq_true rfl) ?_
  refine kk_is (sz2 := o + 3) (k2 := 2) (n2 := 32) (ds := [.inr (0, [.ref (o + 1), .ref (o + 2), .int 0])] ++ [.inl (E.2.1, 16, .inl (fun _ => 0))] ++ [.inl (E.2.1, 16, .inl (fun _ => 0))]) (st2 := []) rfl rfl rfl rfl rfl ?_
  exact hR 25 _ dX0_init_25
def kX1 (E : mm_E) (o : Nat) : List va_E := [.inr (1, [.ref (o + 1), .int 0])] ++ (.inl (E.2.2.2.1, 40, .inr (.inr (.inr (.inr (fun i => if i < 40 then some (o + 2 + i) else none))))) :: List.replicate 40 (.inl (E.2.1, 8, .inl (fun _ => 0))))
set_option maxHeartbeats 4000000 in
set_option maxRecDepth 100000 in
theorem k_X1_init (E : mm_E) (o : Nat) : Km E yX1_init wsX1_init 1 20 41 360 [.ref o] o 42 (o + 1) (o + 42) [.inr (1, [.null, .int 0])] (kX1 E o) := by
  refine ck_v (bytes := cX1_init) (maxL := 1) (ini := true) (by decide) rfl (Nat.le_of_ble_eq_true rfl) (fun _ => rfl) (fun X cx hR => ?_)
  change Ck E X cX1_init RX1 wsX1_init 1 o 42 1 20 41 360 true at cx
  change KK E X o (o + 1) 0 0 [.inr (1, [.null, .int 0])] 0 [(0, .ref o)] []
  have hin : ∀ w ∈ u_ws RX1 TX1 2, w ∈ wsX1_init := by decide +kernel
  refine kk_aload_n cx dX1_init_0 0 rfl rfl ?_
  refine kk_obj cx dX1_init_1 (by decide +kernel) (by decide +kernel) (by decide +kernel) (by decide) (by decide) ?_
  refine kk_aload_n cx dX1_init_4 0 rfl rfl ?_
  refine kk_bipush (v := 40) cx dX1_init_5 (by decide) ?_
  refine kk_bipush (v := 8) cx dX1_init_7 (by decide) ?_
  refine kk_mna (N := 40) (M := 8) cx dX1_init_9 (by decide +kernel) (by decide +kernel) rfl rfl (by decide) (by decide) rfl (Nat.le_of_ble_eq_true rfl) (Nat.le_of_ble_eq_true rfl) ?_
  refine kk_is (sz2 := o + 42) (k2 := 41) (n2 := 360) (ds := [.inr (1, [.null, .int 0])] ++ (.inl (E.2.2.2.1, 40, .inr (.inr (.inr (.inr (fun i => if i < 40 then some (o + 2 + i) else none))))) :: List.replicate 40 (.inl (E.2.1, 8, .inl (fun _ => 0))))) (st2 := [.ref (o + 1), .ref o]) rfl rfl rfl rfl rfl ?_
  refine kk_putF (i := 0) (f := 0) (ty := .array (.array .int)) cx dX1_init_13 rfl rfl hin tyX1_ok nmX1 (by decide) (by decide +kernel) rfl rfl (by decide +kernel) rfl rfl (Nat.le_of_ble_eq_true rfl) (Nat.le_of_ble_eq_true rfl) ?_
  refine kk_is (sz2 := o + 42) (k2 := 41) (n2 := 360) (ds := [.inr (1, [.ref (o + 1), .int 0])] ++ (.inl (E.2.2.2.1, 40, .inr (.inr (.inr (.inr (fun i => if i < 40 then some (o + 2 + i) else none))))) :: List.replicate 40 (.inl (E.2.1, 8, .inl (fun _ => 0))))) (st2 := []) rfl rfl rfl rfl rfl ?_
  refine kk_aload_n cx dX1_init_16 0 rfl rfl ?_
  refine kk_iconst (v := 0) cx dX1_init_17 (by decide) ?_
  refine kk_put (i := 0) (f := 1) (ty := .int) cx dX1_init_18 rfl rfl hin tyX1_ok nmX1 (by decide) (by decide +kernel) rfl (by decide +kernel) rfl rfl (Nat.le_of_ble_eq_true rfl) (Nat.le_of_ble_eq_true rfl) ?_
  refine kk_is (sz2 := o + 42) (k2 := 41) (n2 := 360) (ds := [.inr (1, [.ref (o + 1), .int 0])] ++ (.inl (E.2.2.2.1, 40, .inr (.inr (.inr (.inr (fun i => if i < 40 then some (o + 2 + i) else none))))) :: List.replicate 40 (.inl (E.2.1, 8, .inl (fun _ => 0))))) (st2 := []) rfl rfl rfl rfl rfl ?_
  exact hR 21 _ dX1_init_21
def kX2 (E : mm_E) (o : Nat) : List va_E := [.inr (2, [.long 0, .long 1])]
set_option maxHeartbeats 4000000 in
set_option maxRecDepth 100000 in
theorem k_X2_init (E : mm_E) (o : Nat) : Km E yX2_init wsX2_init 1 20 0 0 [.ref o] o 1 (o + 1) (o + 1) [.inr (2, [.long 0, .long 0])] (kX2 E o) := by
  refine ck_v (bytes := cX2_init) (maxL := 1) (ini := true) (by decide) rfl (Nat.le_of_ble_eq_true rfl) (fun _ => rfl) (fun X cx hR => ?_)
  change Ck E X cX2_init RX2 wsX2_init 1 o 1 1 20 0 0 true at cx
  change KK E X o (o + 1) 0 0 [.inr (2, [.long 0, .long 0])] 0 [(0, .ref o)] []
  have hin : ∀ w ∈ u_ws RX2 TX2 2, w ∈ wsX2_init := by decide +kernel
  refine kk_aload_n cx dX2_init_0 0 rfl rfl ?_
  refine kk_obj cx dX2_init_1 (by decide +kernel) (by decide +kernel) (by decide +kernel) (by decide) (by decide) ?_
  refine kk_aload_n cx dX2_init_4 0 rfl rfl ?_
  refine kk_lconst (v := 0) cx dX2_init_5 (by decide) ?_
  refine kk_put (i := 0) (f := 0) (ty := .long) cx dX2_init_6 rfl rfl hin tyX2_ok nmX2 (by decide) (by decide +kernel) rfl (by decide +kernel) rfl rfl (Nat.le_of_ble_eq_true rfl) (Nat.le_of_ble_eq_true rfl) ?_
  refine kk_is (sz2 := o + 1) (k2 := 0) (n2 := 0) (ds := [.inr (2, [.long 0, .long 0])]) (st2 := []) rfl rfl rfl rfl rfl ?_
  refine kk_aload_n cx dX2_init_9 0 rfl rfl ?_
  refine kk_lconst (v := 1) cx dX2_init_10 (by decide) ?_
  refine kk_put (i := 0) (f := 1) (ty := .long) cx dX2_init_11 rfl rfl hin tyX2_ok nmX2 (by decide) (by decide +kernel) rfl (by decide +kernel) rfl rfl (Nat.le_of_ble_eq_true rfl) (Nat.le_of_ble_eq_true rfl) ?_
  refine kk_is (sz2 := o + 1) (k2 := 0) (n2 := 0) (ds := [.inr (2, [.long 0, .long 1])]) (st2 := []) rfl rfl rfl rfl rfl ?_
  exact hR 14 _ dX2_init_14
def kX3 (E : mm_E) (o : Nat) : List va_E := [.inr (3, [.ref (o + 1), .ref (o + 8)])] ++ (.inl (E.2.2.2.1, 6, .inr (.inr (.inr (.inr (fun i => if i < 6 then some (o + 2 + i) else none))))) :: List.replicate 6 (.inl (E.2.1, 6, .inl (fun _ => 0)))) ++ [.inl (E.2.2.2.1, 6, .inr (.inr (.inr (.inr (fun i => if i < 6 then some (o + 9 + i) else none))))), .inl (E.2.1, 6, .inl (fil (fun _ => 0) (-1) 6)), .inl (E.2.1, 6, .inl (fil (fun _ => 0) (-1) 6)), .inl (E.2.1, 6, .inl (fil (fun _ => 0) (-1) 6)), .inl (E.2.1, 6, .inl (fil (fun _ => 0) (-1) 6)), .inl (E.2.1, 6, .inl (fil (fun _ => 0) (-1) 6)), .inl (E.2.1, 6, .inl (fil (fun _ => 0) (-1) 6))]
set_option maxHeartbeats 4000000 in
set_option maxRecDepth 100000 in
theorem k_X3_init (E : mm_E) (o : Nat) : Km E yX3_init wsX3_init 1 23 14 84 [.ref o] o 15 (o + 1) (o + 15) [.inr (3, [.null, .null])] (kX3 E o) := by
  refine ck_v (bytes := cX3_init) (maxL := 2) (ini := true) (by decide) rfl (Nat.le_of_ble_eq_true rfl) (fun _ => rfl) (fun X cx hR => ?_)
  change Ck E X cX3_init RX3 wsX3_init 2 o 15 1 23 14 84 true at cx
  change KK E X o (o + 1) 0 0 [.inr (3, [.null, .null])] 0 [(0, .ref o)] []
  have hin : ∀ w ∈ u_ws RX3 TX3 2, w ∈ wsX3_init := by decide +kernel
  refine kk_aload_n cx dX3_init_0 0 rfl rfl ?_
  refine kk_obj cx dX3_init_1 (by decide +kernel) (by decide +kernel) (by decide +kernel) (by decide) (by decide) ?_
  refine kk_aload_n cx dX3_init_4 0 rfl rfl ?_
  refine kk_bipush (v := 6) cx dX3_init_5 (by decide) ?_
  refine kk_bipush (v := 6) cx dX3_init_7 (by decide) ?_
  refine kk_mna (N := 6) (M := 6) cx dX3_init_9 (by decide +kernel) (by decide +kernel) rfl rfl (by decide) (by decide) rfl (Nat.le_of_ble_eq_true rfl) (Nat.le_of_ble_eq_true rfl) ?_
  refine kk_is (sz2 := o + 8) (k2 := 7) (n2 := 42) (ds := [.inr (3, [.null, .null])] ++ (.inl (E.2.2.2.1, 6, .inr (.inr (.inr (.inr (fun i => if i < 6 then some (o + 2 + i) else none))))) :: List.replicate 6 (.inl (E.2.1, 6, .inl (fun _ => 0))))) (st2 := [.ref (o + 1), .ref o]) rfl rfl rfl rfl rfl ?_
  refine kk_putF (i := 0) (f := 0) (ty := .array (.array .int)) cx dX3_init_13 rfl rfl hin tyX3_ok nmX3 (by decide) (by decide +kernel) rfl rfl (by decide +kernel) rfl rfl (Nat.le_of_ble_eq_true rfl) (Nat.le_of_ble_eq_true rfl) ?_
  refine kk_is (sz2 := o + 8) (k2 := 7) (n2 := 42) (ds := [.inr (3, [.ref (o + 1), .null])] ++ (.inl (E.2.2.2.1, 6, .inr (.inr (.inr (.inr (fun i => if i < 6 then some (o + 2 + i) else none))))) :: List.replicate 6 (.inl (E.2.1, 6, .inl (fun _ => 0))))) (st2 := []) rfl rfl rfl rfl rfl ?_
  refine kk_aload_n cx dX3_init_16 0 rfl rfl ?_
  refine kk_bipush (v := 6) cx dX3_init_17 (by decide) ?_
  refine kk_bipush (v := 6) cx dX3_init_19 (by decide) ?_
  refine kk_mna (N := 6) (M := 6) cx dX3_init_21 (by decide +kernel) (by decide +kernel) rfl rfl (by decide) (by decide) rfl (Nat.le_of_ble_eq_true rfl) (Nat.le_of_ble_eq_true rfl) ?_
  refine kk_is (sz2 := o + 15) (k2 := 14) (n2 := 84) (ds := [.inr (3, [.ref (o + 1), .null])] ++ (.inl (E.2.2.2.1, 6, .inr (.inr (.inr (.inr (fun i => if i < 6 then some (o + 2 + i) else none))))) :: List.replicate 6 (.inl (E.2.1, 6, .inl (fun _ => 0)))) ++ (.inl (E.2.2.2.1, 6, .inr (.inr (.inr (.inr (fun i => if i < 6 then some (o + 9 + i) else none))))) :: List.replicate 6 (.inl (E.2.1, 6, .inl (fun _ => 0))))) (st2 := [.ref (o + 8), .ref o]) rfl rfl rfl rfl rfl ?_
  refine kk_putF (i := 0) (f := 1) (ty := .array (.array .int)) cx dX3_init_25 rfl rfl hin tyX3_ok nmX3 (by decide) (by decide +kernel) rfl rfl (by decide +kernel) rfl rfl (Nat.le_of_ble_eq_true rfl) (Nat.le_of_ble_eq_true rfl) ?_
  refine kk_is (sz2 := o + 15) (k2 := 14) (n2 := 84) (ds := [.inr (3, [.ref (o + 1), .ref (o + 8)])] ++ (.inl (E.2.2.2.1, 6, .inr (.inr (.inr (.inr (fun i => if i < 6 then some (o + 2 + i) else none))))) :: List.replicate 6 (.inl (E.2.1, 6, .inl (fun _ => 0)))) ++ (.inl (E.2.2.2.1, 6, .inr (.inr (.inr (.inr (fun i => if i < 6 then some (o + 9 + i) else none))))) :: List.replicate 6 (.inl (E.2.1, 6, .inl (fun _ => 0))))) (st2 := []) rfl rfl rfl rfl rfl ?_
  refine kk_iconst (v := 0) cx dX3_init_28 (by decide) ?_
  refine kk_istore_n (L' := [(1, .int 0), (0, .ref o)]) cx dX3_init_29 rfl (by decide) rfl ?_
  refine kk_iload_n cx dX3_init_30 0 rfl rfl ?_
  refine kk_bipush (v := 6) cx dX3_init_31 (by decide) ?_
  refine kk_icmp_ge (tgt := 52) cx dX3_init_33 (by decide) (fun q => absurd q (by decide)) (fun _ => ?_)
  refine kk_aload_n cx dX3_init_36 1 rfl rfl ?_
  refine kk_get (i := 0) (f := 1) (v := .ref (o + 8)) cx dX3_init_37 rfl rfl hin (by decide) (by decide +kernel) rfl ?_
  refine kk_iload_n cx dX3_init_40 0 rfl rfl ?_
  refine kk_aald (i := 8) (j := 0) (q := o + 9) cx dX3_init_41 rfl rfl (by decide) (by decide) rfl ?_
  refine kk_iconst (v := (-1)) cx dX3_init_42 (by decide) ?_
  refine kk_fill (i := 9) (N := 6) (f9 := fil (fun _ => 0) (-1) 6) cx dX3_init_43 (k_fill E (o + 9) _ 6 (by decide) _ (-1)) rfl gX3_init_J7_fill_53178 rfl (by decide +kernel) (by decide) (Nat.le_of_ble_eq_true rfl) (Nat.le_of_ble_eq_true rfl) (Nat.le_of_ble_eq_true rfl) (by decide) ?_
  refine kk_is (sz2 := o + 15) (k2 := 14) (n2 := 84) (ds := [.inr (3, [.ref (o + 1), .ref (o + 8)])] ++ (.inl (E.2.2.2.1, 6, .inr (.inr (.inr (.inr (fun i => if i < 6 then some (o + 2 + i) else none))))) :: List.replicate 6 (.inl (E.2.1, 6, .inl (fun _ => 0)))) ++ [.inl (E.2.2.2.1, 6, .inr (.inr (.inr (.inr (fun i => if i < 6 then some (o + 9 + i) else none))))), .inl (E.2.1, 6, .inl (fil (fun _ => 0) (-1) 6)), .inl (E.2.1, 6, .inl (fun _ => 0)), .inl (E.2.1, 6, .inl (fun _ => 0)), .inl (E.2.1, 6, .inl (fun _ => 0)), .inl (E.2.1, 6, .inl (fun _ => 0)), .inl (E.2.1, 6, .inl (fun _ => 0))]) (st2 := []) rfl rfl rfl rfl rfl ?_
  refine kk_iinc (j := 0) (v := 1) (L' := [(1, .int 1), (0, .ref o)]) cx dX3_init_46 rfl (by decide) (by decide) rfl ?_
  refine kk_goto (tgt := 30) cx dX3_init_49 (by decide) ?_
  refine kk_iload_n cx dX3_init_30 0 rfl rfl ?_
  refine kk_bipush (v := 6) cx dX3_init_31 (by decide) ?_
  refine kk_icmp_ge (tgt := 52) cx dX3_init_33 (by decide) (fun q => absurd q (by decide)) (fun _ => ?_)
  refine kk_aload_n cx dX3_init_36 1 rfl rfl ?_
  refine kk_get (i := 0) (f := 1) (v := .ref (o + 8)) cx dX3_init_37 rfl rfl hin (by decide) (by decide +kernel) rfl ?_
  refine kk_iload_n cx dX3_init_40 0 rfl rfl ?_
  refine kk_aald (i := 8) (j := 1) (q := o + 10) cx dX3_init_41 rfl rfl (by decide) (by decide) rfl ?_
  refine kk_iconst (v := (-1)) cx dX3_init_42 (by decide) ?_
  refine kk_fill (i := 10) (N := 6) (f9 := fil (fun _ => 0) (-1) 6) cx dX3_init_43 (k_fill E (o + 10) _ 6 (by decide) _ (-1)) rfl gX3_init_J7_fill_53178 rfl (by decide +kernel) (by decide) (Nat.le_of_ble_eq_true rfl) (Nat.le_of_ble_eq_true rfl) (Nat.le_of_ble_eq_true rfl) (by decide) ?_
  refine kk_is (sz2 := o + 15) (k2 := 14) (n2 := 84) (ds := [.inr (3, [.ref (o + 1), .ref (o + 8)])] ++ (.inl (E.2.2.2.1, 6, .inr (.inr (.inr (.inr (fun i => if i < 6 then some (o + 2 + i) else none))))) :: List.replicate 6 (.inl (E.2.1, 6, .inl (fun _ => 0)))) ++ [.inl (E.2.2.2.1, 6, .inr (.inr (.inr (.inr (fun i => if i < 6 then some (o + 9 + i) else none))))), .inl (E.2.1, 6, .inl (fil (fun _ => 0) (-1) 6)), .inl (E.2.1, 6, .inl (fil (fun _ => 0) (-1) 6)), .inl (E.2.1, 6, .inl (fun _ => 0)), .inl (E.2.1, 6, .inl (fun _ => 0)), .inl (E.2.1, 6, .inl (fun _ => 0)), .inl (E.2.1, 6, .inl (fun _ => 0))]) (st2 := []) rfl rfl rfl rfl rfl ?_
  refine kk_iinc (j := 0) (v := 2) (L' := [(1, .int 2), (0, .ref o)]) cx dX3_init_46 rfl (by decide) (by decide) rfl ?_
  refine kk_goto (tgt := 30) cx dX3_init_49 (by decide) ?_
  refine kk_iload_n cx dX3_init_30 0 rfl rfl ?_
  refine kk_bipush (v := 6) cx dX3_init_31 (by decide) ?_
  refine kk_icmp_ge (tgt := 52) cx dX3_init_33 (by decide) (fun q => absurd q (by decide)) (fun _ => ?_)
  refine kk_aload_n cx dX3_init_36 1 rfl rfl ?_
  refine kk_get (i := 0) (f := 1) (v := .ref (o + 8)) cx dX3_init_37 rfl rfl hin (by decide) (by decide +kernel) rfl ?_
  refine kk_iload_n cx dX3_init_40 0 rfl rfl ?_
  refine kk_aald (i := 8) (j := 2) (q := o + 11) cx dX3_init_41 rfl rfl (by decide) (by decide) rfl ?_
  refine kk_iconst (v := (-1)) cx dX3_init_42 (by decide) ?_
  refine kk_fill (i := 11) (N := 6) (f9 := fil (fun _ => 0) (-1) 6) cx dX3_init_43 (k_fill E (o + 11) _ 6 (by decide) _ (-1)) rfl gX3_init_J7_fill_53178 rfl (by decide +kernel) (by decide) (Nat.le_of_ble_eq_true rfl) (Nat.le_of_ble_eq_true rfl) (Nat.le_of_ble_eq_true rfl) (by decide) ?_
  refine kk_is (sz2 := o + 15) (k2 := 14) (n2 := 84) (ds := [.inr (3, [.ref (o + 1), .ref (o + 8)])] ++ (.inl (E.2.2.2.1, 6, .inr (.inr (.inr (.inr (fun i => if i < 6 then some (o + 2 + i) else none))))) :: List.replicate 6 (.inl (E.2.1, 6, .inl (fun _ => 0)))) ++ [.inl (E.2.2.2.1, 6, .inr (.inr (.inr (.inr (fun i => if i < 6 then some (o + 9 + i) else none))))), .inl (E.2.1, 6, .inl (fil (fun _ => 0) (-1) 6)), .inl (E.2.1, 6, .inl (fil (fun _ => 0) (-1) 6)), .inl (E.2.1, 6, .inl (fil (fun _ => 0) (-1) 6)), .inl (E.2.1, 6, .inl (fun _ => 0)), .inl (E.2.1, 6, .inl (fun _ => 0)), .inl (E.2.1, 6, .inl (fun _ => 0))]) (st2 := []) rfl rfl rfl rfl rfl ?_
  refine kk_iinc (j := 0) (v := 3) (L' := [(1, .int 3), (0, .ref o)]) cx dX3_init_46 rfl (by decide) (by decide) rfl ?_
  refine kk_goto (tgt := 30) cx dX3_init_49 (by decide) ?_
  refine kk_iload_n cx dX3_init_30 0 rfl rfl ?_
  refine kk_bipush (v := 6) cx dX3_init_31 (by decide) ?_
  refine kk_icmp_ge (tgt := 52) cx dX3_init_33 (by decide) (fun q => absurd q (by decide)) (fun _ => ?_)
  refine kk_aload_n cx dX3_init_36 1 rfl rfl ?_
  refine kk_get (i := 0) (f := 1) (v := .ref (o + 8)) cx dX3_init_37 rfl rfl hin (by decide) (by decide +kernel) rfl ?_
  refine kk_iload_n cx dX3_init_40 0 rfl rfl ?_
  refine kk_aald (i := 8) (j := 3) (q := o + 12) cx dX3_init_41 rfl rfl (by decide) (by decide) rfl ?_
  refine kk_iconst (v := (-1)) cx dX3_init_42 (by decide) ?_
  refine kk_fill (i := 12) (N := 6) (f9 := fil (fun _ => 0) (-1) 6) cx dX3_init_43 (k_fill E (o + 12) _ 6 (by decide) _ (-1)) rfl gX3_init_J7_fill_53178 rfl (by decide +kernel) (by decide) (Nat.le_of_ble_eq_true rfl) (Nat.le_of_ble_eq_true rfl) (Nat.le_of_ble_eq_true rfl) (by decide) ?_
  refine kk_is (sz2 := o + 15) (k2 := 14) (n2 := 84) (ds := [.inr (3, [.ref (o + 1), .ref (o + 8)])] ++ (.inl (E.2.2.2.1, 6, .inr (.inr (.inr (.inr (fun i => if i < 6 then some (o + 2 + i) else none))))) :: List.replicate 6 (.inl (E.2.1, 6, .inl (fun _ => 0)))) ++ [.inl (E.2.2.2.1, 6, .inr (.inr (.inr (.inr (fun i => if i < 6 then some (o + 9 + i) else none))))), .inl (E.2.1, 6, .inl (fil (fun _ => 0) (-1) 6)), .inl (E.2.1, 6, .inl (fil (fun _ => 0) (-1) 6)), .inl (E.2.1, 6, .inl (fil (fun _ => 0) (-1) 6)), .inl (E.2.1, 6, .inl (fil (fun _ => 0) (-1) 6)), .inl (E.2.1, 6, .inl (fun _ => 0)), .inl (E.2.1, 6, .inl (fun _ => 0))]) (st2 := []) rfl rfl rfl rfl rfl ?_
  refine kk_iinc (j := 0) (v := 4) (L' := [(1, .int 4), (0, .ref o)]) cx dX3_init_46 rfl (by decide) (by decide) rfl ?_
  refine kk_goto (tgt := 30) cx dX3_init_49 (by decide) ?_
  refine kk_iload_n cx dX3_init_30 0 rfl rfl ?_
  refine kk_bipush (v := 6) cx dX3_init_31 (by decide) ?_
  refine kk_icmp_ge (tgt := 52) cx dX3_init_33 (by decide) (fun q => absurd q (by decide)) (fun _ => ?_)
  refine kk_aload_n cx dX3_init_36 1 rfl rfl ?_
  refine kk_get (i := 0) (f := 1) (v := .ref (o + 8)) cx dX3_init_37 rfl rfl hin (by decide) (by decide +kernel) rfl ?_
  refine kk_iload_n cx dX3_init_40 0 rfl rfl ?_
  refine kk_aald (i := 8) (j := 4) (q := o + 13) cx dX3_init_41 rfl rfl (by decide) (by decide) rfl ?_
  refine kk_iconst (v := (-1)) cx dX3_init_42 (by decide) ?_
  refine kk_fill (i := 13) (N := 6) (f9 := fil (fun _ => 0) (-1) 6) cx dX3_init_43 (k_fill E (o + 13) _ 6 (by decide) _ (-1)) rfl gX3_init_J7_fill_53178 rfl (by decide +kernel) (by decide) (Nat.le_of_ble_eq_true rfl) (Nat.le_of_ble_eq_true rfl) (Nat.le_of_ble_eq_true rfl) (by decide) ?_
  refine kk_is (sz2 := o + 15) (k2 := 14) (n2 := 84) (ds := [.inr (3, [.ref (o + 1), .ref (o + 8)])] ++ (.inl (E.2.2.2.1, 6, .inr (.inr (.inr (.inr (fun i => if i < 6 then some (o + 2 + i) else none))))) :: List.replicate 6 (.inl (E.2.1, 6, .inl (fun _ => 0)))) ++ [.inl (E.2.2.2.1, 6, .inr (.inr (.inr (.inr (fun i => if i < 6 then some (o + 9 + i) else none))))), .inl (E.2.1, 6, .inl (fil (fun _ => 0) (-1) 6)), .inl (E.2.1, 6, .inl (fil (fun _ => 0) (-1) 6)), .inl (E.2.1, 6, .inl (fil (fun _ => 0) (-1) 6)), .inl (E.2.1, 6, .inl (fil (fun _ => 0) (-1) 6)), .inl (E.2.1, 6, .inl (fil (fun _ => 0) (-1) 6)), .inl (E.2.1, 6, .inl (fun _ => 0))]) (st2 := []) rfl rfl rfl rfl rfl ?_
  refine kk_iinc (j := 0) (v := 5) (L' := [(1, .int 5), (0, .ref o)]) cx dX3_init_46 rfl (by decide) (by decide) rfl ?_
  refine kk_goto (tgt := 30) cx dX3_init_49 (by decide) ?_
  refine kk_iload_n cx dX3_init_30 0 rfl rfl ?_
  refine kk_bipush (v := 6) cx dX3_init_31 (by decide) ?_
  refine kk_icmp_ge (tgt := 52) cx dX3_init_33 (by decide) (fun q => absurd q (by decide)) (fun _ => ?_)
  refine kk_aload_n cx dX3_init_36 1 rfl rfl ?_
  refine kk_get (i := 0) (f := 1) (v := .ref (o + 8)) cx dX3_init_37 rfl rfl hin (by decide) (by decide +kernel) rfl ?_
  refine kk_iload_n cx dX3_init_40 0 rfl rfl ?_
  refine kk_aald (i := 8) (j := 5) (q := o + 14) cx dX3_init_41 rfl rfl (by decide) (by decide) rfl ?_
  refine kk_iconst (v := (-1)) cx dX3_init_42 (by decide) ?_
  refine kk_fill (i := 14) (N := 6) (f9 := fil (fun _ => 0) (-1) 6) cx dX3_init_43 (k_fill E (o + 14) _ 6 (by decide) _ (-1)) rfl gX3_init_J7_fill_53178 rfl (by decide +kernel) (by decide) (Nat.le_of_ble_eq_true rfl) (Nat.le_of_ble_eq_true rfl) (Nat.le_of_ble_eq_true rfl) (by decide) ?_
  refine kk_is (sz2 := o + 15) (k2 := 14) (n2 := 84) (ds := [.inr (3, [.ref (o + 1), .ref (o + 8)])] ++ (.inl (E.2.2.2.1, 6, .inr (.inr (.inr (.inr (fun i => if i < 6 then some (o + 2 + i) else none))))) :: List.replicate 6 (.inl (E.2.1, 6, .inl (fun _ => 0)))) ++ [.inl (E.2.2.2.1, 6, .inr (.inr (.inr (.inr (fun i => if i < 6 then some (o + 9 + i) else none))))), .inl (E.2.1, 6, .inl (fil (fun _ => 0) (-1) 6)), .inl (E.2.1, 6, .inl (fil (fun _ => 0) (-1) 6)), .inl (E.2.1, 6, .inl (fil (fun _ => 0) (-1) 6)), .inl (E.2.1, 6, .inl (fil (fun _ => 0) (-1) 6)), .inl (E.2.1, 6, .inl (fil (fun _ => 0) (-1) 6)), .inl (E.2.1, 6, .inl (fil (fun _ => 0) (-1) 6))]) (st2 := []) rfl rfl rfl rfl rfl ?_
  refine kk_iinc (j := 0) (v := 6) (L' := [(1, .int 6), (0, .ref o)]) cx dX3_init_46 rfl (by decide) (by decide) rfl ?_
  refine kk_goto (tgt := 30) cx dX3_init_49 (by decide) ?_
  refine kk_iload_n cx dX3_init_30 0 rfl rfl ?_
  refine kk_bipush (v := 6) cx dX3_init_31 (by decide) ?_
  refine kk_icmp_ge (tgt := 52) cx dX3_init_33 (by decide) (fun _ => ?_) (fun q => absurd (by decide) q)
  exact hR 52 _ dX3_init_52
def kX4 (E : mm_E) (o : Nat) : List va_E := [.inr (4, [.ref (o + 1), .ref (o + 8)])] ++ (.inl (E.2.2.2.1, 6, .inr (.inr (.inr (.inr (fun i => if i < 6 then some (o + 2 + i) else none))))) :: List.replicate 6 (.inl (E.2.1, 40, .inl (fun _ => 0)))) ++ [.inl (E.2.1, 6, .inl (fil (fun _ => 0) (-1) 6))]
set_option maxHeartbeats 4000000 in
set_option maxRecDepth 100000 in
theorem k_X4_init (E : mm_E) (o : Nat) : Km E yX4_init wsX4_init 1 23 8 252 [.ref o] o 9 (o + 1) (o + 9) [.inr (4, [.null, .null])] (kX4 E o) := by
  refine ck_v (bytes := cX4_init) (maxL := 1) (ini := true) (by decide) rfl (Nat.le_of_ble_eq_true rfl) (fun _ => rfl) (fun X cx hR => ?_)
  change Ck E X cX4_init RX4 wsX4_init 1 o 9 1 23 8 252 true at cx
  change KK E X o (o + 1) 0 0 [.inr (4, [.null, .null])] 0 [(0, .ref o)] []
  have hin : ∀ w ∈ u_ws RX4 TX4 2, w ∈ wsX4_init := by decide +kernel
  refine kk_aload_n cx dX4_init_0 0 rfl rfl ?_
  refine kk_obj cx dX4_init_1 (by decide +kernel) (by decide +kernel) (by decide +kernel) (by decide) (by decide) ?_
  refine kk_aload_n cx dX4_init_4 0 rfl rfl ?_
  refine kk_bipush (v := 6) cx dX4_init_5 (by decide) ?_
  refine kk_bipush (v := 40) cx dX4_init_7 (by decide) ?_
  refine kk_mna (N := 6) (M := 40) cx dX4_init_9 (by decide +kernel) (by decide +kernel) rfl rfl (by decide) (by decide) rfl (Nat.le_of_ble_eq_true rfl) (Nat.le_of_ble_eq_true rfl) ?_
  refine kk_is (sz2 := o + 8) (k2 := 7) (n2 := 246) (ds := [.inr (4, [.null, .null])] ++ (.inl (E.2.2.2.1, 6, .inr (.inr (.inr (.inr (fun i => if i < 6 then some (o + 2 + i) else none))))) :: List.replicate 6 (.inl (E.2.1, 40, .inl (fun _ => 0))))) (st2 := [.ref (o + 1), .ref o]) rfl rfl rfl rfl rfl ?_
  refine kk_putF (i := 0) (f := 0) (ty := .array (.array .int)) cx dX4_init_13 rfl rfl hin tyX4_ok nmX4 (by decide) (by decide +kernel) rfl rfl (by decide +kernel) rfl rfl (Nat.le_of_ble_eq_true rfl) (Nat.le_of_ble_eq_true rfl) ?_
  refine kk_is (sz2 := o + 8) (k2 := 7) (n2 := 246) (ds := [.inr (4, [.ref (o + 1), .null])] ++ (.inl (E.2.2.2.1, 6, .inr (.inr (.inr (.inr (fun i => if i < 6 then some (o + 2 + i) else none))))) :: List.replicate 6 (.inl (E.2.1, 40, .inl (fun _ => 0))))) (st2 := []) rfl rfl rfl rfl rfl ?_
  refine kk_aload_n cx dX4_init_16 0 rfl rfl ?_
  refine kk_bipush (v := 6) cx dX4_init_17 (by decide) ?_
  refine kk_newi (N := 6) cx dX4_init_19 (by decide +kernel) rfl (by decide) rfl (Nat.le_of_ble_eq_true rfl) (Nat.le_of_ble_eq_true rfl) ?_
  refine kk_is (sz2 := o + 9) (k2 := 8) (n2 := 252) (ds := [.inr (4, [.ref (o + 1), .null])] ++ (.inl (E.2.2.2.1, 6, .inr (.inr (.inr (.inr (fun i => if i < 6 then some (o + 2 + i) else none))))) :: List.replicate 6 (.inl (E.2.1, 40, .inl (fun _ => 0)))) ++ [.inl (E.2.1, 6, .inl (fun _ => 0))]) (st2 := [.ref (o + 8), .ref o]) rfl rfl rfl rfl rfl ?_
  refine kk_putF (i := 0) (f := 1) (ty := .array .int) cx dX4_init_21 rfl rfl hin tyX4_ok nmX4 (by decide) (by decide +kernel) rfl rfl (by decide +kernel) rfl rfl (Nat.le_of_ble_eq_true rfl) (Nat.le_of_ble_eq_true rfl) ?_
  refine kk_is (sz2 := o + 9) (k2 := 8) (n2 := 252) (ds := [.inr (4, [.ref (o + 1), .ref (o + 8)])] ++ (.inl (E.2.2.2.1, 6, .inr (.inr (.inr (.inr (fun i => if i < 6 then some (o + 2 + i) else none))))) :: List.replicate 6 (.inl (E.2.1, 40, .inl (fun _ => 0)))) ++ [.inl (E.2.1, 6, .inl (fun _ => 0))]) (st2 := []) rfl rfl rfl rfl rfl ?_
  refine kk_aload_n cx dX4_init_24 0 rfl rfl ?_
  refine kk_get (i := 0) (f := 1) (v := .ref (o + 8)) cx dX4_init_25 rfl rfl hin (by decide) (by decide +kernel) rfl ?_
  refine kk_iconst (v := (-1)) cx dX4_init_28 (by decide) ?_
  refine kk_fill (i := 8) (N := 6) (f9 := fil (fun _ => 0) (-1) 6) cx dX4_init_29 (k_fill E (o + 8) _ 6 (by decide) _ (-1)) rfl gX4_init_J7_fill_53178 rfl (by decide +kernel) (by decide) (Nat.le_of_ble_eq_true rfl) (Nat.le_of_ble_eq_true rfl) (Nat.le_of_ble_eq_true rfl) (by decide) ?_
  refine kk_is (sz2 := o + 9) (k2 := 8) (n2 := 252) (ds := [.inr (4, [.ref (o + 1), .ref (o + 8)])] ++ (.inl (E.2.2.2.1, 6, .inr (.inr (.inr (.inr (fun i => if i < 6 then some (o + 2 + i) else none))))) :: List.replicate 6 (.inl (E.2.1, 40, .inl (fun _ => 0)))) ++ [.inl (E.2.1, 6, .inl (fil (fun _ => 0) (-1) 6))]) (st2 := []) rfl rfl rfl rfl rfl ?_
  exact hR 32 _ dX4_init_32
def kX5 (E : mm_E) (o : Nat) : List va_E := [.inr (5, [.ref (o + 1), .ref (o + 6), .ref (o + 11)])] ++ (.inl (E.2.2.2.1, 4, .inr (.inr (.inr (.inr (fun i => if i < 4 then some (o + 2 + i) else none))))) :: List.replicate 4 (.inl (E.2.1, 4, .inl (fun _ => 0)))) ++ (.inl (E.2.2.2.1, 4, .inr (.inr (.inr (.inr (fun i => if i < 4 then some (o + 7 + i) else none))))) :: List.replicate 4 (.inl (E.2.1, 4, .inl (fun _ => 0)))) ++ [.inl (E.2.1, 4, .inl (fun _ => 0))]
set_option maxHeartbeats 4000000 in
set_option maxRecDepth 100000 in
theorem k_X5_init (E : mm_E) (o : Nat) : Km E yX5_init wsX5_init 1 20 11 44 [.ref o] o 12 (o + 1) (o + 12) [.inr (5, [.null, .null, .null])] (kX5 E o) := by
  refine ck_v (bytes := cX5_init) (maxL := 1) (ini := true) (by decide) rfl (Nat.le_of_ble_eq_true rfl) (fun _ => rfl) (fun X cx hR => ?_)
  change Ck E X cX5_init RX5 wsX5_init 1 o 12 1 20 11 44 true at cx
  change KK E X o (o + 1) 0 0 [.inr (5, [.null, .null, .null])] 0 [(0, .ref o)] []
  have hin : ∀ w ∈ u_ws RX5 TX5 3, w ∈ wsX5_init := by decide +kernel
  refine kk_aload_n cx dX5_init_0 0 rfl rfl ?_
  refine kk_obj cx dX5_init_1 (by decide +kernel) (by decide +kernel) (by decide +kernel) (by decide) (by decide) ?_
  refine kk_aload_n cx dX5_init_4 0 rfl rfl ?_
  refine kk_iconst (v := 4) cx dX5_init_5 (by decide) ?_
  refine kk_iconst (v := 4) cx dX5_init_6 (by decide) ?_
  refine kk_mna (N := 4) (M := 4) cx dX5_init_7 (by decide +kernel) (by decide +kernel) rfl rfl (by decide) (by decide) rfl (Nat.le_of_ble_eq_true rfl) (Nat.le_of_ble_eq_true rfl) ?_
  refine kk_is (sz2 := o + 6) (k2 := 5) (n2 := 20) (ds := [.inr (5, [.null, .null, .null])] ++ (.inl (E.2.2.2.1, 4, .inr (.inr (.inr (.inr (fun i => if i < 4 then some (o + 2 + i) else none))))) :: List.replicate 4 (.inl (E.2.1, 4, .inl (fun _ => 0))))) (st2 := [.ref (o + 1), .ref o]) rfl rfl rfl rfl rfl ?_
  refine kk_putF (i := 0) (f := 0) (ty := .array (.array .int)) cx dX5_init_11 rfl rfl hin tyX5_ok nmX5 (by decide) (by decide +kernel) rfl rfl (by decide +kernel) rfl rfl (Nat.le_of_ble_eq_true rfl) (Nat.le_of_ble_eq_true rfl) ?_
  refine kk_is (sz2 := o + 6) (k2 := 5) (n2 := 20) (ds := [.inr (5, [.ref (o + 1), .null, .null])] ++ (.inl (E.2.2.2.1, 4, .inr (.inr (.inr (.inr (fun i => if i < 4 then some (o + 2 + i) else none))))) :: List.replicate 4 (.inl (E.2.1, 4, .inl (fun _ => 0))))) (st2 := []) rfl rfl rfl rfl rfl ?_
  refine kk_aload_n cx dX5_init_14 0 rfl rfl ?_
  refine kk_iconst (v := 4) cx dX5_init_15 (by decide) ?_
  refine kk_iconst (v := 4) cx dX5_init_16 (by decide) ?_
  refine kk_mna (N := 4) (M := 4) cx dX5_init_17 (by decide +kernel) (by decide +kernel) rfl rfl (by decide) (by decide) rfl (Nat.le_of_ble_eq_true rfl) (Nat.le_of_ble_eq_true rfl) ?_
  refine kk_is (sz2 := o + 11) (k2 := 10) (n2 := 40) (ds := [.inr (5, [.ref (o + 1), .null, .null])] ++ (.inl (E.2.2.2.1, 4, .inr (.inr (.inr (.inr (fun i => if i < 4 then some (o + 2 + i) else none))))) :: List.replicate 4 (.inl (E.2.1, 4, .inl (fun _ => 0)))) ++ (.inl (E.2.2.2.1, 4, .inr (.inr (.inr (.inr (fun i => if i < 4 then some (o + 7 + i) else none))))) :: List.replicate 4 (.inl (E.2.1, 4, .inl (fun _ => 0))))) (st2 := [.ref (o + 6), .ref o]) rfl rfl rfl rfl rfl ?_
  refine kk_putF (i := 0) (f := 1) (ty := .array (.array .int)) cx dX5_init_21 rfl rfl hin tyX5_ok nmX5 (by decide) (by decide +kernel) rfl rfl (by decide +kernel) rfl rfl (Nat.le_of_ble_eq_true rfl) (Nat.le_of_ble_eq_true rfl) ?_
  refine kk_is (sz2 := o + 11) (k2 := 10) (n2 := 40) (ds := [.inr (5, [.ref (o + 1), .ref (o + 6), .null])] ++ (.inl (E.2.2.2.1, 4, .inr (.inr (.inr (.inr (fun i => if i < 4 then some (o + 2 + i) else none))))) :: List.replicate 4 (.inl (E.2.1, 4, .inl (fun _ => 0)))) ++ (.inl (E.2.2.2.1, 4, .inr (.inr (.inr (.inr (fun i => if i < 4 then some (o + 7 + i) else none))))) :: List.replicate 4 (.inl (E.2.1, 4, .inl (fun _ => 0))))) (st2 := []) rfl rfl rfl rfl rfl ?_
  refine kk_aload_n cx dX5_init_24 0 rfl rfl ?_
  refine kk_iconst (v := 4) cx dX5_init_25 (by decide) ?_
  refine kk_newi (N := 4) cx dX5_init_26 (by decide +kernel) rfl (by decide) rfl (Nat.le_of_ble_eq_true rfl) (Nat.le_of_ble_eq_true rfl) ?_
  refine kk_is (sz2 := o + 12) (k2 := 11) (n2 := 44) (ds := [.inr (5, [.ref (o + 1), .ref (o + 6), .null])] ++ (.inl (E.2.2.2.1, 4, .inr (.inr (.inr (.inr (fun i => if i < 4 then some (o + 2 + i) else none))))) :: List.replicate 4 (.inl (E.2.1, 4, .inl (fun _ => 0)))) ++ (.inl (E.2.2.2.1, 4, .inr (.inr (.inr (.inr (fun i => if i < 4 then some (o + 7 + i) else none))))) :: List.replicate 4 (.inl (E.2.1, 4, .inl (fun _ => 0)))) ++ [.inl (E.2.1, 4, .inl (fun _ => 0))]) (st2 := [.ref (o + 11), .ref o]) rfl rfl rfl rfl rfl ?_
  refine kk_putF (i := 0) (f := 2) (ty := .array .int) cx dX5_init_28 rfl rfl hin tyX5_ok nmX5 (by decide) (by decide +kernel) rfl rfl (by decide +kernel) rfl rfl (Nat.le_of_ble_eq_true rfl) (Nat.le_of_ble_eq_true rfl) ?_
  refine kk_is (sz2 := o + 12) (k2 := 11) (n2 := 44) (ds := [.inr (5, [.ref (o + 1), .ref (o + 6), .ref (o + 11)])] ++ (.inl (E.2.2.2.1, 4, .inr (.inr (.inr (.inr (fun i => if i < 4 then some (o + 2 + i) else none))))) :: List.replicate 4 (.inl (E.2.1, 4, .inl (fun _ => 0)))) ++ (.inl (E.2.2.2.1, 4, .inr (.inr (.inr (.inr (fun i => if i < 4 then some (o + 7 + i) else none))))) :: List.replicate 4 (.inl (E.2.1, 4, .inl (fun _ => 0)))) ++ [.inl (E.2.1, 4, .inl (fun _ => 0))]) (st2 := []) rfl rfl rfl rfl rfl ?_
  exact hR 31 _ dX5_init_31
