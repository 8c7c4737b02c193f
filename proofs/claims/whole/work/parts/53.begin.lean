def R_law : String := "BathBookLaw"
def lw_P (b : Addr) (xs : List Int32) (args : Array Value) (s : State) : Prop := args = #[.ref b] ∧ s.IntsAt b xs ∧ xs.length ≤ 3584 ∧ (Jvm.Cond.and given_1 narrow_1).before args s = true
def lw_Q (_ : Array Value) (s : State) (o : Outcome) (t : State) : Prop := o = .returned (some (.int 1)) ∧ Framed s o t [] 600000 7302250
def lw_Z (below : List Frame) (a : Array Value) (s : State) : State → Prop := fun t => ∃ o, t.status = .running ∧ Ended t below o ∧ lw_Q a s o t
/-- the law's own end, with 1 on the stack, nothing written that was there before, its room as the claim has it -/
theorem lw_ret {p : Program} {l : Launch} {e : Env} {s : State} {m : MethodId} {below : List Frame} {meth : Method} {c : Code} {b : Nat} (hx : p.tables.exec = Jvm.exec) (hb : c.code = code) (hr : meth.sig.returnType = ret) (hlocks : meth.locks = false) {pc : Nat} {H : Heap} {ls : Array Slot} (hdg : decode code pc = .ok (.ireturn, 1)) : W p l e room_1 s m #[Value.ref b] below meth c H [] 600000 7302250 (lw_Z below #[Value.ref b] s) (F0 m pc ls [.int 1]) := by
  intro T hT X
  obtain ⟨fs, hret, hrun, hended, hW, hframe⟩ := X.leave (v := some (.int 1)) (hlocks := hlocks) (fun h => by rw [hr] at h; cases h)
  have hmeth' : T.vm.method? m = some meth := X.method'
  refine ⟨T.setFrames fs, ?_, .returned (some (.int 1)), hrun, hended, rfl, ⟨_, rfl⟩, hW, hframe⟩
  jvm_step X.here [X.here.top, hx, hb, hdg, hmeth', hr, ret, narrow_b1]
  (try refine ⟨rfl, ?_⟩); (try refine ⟨rfl, ?_⟩)
  first | (intro acts; rw [hret _ acts rfl rfl rfl]) | rw [hret _ _ rfl rfl rfl]
  exact Steps.refl _
/-- what holds at the law's entry: the machine, the code, the tables' words (any of lw_tbl by 'hts w (by decide +kernel)'), the script of L ints xs at the cell b, what the Statement gives of the start (any of its parts by flat_of_before) -/
def lw_At (p : Program) (s : State) (m : MethodId) (meth : Method) (c : Code) (b L : Nat) (xs : Nat → Int32) : Prop :=
  p.tables.exec = Jvm.exec ∧ c.code = code ∧ meth.sig.returnType = ret ∧ c.maxLocals = 4 ∧ s.vm.findClass R_law = some m.cls ∧ (∀ w ∈ lw_tbl, w.before #[Value.ref b] s = true) ∧ va_X b L xs s s.heap ∧ b < s.heap.size ∧ meth.locks = false ∧ (Jvm.Cond.and given_1 narrow_1).before #[Value.ref b] s = true
theorem arr_int {args : Array Value} {s : State} {t : FieldType} (h : (Cond.arrayClass t).before args s = true) : ∃ cA, ArrOfT s cA t ∧ s.vm.findClass ("[" ++ t.toString) = some cA := by
  obtain ⟨c, k, comp, h1, h2, h3⟩ := Cond.arrayClass_spec h
  exact ⟨c, fun N z => ⟨(fun k h => by cases h), k, h2, comp, h3⟩, h1⟩
theorem arr_arr {args : Array Value} {s : State} {t : FieldType} (h : (Cond.arrayOver (.array t)).before args s = true) : ∃ cA, ArrOfT s cA (.array t) ∧ s.vm.findClass ("[" ++ (FieldType.array t).toString) = some cA := by
  obtain ⟨comp, c, k, h0, h2, h3, h1⟩ := Cond.arrayOver_specA h
  exact ⟨c, fun N z => ⟨(fun k h => by cases h), k, h2, comp, h3⟩, h1⟩
theorem in_X6L : ∀ w ∈ u_ws RX6 TX6 9, w ∈ wsL_law := fun w h => by
  unfold wsL_law
  exact List.mem_append_left _ (List.mem_append_left _ (List.mem_append_left _ (List.mem_append_left _ (List.mem_append_left _ (List.mem_append_left _ (List.mem_append_left _ (List.mem_append_left _ (List.mem_append_right _ h))))))))
theorem in_X7L : ∀ w ∈ u_ws RX7 TX7 30, w ∈ wsL_law := fun w h => by
  unfold wsL_law
  exact List.mem_append_left _ (List.mem_append_left _ (List.mem_append_left _ (List.mem_append_left _ (List.mem_append_left _ (List.mem_append_left _ (List.mem_append_left _ (List.mem_append_right _ h)))))))
theorem lw_pl {w : Cond} (i : Nat) (h : lw_tbl[i]? = some w) : w ∈ lw_tbl := List.mem_of_getElem? h
theorem wl_pl {w : Cond} (i : Nat) (h : wsL_law[i]? = some w) : w ∈ wsL_law := List.mem_of_getElem? h
set_option maxRecDepth 20000 in
theorem lw_nest : Cond.fieldLinkNest RX6 257 "BathBook$Fraction" "top" "J" RX6 ∈ lw_tbl ∧ Cond.fieldLinkNest RX6 260 "BathBook$Fraction" "bottom" "J" RX6 ∈ lw_tbl ∧ Cond.methodLinkNest RX0 22 yX6_isBetween RX6 ∈ lw_tbl ∧ Cond.methodLinkNest RX1 20 yX6_isBetween RX6 ∈ lw_tbl ∧ Cond.methodLinkNest RX2 16 yX6_greatestDivisor RX6 ∈ lw_tbl ∧ Cond.methodLinkNest RX4 26 yX6_isBetween RX6 ∈ lw_tbl ∧ Cond.methodLinkNest RX5 27 yX6_leastMultiple RX6 ∈ lw_tbl := ⟨lw_pl 133 (by decide +kernel), lw_pl 135 (by decide +kernel), lw_pl 351 (by decide +kernel), lw_pl 394 (by decide +kernel), lw_pl 272 (by decide +kernel), lw_pl 203 (by decide +kernel), lw_pl 317 (by decide +kernel)⟩
set_option maxRecDepth 20000 in
theorem lw_ins : Cond.instantiable RX0 3 ∈ lw_tbl ∧ Cond.instantiable RX1 2 ∈ lw_tbl ∧ Cond.instantiable RX2 2 ∈ lw_tbl ∧ Cond.instantiable RX3 2 ∈ lw_tbl ∧ Cond.instantiable RX4 2 ∈ lw_tbl ∧ Cond.instantiable RX5 3 ∈ lw_tbl ∧ Cond.instantiable RX6 9 ∈ lw_tbl ∧ Cond.instantiable RX7 30 ∈ lw_tbl := ⟨lw_pl 82 (by decide +kernel), lw_pl 98 (by decide +kernel), lw_pl 127 (by decide +kernel), lw_pl 112 (by decide +kernel), lw_pl 46 (by decide +kernel), lw_pl 65 (by decide +kernel), lw_pl 38 (by decide +kernel), lw_pl 591 (by decide +kernel)⟩
set_option maxRecDepth 20000 in
theorem lw_arr : Cond.arrayClass .int ∈ lw_tbl ∧ Cond.arrayClass .boolean ∈ lw_tbl ∧ Cond.arrayOver (.array .int) ∈ lw_tbl := ⟨lw_pl 63 (by decide +kernel), lw_pl 687 (by decide +kernel), lw_pl 52 (by decide +kernel)⟩
set_option maxRecDepth 20000 in
theorem wl_a : Cond.classLink RL 7 RX6 ∈ wsL_law ∧ Cond.instantiable RX6 9 ∈ wsL_law ∧ Cond.initialized RX6 ∈ wsL_law ∧ Cond.classLink RL 10 RX7 ∈ wsL_law ∧ Cond.instantiable RX7 30 ∈ wsL_law ∧ Cond.initialized RX7 ∈ wsL_law ∧ Cond.methodLink RL 9 yX6_init ∈ wsL_law ∧ Cond.instanceMethod yX6_init ∈ wsL_law ∧ Cond.methodLink RL 12 yX7_init ∈ wsL_law ∧ Cond.instanceMethod yX7_init ∈ wsL_law := ⟨wl_pl 0 (by decide +kernel), wl_pl 1 (by decide +kernel), wl_pl 2 (by decide +kernel), wl_pl 3 (by decide +kernel), wl_pl 4 (by decide +kernel), wl_pl 5 (by decide +kernel), wl_pl 6 (by decide +kernel), wl_pl 7 (by decide +kernel), wl_pl 87 (by decide +kernel), wl_pl 88 (by decide +kernel)⟩
theorem st_walk (E : mm_E) (X : mm_X) (o b : Nat) (cx : Ck E X cL_law RL wsL_law 4 o 105 7 286 105 1619 false) (K : KK E X o (o + 105) 105 1619 (kX6 E o ++ kX7 E (o + 84)) 16 [(2, .ref (o + 84)), (1, .ref o), (0, .ref b)] []) : KK E X o o 0 0 [] 0 [(0, .ref b)] [] := by
  obtain ⟨m1, m2, m3, m4, m5, m6, m7, m8, m9, m10⟩ := wl_a
  refine kk_new (ci := 6) (fs := [.null, .null, .null, .null, .null, .null, .null, .int 0, .long 0]) tyX6 cx dL_law_0 rfl tyX6_ok in_X6L m1 m2 m3 (by decide +kernel) rfl (Nat.le_of_ble_eq_true rfl) (Nat.le_of_ble_eq_true rfl) ?_
  refine kk_is (sz2 := o + 1) (k2 := 1) (n2 := 9) (ds := [] ++ [.inr (6, [.null, .null, .null, .null, .null, .null, .null, .int 0, .long 0])]) (st2 := [.ref o]) rfl rfl rfl rfl rfl ?_
  refine kk_dup cx dL_law_3 rfl ?_
  refine kk_ctor (t2 := 84) (cs := []) (sz := o + 1) (k := 1) (n := 9) (st := [.ref o]) cx dL_law_4 (k_X6_init E o) rfl gL_law_X6_init rfl m3 m7 m8 rfl (by decide +kernel) (by decide) (Nat.le_of_ble_eq_true rfl) (Nat.le_of_ble_eq_true rfl) (Nat.le_of_ble_eq_true rfl) (Nat.le_of_ble_eq_true rfl) ?_
  refine kk_is (sz2 := o + 84) (k2 := 84) (n2 := 801) (ds := kX6 E o) (st2 := [.ref o]) rfl rfl rfl rfl rfl ?_
  refine kk_astore_n (L' := [(1, .ref o), (0, .ref b)]) cx dL_law_7 rfl (by decide) rfl ?_
  refine kk_new (ci := 7) (fs := [.int 0, .null, .long 0, .long 0, .long 0, .null, .null, .null, .null, .null, .null, .long 0, .long 0, .int 0, .null, .null, .int 0, .null, .null, .null, .null, .null, .null, .null, .null, .int 0, .int 0, .null, .null, .null]) tyX7 cx dL_law_8 rfl tyX7_ok in_X7L m4 m5 m6 (by decide +kernel) rfl (Nat.le_of_ble_eq_true rfl) (Nat.le_of_ble_eq_true rfl) ?_
  refine kk_is (sz2 := o + 85) (k2 := 85) (n2 := 831) (ds := kX6 E o ++ [.inr (7, [.int 0, .null, .long 0, .long 0, .long 0, .null, .null, .null, .null, .null, .null, .long 0, .long 0, .int 0, .null, .null, .int 0, .null, .null, .null, .null, .null, .null, .null, .null, .int 0, .int 0, .null, .null, .null])]) (st2 := [.ref (o + 84)]) rfl rfl rfl rfl rfl ?_
  refine kk_dup cx dL_law_11 rfl ?_
  refine kk_ctor (t2 := 21) (cs := kX6 E o) (sz := o + 85) (k := 85) (n := 831) (st := [.ref (o + 84)]) cx dL_law_12 (k_X7_init E (o + 84)) rfl gL_law_X7_init rfl m6 m9 m10 rfl (by decide +kernel) (by decide) (Nat.le_of_ble_eq_true rfl) (Nat.le_of_ble_eq_true rfl) (Nat.le_of_ble_eq_true rfl) (Nat.le_of_ble_eq_true rfl) ?_
  refine kk_is (sz2 := o + 105) (k2 := 105) (n2 := 1619) (ds := kX6 E o ++ kX7 E (o + 84)) (st2 := [.ref (o + 84)]) rfl rfl rfl rfl rfl ?_
  exact kk_astore_n (L' := [(2, .ref (o + 84)), (1, .ref o), (0, .ref b)]) cx dL_law_15 rfl (by decide) rfl K
theorem st_pw {o : Nat} {cI cZ cG : ClassId} {D : va_G} {l : Launch} {H : Heap} (h : va_P D vwCl (adr o (kX6 (eE o cI cZ cG D l) o ++ kX7 (eE o cI cZ cG D l) (o + 84))) H) : mm_Pw (eE o cI cZ cG D l) st_g st_h H := by
  intro k q hq
  have hk : k < 105 := by
    have := (List.getElem?_eq_some_iff.mp hq).1
    simpa [mm_wl] using this
  rw [mm_at _ _ _ hk] at hq
  cases hq
  exact h (pmF k) _ (adr_at (st_ce o cI cZ cG D l k hk))
set_option maxHeartbeats 4000000 in
/-- the law, from its entry -/
theorem whole_start {p : Program} {e : Env} {s : State} {m : MethodId} {below : List Frame} {meth : Method} {c : Code} (l : Launch) {b L : Nat} {xs : Nat → Int32} (hL : L ≤ 3584) (C0 : lw_At p s m meth c b L xs) : W p l e room_1 s m #[Value.ref b] below meth c s.heap [] 0 0 (lw_Z below #[Value.ref b] s) (entryFrame m ([Value.ref b] : List Value).toArray 4) := by
  obtain ⟨hx, hb, hr, hml, hown, hts, hX, hbl, hlocks, hgv⟩ := id C0
  obtain ⟨n1, n2, n3, n4, n5, n6, n7⟩ := lw_nest
  obtain ⟨z0, z1, z2, z3, z4, z5, z6, z7⟩ := lw_ins
  obtain ⟨a1, a2, a3⟩ := lw_arr
  obtain ⟨c0, i0, K0⟩ := u_known (C := RX0) (T := TX0) (N := 3) (n := 3) hts iw_X0 (hts _ z0)
  obtain ⟨c1, i1, K1⟩ := u_known (C := RX1) (T := TX1) (N := 2) (n := 2) hts iw_X1 (hts _ z1)
  obtain ⟨c2, i2, K2⟩ := u_known (C := RX2) (T := TX2) (N := 2) (n := 2) hts iw_X2 (hts _ z2)
  obtain ⟨c3, i3, K3⟩ := u_known (C := RX3) (T := TX3) (N := 2) (n := 2) hts iw_X3 (hts _ z3)
  obtain ⟨c4, i4, K4⟩ := u_known (C := RX4) (T := TX4) (N := 2) (n := 2) hts iw_X4 (hts _ z4)
  obtain ⟨c5, i5, K5⟩ := u_known (C := RX5) (T := TX5) (N := 3) (n := 3) hts iw_X5 (hts _ z5)
  obtain ⟨c6, i6, K6⟩ := u_known (C := RX6) (T := TX6) (N := 9) (n := 9) hts iw_X6 (hts _ z6)
  obtain ⟨c7, i7, K7⟩ := u_known (C := RX7) (T := TX7) (N := 30) (n := 30) hts iw_X7 (hts _ z7)
  obtain ⟨D, hKc⟩ : ∃ D : va_G, ∀ (k : Nat) (q : vw_C), vwCl[k]? = some q → u_Kn s q.1 q.2.1 q.2.2 (D.1 k) (D.2 k) := by
    refine ⟨(fun k => match k with | 0 => c0 | 1 => c1 | 2 => c2 | 3 => c3 | 4 => c4 | 5 => c5 | 6 => c6 | _ => c7, fun k => match k with | 0 => i0 | 1 => i1 | 2 => i2 | 3 => i3 | 4 => i4 | 5 => i5 | 6 => i6 | _ => i7), ?_⟩
    intro k q hq
    match k, hq with
    | 0, hq => cases hq; exact K0
    | 1, hq => cases hq; exact K1
    | 2, hq => cases hq; exact K2
    | 3, hq => cases hq; exact K3
    | 4, hq => cases hq; exact K4
    | 5, hq => cases hq; exact K5
    | 6, hq => cases hq; exact K6
    | 7, hq => cases hq; exact K7
    | k + 8, hq => simp [vwCl] at hq
  obtain ⟨cI, A1, F1⟩ := arr_int (hts _ a1)
  obtain ⟨cZ, A2, F2⟩ := arr_int (hts _ a2)
  obtain ⟨cG, A3, F3⟩ := arr_arr (hts _ a3)
  have hK : va_K D vwCl [(cI, .int), (cZ, .boolean), (cG, .array .int)] s := ⟨hKc, fun k q hq => by
    match k, hq with
    | 0, hq => cases hq; exact ⟨A1, F1⟩
    | 1, hq => cases hq; exact ⟨A2, F2⟩
    | 2, hq => cases hq; exact ⟨A3, F3⟩
    | k + 3, hq => simp at hq⟩
  have hAO : va_AOA .int s := hts _ a3
  have hN : mm_Nst s := ⟨va_tabs rfl rfl (hts _ n1), va_tabs rfl rfl (hts _ n2), va_tabs rfl rfl (hts _ n3), va_tabs rfl rfl (hts _ n4), va_tabs rfl rfl (hts _ n5), va_tabs rfl rfl (hts _ n6), va_tabs rfl rfl (hts _ n7)⟩
  have htL : ∀ w ∈ wsL_law, w.before #[Value.ref b] s = true := fun w hw => hts w (wsL_law_in w hw)
  have hl := lv_entry ([.ref b]) (n := 4) (Nat.le_of_ble_eq_true rfl)
  rw [lg_entry_eq]
  generalize (lg_sl ([.ref b]) ++ List.replicate (4 - (lg_sl ([.ref b])).length) Slot.unset).toArray = ls at hl ⊢
  have hl : lv_has ls 4 [(0, .ref b)] := hl
  obtain ⟨o, ho⟩ : ∃ o : Nat, o = s.heap.size := ⟨_, rfl⟩
  have cx : Cx (eE o cI cZ cG D l) (p, e, room_1, s, m, #[Value.ref b], below, meth, c, 105, 1619, lw_Z below #[Value.ref b] s, fun q : Nat => s.heap.size ≤ q) cL_law RL wsL_law 4 7 286 :=
    ⟨hx, hb, hml, hown, htL, ⟨fun i j hi hj q => pm_ij i hi j hj (Nat.add_left_cancel (show o + pmF i = o + pmF j from q)), hK, hN⟩, fun k _ => (show s.heap.size ≤ o + pmF k by rw [ho]; exact Nat.le_add_right _ _), Nat.le_of_ble_eq_true rfl, Nat.le_of_ble_eq_true rfl, Nat.le_of_ble_eq_true rfl, Nat.le_of_ble_eq_true rfl⟩
  have ck : Ck (eE o cI cZ cG D l) (p, e, room_1, s, m, #[Value.ref b], below, meth, c, 105, 1619, lw_Z below #[Value.ref b] s, fun q : Nat => s.heap.size ≤ q) cL_law RL wsL_law 4 o 105 7 286 105 1619 false :=
    ⟨hx, hb, hml, hown, htL, ⟨hK, hAO⟩, fun k _ => (show s.heap.size ≤ o + k by rw [ho]; exact Nat.le_add_right _ _), Nat.le_of_ble_eq_true rfl, Nat.le_of_ble_eq_true rfl, Nat.le_of_ble_eq_true rfl, Nat.le_of_ble_eq_true rfl, fun q => by cases q⟩
  have sx : SX (p, e, room_1, s, m, #[Value.ref b], below, meth, c, 105, 1619, lw_Z below #[Value.ref b] s, fun q : Nat => s.heap.size ≤ q) b L xs := ⟨hX, hbl, Nat.not_le.mpr hbl⟩
  have J := law_loop _ _ b L xs cx sx hL (fun g h L9 => by
    refine jr_iconst (v := 1) cx dL_law_1345 (by decide +kernel) ?_
    intro ls2 H2 locs2 hl2 hP2 hS2
    refine va_forget (fun q hq => hS2.2.2 q hq) ?_
    refine W.widen (k := 600000) (n := 7302250) (Nat.le_of_ble_eq_true rfl) (Nat.le_of_ble_eq_true rfl) ?_
    exact lw_ret hx hb hr hlocks dL_law_1346) 512 0 st_g st_h (by omega) (by omega) st_Rl
  have J2 := st_walk _ _ o b ck (fun ls2 H2 locs2 hl2 hz2 hP2 hS2 => by
    have J3 : JJ (eE o cI cZ cG D l) (p, e, room_1, s, m, #[Value.ref b], below, meth, c, 105, 1619, lw_Z below #[Value.ref b] s, fun q : Nat => s.heap.size ≤ q) st_g st_h 16 [(2, .ref (o + 84)), (1, .ref o), (0, .ref b)] [] := by
      refine jr_iconst (v := 0) cx dL_law_16 (by decide +kernel) ?_
      refine jr_istore_n (L' := [(3, .int 0), (2, .ref (o + 84)), (1, .ref o), (0, .ref b)]) cx dL_law_17 rfl (by decide) rfl ?_
      refine jr_pick (L' := LL (eE o cI cZ cG D l) b 0) [3, 2, 1, 0] rfl ?_
      exact J
    exact J3 ls2 H2 locs2 hl2 (st_pw hP2) hS2)
  exact J2 ls s.heap [] (by rw [hml]; exact hl) ho.symm (fun k q hq => by cases k <;> cases hq) va_S.rf
