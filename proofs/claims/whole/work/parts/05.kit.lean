abbrev vwCl : List vw_C := [(RX0, TX0, 3), (RX1, TX1, 2), (RX2, TX2, 2), (RX3, TX3, 2), (RX4, TX4, 2), (RX5, TX5, 3), (RX6, TX6, 9), (RX7, TX7, 30)]
abbrev mm_I : Type := Nat → Nat → Int32
abbrev mm_L : Type := Nat → Nat → Int64
abbrev mm_E : Type := (Nat → Nat) × ClassId × ClassId × ClassId × va_G × Launch
def up2 (g : mm_I) (k j : Nat) (v : Int32) : mm_I := fun a => if a = k then upd (g k) j v else g a
def upL (h : mm_L) (k j : Nat) (v : Int64) : mm_L := fun a b => if a = k ∧ b = j then v else h a b
theorem up2_s (g : mm_I) (k j : Nat) (v : Int32) : up2 g k j v k = upd (g k) j v := if_pos rfl
theorem up2_n (g : mm_I) {k a : Nat} (j : Nat) (v : Int32) (h : a ≠ k) : up2 g k j v a = g a := if_neg h
theorem up2_ss (g : mm_I) (k j : Nat) (v : Int32) : up2 g k j v k j = v := by rw [up2_s]; exact pk_us
theorem up2_sn (g : mm_I) (k : Nat) {j b : Nat} (v : Int32) (h : b ≠ j) : up2 g k j v k b = g k b := by rw [up2_s]; exact pk_un h
theorem upL_s (h : mm_L) (k j : Nat) (v : Int64) : upL h k j v k j = v := if_pos ⟨rfl, rfl⟩
theorem upL_n (h : mm_L) {k j a b : Nat} (v : Int64) (hn : ¬ (a = k ∧ b = j)) : upL h k j v a b = h a b := if_neg hn
def mm_len (k : Nat) : Nat := ([0, 0, 0, 0, 0, 0, 0, 0, 6, 6, 4, 16, 16, 6, 6, 240, 40, 4, 16, 16, 16, 16, 40, 40, 40, 40, 40, 40, 40, 36, 36, 40, 36, 6, 4, 4, 40, 6, 6] : List Nat).getD k (if k < 45 then 40 else if k < 53 then 4 else if k < 93 then 8 else 6)
def mm_base (k : Nat) : Nat := if k = 33 then 39 else if k = 34 then 45 else if k = 35 then 49 else if k = 36 then 53 else if k = 37 then 93 else 99
def mm_ob (E : mm_E) (g : mm_I) (h : mm_L) (k : Nat) : Nat × List Value := match k with
  | 0 => (6, [.ref (E.1 1), .ref (E.1 2), .ref (E.1 3), .ref (E.1 4), .ref (E.1 5), .ref (E.1 6), .ref (E.1 8), .int (g 0 7), .long (h 0 8)])
  | 1 => (4, [.ref (E.1 33), .ref (E.1 9)])
  | 2 => (5, [.ref (E.1 34), .ref (E.1 35), .ref (E.1 10)])
  | 3 => (0, [.ref (E.1 11), .ref (E.1 12), .int (g 3 2)])
  | 4 => (1, [.ref (E.1 36), .int (g 4 1)])
  | 5 => (3, [.ref (E.1 37), .ref (E.1 38)])
  | 6 => (2, [.long (h 6 0), .long (h 6 1)])
  | _ => (7, [.int (g 7 0), .ref (E.1 13), .long (h 7 2), .long (h 7 3), .long (h 7 4), .ref (E.1 14), .ref (E.1 15), .ref (E.1 16), .ref (E.1 17), .ref (E.1 18), .ref (E.1 19), .long (h 7 11), .long (h 7 12), .int (g 7 13), .ref (E.1 20), .ref (E.1 21), .int (g 7 16), .ref (E.1 22), .ref (E.1 23), .ref (E.1 24), .ref (E.1 25), .ref (E.1 26), .ref (E.1 27), .ref (E.1 28), .ref (E.1 31), .int (g 7 25), .int (g 7 26), .ref (E.1 32), .ref (E.1 29), .ref (E.1 30)])
def mm_ce (E : mm_E) (g : mm_I) (h : mm_L) (k : Nat) : va_E :=
  if k < 8 then .inr (mm_ob E g h k) else if k = 31 ∨ k = 32 then .inl (E.2.2.1, mm_len k, .inl (g k)) else if 33 ≤ k ∧ k ≤ 38 then .inl (E.2.2.2.1, mm_len k, .inr (.inr (.inr (.inr (fun i => if i < mm_len k then some (E.1 (mm_base k + i)) else none))))) else .inl (E.2.1, mm_len k, .inl (g k))
def mm_wl (E : mm_E) (g : mm_I) (h : mm_L) : va_W := (List.range 105).map (fun k => (E.1 k, mm_ce E g h k))
def mm_isI (k : Nat) : Prop := (8 ≤ k ∧ k ≤ 30) ∨ (39 ≤ k ∧ k < 105)
def mm_isZ (k : Nat) : Prop := k = 31 ∨ k = 32
def mm_isG (k : Nat) : Prop := 33 ≤ k ∧ k ≤ 38
theorem mm_ce_o (E : mm_E) (g : mm_I) (h : mm_L) {k : Nat} (hk : k < 8) : mm_ce E g h k = .inr (mm_ob E g h k) := if_pos hk
theorem mm_ce_i (E : mm_E) (g : mm_I) (h : mm_L) {k : Nat} (hk : mm_isI k) : mm_ce E g h k = .inl (E.2.1, mm_len k, .inl (g k)) := by
  unfold mm_isI at hk
  unfold mm_ce
  rw [if_neg (by omega), if_neg (by omega), if_neg (by omega)]
theorem mm_ce_z (E : mm_E) (g : mm_I) (h : mm_L) {k : Nat} (hk : mm_isZ k) : mm_ce E g h k = .inl (E.2.2.1, mm_len k, .inl (g k)) := by
  unfold mm_isZ at hk
  unfold mm_ce
  rw [if_neg (by omega), if_pos hk]
theorem mm_ce_g (E : mm_E) (g : mm_I) (h : mm_L) {k : Nat} (hk : mm_isG k) : mm_ce E g h k = .inl (E.2.2.2.1, mm_len k, .inr (.inr (.inr (.inr (fun i => if i < mm_len k then some (E.1 (mm_base k + i)) else none))))) := by
  unfold mm_isG at hk
  unfold mm_ce
  rw [if_neg (by omega), if_neg (by omega), if_pos hk]
theorem mm_at (E : mm_E) (g : mm_I) (h : mm_L) {k : Nat} (hk : k < 105) : (mm_wl E g h)[k]? = some (E.1 k, mm_ce E g h k) := by
  unfold mm_wl
  rw [List.getElem?_map, List.getElem?_range hk]
  rfl
theorem mm_at_o (E : mm_E) (g : mm_I) (h : mm_L) {k : Nat} {q : Nat × List Value} (hk : k < 8) (hq : mm_ob E g h k = q) : (mm_wl E g h)[k]? = some (E.1 k, .inr q) := by
  rw [mm_at E g h (by omega), mm_ce_o E g h hk, hq]
theorem mm_set (E : mm_E) (g g' : mm_I) (h h' : mm_L) {k : Nat} (hk : k < 105) {e : va_E} (he : mm_ce E g' h' k = e) (ho : ∀ j, j < 105 → j ≠ k → mm_ce E g' h' j = mm_ce E g h j) : (mm_wl E g h).set k (E.1 k, e) = mm_wl E g' h' := by
  apply List.ext_getElem?
  intro i
  have hlen : (mm_wl E g h).length = 105 := by simp [mm_wl]
  have hlen' : (mm_wl E g' h').length = 105 := by simp [mm_wl]
  by_cases hi : i < 105
  · by_cases e1 : i = k
    · subst e1
      rw [List.getElem?_set_self (by omega), mm_at E g' h' hi, he]
    · rw [List.getElem?_set_ne (Ne.symm e1), mm_at E g h hi, mm_at E g' h' hi, ho i hi e1]
  · rw [List.getElem?_eq_none (by rw [List.length_set]; omega), List.getElem?_eq_none (by omega)]
def mm_Pw (E : mm_E) (g : mm_I) (h : mm_L) (H : Heap) : Prop := va_P E.2.2.2.2.1 vwCl (mm_wl E g h) H
def mm_N1 : Cond := .fieldLinkNest RX6 257 "BathBook$Fraction" "top" "J" RX6
def mm_Nst (U : State) : Prop := va_Nw (.fieldLinkNest RX6 257 "BathBook$Fraction" "top" "J" RX6) U ∧ va_Nw (.fieldLinkNest RX6 260 "BathBook$Fraction" "bottom" "J" RX6) U ∧ va_Nw (.methodLinkNest RX0 22 yX6_isBetween RX6) U ∧ va_Nw (.methodLinkNest RX1 20 yX6_isBetween RX6) U ∧ va_Nw (.methodLinkNest RX2 16 yX6_greatestDivisor RX6) U ∧ va_Nw (.methodLinkNest RX4 26 yX6_isBetween RX6) U ∧ va_Nw (.methodLinkNest RX5 27 yX6_leastMultiple RX6) U
abbrev mm_tys (E : mm_E) : List (ClassId × FieldType) := [(E.2.1, .int), (E.2.2.1, .boolean), (E.2.2.2.1, .array .int)]
def mm_Ij (E : mm_E) : Prop := ∀ i j, i < 105 → j < 105 → E.1 i = E.1 j → i = j
def mm_Kn (E : mm_E) (U : State) : Prop := mm_Ij E ∧ va_K E.2.2.2.2.1 vwCl (mm_tys E) U ∧ mm_Nst U
theorem mm_Kn.same {E : mm_E} {u U : State} (hv : u.vm = U.vm) (h : mm_Kn E u) : mm_Kn E U := by
  obtain ⟨a, b, c1, c2, c3, c4, c5, c6, c7⟩ := h
  exact ⟨a, va_K.moved (by rw [hv]; exact Vm.Alike.refl U.vm) b, c1.same rfl hv, c2.same rfl hv, c3.same rfl hv, c4.same rfl hv, c5.same rfl hv, c6.same rfl hv, c7.same rfl hv⟩
theorem mm_Kn.warm {E : mm_E} {u U : State} (hW : u.WarmedH U.vm) (h : mm_Kn E u) : mm_Kn E U := by
  obtain ⟨a, b, c1, c2, c3, c4, c5, c6, c7⟩ := h
  exact ⟨a, va_K.moved hW.alike b, c1.warmF hW, c2.warmF hW, c3.warmM hW, c4.warmM hW, c5.warmM hW, c6.warmM hW, c7.warmM hW⟩
def mm_A (E : mm_E) : Nat → Prop := fun q => ∃ k, k < 105 ∧ q = E.1 k
theorem mm_D {E : mm_E} (hI : mm_Ij E) {A : Nat → Prop} (hA : ∀ k, k < 105 → A (E.1 k)) (g : mm_I) (h : mm_L) : va_D A (mm_wl E g h) := by
  have hlt : ∀ (i : Nat) (p : Nat × va_E), (mm_wl E g h)[i]? = some p → i < 105 := fun i p hp => by
    have := (List.getElem?_eq_some_iff.mp hp).1
    simpa [mm_wl] using this
  refine ⟨fun i j p q hp hq e => ?_, fun k q hq => ?_⟩
  · have hi := hlt i p hp
    have hj := hlt j q hq
    rw [mm_at E g h hi] at hp
    rw [mm_at E g h hj] at hq
    cases hp
    cases hq
    exact hI i j hi hj e
  · have hk := hlt k q hq
    rw [mm_at E g h hk] at hq
    cases hq
    exact hA k hk
abbrev mm_X : Type := Program × Env × Room × State × MethodId × Array Value × List Frame × Method × Code × Nat × Nat × (State → Prop) × (Nat → Prop)
def JJ (E : mm_E) (X : mm_X) (g : mm_I) (h : mm_L) (pc : Nat) (L : List (Nat × Value)) (st : List Value) : Prop := match X with
  | (p, e, R, s, m, args, below, meth, c, cells, slots, Q, A) => ∀ (ls : Array Slot) (H : Heap) (locs : List Loc), lv_has ls c.maxLocals L → mm_Pw E g h H → va_S A s.heap H locs → W p E.2.2.2.2.2 e R s m args below meth c H locs cells slots Q (F0 m pc ls st)
def Cx (E : mm_E) (X : mm_X) (cc : ByteArray) (own : String) (Ts : List Cond) (nL fr lo : Nat) : Prop := match X with
  | (p, e, R, s, m, args, below, meth, c, cells, slots, Q, A) => p.tables.exec = Jvm.exec ∧ c.code = cc ∧ c.maxLocals = nL ∧ s.vm.findClass own = some m.cls ∧ (∀ w ∈ Ts, w.before args s = true) ∧ mm_Kn E s ∧ (∀ k, k < 105 → A (E.1 k)) ∧ fr ≤ R.frames ∧ lo ≤ R.locals ∧ cells ≤ R.cells ∧ slots ≤ R.slots
section JR
variable {E : mm_E} {X : mm_X} {cc : ByteArray} {own : String} {Ts : List Cond} {nL fr lo pc : Nat} {g g' : mm_I} {h h' : mm_L} {L L' : List (Nat × Value)} {st st' : List Value}
theorem jr_is (hL : L = L') (hs : st = st') (hg : g = g') (hh : h = h') (k : JJ E X g' h' pc L' st') : JJ E X g h pc L st := by subst hL hs hg hh; exact k
theorem jr_pick (ks : List Nat) (hl : lv_pick L ks = L') (k : JJ E X g h pc L' st) : JJ E X g h pc L st := by
  obtain ⟨p, e, R, s, m, args, below, meth, c, cells, slots, Q, A⟩ := X
  intro ls H locs hl2 hP hS
  exact k ls H locs (lv_sub hl2 ks hl) hP hS
theorem jr_iconst {n : Int} {v : Int32} (cx : Cx E X cc own Ts nL fr lo) (hd : decode cc pc = .ok (.iconst n, 1)) (hv : Int32.ofInt n = v) (k : JJ E X g h (pc + 1) L (.int v :: st)) : JJ E X g h pc L (st) := by
  obtain ⟨p, e, R, s, m, args, below, meth, c, cells, slots, Q, A⟩ := X
  obtain ⟨hx, hb, hml, hown, hts, hK, hA, hfr, hlo, hc, hs⟩ := cx
  intro ls H locs hl hP hS
  exact lv_iconst hx hb hd hv (k ls H locs hl hP hS)
theorem jr_bipush {n : Int} {v : Int32} (cx : Cx E X cc own Ts nL fr lo) (hd : decode cc pc = .ok (.bipush n, 2)) (hv : (Int8.ofInt n).toInt32 = v) (k : JJ E X g h (pc + 2) L (.int v :: st)) : JJ E X g h pc L (st) := by
  obtain ⟨p, e, R, s, m, args, below, meth, c, cells, slots, Q, A⟩ := X
  obtain ⟨hx, hb, hml, hown, hts, hK, hA, hfr, hlo, hc, hs⟩ := cx
  intro ls H locs hl hP hS
  exact lv_bipush hx hb hd hv (k ls H locs hl hP hS)
theorem jr_sipush {n : Int} {v : Int32} (cx : Cx E X cc own Ts nL fr lo) (hd : decode cc pc = .ok (.sipush n, 3)) (hv : (Int16.ofInt n).toInt32 = v) (k : JJ E X g h (pc + 3) L (.int v :: st)) : JJ E X g h pc L (st) := by
  obtain ⟨p, e, R, s, m, args, below, meth, c, cells, slots, Q, A⟩ := X
  obtain ⟨hx, hb, hml, hown, hts, hK, hA, hfr, hlo, hc, hs⟩ := cx
  intro ls H locs hl hP hS
  exact lv_sipush hx hb hd hv (k ls H locs hl hP hS)
theorem jr_lconst {n : Fin 2} {v : Int64} (cx : Cx E X cc own Ts nL fr lo) (hd : decode cc pc = .ok (.lconst n, 1)) (hv : Int64.ofNat (n : Nat) = v) (k : JJ E X g h (pc + 1) L (.long v :: st)) : JJ E X g h pc L (st) := by
  obtain ⟨p, e, R, s, m, args, below, meth, c, cells, slots, Q, A⟩ := X
  obtain ⟨hx, hb, hml, hown, hts, hK, hA, hfr, hlo, hc, hs⟩ := cx
  intro ls H locs hl hP hS
  exact lv_lconst hx hb hd hv (k ls H locs hl hP hS)
theorem jr_ldc {index : Nat} {v : Int32} (cx : Cx E X cc own Ts nL fr lo) (hd : decode cc pc = .ok (.ldc index, 2)) (hm : Cond.constant own index v ∈ Ts) (k : JJ E X g h (pc + 2) L (.int v :: st)) : JJ E X g h pc L (st) := by
  obtain ⟨p, e, R, s, m, args, below, meth, c, cells, slots, Q, A⟩ := X
  obtain ⟨hx, hb, hml, hown, hts, hK, hA, hfr, hlo, hc, hs⟩ := cx
  intro ls H locs hl hP hS
  exact lv_ldc hx hb hown (hts _ hm) hd (k ls H locs hl hP hS)
theorem jr_ldc2 {index : Nat} {v : Int64} (cx : Cx E X cc own Ts nL fr lo) (hd : decode cc pc = .ok (.ldc2_w index, 3)) (hm : Cond.constantLong own index v ∈ Ts) (k : JJ E X g h (pc + 3) L (.long v :: st)) : JJ E X g h pc L (st) := by
  obtain ⟨p, e, R, s, m, args, below, meth, c, cells, slots, Q, A⟩ := X
  obtain ⟨hx, hb, hml, hown, hts, hK, hA, hfr, hlo, hc, hs⟩ := cx
  intro ls H locs hl hP hS
  exact lv_ldc2 hx hb hown (hts _ hm) hd (k ls H locs hl hP hS)
theorem jr_iload_n {q : Fin 4} {i : Nat} {x : Int32} (cx : Cx E X cc own Ts nL fr lo) (hd : decode cc pc = .ok (.iload_n q, 1)) (n : Nat) (hi : (q : Nat) = i) (hn : L[n]? = some (i, .int x)) (k : JJ E X g h (pc + 1) L (.int x :: st)) : JJ E X g h pc L (st) := by
  obtain ⟨p, e, R, s, m, args, below, meth, c, cells, slots, Q, A⟩ := X
  obtain ⟨hx, hb, hml, hown, hts, hK, hA, hfr, hlo, hc, hs⟩ := cx
  intro ls H locs hl hP hS
  exact lv_iload_n hx hb hd hi (lv_at hl n hn) (k ls H locs hl hP hS)
theorem jr_iload {i : Nat} {x : Int32} (cx : Cx E X cc own Ts nL fr lo) (hd : decode cc pc = .ok (.iload i, 2)) (n : Nat) (hn : L[n]? = some (i, .int x)) (k : JJ E X g h (pc + 2) L (.int x :: st)) : JJ E X g h pc L (st) := by
  obtain ⟨p, e, R, s, m, args, below, meth, c, cells, slots, Q, A⟩ := X
  obtain ⟨hx, hb, hml, hown, hts, hK, hA, hfr, hlo, hc, hs⟩ := cx
  intro ls H locs hl hP hS
  exact lv_iload hx hb hd (lv_at hl n hn) (k ls H locs hl hP hS)
theorem jr_istore_n {q : Fin 4} {i : Nat} {x : Int32} (cx : Cx E X cc own Ts nL fr lo) (hd : decode cc pc = .ok (.istore_n q, 1)) (hi : (q : Nat) = i) (hn : i < nL) (hl2 : (i, Value.int x) :: L.filter (fun q => !(q.1 == i) && !(q.1 + 1 == i && q.2.category == 2)) = L') (k : JJ E X g h (pc + 1) L' st) : JJ E X g h pc L (.int x :: st) := by
  obtain ⟨p, e, R, s, m, args, below, meth, c, cells, slots, Q, A⟩ := X
  obtain ⟨hx, hb, hml, hown, hts, hK, hA, hfr, hlo, hc, hs⟩ := cx
  intro ls H locs hl hP hS
  subst hml
  exact lv_istore_n hx hb hd hi hl hn hl2 (fun ls2 hl3 => k ls2 H locs hl3 hP hS)
theorem jr_istore {i : Nat} {x : Int32} (cx : Cx E X cc own Ts nL fr lo) (hd : decode cc pc = .ok (.istore i, 2)) (hn : i < nL) (hl2 : (i, Value.int x) :: L.filter (fun q => !(q.1 == i) && !(q.1 + 1 == i && q.2.category == 2)) = L') (k : JJ E X g h (pc + 2) L' st) : JJ E X g h pc L (.int x :: st) := by
  obtain ⟨p, e, R, s, m, args, below, meth, c, cells, slots, Q, A⟩ := X
  obtain ⟨hx, hb, hml, hown, hts, hK, hA, hfr, hlo, hc, hs⟩ := cx
  intro ls H locs hl hP hS
  subst hml
  exact lv_istore hx hb hd hl hn hl2 (fun ls2 hl3 => k ls2 H locs hl3 hP hS)
theorem jr_lload_n {q : Fin 4} {i : Nat} {x : Int64} (cx : Cx E X cc own Ts nL fr lo) (hd : decode cc pc = .ok (.lload_n q, 1)) (n : Nat) (hi : (q : Nat) = i) (hn : L[n]? = some (i, .long x)) (k : JJ E X g h (pc + 1) L (.long x :: st)) : JJ E X g h pc L (st) := by
  obtain ⟨p, e, R, s, m, args, below, meth, c, cells, slots, Q, A⟩ := X
  obtain ⟨hx, hb, hml, hown, hts, hK, hA, hfr, hlo, hc, hs⟩ := cx
  intro ls H locs hl hP hS
  exact lv_lload_n hx hb hd hi (lv_at hl n hn) (k ls H locs hl hP hS)
theorem jr_lload {i : Nat} {x : Int64} (cx : Cx E X cc own Ts nL fr lo) (hd : decode cc pc = .ok (.lload i, 2)) (n : Nat) (hn : L[n]? = some (i, .long x)) (k : JJ E X g h (pc + 2) L (.long x :: st)) : JJ E X g h pc L (st) := by
  obtain ⟨p, e, R, s, m, args, below, meth, c, cells, slots, Q, A⟩ := X
  obtain ⟨hx, hb, hml, hown, hts, hK, hA, hfr, hlo, hc, hs⟩ := cx
  intro ls H locs hl hP hS
  exact lv_lload hx hb hd (lv_at hl n hn) (k ls H locs hl hP hS)
theorem jr_lstore_n {q : Fin 4} {i : Nat} {x : Int64} (cx : Cx E X cc own Ts nL fr lo) (hd : decode cc pc = .ok (.lstore_n q, 1)) (hi : (q : Nat) = i) (hn : i + 1 < nL) (hl2 : (i, Value.long x) :: L.filter (fun q => !(q.1 == i) && (!(q.1 == i + 1) && !(q.1 + 1 == i && q.2.category == 2))) = L') (k : JJ E X g h (pc + 1) L' st) : JJ E X g h pc L (.long x :: st) := by
  obtain ⟨p, e, R, s, m, args, below, meth, c, cells, slots, Q, A⟩ := X
  obtain ⟨hx, hb, hml, hown, hts, hK, hA, hfr, hlo, hc, hs⟩ := cx
  intro ls H locs hl hP hS
  subst hml
  exact lv_lstore_n hx hb hd hi hl hn hl2 (fun ls2 hl3 => k ls2 H locs hl3 hP hS)
theorem jr_lstore {i : Nat} {x : Int64} (cx : Cx E X cc own Ts nL fr lo) (hd : decode cc pc = .ok (.lstore i, 2)) (hn : i + 1 < nL) (hl2 : (i, Value.long x) :: L.filter (fun q => !(q.1 == i) && (!(q.1 == i + 1) && !(q.1 + 1 == i && q.2.category == 2))) = L') (k : JJ E X g h (pc + 2) L' st) : JJ E X g h pc L (.long x :: st) := by
  obtain ⟨p, e, R, s, m, args, below, meth, c, cells, slots, Q, A⟩ := X
  obtain ⟨hx, hb, hml, hown, hts, hK, hA, hfr, hlo, hc, hs⟩ := cx
  intro ls H locs hl hP hS
  subst hml
  exact lv_lstore hx hb hd hl hn hl2 (fun ls2 hl3 => k ls2 H locs hl3 hP hS)
theorem jr_aload_n {q : Fin 4} {i : Nat} {x : Nat} (cx : Cx E X cc own Ts nL fr lo) (hd : decode cc pc = .ok (.aload_n q, 1)) (n : Nat) (hi : (q : Nat) = i) (hn : L[n]? = some (i, .ref x)) (k : JJ E X g h (pc + 1) L (.ref x :: st)) : JJ E X g h pc L (st) := by
  obtain ⟨p, e, R, s, m, args, below, meth, c, cells, slots, Q, A⟩ := X
  obtain ⟨hx, hb, hml, hown, hts, hK, hA, hfr, hlo, hc, hs⟩ := cx
  intro ls H locs hl hP hS
  exact lv_aload_n hx hb hd hi (lv_at hl n hn) (k ls H locs hl hP hS)
theorem jr_aload {i : Nat} {x : Nat} (cx : Cx E X cc own Ts nL fr lo) (hd : decode cc pc = .ok (.aload i, 2)) (n : Nat) (hn : L[n]? = some (i, .ref x)) (k : JJ E X g h (pc + 2) L (.ref x :: st)) : JJ E X g h pc L (st) := by
  obtain ⟨p, e, R, s, m, args, below, meth, c, cells, slots, Q, A⟩ := X
  obtain ⟨hx, hb, hml, hown, hts, hK, hA, hfr, hlo, hc, hs⟩ := cx
  intro ls H locs hl hP hS
  exact lv_aload hx hb hd (lv_at hl n hn) (k ls H locs hl hP hS)
theorem jr_astore_n {q : Fin 4} {i : Nat} {x : Nat} (cx : Cx E X cc own Ts nL fr lo) (hd : decode cc pc = .ok (.astore_n q, 1)) (hi : (q : Nat) = i) (hn : i < nL) (hl2 : (i, Value.ref x) :: L.filter (fun q => !(q.1 == i) && !(q.1 + 1 == i && q.2.category == 2)) = L') (k : JJ E X g h (pc + 1) L' st) : JJ E X g h pc L (.ref x :: st) := by
  obtain ⟨p, e, R, s, m, args, below, meth, c, cells, slots, Q, A⟩ := X
  obtain ⟨hx, hb, hml, hown, hts, hK, hA, hfr, hlo, hc, hs⟩ := cx
  intro ls H locs hl hP hS
  subst hml
  exact lv_astore_n hx hb hd hi hl hn hl2 (fun ls2 hl3 => k ls2 H locs hl3 hP hS)
theorem jr_astore {i : Nat} {x : Nat} (cx : Cx E X cc own Ts nL fr lo) (hd : decode cc pc = .ok (.astore i, 2)) (hn : i < nL) (hl2 : (i, Value.ref x) :: L.filter (fun q => !(q.1 == i) && !(q.1 + 1 == i && q.2.category == 2)) = L') (k : JJ E X g h (pc + 2) L' st) : JJ E X g h pc L (.ref x :: st) := by
  obtain ⟨p, e, R, s, m, args, below, meth, c, cells, slots, Q, A⟩ := X
  obtain ⟨hx, hb, hml, hown, hts, hK, hA, hfr, hlo, hc, hs⟩ := cx
  intro ls H locs hl hP hS
  subst hml
  exact lv_astore hx hb hd hl hn hl2 (fun ls2 hl3 => k ls2 H locs hl3 hP hS)
theorem jr_iinc {i n : Nat} {z : Int} {x v : Int32} (cx : Cx E X cc own Ts nL fr lo) (hd : decode cc pc = .ok (.iinc i z, 3)) (hk : L[n]? = some (i, .int x)) (hv : x + Int32.ofInt z = v) (hn : i < nL) (hl2 : (i, Value.int v) :: L.filter (fun q => !(q.1 == i) && !(q.1 + 1 == i && q.2.category == 2)) = L') (k : JJ E X g h (pc + 3) L' st) : JJ E X g h pc L st := by
  obtain ⟨p, e, R, s, m, args, below, meth, c, cells, slots, Q, A⟩ := X
  obtain ⟨hx, hb, hml, hown, hts, hK, hA, hfr, hlo, hc, hs⟩ := cx
  intro ls H locs hl hP hS
  subst hml
  exact lv_iinc hx hb hd hl hk hv hn hl2 (fun ls2 hl3 => k ls2 H locs hl3 hP hS)
theorem jr_iadd {x y : Int32} (cx : Cx E X cc own Ts nL fr lo) (hd : decode cc pc = .ok (.iadd, 1)) (k : JJ E X g h (pc + 1) L (.int (x + y) :: st)) : JJ E X g h pc L (.int y :: .int x :: st) := by
  obtain ⟨p, e, R, s, m, args, below, meth, c, cells, slots, Q, A⟩ := X
  obtain ⟨hx, hb, hml, hown, hts, hK, hA, hfr, hlo, hc, hs⟩ := cx
  intro ls H locs hl hP hS
  exact lv_iadd hx hb hd (k ls H locs hl hP hS)
theorem jr_isub {x y : Int32} (cx : Cx E X cc own Ts nL fr lo) (hd : decode cc pc = .ok (.isub, 1)) (k : JJ E X g h (pc + 1) L (.int (x - y) :: st)) : JJ E X g h pc L (.int y :: .int x :: st) := by
  obtain ⟨p, e, R, s, m, args, below, meth, c, cells, slots, Q, A⟩ := X
  obtain ⟨hx, hb, hml, hown, hts, hK, hA, hfr, hlo, hc, hs⟩ := cx
  intro ls H locs hl hP hS
  exact lv_isub hx hb hd (k ls H locs hl hP hS)
theorem jr_imul {x y : Int32} (cx : Cx E X cc own Ts nL fr lo) (hd : decode cc pc = .ok (.imul, 1)) (k : JJ E X g h (pc + 1) L (.int (x * y) :: st)) : JJ E X g h pc L (.int y :: .int x :: st) := by
  obtain ⟨p, e, R, s, m, args, below, meth, c, cells, slots, Q, A⟩ := X
  obtain ⟨hx, hb, hml, hown, hts, hK, hA, hfr, hlo, hc, hs⟩ := cx
  intro ls H locs hl hP hS
  exact lv_imul hx hb hd (k ls H locs hl hP hS)
theorem jr_iand {x y : Int32} (cx : Cx E X cc own Ts nL fr lo) (hd : decode cc pc = .ok (.iand, 1)) (k : JJ E X g h (pc + 1) L (.int (x &&& y) :: st)) : JJ E X g h pc L (.int y :: .int x :: st) := by
  obtain ⟨p, e, R, s, m, args, below, meth, c, cells, slots, Q, A⟩ := X
  obtain ⟨hx, hb, hml, hown, hts, hK, hA, hfr, hlo, hc, hs⟩ := cx
  intro ls H locs hl hP hS
  exact lv_iand hx hb hd (k ls H locs hl hP hS)
theorem jr_idiv {x y : Int32} (cx : Cx E X cc own Ts nL fr lo) (hd : decode cc pc = .ok (.idiv, 1)) (hne : ¬ y = 0) (k : JJ E X g h (pc + 1) L (.int (x / y) :: st)) : JJ E X g h pc L (.int y :: .int x :: st) := by
  obtain ⟨p, e, R, s, m, args, below, meth, c, cells, slots, Q, A⟩ := X
  obtain ⟨hx, hb, hml, hown, hts, hK, hA, hfr, hlo, hc, hs⟩ := cx
  intro ls H locs hl hP hS
  exact lv_idiv hx hb hd hne (k ls H locs hl hP hS)
theorem jr_irem {x y : Int32} (cx : Cx E X cc own Ts nL fr lo) (hd : decode cc pc = .ok (.irem, 1)) (hne : ¬ y = 0) (k : JJ E X g h (pc + 1) L (.int (x - x / y * y) :: st)) : JJ E X g h pc L (.int y :: .int x :: st) := by
  obtain ⟨p, e, R, s, m, args, below, meth, c, cells, slots, Q, A⟩ := X
  obtain ⟨hx, hb, hml, hown, hts, hK, hA, hfr, hlo, hc, hs⟩ := cx
  intro ls H locs hl hP hS
  exact lv_irem hx hb hd hne (k ls H locs hl hP hS)
theorem jr_ladd {x y : Int64} (cx : Cx E X cc own Ts nL fr lo) (hd : decode cc pc = .ok (.ladd, 1)) (k : JJ E X g h (pc + 1) L (.long (x + y) :: st)) : JJ E X g h pc L (.long y :: .long x :: st) := by
  obtain ⟨p, e, R, s, m, args, below, meth, c, cells, slots, Q, A⟩ := X
  obtain ⟨hx, hb, hml, hown, hts, hK, hA, hfr, hlo, hc, hs⟩ := cx
  intro ls H locs hl hP hS
  exact lv_ladd hx hb hd (k ls H locs hl hP hS)
theorem jr_lsub {x y : Int64} (cx : Cx E X cc own Ts nL fr lo) (hd : decode cc pc = .ok (.lsub, 1)) (k : JJ E X g h (pc + 1) L (.long (x - y) :: st)) : JJ E X g h pc L (.long y :: .long x :: st) := by
  obtain ⟨p, e, R, s, m, args, below, meth, c, cells, slots, Q, A⟩ := X
  obtain ⟨hx, hb, hml, hown, hts, hK, hA, hfr, hlo, hc, hs⟩ := cx
  intro ls H locs hl hP hS
  exact lv_lsub hx hb hd (k ls H locs hl hP hS)
theorem jr_lmul {x y : Int64} (cx : Cx E X cc own Ts nL fr lo) (hd : decode cc pc = .ok (.lmul, 1)) (k : JJ E X g h (pc + 1) L (.long (x * y) :: st)) : JJ E X g h pc L (.long y :: .long x :: st) := by
  obtain ⟨p, e, R, s, m, args, below, meth, c, cells, slots, Q, A⟩ := X
  obtain ⟨hx, hb, hml, hown, hts, hK, hA, hfr, hlo, hc, hs⟩ := cx
  intro ls H locs hl hP hS
  exact lv_lmul hx hb hd (k ls H locs hl hP hS)
theorem jr_ldiv {x y : Int64} (cx : Cx E X cc own Ts nL fr lo) (hd : decode cc pc = .ok (.ldiv, 1)) (hne : ¬ y = 0) (k : JJ E X g h (pc + 1) L (.long (x / y) :: st)) : JJ E X g h pc L (.long y :: .long x :: st) := by
  obtain ⟨p, e, R, s, m, args, below, meth, c, cells, slots, Q, A⟩ := X
  obtain ⟨hx, hb, hml, hown, hts, hK, hA, hfr, hlo, hc, hs⟩ := cx
  intro ls H locs hl hP hS
  exact lv_ldiv hx hb hd hne (k ls H locs hl hP hS)
theorem jr_lrem {x y : Int64} (cx : Cx E X cc own Ts nL fr lo) (hd : decode cc pc = .ok (.lrem, 1)) (hne : ¬ y = 0) (k : JJ E X g h (pc + 1) L (.long (x - x / y * y) :: st)) : JJ E X g h pc L (.long y :: .long x :: st) := by
  obtain ⟨p, e, R, s, m, args, below, meth, c, cells, slots, Q, A⟩ := X
  obtain ⟨hx, hb, hml, hown, hts, hK, hA, hfr, hlo, hc, hs⟩ := cx
  intro ls H locs hl hP hS
  exact lv_lrem hx hb hd hne (k ls H locs hl hP hS)
theorem jr_ineg {x : Int32} (cx : Cx E X cc own Ts nL fr lo) (hd : decode cc pc = .ok (.ineg, 1)) (k : JJ E X g h (pc + 1) L (.int (-x) :: st)) : JJ E X g h pc L (.int x :: st) := by
  obtain ⟨p, e, R, s, m, args, below, meth, c, cells, slots, Q, A⟩ := X
  obtain ⟨hx, hb, hml, hown, hts, hK, hA, hfr, hlo, hc, hs⟩ := cx
  intro ls H locs hl hP hS
  exact lv_ineg hx hb hd (k ls H locs hl hP hS)
theorem jr_lneg {x : Int64} (cx : Cx E X cc own Ts nL fr lo) (hd : decode cc pc = .ok (.lneg, 1)) (k : JJ E X g h (pc + 1) L (.long (-x) :: st)) : JJ E X g h pc L (.long x :: st) := by
  obtain ⟨p, e, R, s, m, args, below, meth, c, cells, slots, Q, A⟩ := X
  obtain ⟨hx, hb, hml, hown, hts, hK, hA, hfr, hlo, hc, hs⟩ := cx
  intro ls H locs hl hP hS
  exact lv_lneg hx hb hd (k ls H locs hl hP hS)
theorem jr_i2l {x : Int32} (cx : Cx E X cc own Ts nL fr lo) (hd : decode cc pc = .ok (.i2l, 1)) (k : JJ E X g h (pc + 1) L (.long x.toInt64 :: st)) : JJ E X g h pc L (.int x :: st) := by
  obtain ⟨p, e, R, s, m, args, below, meth, c, cells, slots, Q, A⟩ := X
  obtain ⟨hx, hb, hml, hown, hts, hK, hA, hfr, hlo, hc, hs⟩ := cx
  intro ls H locs hl hP hS
  exact lv_i2l hx hb hd rfl (k ls H locs hl hP hS)
theorem jr_l2i {x : Int64} (cx : Cx E X cc own Ts nL fr lo) (hd : decode cc pc = .ok (.l2i, 1)) (k : JJ E X g h (pc + 1) L (.int x.toInt32 :: st)) : JJ E X g h pc L (.long x :: st) := by
  obtain ⟨p, e, R, s, m, args, below, meth, c, cells, slots, Q, A⟩ := X
  obtain ⟨hx, hb, hml, hown, hts, hK, hA, hfr, hlo, hc, hs⟩ := cx
  intro ls H locs hl hP hS
  exact lv_l2i hx hb hd rfl (k ls H locs hl hP hS)
theorem jr_lcmp {x y : Int64} (cx : Cx E X cc own Ts nL fr lo) (hd : decode cc pc = .ok (.lcmp, 1)) (k : JJ E X g h (pc + 1) L (.int (lg_cmp x y) :: st)) : JJ E X g h pc L (.long y :: .long x :: st) := by
  obtain ⟨p, e, R, s, m, args, below, meth, c, cells, slots, Q, A⟩ := X
  obtain ⟨hx, hb, hml, hown, hts, hK, hA, hfr, hlo, hc, hs⟩ := cx
  intro ls H locs hl hP hS
  exact W.lcmp hx hb hd (k ls H locs hl hP hS)
theorem jr_dup {v : Value} (cx : Cx E X cc own Ts nL fr lo) (hd : decode cc pc = .ok (.dup, 1)) (hv : v.category = 1) (k : JJ E X g h (pc + 1) L (v :: v :: st)) : JJ E X g h pc L (v :: st) := by
  obtain ⟨p, e, R, s, m, args, below, meth, c, cells, slots, Q, A⟩ := X
  obtain ⟨hx, hb, hml, hown, hts, hK, hA, hfr, hlo, hc, hs⟩ := cx
  intro ls H locs hl hP hS
  exact lv_dup hx hb hd hv (k ls H locs hl hP hS)
theorem jr_dup2 {v u : Value} (cx : Cx E X cc own Ts nL fr lo) (hd : decode cc pc = .ok (.dup2, 1)) (hv : v.category = 1) (hu : u.category = 1) (k : JJ E X g h (pc + 1) L (v :: u :: v :: u :: st)) : JJ E X g h pc L (v :: u :: st) := by
  obtain ⟨p, e, R, s, m, args, below, meth, c, cells, slots, Q, A⟩ := X
  obtain ⟨hx, hb, hml, hown, hts, hK, hA, hfr, hlo, hc, hs⟩ := cx
  intro ls H locs hl hP hS
  exact lv_dup2_11 hx hb hd hv hu (k ls H locs hl hP hS)
theorem jr_pop {v : Value} (cx : Cx E X cc own Ts nL fr lo) (hd : decode cc pc = .ok (.pop, 1)) (hv : v.category = 1) (k : JJ E X g h (pc + 1) L (st)) : JJ E X g h pc L (v :: st) := by
  obtain ⟨p, e, R, s, m, args, below, meth, c, cells, slots, Q, A⟩ := X
  obtain ⟨hx, hb, hml, hown, hts, hK, hA, hfr, hlo, hc, hs⟩ := cx
  intro ls H locs hl hP hS
  exact lv_pop hx hb hd hv (k ls H locs hl hP hS)
theorem jr_goto {off : Int} {tgt : Nat} (cx : Cx E X cc own Ts nL fr lo) (hd : decode cc pc = .ok (.goto off, 3)) (ht : (pc : Int) + off = (tgt : Int)) (k : JJ E X g h tgt L st) : JJ E X g h pc L st := by
  obtain ⟨p, e, R, s, m, args, below, meth, c, cells, slots, Q, A⟩ := X
  obtain ⟨hx, hb, hml, hown, hts, hK, hA, hfr, hlo, hc, hs⟩ := cx
  intro ls H locs hl hP hS
  exact lv_goto hx hb hd ht (k ls H locs hl hP hS)
theorem jr_if_eq {x : Int32} {off : Int} {tgt : Nat} (cx : Cx E X cc own Ts nL fr lo) (hd : decode cc pc = .ok (.ifCond .eq off, 3)) (ht : (pc : Int) + off = (tgt : Int)) (kt : x = 0 → JJ E X g h tgt L st) (kf : ¬ x = 0 → JJ E X g h (pc + 3) L st) : JJ E X g h pc L (.int x :: st) := by
  obtain ⟨p, e, R, s, m, args, below, meth, c, cells, slots, Q, A⟩ := X
  obtain ⟨hx, hb, hml, hown, hts, hK, hA, hfr, hlo, hc, hs⟩ := cx
  intro ls H locs hl hP hS
  exact lv_if_eq hx hb hd ht (fun q => kt q ls H locs hl hP hS) (fun q => kf q ls H locs hl hP hS)
theorem jr_icmp_eq {x y : Int32} {off : Int} {tgt : Nat} (cx : Cx E X cc own Ts nL fr lo) (hd : decode cc pc = .ok (.if_icmp .eq off, 3)) (ht : (pc : Int) + off = (tgt : Int)) (kt : x = y → JJ E X g h tgt L st) (kf : ¬ x = y → JJ E X g h (pc + 3) L st) : JJ E X g h pc L (.int y :: .int x :: st) := by
  obtain ⟨p, e, R, s, m, args, below, meth, c, cells, slots, Q, A⟩ := X
  obtain ⟨hx, hb, hml, hown, hts, hK, hA, hfr, hlo, hc, hs⟩ := cx
  intro ls H locs hl hP hS
  exact lv_icmp_eq hx hb hd ht (fun q => kt q ls H locs hl hP hS) (fun q => kf q ls H locs hl hP hS)
theorem jr_if_ne {x : Int32} {off : Int} {tgt : Nat} (cx : Cx E X cc own Ts nL fr lo) (hd : decode cc pc = .ok (.ifCond .ne off, 3)) (ht : (pc : Int) + off = (tgt : Int)) (kt : ¬ x = 0 → JJ E X g h tgt L st) (kf : x = 0 → JJ E X g h (pc + 3) L st) : JJ E X g h pc L (.int x :: st) := by
  obtain ⟨p, e, R, s, m, args, below, meth, c, cells, slots, Q, A⟩ := X
  obtain ⟨hx, hb, hml, hown, hts, hK, hA, hfr, hlo, hc, hs⟩ := cx
  intro ls H locs hl hP hS
  exact lv_if_ne hx hb hd ht (fun q => kt q ls H locs hl hP hS) (fun q => kf q ls H locs hl hP hS)
theorem jr_icmp_ne {x y : Int32} {off : Int} {tgt : Nat} (cx : Cx E X cc own Ts nL fr lo) (hd : decode cc pc = .ok (.if_icmp .ne off, 3)) (ht : (pc : Int) + off = (tgt : Int)) (kt : ¬ x = y → JJ E X g h tgt L st) (kf : x = y → JJ E X g h (pc + 3) L st) : JJ E X g h pc L (.int y :: .int x :: st) := by
  obtain ⟨p, e, R, s, m, args, below, meth, c, cells, slots, Q, A⟩ := X
  obtain ⟨hx, hb, hml, hown, hts, hK, hA, hfr, hlo, hc, hs⟩ := cx
  intro ls H locs hl hP hS
  exact lv_icmp_ne hx hb hd ht (fun q => kt q ls H locs hl hP hS) (fun q => kf q ls H locs hl hP hS)
theorem jr_if_lt {x : Int32} {off : Int} {tgt : Nat} (cx : Cx E X cc own Ts nL fr lo) (hd : decode cc pc = .ok (.ifCond .lt off, 3)) (ht : (pc : Int) + off = (tgt : Int)) (kt : x < 0 → JJ E X g h tgt L st) (kf : ¬ x < 0 → JJ E X g h (pc + 3) L st) : JJ E X g h pc L (.int x :: st) := by
  obtain ⟨p, e, R, s, m, args, below, meth, c, cells, slots, Q, A⟩ := X
  obtain ⟨hx, hb, hml, hown, hts, hK, hA, hfr, hlo, hc, hs⟩ := cx
  intro ls H locs hl hP hS
  exact lv_if_lt hx hb hd ht (fun q => kt q ls H locs hl hP hS) (fun q => kf q ls H locs hl hP hS)
theorem jr_icmp_lt {x y : Int32} {off : Int} {tgt : Nat} (cx : Cx E X cc own Ts nL fr lo) (hd : decode cc pc = .ok (.if_icmp .lt off, 3)) (ht : (pc : Int) + off = (tgt : Int)) (kt : x < y → JJ E X g h tgt L st) (kf : ¬ x < y → JJ E X g h (pc + 3) L st) : JJ E X g h pc L (.int y :: .int x :: st) := by
  obtain ⟨p, e, R, s, m, args, below, meth, c, cells, slots, Q, A⟩ := X
  obtain ⟨hx, hb, hml, hown, hts, hK, hA, hfr, hlo, hc, hs⟩ := cx
  intro ls H locs hl hP hS
  exact lv_icmp_lt hx hb hd ht (fun q => kt q ls H locs hl hP hS) (fun q => kf q ls H locs hl hP hS)
theorem jr_if_ge {x : Int32} {off : Int} {tgt : Nat} (cx : Cx E X cc own Ts nL fr lo) (hd : decode cc pc = .ok (.ifCond .ge off, 3)) (ht : (pc : Int) + off = (tgt : Int)) (kt : 0 ≤ x → JJ E X g h tgt L st) (kf : ¬ 0 ≤ x → JJ E X g h (pc + 3) L st) : JJ E X g h pc L (.int x :: st) := by
  obtain ⟨p, e, R, s, m, args, below, meth, c, cells, slots, Q, A⟩ := X
  obtain ⟨hx, hb, hml, hown, hts, hK, hA, hfr, hlo, hc, hs⟩ := cx
  intro ls H locs hl hP hS
  exact lv_if_ge hx hb hd ht (fun q => kt q ls H locs hl hP hS) (fun q => kf q ls H locs hl hP hS)
theorem jr_icmp_ge {x y : Int32} {off : Int} {tgt : Nat} (cx : Cx E X cc own Ts nL fr lo) (hd : decode cc pc = .ok (.if_icmp .ge off, 3)) (ht : (pc : Int) + off = (tgt : Int)) (kt : y ≤ x → JJ E X g h tgt L st) (kf : ¬ y ≤ x → JJ E X g h (pc + 3) L st) : JJ E X g h pc L (.int y :: .int x :: st) := by
  obtain ⟨p, e, R, s, m, args, below, meth, c, cells, slots, Q, A⟩ := X
  obtain ⟨hx, hb, hml, hown, hts, hK, hA, hfr, hlo, hc, hs⟩ := cx
  intro ls H locs hl hP hS
  exact lv_icmp_ge hx hb hd ht (fun q => kt q ls H locs hl hP hS) (fun q => kf q ls H locs hl hP hS)
theorem jr_if_gt {x : Int32} {off : Int} {tgt : Nat} (cx : Cx E X cc own Ts nL fr lo) (hd : decode cc pc = .ok (.ifCond .gt off, 3)) (ht : (pc : Int) + off = (tgt : Int)) (kt : 0 < x → JJ E X g h tgt L st) (kf : ¬ 0 < x → JJ E X g h (pc + 3) L st) : JJ E X g h pc L (.int x :: st) := by
  obtain ⟨p, e, R, s, m, args, below, meth, c, cells, slots, Q, A⟩ := X
  obtain ⟨hx, hb, hml, hown, hts, hK, hA, hfr, hlo, hc, hs⟩ := cx
  intro ls H locs hl hP hS
  exact lv_if_gt hx hb hd ht (fun q => kt q ls H locs hl hP hS) (fun q => kf q ls H locs hl hP hS)
theorem jr_icmp_gt {x y : Int32} {off : Int} {tgt : Nat} (cx : Cx E X cc own Ts nL fr lo) (hd : decode cc pc = .ok (.if_icmp .gt off, 3)) (ht : (pc : Int) + off = (tgt : Int)) (kt : y < x → JJ E X g h tgt L st) (kf : ¬ y < x → JJ E X g h (pc + 3) L st) : JJ E X g h pc L (.int y :: .int x :: st) := by
  obtain ⟨p, e, R, s, m, args, below, meth, c, cells, slots, Q, A⟩ := X
  obtain ⟨hx, hb, hml, hown, hts, hK, hA, hfr, hlo, hc, hs⟩ := cx
  intro ls H locs hl hP hS
  exact lv_icmp_gt hx hb hd ht (fun q => kt q ls H locs hl hP hS) (fun q => kf q ls H locs hl hP hS)
theorem jr_if_le {x : Int32} {off : Int} {tgt : Nat} (cx : Cx E X cc own Ts nL fr lo) (hd : decode cc pc = .ok (.ifCond .le off, 3)) (ht : (pc : Int) + off = (tgt : Int)) (kt : x ≤ 0 → JJ E X g h tgt L st) (kf : ¬ x ≤ 0 → JJ E X g h (pc + 3) L st) : JJ E X g h pc L (.int x :: st) := by
  obtain ⟨p, e, R, s, m, args, below, meth, c, cells, slots, Q, A⟩ := X
  obtain ⟨hx, hb, hml, hown, hts, hK, hA, hfr, hlo, hc, hs⟩ := cx
  intro ls H locs hl hP hS
  exact lv_if_le hx hb hd ht (fun q => kt q ls H locs hl hP hS) (fun q => kf q ls H locs hl hP hS)
theorem jr_icmp_le {x y : Int32} {off : Int} {tgt : Nat} (cx : Cx E X cc own Ts nL fr lo) (hd : decode cc pc = .ok (.if_icmp .le off, 3)) (ht : (pc : Int) + off = (tgt : Int)) (kt : x ≤ y → JJ E X g h tgt L st) (kf : ¬ x ≤ y → JJ E X g h (pc + 3) L st) : JJ E X g h pc L (.int y :: .int x :: st) := by
  obtain ⟨p, e, R, s, m, args, below, meth, c, cells, slots, Q, A⟩ := X
  obtain ⟨hx, hb, hml, hown, hts, hK, hA, hfr, hlo, hc, hs⟩ := cx
  intro ls H locs hl hP hS
  exact lv_icmp_le hx hb hd ht (fun q => kt q ls H locs hl hP hS) (fun q => kf q ls H locs hl hP hS)
end JR
