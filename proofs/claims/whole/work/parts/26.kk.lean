theorem va_AOA.moved {t : FieldType} {u U : State} (hvm : u.vm.Alike U.vm) (h : va_AOA t u) : va_AOA t U := by
  have h1 : (Cond.arrayOver (.array t)).before #[] (u.setVm U.vm) = true := by rw [Cond.arrayOver_setVmC hvm]; exact h
  first | exact va_tabs rfl rfl h1 | exact h1
def adr : Nat → List va_E → va_W
  | _, [] => []
  | a, e :: cs => (a, e) :: adr (a + 1) cs
theorem adr_get : ∀ (cs : List va_E) (a i : Nat), (adr a cs)[i]? = (cs[i]?).map (fun e => (a + i, e))
  | [], _, _ => by simp [adr]
  | e :: cs, a, 0 => by simp [adr]
  | e :: cs, a, i + 1 => by
    show (adr (a + 1) cs)[i]? = _
    rw [adr_get cs (a + 1) i]
    show _ = (cs[i]?).map _
    rw [show a + 1 + i = a + (i + 1) by omega]
theorem adr_len : ∀ (cs : List va_E) (a : Nat), (adr a cs).length = cs.length
  | [], _ => rfl
  | e :: cs, a => by show (adr (a + 1) cs).length + 1 = cs.length + 1; rw [adr_len cs]
theorem adr_at {cs : List va_E} {a i : Nat} {e : va_E} (h : cs[i]? = some e) : (adr a cs)[i]? = some (a + i, e) := by rw [adr_get, h]; rfl
theorem adr_app : ∀ (cs ds : List va_E) (a : Nat), adr a (cs ++ ds) = adr a cs ++ adr (a + cs.length) ds
  | [], ds, a => rfl
  | e :: cs, ds, a => by
    show (a, e) :: adr (a + 1) (cs ++ ds) = (a, e) :: (adr (a + 1) cs ++ adr (a + (cs.length + 1)) ds)
    rw [adr_app cs ds (a + 1), show a + 1 + cs.length = a + (cs.length + 1) by omega]
theorem adr_set : ∀ (cs : List va_E) (a i : Nat) (e : va_E), (adr a cs).set i (a + i, e) = adr a (cs.set i e)
  | [], _, _, _ => by simp [adr]
  | x :: cs, a, 0, e => rfl
  | x :: cs, a, i + 1, e => by
    show (a, x) :: (adr (a + 1) cs).set i (a + (i + 1), e) = (a, x) :: adr (a + 1) (cs.set i e)
    rw [← adr_set cs (a + 1) i e, show a + 1 + i = a + (i + 1) by omega]
theorem adr_D {A : Nat → Prop} {tp : Nat} (cs : List va_E) (a : Nat) (h : ∀ i, i < tp → A (a + i)) (hl : cs.length ≤ tp) : va_D A (adr a cs) := by
  refine ⟨fun i j p q hp hq e => ?_, fun k q hq => ?_⟩
  · rw [adr_get] at hp hq
    obtain ⟨x, -, rfl⟩ := Option.map_eq_some_iff.mp hp
    obtain ⟨y, -, rfl⟩ := Option.map_eq_some_iff.mp hq
    have : a + i = a + j := e
    omega
  · have hk := (List.getElem?_eq_some_iff.mp hq).1
    rw [adr_len] at hk
    rw [adr_get] at hq
    obtain ⟨x, -, rfl⟩ := Option.map_eq_some_iff.mp hq
    exact h _ (by omega)
theorem adr_P {D : va_G} {cl : List vw_C} {cs ds : List va_E} {a : Nat} {H : Heap} (h1 : va_P D cl (adr a cs) H) (h2 : va_P D cl (adr (a + cs.length) ds) H) : va_P D cl (adr a (cs ++ ds)) H := by
  rw [adr_app]; exact h1.app h2
def mm_K0 (E : mm_E) (U : State) : Prop := va_K E.2.2.2.2.1 vwCl (mm_tys E) U ∧ va_AOA .int U
theorem mm_K0.same {E : mm_E} {u U : State} (hv : u.vm = U.vm) (h : mm_K0 E u) : mm_K0 E U := ⟨va_K.moved (by rw [hv]; exact Vm.Alike.refl U.vm) h.1, h.2.moved (by rw [hv]; exact Vm.Alike.refl U.vm)⟩
theorem mm_K0.warm {E : mm_E} {u U : State} (hW : u.WarmedH U.vm) (h : mm_K0 E u) : mm_K0 E U := ⟨va_K.moved hW.alike h.1, h.2.moved hW.alike⟩
def KK (E : mm_E) (X : mm_X) (o sz k n : Nat) (cs : List va_E) (pc : Nat) (L : List (Nat × Value)) (st : List Value) : Prop := match X with
  | (p, e, R, s, m, args, below, meth, c, _, _, Q, A) => ∀ (ls : Array Slot) (H : Heap) (locs : List Loc), lv_has ls c.maxLocals L → H.size = sz → va_P E.2.2.2.2.1 vwCl (adr o cs) H → va_S A s.heap H locs → W p E.2.2.2.2.2 e R s m args below meth c H locs k n Q (F0 m pc ls st)
def Ck (E : mm_E) (X : mm_X) (cc : ByteArray) (own : String) (Ts : List Cond) (nL o tp fr lo cl sl : Nat) (ini : Bool) : Prop := match X with
  | (p, e, R, s, m, args, below, meth, c, _, _, Q, A) => p.tables.exec = Jvm.exec ∧ c.code = cc ∧ c.maxLocals = nL ∧ s.vm.findClass own = some m.cls ∧ (∀ w ∈ Ts, w.before args s = true) ∧ mm_K0 E s ∧ (∀ i, i < tp → A (o + i)) ∧ fr ≤ R.frames ∧ lo ≤ R.locals ∧ cl ≤ R.cells ∧ sl ≤ R.slots ∧ (ini = true → meth.name = "<init>")
section KR
variable {E : mm_E} {X : mm_X} {cc : ByteArray} {own : String} {Ts : List Cond} {nL tp fr lo clm slm pc o sz k n : Nat} {ini : Bool} {cs ds : List va_E} {L L' : List (Nat × Value)} {st st' : List Value}
theorem kk_iconst {v : Int32} {z : Int} (cx : Ck E X cc own Ts nL o tp fr lo clm slm ini) (hd : decode cc pc = .ok (.iconst z, 1)) (hv : Int32.ofInt z = v) (kk : KK E X o sz k n cs (pc + 1) L (.int v :: st)) : KK E X o sz k n cs pc L (st) := by
  obtain ⟨p, e, R, s, m, args, below, meth, c, _, _, Q, A⟩ := X
  obtain ⟨hx, hb, hml, hown, hts, hK, hA, hfr, hlo, hc, hs, hin0⟩ := cx
  intro ls H locs hl hz hP hS
  exact lv_iconst hx hb hd hv (kk ls H locs hl hz hP hS)
theorem kk_bipush {v : Int32} {z : Int} (cx : Ck E X cc own Ts nL o tp fr lo clm slm ini) (hd : decode cc pc = .ok (.bipush z, 2)) (hv : (Int8.ofInt z).toInt32 = v) (kk : KK E X o sz k n cs (pc + 2) L (.int v :: st)) : KK E X o sz k n cs pc L (st) := by
  obtain ⟨p, e, R, s, m, args, below, meth, c, _, _, Q, A⟩ := X
  obtain ⟨hx, hb, hml, hown, hts, hK, hA, hfr, hlo, hc, hs, hin0⟩ := cx
  intro ls H locs hl hz hP hS
  exact lv_bipush hx hb hd hv (kk ls H locs hl hz hP hS)
theorem kk_sipush {v : Int32} {z : Int} (cx : Ck E X cc own Ts nL o tp fr lo clm slm ini) (hd : decode cc pc = .ok (.sipush z, 3)) (hv : (Int16.ofInt z).toInt32 = v) (kk : KK E X o sz k n cs (pc + 3) L (.int v :: st)) : KK E X o sz k n cs pc L (st) := by
  obtain ⟨p, e, R, s, m, args, below, meth, c, _, _, Q, A⟩ := X
  obtain ⟨hx, hb, hml, hown, hts, hK, hA, hfr, hlo, hc, hs, hin0⟩ := cx
  intro ls H locs hl hz hP hS
  exact lv_sipush hx hb hd hv (kk ls H locs hl hz hP hS)
theorem kk_lconst {v : Int64} {z : Fin 2} (cx : Ck E X cc own Ts nL o tp fr lo clm slm ini) (hd : decode cc pc = .ok (.lconst z, 1)) (hv : Int64.ofNat (z : Nat) = v) (kk : KK E X o sz k n cs (pc + 1) L (.long v :: st)) : KK E X o sz k n cs pc L (st) := by
  obtain ⟨p, e, R, s, m, args, below, meth, c, _, _, Q, A⟩ := X
  obtain ⟨hx, hb, hml, hown, hts, hK, hA, hfr, hlo, hc, hs, hin0⟩ := cx
  intro ls H locs hl hz hP hS
  exact lv_lconst hx hb hd hv (kk ls H locs hl hz hP hS)
theorem kk_iload_n {q : Fin 4} {i : Nat} {x : Int32} (cx : Ck E X cc own Ts nL o tp fr lo clm slm ini) (hd : decode cc pc = .ok (.iload_n q, 1)) (j : Nat) (hi : (q : Nat) = i) (hn : L[j]? = some (i, .int x)) (kk : KK E X o sz k n cs (pc + 1) L (.int x :: st)) : KK E X o sz k n cs pc L (st) := by
  obtain ⟨p, e, R, s, m, args, below, meth, c, _, _, Q, A⟩ := X
  obtain ⟨hx, hb, hml, hown, hts, hK, hA, hfr, hlo, hc, hs, hin0⟩ := cx
  intro ls H locs hl hz hP hS
  exact lv_iload_n hx hb hd hi (lv_at hl j hn) (kk ls H locs hl hz hP hS)
theorem kk_istore_n {q : Fin 4} {i : Nat} {x : Int32} (cx : Ck E X cc own Ts nL o tp fr lo clm slm ini) (hd : decode cc pc = .ok (.istore_n q, 1)) (hi : (q : Nat) = i) (hn : i < nL) (hl2 : (i, Value.int x) :: L.filter (fun q => !(q.1 == i) && !(q.1 + 1 == i && q.2.category == 2)) = L') (kk : KK E X o sz k n cs (pc + 1) L' st) : KK E X o sz k n cs pc L (.int x :: st) := by
  obtain ⟨p, e, R, s, m, args, below, meth, c, _, _, Q, A⟩ := X
  obtain ⟨hx, hb, hml, hown, hts, hK, hA, hfr, hlo, hc, hs, hin0⟩ := cx
  intro ls H locs hl hz hP hS
  subst hml
  exact lv_istore_n hx hb hd hi hl hn hl2 (fun ls2 hl3 => kk ls2 H locs hl3 hz hP hS)
theorem kk_aload_n {q : Fin 4} {i : Nat} {x : Nat} (cx : Ck E X cc own Ts nL o tp fr lo clm slm ini) (hd : decode cc pc = .ok (.aload_n q, 1)) (j : Nat) (hi : (q : Nat) = i) (hn : L[j]? = some (i, .ref x)) (kk : KK E X o sz k n cs (pc + 1) L (.ref x :: st)) : KK E X o sz k n cs pc L (st) := by
  obtain ⟨p, e, R, s, m, args, below, meth, c, _, _, Q, A⟩ := X
  obtain ⟨hx, hb, hml, hown, hts, hK, hA, hfr, hlo, hc, hs, hin0⟩ := cx
  intro ls H locs hl hz hP hS
  exact lv_aload_n hx hb hd hi (lv_at hl j hn) (kk ls H locs hl hz hP hS)
theorem kk_astore_n {q : Fin 4} {i : Nat} {x : Nat} (cx : Ck E X cc own Ts nL o tp fr lo clm slm ini) (hd : decode cc pc = .ok (.astore_n q, 1)) (hi : (q : Nat) = i) (hn : i < nL) (hl2 : (i, Value.ref x) :: L.filter (fun q => !(q.1 == i) && !(q.1 + 1 == i && q.2.category == 2)) = L') (kk : KK E X o sz k n cs (pc + 1) L' st) : KK E X o sz k n cs pc L (.ref x :: st) := by
  obtain ⟨p, e, R, s, m, args, below, meth, c, _, _, Q, A⟩ := X
  obtain ⟨hx, hb, hml, hown, hts, hK, hA, hfr, hlo, hc, hs, hin0⟩ := cx
  intro ls H locs hl hz hP hS
  subst hml
  exact lv_astore_n hx hb hd hi hl hn hl2 (fun ls2 hl3 => kk ls2 H locs hl3 hz hP hS)
theorem kk_iinc {i j : Nat} {z : Int} {x v : Int32} (cx : Ck E X cc own Ts nL o tp fr lo clm slm ini) (hd : decode cc pc = .ok (.iinc i z, 3)) (hk : L[j]? = some (i, .int x)) (hv : x + Int32.ofInt z = v) (hn : i < nL) (hl2 : (i, Value.int v) :: L.filter (fun q => !(q.1 == i) && !(q.1 + 1 == i && q.2.category == 2)) = L') (kk : KK E X o sz k n cs (pc + 3) L' st) : KK E X o sz k n cs pc L st := by
  obtain ⟨p, e, R, s, m, args, below, meth, c, _, _, Q, A⟩ := X
  obtain ⟨hx, hb, hml, hown, hts, hK, hA, hfr, hlo, hc, hs, hin0⟩ := cx
  intro ls H locs hl hz hP hS
  subst hml
  exact lv_iinc hx hb hd hl hk hv hn hl2 (fun ls2 hl3 => kk ls2 H locs hl3 hz hP hS)
theorem kk_dup {v : Value} (cx : Ck E X cc own Ts nL o tp fr lo clm slm ini) (hd : decode cc pc = .ok (.dup, 1)) (hv : v.category = 1) (kk : KK E X o sz k n cs (pc + 1) L (v :: v :: st)) : KK E X o sz k n cs pc L (v :: st) := by
  obtain ⟨p, e, R, s, m, args, below, meth, c, _, _, Q, A⟩ := X
  obtain ⟨hx, hb, hml, hown, hts, hK, hA, hfr, hlo, hc, hs, hin0⟩ := cx
  intro ls H locs hl hz hP hS
  exact lv_dup hx hb hd hv (kk ls H locs hl hz hP hS)
theorem kk_goto {off : Int} {tgt : Nat} (cx : Ck E X cc own Ts nL o tp fr lo clm slm ini) (hd : decode cc pc = .ok (.goto off, 3)) (ht : (pc : Int) + off = (tgt : Int)) (kk : KK E X o sz k n cs tgt L st) : KK E X o sz k n cs pc L st := by
  obtain ⟨p, e, R, s, m, args, below, meth, c, _, _, Q, A⟩ := X
  obtain ⟨hx, hb, hml, hown, hts, hK, hA, hfr, hlo, hc, hs, hin0⟩ := cx
  intro ls H locs hl hz hP hS
  exact lv_goto hx hb hd ht (kk ls H locs hl hz hP hS)
theorem kk_icmp_ge {x y : Int32} {off : Int} {tgt : Nat} (cx : Ck E X cc own Ts nL o tp fr lo clm slm ini) (hd : decode cc pc = .ok (.if_icmp .ge off, 3)) (ht : (pc : Int) + off = (tgt : Int)) (kt : y ≤ x → KK E X o sz k n cs tgt L st) (kf : ¬ y ≤ x → KK E X o sz k n cs (pc + 3) L st) : KK E X o sz k n cs pc L (.int y :: .int x :: st) := by
  obtain ⟨p, e, R, s, m, args, below, meth, c, _, _, Q, A⟩ := X
  obtain ⟨hx, hb, hml, hown, hts, hK, hA, hfr, hlo, hc, hs, hin0⟩ := cx
  intro ls H locs hl hz hP hS
  exact lv_icmp_ge hx hb hd ht (fun q => kt q ls H locs hl hz hP hS) (fun q => kf q ls H locs hl hz hP hS)
theorem kk_pick (ks : List Nat) (hl1 : lv_pick L ks = L') (kk : KK E X o sz k n cs pc L' st) : KK E X o sz k n cs pc L st := by
  obtain ⟨p, e, R, s, m, args, below, meth, c, _, _, Q, A⟩ := X
  intro ls H locs hl hz hP hS
  exact kk ls H locs (lv_sub hl ks hl1) hz hP hS
theorem kk_cs (e : cs = ds) (kk : KK E X o sz k n ds pc L st) : KK E X o sz k n cs pc L st := by rw [e]; exact kk
theorem kk_is {sz2 k2 n2 : Nat} {st2 : List Value} (e1 : sz = sz2) (e2 : k = k2) (e3 : n = n2) (e4 : cs = ds) (e5 : st = st2) (kk : KK E X o sz2 k2 n2 ds pc L st2) : KK E X o sz k n cs pc L st := by subst e1 e2 e3 e4 e5; exact kk
theorem kk_loc (e : L = L') (kk : KK E X o sz k n cs pc L' st) : KK E X o sz k n cs pc L st := by rw [e]; exact kk
theorem kk_obj {i idx : Nat} (cx : Ck E X cc own Ts nL o tp fr lo clm slm ini) (hd : decode cc pc = .ok (.invokespecial idx, 3)) (h1 : Cond.methodLink own idx objectInit ∈ Ts) (h2 : Cond.instanceMethod objectInit ∈ Ts) (h3 : Cond.code objectInit ⟨#[0xb1]⟩ 1 none ∈ Ts) (hf : 1 ≤ fr) (hlc : (st.map fun v => v.category).sum + 12 ≤ lo) (kk : KK E X o sz k n cs (pc + 3) L st) : KK E X o sz k n cs pc L (.ref i :: st) := by
  obtain ⟨p, e, R, s, m, args, below, meth, c, _, _, Q, A⟩ := X
  obtain ⟨hx, hb, hml, hown, hts, hK, hA, hfr, hlo, hc, hs, hin0⟩ := cx
  intro ls H locs hl hz hP hS
  refine W.objInit hx hb hown (hts _ h1) (hts _ h2) (hts _ h3) rfl hl.1 rfl hd (by omega) (by show 2 * 0 + _ + 12 ≤ _; omega) ?_
  exact kk ls H locs hl hz hP hS
theorem kk_new {ci N idx : Nat} {C : String} {T : u_T} {fs : List Value} (ty : Nat → FieldType) (cx : Ck E X cc own Ts nL o tp fr lo clm slm ini) (hd : decode cc pc = .ok (.new idx, 3)) (hc0 : vwCl[ci]? = some (C, T, N)) (hty : ∀ k, k < N → parseFieldDescriptor (T k).2.2.1 = some (ty k)) (hin : ∀ w ∈ u_ws C T N, w ∈ Ts) (h1 : Cond.classLink own idx C ∈ Ts) (h2 : Cond.instantiable C N ∈ Ts) (h3 : Cond.initialized C ∈ Ts) (hfs : ∀ j, j < N → defaultValue (ty j) = vp_V fs j) (hsz : sz = o + cs.length) (hk1 : k + 1 ≤ clm) (hn1 : n + N ≤ slm) (kk : KK E X o (sz + 1) (k + 1) (n + N) (cs ++ [.inr (ci, fs)]) (pc + 3) L (.ref sz :: st)) : KK E X o sz k n cs pc L st := by
  obtain ⟨p, e, R, s, m, args, below, meth, c, _, _, Q, A⟩ := X
  obtain ⟨hx, hb, hml, hown, hts, hK, hA, hfr, hlo, hc, hs, hin0⟩ := cx
  intro ls H locs hl hz hP hS
  have hKn := hK.1.1 ci _ hc0
  refine W.newcK hx hb hown (hts _ h1) (hts _ h2) (hts _ h3) rfl hd (by omega) (by omega) hKn.2.1 hz fun H1 kC hkC e1 z1 o1 => ?_
  have hk : ∀ (k : Nat) (x : Nat × va_E), (adr o cs)[k]? = some x → H1[x.1]? = H[x.1]? := fun k x hx => o1 x.1 (by have := (hP k x hx).lt; omega)
  refine kk ls H1 locs hl z1 (adr_P (hP.kept hk) ?_) ⟨Nat.le_trans hS.1 (by omega), fun x h1 h2 => (o1 x (by have := hS.1; omega)).trans (hS.2.1 x h1 h2), hS.2.2⟩
  intro k x hx
  have hz2 : k < 1 := (List.getElem?_eq_some_iff.mp hx).1
  rw [show k = 0 by omega] at hx
  cases hx
  exact ⟨_, hc0, by rw [← hsz]; exact (u_born ty hts hin hKn hkC e1 hty).to hfs⟩
theorem kk_newi {v : Int32} {N : Nat} (cx : Ck E X cc own Ts nL o tp fr lo clm slm ini) (hd : decode cc pc = .ok (.newarray .int, 2)) (h1 : Cond.arrayClass .int ∈ Ts) (hv : v = nI N) (hN : N ≤ 1000) (hsz : sz = o + cs.length) (hk1 : k + 1 ≤ clm) (hn1 : n + N ≤ slm) (kk : KK E X o (sz + 1) (k + 1) (n + N) (cs ++ [.inl (E.2.1, N, .inl (fun _ => 0))]) (pc + 2) L (.ref sz :: st)) : KK E X o sz k n cs pc L (.int v :: st) := by
  obtain ⟨p, e, R, s, m, args, below, meth, c, _, _, Q, A⟩ := X
  obtain ⟨hx, hb, hml, hown, hts, hK, hA, hfr, hlo, hc, hs, hin0⟩ := cx
  intro ls H locs hl hz hP hS
  subst hv
  refine va_newaK (atype := .int) hx hb (hts _ h1) rfl hd rfl (nI_pos (by omega)) (nI_clamp (by omega)) (by show N * _ ≤ _; simp only [newarray.typeOf, componentBytes]; omega) (by omega) (by omega) hz fun H1 cA e1 z1 o1 hAr hNm => ?_
  have ec : cA = E.2.1 := Option.some.inj (hNm.symm.trans (hK.1.2 0 _ rfl).2)
  subst ec
  have hk : ∀ (k : Nat) (x : Nat × va_E), (adr o cs)[k]? = some x → H1[x.1]? = H[x.1]? := fun k x hx => o1 x.1 (by have := (hP k x hx).lt; omega)
  refine kk ls H1 locs hl z1 (adr_P (hP.kept hk) ?_) ⟨Nat.le_trans hS.1 (by omega), fun x h1 h2 => (o1 x (by have := hS.1; omega)).trans (hS.2.1 x h1 h2), hS.2.2⟩
  intro k x hx
  have hz2 : k < 1 := (List.getElem?_eq_some_iff.mp hx).1
  rw [show k = 0 by omega] at hx
  cases hx
  rw [← hsz]
  exact e1
theorem kk_newz {v : Int32} {N : Nat} (cx : Ck E X cc own Ts nL o tp fr lo clm slm ini) (hd : decode cc pc = .ok (.newarray .boolean, 2)) (h1 : Cond.arrayClass .boolean ∈ Ts) (hv : v = nI N) (hN : N ≤ 1000) (hsz : sz = o + cs.length) (hk1 : k + 1 ≤ clm) (hn1 : n + N ≤ slm) (kk : KK E X o (sz + 1) (k + 1) (n + N) (cs ++ [.inl (E.2.2.1, N, .inl (fun _ => 0))]) (pc + 2) L (.ref sz :: st)) : KK E X o sz k n cs pc L (.int v :: st) := by
  obtain ⟨p, e, R, s, m, args, below, meth, c, _, _, Q, A⟩ := X
  obtain ⟨hx, hb, hml, hown, hts, hK, hA, hfr, hlo, hc, hs, hin0⟩ := cx
  intro ls H locs hl hz hP hS
  subst hv
  refine va_newaK (atype := .boolean) hx hb (hts _ h1) rfl hd rfl (nI_pos (by omega)) (nI_clamp (by omega)) (by show N * _ ≤ _; simp only [newarray.typeOf, componentBytes]; omega) (by omega) (by omega) hz fun H1 cA e1 z1 o1 hAr hNm => ?_
  have ec : cA = E.2.2.1 := Option.some.inj (hNm.symm.trans (hK.1.2 1 _ rfl).2)
  subst ec
  have hk : ∀ (k : Nat) (x : Nat × va_E), (adr o cs)[k]? = some x → H1[x.1]? = H[x.1]? := fun k x hx => o1 x.1 (by have := (hP k x hx).lt; omega)
  refine kk ls H1 locs hl z1 (adr_P (hP.kept hk) ?_) ⟨Nat.le_trans hS.1 (by omega), fun x h1 h2 => (o1 x (by have := hS.1; omega)).trans (hS.2.1 x h1 h2), hS.2.2⟩
  intro k x hx
  have hz2 : k < 1 := (List.getElem?_eq_some_iff.mp hx).1
  rw [show k = 0 by omega] at hx
  cases hx
  rw [← hsz]
  exact e1
theorem kk_mna {idx : Nat} {v u : Int32} {N M : Nat} (cx : Ck E X cc own Ts nL o tp fr lo clm slm ini) (hd : decode cc pc = .ok (.multianewarray idx 2, 4)) (h1 : Cond.classLink own idx "[[I" ∈ Ts) (h2 : Cond.arrayClass .int ∈ Ts) (hv : v = nI N) (hu : u = nI M) (hN : N ≤ 1000) (hM : M ≤ 1000) (hsz : sz = o + cs.length) (hk1 : k + (1 + N) ≤ clm) (hn1 : n + (N + N * M) ≤ slm) (kk : KK E X o (sz + 1 + N) (k + (1 + N)) (n + (N + N * M)) (cs ++ .inl (E.2.2.2.1, N, .inr (.inr (.inr (.inr (fun i => if i < N then some (sz + 1 + i) else none))))) :: List.replicate N (.inl (E.2.1, M, .inl (fun _ => 0)))) (pc + 4) L (.ref sz :: st)) : KK E X o sz k n cs pc L (.int u :: .int v :: st) := by
  obtain ⟨p, e, R, s, m, args, below, meth, c, _, _, Q, A⟩ := X
  obtain ⟨hx, hb, hml, hown, hts, hK, hA, hfr, hlo, hc, hs, hin0⟩ := cx
  intro ls H locs hl hz hP hS
  subst hv hu
  have c1 : (nI N).toNatClampNeg = N := nI_clamp (by omega)
  have c2 : (nI M).toNatClampNeg = M := nI_clamp (by omega)
  intro T hT Xs
  obtain ⟨vm₁, cA, comp, -, fA, fC, -, -, X', step⟩ := Xs.multianewarray2F (ty := .int) hx hown (hts _ h1) (va_AOA.use hK.2) (hts _ h2) (g := F0 m pc ls (.int (nI M) :: .int (nI N) :: st)) rfl (by rw [hb]; exact hd) rfl (nI_pos (by omega)) (nI_pos (by omega)) (by rw [c1]; omega) (by rw [c2]; show M * 4 ≤ _; omega) (by rw [c2]; omega) rfl rfl (by rw [c1]; omega) (by rw [c1, c2]; omega)
  have e1 : comp = E.2.1 := Option.some.inj (fC.symm.trans (hK.1.2 0 _ rfl).2)
  have e2 : cA = E.2.2.2.1 := Option.some.inj (fA.symm.trans (hK.1.2 2 _ rfl).2)
  subst e1 e2
  rw [c1, c2] at X' step
  have hTh : (T.setVm vm₁).heap = H := hT
  obtain ⟨f1, f2, -, -⟩ := Jvm.Free.Multi.fill_facts (T.setVm vm₁) E.2.2.2.1 E.2.1 N M (defaultValue .int) N
  have f3 : ∀ x : Nat, x < H.size → _ := fun x hx => Jvm.Free.Multi.fill_old (T.setVm vm₁) E.2.2.2.1 E.2.1 N M (defaultValue .int) (a := x) (by rw [hTh]; exact hx) N
  have f4 := Jvm.Free.Multi.fill_inner (T.setVm vm₁) E.2.2.2.1 E.2.1 N M (defaultValue .int) N
  generalize Jvm.Free.Multi.fill (T.setVm vm₁) E.2.2.2.1 E.2.1 N M (defaultValue .int) N = F at X' step f1 f2 f3 f4
  rw [hTh, hz] at f1 f2
  rw [hTh] at f4
  simp only [hTh] at f3
  rw [vr_outer] at f2
  have hP1 : va_P E.2.2.2.2.1 vwCl (adr o cs) F.heap := hP.kept (fun k9 x hx => f3 x.1 ((hP k9 x hx).lt))
  have hst : T.heap.size = sz := by rw [hT]; exact hz
  have hin : Jvm.Free.Multi.innerC E.2.1 M (defaultValue .int) = vp_cell E.2.1 (M, .inl (fun _ => 0)) := by
    rw [vp_cell_i, ← arrV_new]
    rfl
  obtain ⟨t, a1, b1⟩ := kk ls F.heap locs hl f1 (adr_P hP1 (by
    intro k9 x hx
    rw [← hsz] at hx
    rw [adr_get] at hx
    obtain ⟨y, hy, rfl⟩ := Option.map_eq_some_iff.mp hx
    rcases k9 with _ | k9
    · cases hy
      exact f2
    · have hy2 : (List.replicate N (Sum.inl (E.2.1, M, Sum.inl (fun _ => 0)) : va_E))[k9]? = some y := hy
      rw [List.getElem?_replicate] at hy2
      split at hy2
      · rename_i hlt
        cases hy2
        have h7 := f4 k9 hlt
        rw [hz, hin] at h7
        rw [show sz + (k9 + 1) = sz + 1 + k9 by omega]
        exact h7
      · cases hy2)) ⟨Nat.le_trans hS.1 (by rw [f1, hz]; omega), fun x h1 h2 => (f3 x (by have := hS.1; omega)).trans (hS.2.1 x h1 h2), hS.2.2⟩ F rfl (by simpa [Nat.add_assoc] using X')
  refine ⟨t, ?_, b1⟩
  apply step
  rw [hst]
  exact a1
theorem kk_putF {i f ci N idx : Nat} {C : String} {T : u_T} {ty0 : Nat → FieldType} {ty : FieldType} {fs : List Value} {v : Value} (cx : Ck E X cc own Ts nL o tp fr lo clm slm true) (hd : decode cc pc = .ok (.putfield idx, 3)) (hi : cs[i]? = some (.inr (ci, fs))) (hc0 : vwCl[ci]? = some (C, T, N)) (hin : ∀ w ∈ u_ws C T N, w ∈ Ts) (hty : ∀ k, k < N → parseFieldDescriptor (T k).2.2.1 = some (ty0 k)) (hnm : ∀ a, a < N → ∀ b, b < N → a ≠ b → (T a).2.1 ≠ (T b).2.1) (hf : f < N) (hlk : Cond.fieldLink own idx (T f).1 (T f).2.1 (T f).2.2.1 ∈ Ts) (hfin : (T f).2.2.2 = true) (hdecl : (T f).1 = own) (hd2 : parseFieldDescriptor (T f).2.2.1 = some ty) (hn2 : narrow ty v = v) (hfit : fits ty v = true) (hlf : f < fs.length) (hcl : cs.length ≤ tp) (kk : KK E X o sz k n (cs.set i (.inr (ci, fs.set f v))) (pc + 3) L st) : KK E X o sz k n cs pc L (v :: .ref (o + i) :: st) := by
  obtain ⟨p, e, R, s, m, args, below, meth, c, _, _, Q, A⟩ := X
  obtain ⟨hx, hb, hml, hown, hts, hK, hA, hfr, hlo, hc, hs, hin0⟩ := cx
  intro ls H locs hl hz hP hS
  have he := adr_at (a := o) hi
  have hap := va_apart (own := own) hts hin ty0 hty hnm hK.1 hc0
  obtain ⟨r, h1, cell, q1, q2, q3, q4⟩ := hP i _ he
  have hr : r = (C, T, N) := Option.some.inj (h1.symm.trans hc0)
  subst hr
  obtain ⟨hS2, hfc, kC, hkC, hkind⟩ := hK.1.1 ci _ hc0
  obtain ⟨cf, kf, fi, fd, hi2, hsl⟩ := hS2 f hf
  have hlay := hts _ (hin _ (u_in_lay hf))
  unfold u_lay at hlay
  rw [if_pos hfin] at hlay
  have hst := (u_facts hfc hkC (u_lays hts hin hf) hi2).1
  have hcf : m.cls = cf := by
    obtain ⟨_, _, c', _, _, _, -, -, hf', -, -, -, hown2, -⟩ := Cond.laysFinal_spec hlay
    have e1 : c' = cf := by have := hi2.symm.trans hf'; simp at this; exact this.1.symm
    rw [hdecl] at hown2
    rw [← e1]; exact Option.some.inj (hown.symm.trans hown2)
  have h6 := u_fits hfc hkC hkind (Or.inr hlay) hi2 hd2 hn2 hfit
  refine W.putFinK hx hb hown (hts _ hlk) hi2 hst hcf (hin0 rfl) (by rw [q2]; exact h6) q1 q3 (by rw [hsl]; exact k2_hasslot (q4 f hf)) rfl rfl hd fun H' e1 e2 e3 => ?_
  rw [hsl] at e1 ⊢
  have hP1 : va_P E.2.2.2.2.1 vwCl ((adr o cs).set i (o + i, .inr (ci, fs.set f v))) H' := hP.set (adr_D cs o hA hcl) he ⟨_, hc0, t_OB.to (V := updV (vp_V fs) f v) ⟨_, e1, q2, q3, t_set q4 hap hf v⟩ (fun j _ => vp_updV_set hlf v j)⟩ e3
  rw [adr_set] at hP1
  exact kk ls H' _ hl (e2.trans hz) hP1 (hS.put e2 e3 ((adr_D cs o hA hcl).2 i _ he))
theorem kk_put {i f ci N idx : Nat} {C : String} {T : u_T} {ty0 : Nat → FieldType} {ty : FieldType} {fs : List Value} {v : Value} (cx : Ck E X cc own Ts nL o tp fr lo clm slm ini) (hd : decode cc pc = .ok (.putfield idx, 3)) (hi : cs[i]? = some (.inr (ci, fs))) (hc0 : vwCl[ci]? = some (C, T, N)) (hin : ∀ w ∈ u_ws C T N, w ∈ Ts) (hty : ∀ k, k < N → parseFieldDescriptor (T k).2.2.1 = some (ty0 k)) (hnm : ∀ a, a < N → ∀ b, b < N → a ≠ b → (T a).2.1 ≠ (T b).2.1) (hf : f < N) (hlk : Cond.fieldLink own idx (T f).1 (T f).2.1 (T f).2.2.1 ∈ Ts) (hfin : (T f).2.2.2 = false) (hd2 : parseFieldDescriptor (T f).2.2.1 = some ty) (hn2 : narrow ty v = v) (hfit : fits ty v = true) (hlf : f < fs.length) (hcl : cs.length ≤ tp) (kk : KK E X o sz k n (cs.set i (.inr (ci, fs.set f v))) (pc + 3) L st) : KK E X o sz k n cs pc L (v :: .ref (o + i) :: st) := by
  obtain ⟨p, e, R, s, m, args, below, meth, c, _, _, Q, A⟩ := X
  obtain ⟨hx, hb, hml, hown, hts, hK, hA, hfr, hlo, hc, hs, hin0⟩ := cx
  intro ls H locs hl hz hP hS
  have he := adr_at (a := o) hi
  have hap := va_apart (own := own) hts hin ty0 hty hnm hK.1 hc0
  obtain ⟨r, h1, cell, q1, q2, q3, q4⟩ := hP i _ he
  have hr : r = (C, T, N) := Option.some.inj (h1.symm.trans hc0)
  subst hr
  obtain ⟨hS2, hfc, kC, hkC, hkind⟩ := hK.1.1 ci _ hc0
  obtain ⟨cf, kf, fi, fd, hi2, hsl⟩ := hS2 f hf
  have hlay := hts _ (hin _ (u_in_lay hf))
  unfold u_lay at hlay
  rw [if_neg (by rw [hfin]; decide)] at hlay
  have hst := (u_facts hfc hkC (u_lays hts hin hf) hi2).1
  have h6 := u_store hfc hkC hkind hlay hi2 hd2 hn2 hfit
  refine W.putK hx hb (f := fd) ⟨hown, hts _ hlk, ⟨_, _, _, hi2⟩, hst⟩ (by rw [q2]; exact h6) q1 q3 (by rw [hsl]; exact k2_hasslot (q4 f hf)) rfl rfl hd fun H' e1 e2 e3 => ?_
  rw [hsl] at e1 ⊢
  have hP1 : va_P E.2.2.2.2.1 vwCl ((adr o cs).set i (o + i, .inr (ci, fs.set f v))) H' := hP.set (adr_D cs o hA hcl) he ⟨_, hc0, t_OB.to (V := updV (vp_V fs) f v) ⟨_, e1, q2, q3, t_set q4 hap hf v⟩ (fun j _ => vp_updV_set hlf v j)⟩ e3
  rw [adr_set] at hP1
  exact kk ls H' _ hl (e2.trans hz) hP1 (hS.put e2 e3 ((adr_D cs o hA hcl).2 i _ he))
theorem kk_get {i f ci N idx : Nat} {C : String} {T : u_T} {fs : List Value} {v : Value} (cx : Ck E X cc own Ts nL o tp fr lo clm slm ini) (hd : decode cc pc = .ok (.getfield idx, 3)) (hi : cs[i]? = some (.inr (ci, fs))) (hc0 : vwCl[ci]? = some (C, T, N)) (hin : ∀ w ∈ u_ws C T N, w ∈ Ts) (hf : f < N) (hlk : Cond.fieldLink own idx (T f).1 (T f).2.1 (T f).2.2.1 ∈ Ts) (hv : fs[f]? = some v) (kk : KK E X o sz k n cs (pc + 3) L (v :: st)) : KK E X o sz k n cs pc L (.ref (o + i) :: st) := by
  obtain ⟨p, e, R, s, m, args, below, meth, c, _, _, Q, A⟩ := X
  obtain ⟨hx, hb, hml, hown, hts, hK, hA, hfr, hlo, hc, hs, hin0⟩ := cx
  intro ls H locs hl hz hP hS
  exact va_get hx hb hts hin hown hK.1 hP i (adr_at hi) hc0 f hf (hts _ hlk) (fun _ h9 => h9) hv hd (kk ls H locs hl hz hP hS)
theorem kk_iast {i j N : Nat} {x y : Int32} {f : Nat → Int32} (cx : Ck E X cc own Ts nL o tp fr lo clm slm ini) (hd : decode cc pc = .ok (.iastore, 1)) (hi : cs[i]? = some (.inl (E.2.1, N, .inl f))) (hy : y = nI j) (hj : j < N) (hN : N ≤ 1000) (hcl : cs.length ≤ tp) (kk : KK E X o sz k n (cs.set i (.inl (E.2.1, N, .inl (upd f j x)))) (pc + 1) L st) : KK E X o sz k n cs pc L (.int x :: .int y :: .ref (o + i) :: st) := by
  obtain ⟨p, e, R, s, m, args, below, meth, c, _, _, Q, A⟩ := X
  obtain ⟨hx, hb, hml, hown, hts, hK, hA, hfr, hlo, hc, hs, hin0⟩ := cx
  intro ls H locs hl hz hP hS
  subst hy
  have he := adr_at (a := o) hi
  have e1 : (nI j).toNatClampNeg = j := nI_clamp (by omega)
  refine W.iast hx hb (hP i _ he) ((hK.1.2 0 _ rfl).1 N (fun j => .int (f j))) (fun q => by cases q) (by show ¬ (nI j < 0 ∨ (arrV _ _ _).slots.size ≤ _); rw [arrV_size]; exact vp_in_nI hj (show N < 2 ^ 31 by omega)) rfl rfl hd fun H1 e z oq => ?_
  have hP1 : va_P E.2.2.2.2.1 vwCl ((adr o cs).set i (o + i, .inl (E.2.1, N, .inl (upd f j x)))) H1 := hP.set (adr_D cs o hA hcl) he (by
    show H1[o + i]? = some (vp_cell _ _)
    rw [e, vp_cell_i, vp_cell_i, arrV_store, e1]
    congr 2
    funext q
    by_cases hq : q = j
    · subst hq
      simp [updV, upd]
    · simp [updV, upd, hq]) oq
  rw [adr_set] at hP1
  exact kk ls H1 _ hl (z.trans hz) hP1 (hS.put z oq ((adr_D cs o hA hcl).2 i _ he))
theorem kk_aald {i j N q : Nat} {y : Int32} {F : Nat → Option Nat} (cx : Ck E X cc own Ts nL o tp fr lo clm slm ini) (hd : decode cc pc = .ok (.aaload, 1)) (hi : cs[i]? = some (.inl (E.2.2.2.1, N, .inr (.inr (.inr (.inr F)))))) (hy : y = nI j) (hj : j < N) (hN : N ≤ 1000) (hq : F j = some q) (kk : KK E X o sz k n cs (pc + 1) L (.ref q :: st)) : KK E X o sz k n cs pc L (.int y :: .ref (o + i) :: st) := by
  obtain ⟨p, e, R, s, m, args, below, meth, c, _, _, Q, A⟩ := X
  obtain ⟨hx, hb, hml, hown, hts, hK, hA, hfr, hlo, hc, hs, hin0⟩ := cx
  intro ls H locs hl hz hP hS
  subst hy
  have e1 : (nI j).toNatClampNeg = j := nI_clamp (by omega)
  refine W.aald (v := .ref q) (ty := .array .int) hx hb (hP i _ (adr_at hi)) ((hK.1.2 2 _ rfl).1 N (fun x => va_rf (F x))) rfl (fun q => by cases q) (by show ¬ (nI j < 0 ∨ (arrV _ _ _).slots.size ≤ _); rw [arrV_size]; exact vp_in_nI hj (show N < 2 ^ 31 by omega)) (by show (arrV _ _ _).slots[_]? = _; rw [e1, arrV_read _ _ hj, hq]; rfl) rfl rfl hd ?_
  exact kk ls H locs hl hz hP hS
theorem kk_alen {i N : Nat} {f : Nat → Int32} (cx : Ck E X cc own Ts nL o tp fr lo clm slm ini) (hd : decode cc pc = .ok (.arraylength, 1)) (hi : cs[i]? = some (.inl (E.2.1, N, .inl f))) (kk : KK E X o sz k n cs (pc + 1) L (.int (nI N) :: st)) : KK E X o sz k n cs pc L (.ref (o + i) :: st) := by
  obtain ⟨p, e, R, s, m, args, below, meth, c, _, _, Q, A⟩ := X
  obtain ⟨hx, hb, hml, hown, hts, hK, hA, hfr, hlo, hc, hs, hin0⟩ := cx
  intro ls H locs hl hz hP hS
  exact va_alen (x := (N, .inl f)) hx hb hK.1 hP i 0 (adr_at hi) rfl rfl hd (kk ls H locs hl hz hP hS)
end KR
def kk_rm (fr lo mc ms : Nat) : Room := { frames := fr, cells := mc, slots := ms, locals := lo }
def kk_Pc (E : mm_E) (av : List Value) (o sz : Nat) (cs : List va_E) : Array Value → State → Prop := va_Pc av (fun U => U.heap.size = sz ∧ va_P E.2.2.2.2.1 vwCl (adr o cs) U.heap ∧ mm_K0 E U)
/-- a making method's contract: from the cells cs from o on (the heap ends at sz) to the cells cs' (it ends at sz'); of the old cells at most tp from o on are written -/
def Km (E : mm_E) (y : MethodName) (ws : List Cond) (fr lo mc ms : Nat) (av : List Value) (o tp sz sz' : Nat) (cs cs' : List va_E) : Prop := Met E.2.2.2.2.2 y ws (kk_rm fr lo mc ms) (kk_Pc E av o sz cs) (va_Qv (fun (_ : Unit) => True) (fun _ t => t.heap.size = sz' ∧ va_P E.2.2.2.2.1 vwCl (adr o cs') t.heap) (fun q => o ≤ q ∧ q < o + tp)) mc ms (fun q => o ≤ q ∧ q < o + tp)
theorem kk_blind (E : mm_E) (av : List Value) (o sz : Nat) (cs : List va_E) : FrameBlind (kk_Pc E av o sz cs) := fun a U gg mk q => ⟨q.1, q.2.1, q.2.2.1, mm_K0.same (u := U) rfl q.2.2.2⟩
theorem ck_v {E : mm_E} {y : MethodName} {ws ws' : List Cond} {fr lo mc ms maxL o tp sz sz' : Nat} {av : List Value} {cs cs' : List va_E} {bytes : ByteArray} {ini : Bool} (hy : plainName y.cls = true) (hw : ws = Cond.code y bytes maxL none :: ws') (hl0 : (lg_sl av).length ≤ maxL) (hini : ini = true → y.name = "<init>") (body : ∀ X, Ck E X bytes y.cls ws maxL o tp fr lo mc ms ini → (∀ (pc : Nat) (L : List (Nat × Value)), decode bytes pc = .ok (.return_, 1) → KK E X o sz' mc ms cs' pc L []) → KK E X o sz 0 0 cs 0 (lv_args 0 av) []) : Km E y ws fr lo mc ms av o tp sz sz' cs cs' := by
  refine Met.ofW (cc := bytes) (maxL := maxL) (ret := none) hy hw ?_
  intro p e s m args below meth c s₁ B hml hv
  obtain ⟨rfl, hz, hP, hK⟩ := hv
  have hts := atoms_spec (ws := ws) B.pre
  have hown : s.vm.findClass y.cls = some m.cls := findClass_of_methodNamed B.named
  have hlocks := B.notSynchronized
  have hl := lv_entry av (n := maxL) hl0
  have hS : va_S (fun q => o ≤ q ∧ q < o + tp) s.heap s.heap [] := va_S.rf
  rw [lg_entry_eq]
  generalize (lg_sl av ++ List.replicate (maxL - (lg_sl av).length) Slot.unset).toArray = ls at hl ⊢
  refine body (p, e, (headSpec ws (kk_rm fr lo mc ms)).room, s, m, av.toArray, below, meth, c, 0, 0, MQ below (va_Qv (fun (_ : Unit) => True) (fun _ t => t.heap.size = sz' ∧ va_P E.2.2.2.2.1 vwCl (adr o cs') t.heap) (fun q => o ≤ q ∧ q < o + tp)) av.toArray s mc ms (fun q => o ≤ q ∧ q < o + tp), fun q => o ≤ q ∧ q < o + tp) ⟨B.exec, B.bytes, hml, hown, hts, hK, fun i hi => ⟨by omega, by omega⟩, Nat.le_refl _, Nat.le_refl _, Nat.le_refl _, Nat.le_refl _, fun h => by rw [(name_of_methodNamed B.named B.method).1]; exact hini h⟩ ?_ ls s.heap [] (by rw [hml]; exact hl) hz hP hS
  intro pc L hd ls2 H2 locs2 hl2 hz2 hP2 hS2
  exact W.vret B.exec B.bytes B.returns (fun t ht hW => ⟨⟨(), rfl, trivial, by rw [ht]; exact hz2, by rw [ht]; exact hP2⟩, hS2.F ht⟩) hS2.2.2 hd hlocks
section KC
variable {E : mm_E} {X : mm_X} {cc : ByteArray} {own : String} {Ts : List Cond} {nL tp fr lo clm slm pc o sz sz' k n : Nat} {ini : Bool} {cs ds es : List va_E} {L L' : List (Nat × Value)} {st st0 : List Value} {y : MethodName} {ws ws' : List Cond} {f2 l2 mc ms maxL idx : Nat} {bytes : ByteArray}
/-- a constructor of an object that was made last -/
theorem kk_ctor {o2 t2 : Nat} {e0 : va_E} (cx : Ck E X cc own Ts nL o tp fr lo clm slm ini) (hd : decode cc pc = .ok (.invokespecial idx, 3)) (hM : Km E y ws f2 l2 mc ms [.ref o2] o2 t2 sz sz' [e0] es) (ho : o2 = o + cs.length) (hG : GoodIn Ts ws) (hw : ws = Cond.code y bytes maxL none :: ws') (h1 : Cond.initialized y.cls ∈ Ts) (h2 : Cond.methodLink own idx y ∈ Ts) (h3 : Cond.instanceMethod y ∈ Ts) (hyn : y.name = "<init>") (hy : y.cls ≠ "java/lang/invoke/MethodHandle" ∧ y.cls ≠ "java/lang/invoke/VarHandle" ∧ (parseMethodDescriptor y.desc).map (fun d => d.parameters.length) = some 0) (hR : f2 + 1 ≤ fr ∧ 8 + (maxL + 11) + l2 ≤ lo) (hk1 : k + mc ≤ clm) (hn1 : n + ms ≤ slm) (htp : cs.length + t2 ≤ tp) (hcat : (st.map fun v => v.category).sum ≤ 8) (kk : KK E X o sz' (k + mc) (n + ms) (cs ++ es) (pc + 3) L st) : KK E X o sz k n (cs ++ [e0]) pc L (.ref o2 :: st) := by
  obtain ⟨p, e, R, s, m, args, below, meth, c, _, _, Q, A⟩ := X
  obtain ⟨hx, hb, hml, hown, hts, hK, hA, hfr, hlo, hc, hs, hin0⟩ := cx
  intro ls H locs hl hz hP hS
  have hPa : va_P E.2.2.2.2.1 vwCl (adr o cs) H := by rw [adr_app] at hP; exact fun k q hq => hP k q (by rw [List.getElem?_append_left (List.getElem?_eq_some_iff.mp hq).1]; exact hq)
  have hPb : va_P E.2.2.2.2.1 vwCl (adr o2 [e0]) H := by
    rw [adr_app, ← ho] at hP
    exact fun k q hq => hP ((adr o cs).length + k) q (by rw [List.getElem?_append_right (by omega), Nat.add_sub_cancel_left]; exact hq)
  refine va_callv (va_runI (As := []) (rest := st) ⟨hx, hb, hml, hown, hts⟩ hM (cwI 0 hts hG hw rfl rfl (hts _ h1) (hts _ h2) (hts _ h3) hyn hy ⟨Nat.le_trans hR.1 hfr, Nat.le_trans hR.2 hlo⟩) ⟨kk_blind E _ o2 sz [e0], fun U hU hW => ⟨rfl, by rw [hU]; exact hz, by rw [hU]; exact hPb, hK.warm hW⟩⟩ rfl rfl (by rw [← hml]; exact hl.1) rfl (lv_room hcat) hd ⟨Nat.le_trans hk1 hc, Nat.le_trans hn1 hs⟩) hS (fun (q : Nat) _ hq => ?_) (fun (q : Nat) hq => ?_) (fun u t H1 locs1 ht hvm hw2 hB hz1 hk2 hS1 => ?_)
  · have hq9 : o2 ≤ q ∧ q < o2 + t2 := hq
    have e : q = o + (q - o) := by omega
    rw [e]; exact hA _ (by omega)
  · have hq9 : o2 ≤ q ∧ q < o2 + t2 := hq
    have e : q = o + (q - o) := by omega
    rw [e]; exact hA _ (by omega)
  obtain ⟨hB1, hB2⟩ := hB
  rw [ht] at hB1 hB2
  refine kk ls H1 locs1 hl hB1 (adr_P (hPa.kept (fun k9 x hx9 => hk2 x.1 ((hPa k9 x hx9).lt) ?_)) (by rw [← ho]; exact hB2)) hS1
  intro hq
  have h8 := (List.getElem?_eq_some_iff.mp hx9).1
  rw [adr_len] at h8
  rw [adr_get] at hx9
  obtain ⟨y9, -, rfl⟩ := Option.map_eq_some_iff.mp hx9
  have h9 : o2 ≤ o + k9 := hq.1
  omega
/-- a filling of the array at the place i -/
theorem kk_fill {i N : Nat} {v : Int32} {f f9 : Nat → Int32} (cx : Ck E X cc own Ts nL o tp fr lo clm slm ini) (hd : decode cc pc = .ok (.invokestatic idx, 3)) (hM : Km E y ws f2 l2 0 0 [.ref (o + i), .int v] (o + i) 1 sz sz [.inl (E.2.1, N, .inl f)] [.inl (E.2.1, N, .inl f9)]) (hi : cs[i]? = some (.inl (E.2.1, N, .inl f))) (hG : GoodIn Ts (va_wsS own idx y ws)) (hw : ws = Cond.code y bytes maxL none :: ws') (hy : y.cls ≠ "java/lang/invoke/MethodHandle" ∧ y.cls ≠ "java/lang/invoke/VarHandle" ∧ (parseMethodDescriptor y.desc).map (fun d => d.parameters.length) = some 2) (hR : f2 + 1 ≤ fr ∧ 8 + (maxL + 11) + l2 ≤ lo) (hk1 : k ≤ clm) (hn1 : n ≤ slm) (hcl : cs.length ≤ tp) (hcat : (st.map fun v => v.category).sum ≤ 8) (kk : KK E X o sz k n (cs.set i (.inl (E.2.1, N, .inl f9))) (pc + 3) L st) : KK E X o sz k n cs pc L (.int v :: .ref (o + i) :: st) := by
  obtain ⟨p, e, R, s, m, args, below, meth, c, _, _, Q, A⟩ := X
  obtain ⟨hx, hb, hml, hown, hts, hK, hA, hfr, hlo, hc, hs, hin0⟩ := cx
  intro ls H locs hl hz hP hS
  have he := adr_at (a := o) hi
  have hi2 : i < cs.length := (List.getElem?_eq_some_iff.mp hi).1
  refine va_callv (va_runS (As := [.ref (o + i), .int v]) (rest := st) ⟨hx, hb, hml, hown, hts⟩ hM (va_cwS 2 hts hG hw rfl rfl hy ⟨Nat.le_trans hR.1 hfr, Nat.le_trans hR.2 hlo⟩) ⟨kk_blind E _ (o + i) sz _, fun U hU hW => ⟨rfl, by rw [hU]; exact hz, by rw [hU]; exact (fun k9 x hx9 => by
    have h8 : k9 < 1 := (List.getElem?_eq_some_iff.mp hx9).1
    rw [show k9 = 0 by omega] at hx9
    cases hx9
    exact hP i _ he), hK.warm hW⟩⟩ rfl rfl (by rw [← hml]; exact hl.1) rfl (lv_room hcat) hd ⟨Nat.le_trans hk1 hc, Nat.le_trans hn1 hs⟩) hS (fun (q : Nat) _ hq => ?_) (fun (q : Nat) hq => ?_) (fun u t H1 locs1 ht hvm hw2 hB hz1 hk2 hS1 => ?_)
  · have hq9 : o + i ≤ q ∧ q < o + i + 1 := hq
    have e : q = o + i := by omega
    rw [e]; exact hA _ (by omega)
  · have hq9 : o + i ≤ q ∧ q < o + i + 1 := hq
    have e : q = o + i := by omega
    rw [e]; exact hA _ (by omega)
  obtain ⟨hB1, hB2⟩ := hB
  rw [ht] at hB1 hB2
  have hP1 : va_P E.2.2.2.2.1 vwCl ((adr o cs).set i (o + i, .inl (E.2.1, N, .inl f9))) H1 := by
    intro k9 x hx9
    by_cases e9 : k9 = i
    · subst e9
      rw [List.getElem?_set_self (by rw [adr_len]; exact hi2)] at hx9
      cases hx9
      exact hB2 0 _ rfl
    · rw [List.getElem?_set_ne (Ne.symm e9)] at hx9
      have h7 := hP k9 x hx9
      refine h7.kept (hk2 x.1 h7.lt ?_)
      rw [adr_get] at hx9
      obtain ⟨y9, -, rfl⟩ := Option.map_eq_some_iff.mp hx9
      intro hq
      have : o + k9 = o + i := by have := hq.1; have := hq.2; show o + k9 = o + i; omega
      omega
  rw [adr_set] at hP1
  exact kk ls H1 locs1 hl hB1 hP1 hS1
end KC
