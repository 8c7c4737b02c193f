theorem mm_len_lt (k : Nat) : mm_len k < 2 ^ 31 := by
  have h1 : ∀ k, k < 39 → mm_len k < 241 := by decide +kernel
  by_cases hk : k < 39
  · have := h1 k hk; omega
  · unfold mm_len
    rw [List.getD_eq_getElem?_getD, List.getElem?_eq_none (by simpa using hk), Option.getD_none]
    split
    · decide
    · split
      · decide
      · split <;> decide
theorem mm_set_i (E : mm_E) (g : mm_I) (h : mm_L) {k : Nat} (hk : k < 105) (h8 : 8 ≤ k) (hG : ¬ mm_isG k) (j : Nat) (x : Int32) {cA : ClassId} (he : mm_ce E g h k = .inl (cA, mm_len k, .inl (g k))) : (mm_wl E g h).set k (E.1 k, .inl (cA, mm_len k, .inl (upd (g k) j x))) = mm_wl E (up2 g k j x) h := by
  have hob : ∀ i, i < 8 → mm_ob E (up2 g k j x) h i = mm_ob E g h i := fun i hi => by
    have hne : ∀ a, a < 8 → up2 g k j x a = g a := fun a ha => up2_n g j x (by omega)
    rcases (show i = 0 ∨ i = 1 ∨ i = 2 ∨ i = 3 ∨ i = 4 ∨ i = 5 ∨ i = 6 ∨ i = 7 by omega) with rfl | rfl | rfl | rfl | rfl | rfl | rfl | rfl <;> simp [mm_ob, hne]
  refine mm_set E g _ h h hk ?_ ?_
  · by_cases hz : mm_isZ k
    · rw [mm_ce_z E g h hz] at he
      cases he
      rw [mm_ce_z E _ h hz, up2_s]
    · have hi : mm_isI k := by unfold mm_isI mm_isZ mm_isG at *; omega
      rw [mm_ce_i E g h hi] at he
      cases he
      rw [mm_ce_i E _ h hi, up2_s]
  · intro i hi hn
    by_cases h1 : i < 8
    · rw [mm_ce_o E _ h h1, mm_ce_o E _ h h1, hob i h1]
    · by_cases hz : mm_isZ i
      · rw [mm_ce_z E _ h hz, mm_ce_z E _ h hz, up2_n g j x hn]
      · by_cases hg2 : mm_isG i
        · rw [mm_ce_g E _ h hg2, mm_ce_g E _ h hg2]
        · have h2 : mm_isI i := by unfold mm_isI mm_isZ mm_isG at *; omega
          rw [mm_ce_i E _ h h2, mm_ce_i E _ h h2, up2_n g j x hn]
section JH
variable {E : mm_E} {X : mm_X} {cc : ByteArray} {own : String} {Ts : List Cond} {nL fr lo pc : Nat} {g g' : mm_I} {h h' : mm_L} {L L' : List (Nat × Value)} {st st' : List Value}
theorem jr_iald {k : Nat} {i : Int32} (cx : Cx E X cc own Ts nL fr lo) (hd : decode cc pc = .ok (.iaload, 1)) (hk : mm_isI k) (j : Nat) (hi : i = nI j) (hj : j < mm_len k) (kk : JJ E X g h (pc + 1) L (.int (g k j) :: st)) : JJ E X g h pc L (.int i :: .ref (E.1 k) :: st) := by
  obtain ⟨p, e, R, s, m, args, below, meth, c, cells, slots, Q, A⟩ := X
  obtain ⟨hx, hb, hml, hown, hts, hK, hA, hfr, hlo, hc, hs⟩ := cx
  intro ls H locs hl hP hS
  have hk5 : k < 105 := by unfold mm_isI at hk; omega
  have hlt := mm_len_lt k
  subst hi
  have e1 : (nI j).toNatClampNeg = j := nI_clamp (by omega)
  refine va_iald hx hb hK.2.1 hP k 0 ((mm_at E g h hk5).trans (by rw [mm_ce_i E g h hk])) rfl (vp_in_nI hj hlt) hd ?_
  rw [e1]
  exact kk ls H locs hl hP hS
theorem jr_zald {k : Nat} {i : Int32} (cx : Cx E X cc own Ts nL fr lo) (hd : decode cc pc = .ok (.baload, 1)) (hk : mm_isZ k) (j : Nat) (hi : i = nI j) (hj : j < mm_len k) (kk : JJ E X g h (pc + 1) L (.int (g k j) :: st)) : JJ E X g h pc L (.int i :: .ref (E.1 k) :: st) := by
  obtain ⟨p, e, R, s, m, args, below, meth, c, cells, slots, Q, A⟩ := X
  obtain ⟨hx, hb, hml, hown, hts, hK, hA, hfr, hlo, hc, hs⟩ := cx
  intro ls H locs hl hP hS
  have hk5 : k < 105 := by unfold mm_isZ at hk; omega
  have hlt := mm_len_lt k
  subst hi
  have e1 : (nI j).toNatClampNeg = j := nI_clamp (by omega)
  refine va_zald hx hb hK.2.1 hP k 1 ((mm_at E g h hk5).trans (by rw [mm_ce_z E g h hk])) rfl (vp_in_nI hj hlt) hd ?_
  rw [e1]
  exact kk ls H locs hl hP hS
theorem jr_iast {k : Nat} {i x : Int32} (cx : Cx E X cc own Ts nL fr lo) (hd : decode cc pc = .ok (.iastore, 1)) (hk : mm_isI k) (j : Nat) (hi : i = nI j) (hj : j < mm_len k) (kk : JJ E X (up2 g k j x) h (pc + 1) L st) : JJ E X g h pc L (.int x :: .int i :: .ref (E.1 k) :: st) := by
  obtain ⟨p, e, R, s, m, args, below, meth, c, cells, slots, Q, A⟩ := X
  obtain ⟨hx, hb, hml, hown, hts, hK, hA, hfr, hlo, hc, hs⟩ := cx
  intro ls H locs hl hP hS
  have hk5 : k < 105 := by unfold mm_isI at hk; omega
  have hlt := mm_len_lt k
  subst hi
  have e1 : (nI j).toNatClampNeg = j := nI_clamp (by omega)
  refine va_iast hx hb hK.2.1 hP (mm_D hK.1 hA g h) hS k 0 ((mm_at E g h hk5).trans (by rw [mm_ce_i E g h hk])) rfl (vp_in_nI hj hlt) hd (fun H1 locs1 hP1 _ hS1 => ?_)
  rw [e1, mm_set_i E g h hk5 (by unfold mm_isI at hk; omega) (by unfold mm_isI at hk; unfold mm_isG; omega) j x (mm_ce_i E g h hk)] at hP1
  exact kk ls H1 locs1 hl hP1 hS1
theorem jr_zast {k : Nat} {i x : Int32} (cx : Cx E X cc own Ts nL fr lo) (hd : decode cc pc = .ok (.bastore, 1)) (hk : mm_isZ k) (j : Nat) (hi : i = nI j) (hj : j < mm_len k) (hx2 : x = 0 ∨ x = 1) (kk : JJ E X (up2 g k j x) h (pc + 1) L st) : JJ E X g h pc L (.int x :: .int i :: .ref (E.1 k) :: st) := by
  obtain ⟨p, e, R, s, m, args, below, meth, c, cells, slots, Q, A⟩ := X
  obtain ⟨hx, hb, hml, hown, hts, hK, hA, hfr, hlo, hc, hs⟩ := cx
  intro ls H locs hl hP hS
  have hk5 : k < 105 := by unfold mm_isZ at hk; omega
  have hlt := mm_len_lt k
  subst hi
  have e1 : (nI j).toNatClampNeg = j := nI_clamp (by omega)
  have e2 : vp_nar .boolean x = x := by rcases hx2 with rfl | rfl <;> decide +kernel
  refine va_zast hx hb hK.2.1 hP (mm_D hK.1 hA g h) hS k 1 ((mm_at E g h hk5).trans (by rw [mm_ce_z E g h hk])) rfl (vp_in_nI hj hlt) hd (fun H1 locs1 hP1 _ hS1 => ?_)
  rw [e1, e2, mm_set_i E g h hk5 (by unfold mm_isZ at hk; omega) (by unfold mm_isZ at hk; unfold mm_isG; omega) j x (mm_ce_z E g h hk)] at hP1
  exact kk ls H1 locs1 hl hP1 hS1
theorem jr_aald {k : Nat} {i : Int32} (cx : Cx E X cc own Ts nL fr lo) (hd : decode cc pc = .ok (.aaload, 1)) (hk : mm_isG k) (j : Nat) (hi : i = nI j) (hj : j < mm_len k) (q : Nat) (hq : mm_base k + j = q) (kk : JJ E X g h (pc + 1) L (.ref (E.1 q) :: st)) : JJ E X g h pc L (.int i :: .ref (E.1 k) :: st) := by
  obtain ⟨p, e, R, s, m, args, below, meth, c, cells, slots, Q, A⟩ := X
  obtain ⟨hx, hb, hml, hown, hts, hK, hA, hfr, hlo, hc, hs⟩ := cx
  intro ls H locs hl hP hS
  have hk5 : k < 105 := by unfold mm_isG at hk; omega
  have hlt := mm_len_lt k
  subst hi hq
  have e1 : (nI j).toNatClampNeg = j := nI_clamp (by omega)
  have hc2 := hP k _ (mm_at E g h hk5)
  rw [mm_ce_g E g h hk] at hc2
  refine W.aald (v := .ref (E.1 (mm_base k + j))) (ty := .array .int) hx hb hc2 ((hK.2.1.2 2 _ rfl).1 (mm_len k) (fun x => va_rf (if x < mm_len k then some (E.1 (mm_base k + x)) else none))) rfl (fun q => by cases q) (by show ¬ (nI j < 0 ∨ (arrV _ _ _).slots.size ≤ _); rw [arrV_size]; exact vp_in_nI hj hlt) (by show (arrV _ _ _).slots[_]? = _; rw [e1, arrV_read _ _ hj]; simp only [hj, if_true]; rfl) rfl rfl hd ?_
  exact kk ls H locs hl hP hS
theorem jr_get {k ci f N idx : Nat} {C : String} {T : u_T} {fs : List Value} {v : Value} (cx : Cx E X cc own Ts nL fr lo) (hd : decode cc pc = .ok (.getfield idx, 3)) (hk : k < 8) (ho : mm_ob E g h k = (ci, fs)) (hc : vwCl[ci]? = some (C, T, N)) (hin : ∀ w ∈ u_ws C T N, w ∈ Ts) (hf : f < N) (hlk : Cond.fieldLink own idx (T f).1 (T f).2.1 (T f).2.2.1 ∈ Ts) (hv : fs[f]? = some v) (kk : JJ E X g h (pc + 3) L (v :: st)) : JJ E X g h pc L (.ref (E.1 k) :: st) := by
  obtain ⟨p, e, R, s, m, args, below, meth, c, cells, slots, Q, A⟩ := X
  obtain ⟨hx, hb, hml, hown, hts, hK, hA, hfr, hlo, -, hs⟩ := cx
  intro ls H locs hl hP hS
  exact va_get hx hb hts hin hown hK.2.1 hP k (mm_at_o E g h hk ho) hc f hf (hts _ hlk) (fun _ h9 => h9) hv hd (kk ls H locs hl hP hS)
theorem jr_getN {k ci f N idx : Nat} {C host : String} {T : u_T} {fs : List Value} {v : Value} (cx : Cx E X cc own Ts nL fr lo) (hd : decode cc pc = .ok (.getfield idx, 3)) (hk : k < 8) (ho : mm_ob E g h k = (ci, fs)) (hc : vwCl[ci]? = some (C, T, N)) (hin : ∀ w ∈ u_ws C T N, w ∈ Ts) (hf : f < N) (hlk : ∀ U, mm_Nst U → va_Nw (.fieldLinkNest own idx (T f).1 (T f).2.1 (T f).2.2.1 host) U) (hv : fs[f]? = some v) (kk : JJ E X g h (pc + 3) L (v :: st)) : JJ E X g h pc L (.ref (E.1 k) :: st) := by
  obtain ⟨p, e, R, s, m, args, below, meth, c, cells, slots, Q, A⟩ := X
  obtain ⟨hx, hb, hml, hown, hts, hK, hA, hfr, hlo, -, hs⟩ := cx
  intro ls H locs hl hP hS
  exact va_getN hx hb hts hin hown hK.2.1 hP k (mm_at_o E g h hk ho) hc f hf ((hlk s hK.2.2).use rfl) (fun _ h9 => h9) hv hd (kk ls H locs hl hP hS)
theorem jr_put {k ci f N idx : Nat} {C : String} {T : u_T} {ty0 : Nat → FieldType} {ty : FieldType} {fs : List Value} {v : Value} (cx : Cx E X cc own Ts nL fr lo) (hd : decode cc pc = .ok (.putfield idx, 3)) (hk : k < 8) (ho : mm_ob E g h k = (ci, fs)) (hc : vwCl[ci]? = some (C, T, N)) (hin : ∀ w ∈ u_ws C T N, w ∈ Ts) (hty : ∀ k, k < N → parseFieldDescriptor (T k).2.2.1 = some (ty0 k)) (hnm : ∀ a, a < N → ∀ b, b < N → a ≠ b → (T a).2.1 ≠ (T b).2.1) (hf : f < N) (hlk : Cond.fieldLink own idx (T f).1 (T f).2.1 (T f).2.2.1 ∈ Ts) (hfin : (T f).2.2.2 = false) (hd2 : parseFieldDescriptor (T f).2.2.1 = some ty) (hn : narrow ty v = v) (hfit : fits ty v = true) (hlf : f < fs.length) (hnew : mm_ob E g' h' k = (ci, fs.set f v)) (hold : ∀ i, i < 8 → i ≠ k → mm_ob E g' h' i = mm_ob E g h i) (hga : ∀ i, 8 ≤ i → g' i = g i) (kk : JJ E X g' h' (pc + 3) L st) : JJ E X g h pc L (v :: .ref (E.1 k) :: st) := by
  obtain ⟨p, e, R, s, m, args, below, meth, c, cells, slots, Q, A⟩ := X
  obtain ⟨hx, hb, hml, hown, hts, hK, hA, hfr, hlo, -, hs⟩ := cx
  intro ls H locs hl hP hS
  refine va_put hx hb hts hin ty0 hty hnm hown hK.2.1 hP (mm_D hK.1 hA g h) hS k (mm_at_o E g h hk ho) hc f hf (hts _ hlk) (fun _ h9 => h9) hfin hd2 hn hfit hlf hd (fun H1 locs1 hP1 _ hS1 => ?_)
  rw [mm_set E g g' h h' (by omega) (by rw [mm_ce_o E g' h' hk, hnew]) (fun i hi hne => by
    by_cases h1 : i < 8
    · rw [mm_ce_o E _ _ h1, mm_ce_o E _ _ h1, hold i h1 hne]
    · unfold mm_ce
      rw [if_neg h1, if_neg h1, hga i (by omega)])] at hP1
  exact kk ls H1 locs1 hl hP1 hS1
theorem jr_mmin {x y : Int32} {idx : Nat} (cx : Cx E X cc own Ts nL fr lo) (hd : decode cc pc = .ok (.invokestatic idx, 3)) (hm : Cond.methodLink own idx Lib.Math.min.name ∈ Ts) (h1 : Cond.static Lib.Math.min.name ∈ Ts) (h2 : Cond.initialized "java/lang/Math" ∈ Ts) (h3 : Cond.code Lib.Math.min.name Lib.Math.min.code 2 (some .int) ∈ Ts) (h4 : 1 ≤ fr) (h5 : (st.map fun v => v.category).sum + 13 ≤ lo) (kk : JJ E X g h (pc + 3) L (.int (if y < x then y else x) :: st)) : JJ E X g h pc L (.int y :: .int x :: st) := by
  obtain ⟨p, e, R, s, m, args, below, meth, c, cells, slots, Q, A⟩ := X
  obtain ⟨hx, hb, hml, hown, hts, hK, hA, hfr, hlo, hc, hs⟩ := cx
  intro ls H locs hl hP hS
  exact va_mmin hx hb hl.1.symm hown (hts _ hm) (hts _ h1) (hts _ h2) (hts _ h3) (by omega) (by omega) hc hs hd (kk ls H locs hl hP hS)
theorem jr_mmax {x y : Int32} {idx : Nat} (cx : Cx E X cc own Ts nL fr lo) (hd : decode cc pc = .ok (.invokestatic idx, 3)) (hm : Cond.methodLink own idx Lib.Math.max.name ∈ Ts) (h1 : Cond.static Lib.Math.max.name ∈ Ts) (h2 : Cond.initialized "java/lang/Math" ∈ Ts) (h3 : Cond.code Lib.Math.max.name Lib.Math.max.code 2 (some .int) ∈ Ts) (h4 : 1 ≤ fr) (h5 : (st.map fun v => v.category).sum + 13 ≤ lo) (kk : JJ E X g h (pc + 3) L (.int (if x < y then y else x) :: st)) : JJ E X g h pc L (.int y :: .int x :: st) := by
  obtain ⟨p, e, R, s, m, args, below, meth, c, cells, slots, Q, A⟩ := X
  obtain ⟨hx, hb, hml, hown, hts, hK, hA, hfr, hlo, hc, hs⟩ := cx
  intro ls H locs hl hP hS
  exact va_mmax hx hb hl.1.symm hown (hts _ hm) (hts _ h1) (hts _ h2) (hts _ h3) (by omega) (by omega) hc hs hd (kk ls H locs hl hP hS)
theorem jr_mabs {x : Int32} {idx : Nat} (cx : Cx E X cc own Ts nL fr lo) (hd : decode cc pc = .ok (.invokestatic idx, 3)) (hm : Cond.methodLink own idx Lib.Math.abs.name ∈ Ts) (h1 : Cond.static Lib.Math.abs.name ∈ Ts) (h2 : Cond.initialized "java/lang/Math" ∈ Ts) (h3 : Cond.code Lib.Math.abs.name Lib.Math.abs.code 1 (some .int) ∈ Ts) (h4 : 1 ≤ fr) (h5 : (st.map fun v => v.category).sum + 13 ≤ lo) (kk : JJ E X g h (pc + 3) L (.int (if 0 ≤ x then x else 0 - x) :: st)) : JJ E X g h pc L (.int x :: st) := by
  obtain ⟨p, e, R, s, m, args, below, meth, c, cells, slots, Q, A⟩ := X
  obtain ⟨hx, hb, hml, hown, hts, hK, hA, hfr, hlo, hc, hs⟩ := cx
  intro ls H locs hl hP hS
  exact va_mabs hx hb hl.1.symm hown (hts _ hm) (hts _ h1) (hts _ h2) (hts _ h3) (by omega) (by omega) hc hs hd (kk ls H locs hl hP hS)
theorem jr_mmin_long {x y : Int64} {idx : Nat} (cx : Cx E X cc own Ts nL fr lo) (hd : decode cc pc = .ok (.invokestatic idx, 3)) (hm : Cond.methodLink own idx Lib.MathLoose.min_long.x ∈ Ts) (h1 : Cond.static Lib.MathLoose.min_long.x ∈ Ts) (h2 : Cond.initialized "java/lang/Math" ∈ Ts) (h3 : Cond.code Lib.MathLoose.min_long.x Lib.MathLoose.min_long.code 4 (some .long) ∈ Ts) (h4 : 1 ≤ fr) (h5 : (st.map fun v => v.category).sum + 15 ≤ lo) (kk : JJ E X g h (pc + 3) L (.long (if y < x then y else x) :: st)) : JJ E X g h pc L (.long y :: .long x :: st) := by
  obtain ⟨p, e, R, s, m, args, below, meth, c, cells, slots, Q, A⟩ := X
  obtain ⟨hx, hb, hml, hown, hts, hK, hA, hfr, hlo, hc, hs⟩ := cx
  intro ls H locs hl hP hS
  exact va_mmin_long hx hb hl.1.symm hown (hts _ hm) (hts _ h1) (hts _ h2) (hts _ h3) (by omega) (by omega) hc hs hd (kk ls H locs hl hP hS)
theorem jr_mabs_long {x : Int64} {idx : Nat} (cx : Cx E X cc own Ts nL fr lo) (hd : decode cc pc = .ok (.invokestatic idx, 3)) (hm : Cond.methodLink own idx Lib.MathLoose.abs_long.x ∈ Ts) (h1 : Cond.static Lib.MathLoose.abs_long.x ∈ Ts) (h2 : Cond.initialized "java/lang/Math" ∈ Ts) (h3 : Cond.code Lib.MathLoose.abs_long.x Lib.MathLoose.abs_long.code 2 (some .long) ∈ Ts) (h4 : 1 ≤ fr) (h5 : (st.map fun v => v.category).sum + 13 ≤ lo) (kk : JJ E X g h (pc + 3) L (.long (if 0 < x then x else -x) :: st)) : JJ E X g h pc L (.long x :: st) := by
  obtain ⟨p, e, R, s, m, args, below, meth, c, cells, slots, Q, A⟩ := X
  obtain ⟨hx, hb, hml, hown, hts, hK, hA, hfr, hlo, hc, hs⟩ := cx
  intro ls H locs hl hP hS
  exact va_mabs_long hx hb hl.1.symm hown (hts _ hm) (hts _ h1) (hts _ h2) (hts _ h3) (by omega) (by omega) hc hs hd (kk ls H locs hl hP hS)
theorem jr_tableOut {dflt lo1 hi : Int} {offs : Array Int} {len tgt : Nat} {x : Int32} (cx : Cx E X cc own Ts nL fr lo) (hd : decode cc pc = .ok (.tableswitch dflt lo1 hi offs, len)) (h9 : x.toInt < lo1 ∨ hi < x.toInt) (ht : (pc : Int) + dflt = (tgt : Int)) (kk : JJ E X g h tgt L st) : JJ E X g h pc L (.int x :: st) := by
  obtain ⟨p, e, R, s, m, args, below, meth, c, cells, slots, Q, A⟩ := X
  obtain ⟨hx, hb, hml, hown, hts, hK, hA, hfr, hlo, hc, hs⟩ := cx
  intro ls H locs hl hP hS
  exact lv_tableOut hx hb hd h9 ht (kk ls H locs hl hP hS)
theorem jr_tableIn {dflt lo1 hi off : Int} {offs : Array Int} {len tgt : Nat} {x : Int32} (cx : Cx E X cc own Ts nL fr lo) (hd : decode cc pc = .ok (.tableswitch dflt lo1 hi offs, len)) (h8 : ¬ x.toInt < lo1) (h9 : ¬ hi < x.toInt) (ho : offs[(x.toInt - lo1).toNat]? = some off) (ht : (pc : Int) + off = (tgt : Int)) (kk : JJ E X g h tgt L st) : JJ E X g h pc L (.int x :: st) := by
  obtain ⟨p, e, R, s, m, args, below, meth, c, cells, slots, Q, A⟩ := X
  obtain ⟨hx, hb, hml, hown, hts, hK, hA, hfr, hlo, hc, hs⟩ := cx
  intro ls H locs hl hP hS
  exact lv_tableIn hx hb hd h8 h9 ho ht (kk ls H locs hl hP hS)
theorem jr_copy {k k2 idx : Nat} {sp dp n : Int32} (cx : Cx E X cc own Ts nL fr lo) (hd : decode cc pc = .ok (.invokestatic idx, 3)) (hm : Cond.methodLink own idx arraycopyName ∈ Ts) (h0 : Cond.native arraycopyName ∈ Ts) (h1 : Cond.static arraycopyName ∈ Ts) (h2 : Cond.initialized "java/lang/System" ∈ Ts) (hk : mm_isI k) (hk2 : mm_isI k2) (a b z : Nat) (ha : sp = nI a) (hb2 : dp = nI b) (hz : n = nI z) (hl1 : a + z ≤ mm_len k) (hl2 : b + z ≤ mm_len k2) (h4 : 1 ≤ fr) (h5 : (st.map fun v => v.category).sum + (nativeFrameWords "java/lang/System" "arraycopy" 5 + 11) ≤ lo) (kk : JJ E X (fun q => if q = k2 then va_cpy (g k) (g k2) a b z else g q) h (pc + 3) L st) : JJ E X g h pc L (.int n :: .int dp :: .ref (E.1 k2) :: .int sp :: .ref (E.1 k) :: st) := by
  obtain ⟨p, e, R, s, m, args, below, meth, c, cells, slots, Q, A⟩ := X
  obtain ⟨hx, hb, hml, hown, hts, hK, hA, hfr, hlo, hc, hs⟩ := cx
  intro ls H locs hl hP hS
  have hk5 : k < 105 := by unfold mm_isI at hk; omega
  have hk6 : k2 < 105 := by unfold mm_isI at hk2; omega
  have hq1 := mm_len_lt k
  have hq2 := mm_len_lt k2
  subst ha hb2 hz
  have e1 : (nI a).toNatClampNeg = a := nI_clamp (by omega)
  have e2 : (nI b).toNatClampNeg = b := nI_clamp (by omega)
  have e3 : (nI z).toNatClampNeg = z := nI_clamp (by omega)
  refine va_copyi (ty := .int) hx hb hl.1.symm hown (hts _ hm) (hts _ h0) (hts _ h1) (hts _ h2) hK.2.1 hP (mm_D hK.1 hA g h) hS k k2 0 0 ((mm_at E g h hk5).trans (by rw [mm_ce_i E g h hk])) ((mm_at E g h hk6).trans (by rw [mm_ce_i E g h hk2])) rfl rfl rfl (nI_pos (by omega)) (nI_pos (by omega)) (nI_pos (by omega)) (by rw [e1, e3]; exact hl1) (by rw [e2, e3]; exact hl2) (fun i hi => rfl) (by omega) (by omega) hd (fun H1 locs1 hP1 _ hS1 => ?_)
  rw [e1, e2, e3, mm_set E g (fun q => if q = k2 then va_cpy (g k) (g k2) a b z else g q) h h hk6 (by rw [mm_ce_i E _ h hk2, if_pos rfl]) (fun i hi hne => ?_)] at hP1
  · exact kk ls H1 locs1 hl hP1 hS1
  · have hob : ∀ i, i < 8 → mm_ob E (fun q => if q = k2 then va_cpy (g k) (g k2) a b z else g q) h i = mm_ob E g h i := fun i hi => by
      have hne : ∀ a, a < 8 → ¬ a = k2 := fun a ha => by unfold mm_isI at hk2; omega
      rcases (show i = 0 ∨ i = 1 ∨ i = 2 ∨ i = 3 ∨ i = 4 ∨ i = 5 ∨ i = 6 ∨ i = 7 by omega) with rfl | rfl | rfl | rfl | rfl | rfl | rfl | rfl <;> simp [mm_ob, hne]
    by_cases h1 : i < 8
    · rw [mm_ce_o E _ h h1, mm_ce_o E _ h h1, hob i h1]
    · unfold mm_ce
      simp only [h1, hne, if_false]
end JH
/-! contracts: from the memory g h the method with the arguments av answers r and leaves the memory g' h' -/
def mm_rm (fr lo : Nat) : Room := { frames := fr, cells := 0, slots := 0, locals := lo }
def mm_Pc (E : mm_E) (av : List Value) (g : mm_I) (h : mm_L) : Array Value → State → Prop := va_Pc av (fun U => mm_Pw E g h U.heap ∧ mm_Kn E U)
def Ci (E : mm_E) (y : MethodName) (ws : List Cond) (fr lo : Nat) (av : List Value) (g : mm_I) (h : mm_L) (r : Int32) (g' : mm_I) (h' : mm_L) : Prop := Met E.2.2.2.2.2 y ws (mm_rm fr lo) (mm_Pc E av g h) (va_Qi (fun x (_ : Unit) => x = r) (fun _ t => mm_Pw E g' h' t.heap) (mm_A E)) 0 0 (mm_A E)
def Cl (E : mm_E) (y : MethodName) (ws : List Cond) (fr lo : Nat) (av : List Value) (g : mm_I) (h : mm_L) (r : Int64) (g' : mm_I) (h' : mm_L) : Prop := Met E.2.2.2.2.2 y ws (mm_rm fr lo) (mm_Pc E av g h) (va_Ql (fun x (_ : Unit) => x = r) (fun _ t => mm_Pw E g' h' t.heap) (mm_A E)) 0 0 (mm_A E)
def Cv (E : mm_E) (y : MethodName) (ws : List Cond) (fr lo : Nat) (av : List Value) (g : mm_I) (h : mm_L) (g' : mm_I) (h' : mm_L) : Prop := Met E.2.2.2.2.2 y ws (mm_rm fr lo) (mm_Pc E av g h) (va_Qv (fun (_ : Unit) => True) (fun _ t => mm_Pw E g' h' t.heap) (mm_A E)) 0 0 (mm_A E)
theorem mm_blind (E : mm_E) (av : List Value) (g : mm_I) (h : mm_L) : FrameBlind (mm_Pc E av g h) := fun a U gg mk q => ⟨q.1, q.2.1, mm_Kn.same (u := U) rfl q.2.2⟩
theorem mm_pre {E : mm_E} {av : List Value} {g : mm_I} {h : mm_L} {s : State} {H : Heap} (hP : mm_Pw E g h H) (hK : mm_Kn E s) : ∀ U : State, U.heap = H → s.WarmedH U.vm → mm_Pc E av g h av.toArray U := fun U hU hW => ⟨rfl, by rw [hU]; exact hP, hK.warm hW⟩
section JC
variable {E : mm_E} {X : mm_X} {cc : ByteArray} {own : String} {Ts : List Cond} {nL fr lo pc : Nat} {g g' : mm_I} {h h' : mm_L} {L L' : List (Nat × Value)} {st st0 st' : List Value} {y : MethodName} {ws ws' : List Cond} {f2 l2 maxL idx : Nat} {ret : Option FieldType} {bytes : ByteArray}
theorem jr_si {r : Int32} (av : List Value) (n : Nat) (cx : Cx E X cc own Ts nL fr lo) (hd : decode cc pc = .ok (.invokestatic idx, 3)) (hM : Ci E y ws f2 l2 av g h r g' h') (hG : GoodIn Ts (va_wsS own idx y ws)) (hw : ws = Cond.code y bytes maxL ret :: ws') (hy : y.cls ≠ "java/lang/invoke/MethodHandle" ∧ y.cls ≠ "java/lang/invoke/VarHandle" ∧ (parseMethodDescriptor y.desc).map (fun d => d.parameters.length) = some n) (hR : f2 + 1 ≤ fr ∧ 8 + (maxL + 11) + l2 ≤ lo) (hn : av.length = n) (hst : st0 = av.reverse ++ st) (hcat : (st.map fun v => v.category).sum ≤ 8) (kk : JJ E X g' h' (pc + 3) L (.int r :: st)) : JJ E X g h pc L st0 := by
  obtain ⟨p, e, R, s, m, args, below, meth, c, cells, slots, Q, A⟩ := X
  obtain ⟨hx, hb, hml, hown, hts, hK, hA, hfr, hlo, hc, hs⟩ := cx
  intro ls H locs hl hP hS
  refine va_calli (va_runS (As := av) (rest := st) ⟨hx, hb, hml, hown, hts⟩ hM (va_cwS n hts hG hw rfl rfl hy ⟨Nat.le_trans hR.1 hfr, Nat.le_trans hR.2 hlo⟩) ⟨mm_blind E av g h, mm_pre hP hK⟩ rfl hn (by rw [← hml]; exact hl.1) hst (lv_room hcat) hd ⟨hc, hs⟩) hS (fun q _ hq => by obtain ⟨k, hk, rfl⟩ := hq; exact hA k hk) (fun q hq => by obtain ⟨k, hk, rfl⟩ := hq; exact hA k hk) (fun x u t H1 locs1 ht hvm hw hB hz1 hk1 hS1 => ?_)
  cases hw
  rw [ht] at hB
  exact kk ls H1 locs1 hl hB hS1
theorem jr_vi {r : Int32} {k ci N : Nat} {C : String} {T : u_T} {fs : List Value} (av : List Value) (n : Nat) (cx : Cx E X cc own Ts nL fr lo) (hd : decode cc pc = .ok (.invokevirtual idx, 3)) (hM : Ci E y ws f2 l2 (.ref (E.1 k) :: av) g h r g' h') (hk : k < 8) (ho : mm_ob E g h k = (ci, fs)) (hcl : vwCl[ci]? = some (C, T, N)) (hG : GoodIn Ts (wsV own idx C y ws)) (hw : ws = Cond.code y bytes maxL ret :: ws') (hy : y.cls = C ∧ y.cls ≠ "java/lang/invoke/MethodHandle" ∧ y.cls ≠ "java/lang/invoke/VarHandle" ∧ (parseMethodDescriptor y.desc).map (fun d => d.parameters.length) = some n) (hR : f2 + 1 ≤ fr ∧ 8 + (maxL + 11) + l2 ≤ lo) (hn : av.length = n) (hst : st0 = av.reverse ++ .ref (E.1 k) :: st) (hcat : (st.map fun v => v.category).sum ≤ 8) (kk : JJ E X g' h' (pc + 3) L (.int r :: st)) : JJ E X g h pc L st0 := by
  obtain ⟨p, e, R, s, m, args, below, meth, c, cells, slots, Q, A⟩ := X
  obtain ⟨hx, hb, hml, hown, hts, hK, hA, hfr, hlo, hc, hs⟩ := cx
  intro ls H locs hl hP hS
  refine va_calli (va_runV (As := av) (rest := st) ⟨hx, hb, hml, hown, hts⟩ hM (cwV n hts hG hw rfl rfl hy ⟨Nat.le_trans hR.1 hfr, Nat.le_trans hR.2 hlo⟩) ⟨mm_blind E _ g h, va_recv hK.2.1 hP hcl (mm_at_o E g h hk ho), mm_pre hP hK⟩ rfl hn (by rw [← hml]; exact hl.1) hst (lv_room hcat) hd ⟨hc, hs⟩) hS (fun q _ hq => by obtain ⟨k, hk, rfl⟩ := hq; exact hA k hk) (fun q hq => by obtain ⟨k, hk, rfl⟩ := hq; exact hA k hk) (fun x u t H1 locs1 ht hvm hw hB hz1 hk1 hS1 => ?_)
  cases hw
  rw [ht] at hB
  exact kk ls H1 locs1 hl hB hS1
theorem jr_ni {r : Int32} {host : String} (av : List Value) (n : Nat) (cx : Cx E X cc own Ts nL fr lo) (hd : decode cc pc = .ok (.invokestatic idx, 3)) (hM : Ci E y ws f2 l2 av g h r g' h') (hG : GoodIn Ts ws) (hw : ws = Cond.code y bytes maxL ret :: ws') (hlk : ∀ U, mm_Nst U → va_Nw (.methodLinkNest own idx y host) U) (hini : Cond.initialized y.cls ∈ Ts) (hsta : Cond.static y ∈ Ts) (hy : y.cls ≠ "java/lang/invoke/MethodHandle" ∧ y.cls ≠ "java/lang/invoke/VarHandle" ∧ (parseMethodDescriptor y.desc).map (fun d => d.parameters.length) = some n) (hR : f2 + 1 ≤ fr ∧ 8 + (maxL + 11) + l2 ≤ lo) (hn : av.length = n) (hst : st0 = av.reverse ++ st) (hcat : (st.map fun v => v.category).sum ≤ 8) (kk : JJ E X g' h' (pc + 3) L (.int r :: st)) : JJ E X g h pc L st0 := by
  obtain ⟨p, e, R, s, m, args, below, meth, c, cells, slots, Q, A⟩ := X
  obtain ⟨hx, hb, hml, hown, hts, hK, hA, hfr, hlo, hc, hs⟩ := cx
  intro ls H locs hl hP hS
  refine va_calli (va_runSN (As := av) (rest := st) ⟨hx, hb, hml, hown, hts⟩ hM ⟨va_cnB n hts hG hw rfl rfl (hlk s hK.2.2) (hts _ hini) hy ⟨Nat.le_trans hR.1 hfr, Nat.le_trans hR.2 hlo⟩, hts _ hsta, trivial⟩ ⟨mm_blind E av g h, mm_pre hP hK⟩ rfl hn (by rw [← hml]; exact hl.1) hst (lv_room hcat) hd ⟨hc, hs⟩) hS (fun q _ hq => by obtain ⟨k, hk, rfl⟩ := hq; exact hA k hk) (fun q hq => by obtain ⟨k, hk, rfl⟩ := hq; exact hA k hk) (fun x u t H1 locs1 ht hvm hw hB hz1 hk1 hS1 => ?_)
  cases hw
  rw [ht] at hB
  exact kk ls H1 locs1 hl hB hS1
theorem jr_sl {r : Int64} (av : List Value) (n : Nat) (cx : Cx E X cc own Ts nL fr lo) (hd : decode cc pc = .ok (.invokestatic idx, 3)) (hM : Cl E y ws f2 l2 av g h r g' h') (hG : GoodIn Ts (va_wsS own idx y ws)) (hw : ws = Cond.code y bytes maxL ret :: ws') (hy : y.cls ≠ "java/lang/invoke/MethodHandle" ∧ y.cls ≠ "java/lang/invoke/VarHandle" ∧ (parseMethodDescriptor y.desc).map (fun d => d.parameters.length) = some n) (hR : f2 + 1 ≤ fr ∧ 8 + (maxL + 11) + l2 ≤ lo) (hn : av.length = n) (hst : st0 = av.reverse ++ st) (hcat : (st.map fun v => v.category).sum ≤ 8) (kk : JJ E X g' h' (pc + 3) L (.long r :: st)) : JJ E X g h pc L st0 := by
  obtain ⟨p, e, R, s, m, args, below, meth, c, cells, slots, Q, A⟩ := X
  obtain ⟨hx, hb, hml, hown, hts, hK, hA, hfr, hlo, hc, hs⟩ := cx
  intro ls H locs hl hP hS
  refine va_calll (va_runS (As := av) (rest := st) ⟨hx, hb, hml, hown, hts⟩ hM (va_cwS n hts hG hw rfl rfl hy ⟨Nat.le_trans hR.1 hfr, Nat.le_trans hR.2 hlo⟩) ⟨mm_blind E av g h, mm_pre hP hK⟩ rfl hn (by rw [← hml]; exact hl.1) hst (lv_room hcat) hd ⟨hc, hs⟩) hS (fun q _ hq => by obtain ⟨k, hk, rfl⟩ := hq; exact hA k hk) (fun q hq => by obtain ⟨k, hk, rfl⟩ := hq; exact hA k hk) (fun x u t H1 locs1 ht hvm hw hB hz1 hk1 hS1 => ?_)
  cases hw
  rw [ht] at hB
  exact kk ls H1 locs1 hl hB hS1
theorem jr_vl {r : Int64} {k ci N : Nat} {C : String} {T : u_T} {fs : List Value} (av : List Value) (n : Nat) (cx : Cx E X cc own Ts nL fr lo) (hd : decode cc pc = .ok (.invokevirtual idx, 3)) (hM : Cl E y ws f2 l2 (.ref (E.1 k) :: av) g h r g' h') (hk : k < 8) (ho : mm_ob E g h k = (ci, fs)) (hcl : vwCl[ci]? = some (C, T, N)) (hG : GoodIn Ts (wsV own idx C y ws)) (hw : ws = Cond.code y bytes maxL ret :: ws') (hy : y.cls = C ∧ y.cls ≠ "java/lang/invoke/MethodHandle" ∧ y.cls ≠ "java/lang/invoke/VarHandle" ∧ (parseMethodDescriptor y.desc).map (fun d => d.parameters.length) = some n) (hR : f2 + 1 ≤ fr ∧ 8 + (maxL + 11) + l2 ≤ lo) (hn : av.length = n) (hst : st0 = av.reverse ++ .ref (E.1 k) :: st) (hcat : (st.map fun v => v.category).sum ≤ 8) (kk : JJ E X g' h' (pc + 3) L (.long r :: st)) : JJ E X g h pc L st0 := by
  obtain ⟨p, e, R, s, m, args, below, meth, c, cells, slots, Q, A⟩ := X
  obtain ⟨hx, hb, hml, hown, hts, hK, hA, hfr, hlo, hc, hs⟩ := cx
  intro ls H locs hl hP hS
  refine va_calll (va_runV (As := av) (rest := st) ⟨hx, hb, hml, hown, hts⟩ hM (cwV n hts hG hw rfl rfl hy ⟨Nat.le_trans hR.1 hfr, Nat.le_trans hR.2 hlo⟩) ⟨mm_blind E _ g h, va_recv hK.2.1 hP hcl (mm_at_o E g h hk ho), mm_pre hP hK⟩ rfl hn (by rw [← hml]; exact hl.1) hst (lv_room hcat) hd ⟨hc, hs⟩) hS (fun q _ hq => by obtain ⟨k, hk, rfl⟩ := hq; exact hA k hk) (fun q hq => by obtain ⟨k, hk, rfl⟩ := hq; exact hA k hk) (fun x u t H1 locs1 ht hvm hw hB hz1 hk1 hS1 => ?_)
  cases hw
  rw [ht] at hB
  exact kk ls H1 locs1 hl hB hS1
theorem jr_nl {r : Int64} {host : String} (av : List Value) (n : Nat) (cx : Cx E X cc own Ts nL fr lo) (hd : decode cc pc = .ok (.invokestatic idx, 3)) (hM : Cl E y ws f2 l2 av g h r g' h') (hG : GoodIn Ts ws) (hw : ws = Cond.code y bytes maxL ret :: ws') (hlk : ∀ U, mm_Nst U → va_Nw (.methodLinkNest own idx y host) U) (hini : Cond.initialized y.cls ∈ Ts) (hsta : Cond.static y ∈ Ts) (hy : y.cls ≠ "java/lang/invoke/MethodHandle" ∧ y.cls ≠ "java/lang/invoke/VarHandle" ∧ (parseMethodDescriptor y.desc).map (fun d => d.parameters.length) = some n) (hR : f2 + 1 ≤ fr ∧ 8 + (maxL + 11) + l2 ≤ lo) (hn : av.length = n) (hst : st0 = av.reverse ++ st) (hcat : (st.map fun v => v.category).sum ≤ 8) (kk : JJ E X g' h' (pc + 3) L (.long r :: st)) : JJ E X g h pc L st0 := by
  obtain ⟨p, e, R, s, m, args, below, meth, c, cells, slots, Q, A⟩ := X
  obtain ⟨hx, hb, hml, hown, hts, hK, hA, hfr, hlo, hc, hs⟩ := cx
  intro ls H locs hl hP hS
  refine va_calll (va_runSN (As := av) (rest := st) ⟨hx, hb, hml, hown, hts⟩ hM ⟨va_cnB n hts hG hw rfl rfl (hlk s hK.2.2) (hts _ hini) hy ⟨Nat.le_trans hR.1 hfr, Nat.le_trans hR.2 hlo⟩, hts _ hsta, trivial⟩ ⟨mm_blind E av g h, mm_pre hP hK⟩ rfl hn (by rw [← hml]; exact hl.1) hst (lv_room hcat) hd ⟨hc, hs⟩) hS (fun q _ hq => by obtain ⟨k, hk, rfl⟩ := hq; exact hA k hk) (fun q hq => by obtain ⟨k, hk, rfl⟩ := hq; exact hA k hk) (fun x u t H1 locs1 ht hvm hw hB hz1 hk1 hS1 => ?_)
  cases hw
  rw [ht] at hB
  exact kk ls H1 locs1 hl hB hS1
theorem jr_sv (av : List Value) (n : Nat) (cx : Cx E X cc own Ts nL fr lo) (hd : decode cc pc = .ok (.invokestatic idx, 3)) (hM : Cv E y ws f2 l2 av g h g' h') (hG : GoodIn Ts (va_wsS own idx y ws)) (hw : ws = Cond.code y bytes maxL ret :: ws') (hy : y.cls ≠ "java/lang/invoke/MethodHandle" ∧ y.cls ≠ "java/lang/invoke/VarHandle" ∧ (parseMethodDescriptor y.desc).map (fun d => d.parameters.length) = some n) (hR : f2 + 1 ≤ fr ∧ 8 + (maxL + 11) + l2 ≤ lo) (hn : av.length = n) (hst : st0 = av.reverse ++ st) (hcat : (st.map fun v => v.category).sum ≤ 8) (kk : JJ E X g' h' (pc + 3) L (st)) : JJ E X g h pc L st0 := by
  obtain ⟨p, e, R, s, m, args, below, meth, c, cells, slots, Q, A⟩ := X
  obtain ⟨hx, hb, hml, hown, hts, hK, hA, hfr, hlo, hc, hs⟩ := cx
  intro ls H locs hl hP hS
  refine va_callv (va_runS (As := av) (rest := st) ⟨hx, hb, hml, hown, hts⟩ hM (va_cwS n hts hG hw rfl rfl hy ⟨Nat.le_trans hR.1 hfr, Nat.le_trans hR.2 hlo⟩) ⟨mm_blind E av g h, mm_pre hP hK⟩ rfl hn (by rw [← hml]; exact hl.1) hst (lv_room hcat) hd ⟨hc, hs⟩) hS (fun q _ hq => by obtain ⟨k, hk, rfl⟩ := hq; exact hA k hk) (fun q hq => by obtain ⟨k, hk, rfl⟩ := hq; exact hA k hk) (fun u t H1 locs1 ht hvm hw hB hz1 hk1 hS1 => ?_)
  rw [ht] at hB
  exact kk ls H1 locs1 hl hB hS1
theorem jr_vv {k ci N : Nat} {C : String} {T : u_T} {fs : List Value} (av : List Value) (n : Nat) (cx : Cx E X cc own Ts nL fr lo) (hd : decode cc pc = .ok (.invokevirtual idx, 3)) (hM : Cv E y ws f2 l2 (.ref (E.1 k) :: av) g h g' h') (hk : k < 8) (ho : mm_ob E g h k = (ci, fs)) (hcl : vwCl[ci]? = some (C, T, N)) (hG : GoodIn Ts (wsV own idx C y ws)) (hw : ws = Cond.code y bytes maxL ret :: ws') (hy : y.cls = C ∧ y.cls ≠ "java/lang/invoke/MethodHandle" ∧ y.cls ≠ "java/lang/invoke/VarHandle" ∧ (parseMethodDescriptor y.desc).map (fun d => d.parameters.length) = some n) (hR : f2 + 1 ≤ fr ∧ 8 + (maxL + 11) + l2 ≤ lo) (hn : av.length = n) (hst : st0 = av.reverse ++ .ref (E.1 k) :: st) (hcat : (st.map fun v => v.category).sum ≤ 8) (kk : JJ E X g' h' (pc + 3) L (st)) : JJ E X g h pc L st0 := by
  obtain ⟨p, e, R, s, m, args, below, meth, c, cells, slots, Q, A⟩ := X
  obtain ⟨hx, hb, hml, hown, hts, hK, hA, hfr, hlo, hc, hs⟩ := cx
  intro ls H locs hl hP hS
  refine va_callv (va_runV (As := av) (rest := st) ⟨hx, hb, hml, hown, hts⟩ hM (cwV n hts hG hw rfl rfl hy ⟨Nat.le_trans hR.1 hfr, Nat.le_trans hR.2 hlo⟩) ⟨mm_blind E _ g h, va_recv hK.2.1 hP hcl (mm_at_o E g h hk ho), mm_pre hP hK⟩ rfl hn (by rw [← hml]; exact hl.1) hst (lv_room hcat) hd ⟨hc, hs⟩) hS (fun q _ hq => by obtain ⟨k, hk, rfl⟩ := hq; exact hA k hk) (fun q hq => by obtain ⟨k, hk, rfl⟩ := hq; exact hA k hk) (fun u t H1 locs1 ht hvm hw hB hz1 hk1 hS1 => ?_)
  rw [ht] at hB
  exact kk ls H1 locs1 hl hB hS1
theorem jr_nv {host : String} (av : List Value) (n : Nat) (cx : Cx E X cc own Ts nL fr lo) (hd : decode cc pc = .ok (.invokestatic idx, 3)) (hM : Cv E y ws f2 l2 av g h g' h') (hG : GoodIn Ts ws) (hw : ws = Cond.code y bytes maxL ret :: ws') (hlk : ∀ U, mm_Nst U → va_Nw (.methodLinkNest own idx y host) U) (hini : Cond.initialized y.cls ∈ Ts) (hsta : Cond.static y ∈ Ts) (hy : y.cls ≠ "java/lang/invoke/MethodHandle" ∧ y.cls ≠ "java/lang/invoke/VarHandle" ∧ (parseMethodDescriptor y.desc).map (fun d => d.parameters.length) = some n) (hR : f2 + 1 ≤ fr ∧ 8 + (maxL + 11) + l2 ≤ lo) (hn : av.length = n) (hst : st0 = av.reverse ++ st) (hcat : (st.map fun v => v.category).sum ≤ 8) (kk : JJ E X g' h' (pc + 3) L (st)) : JJ E X g h pc L st0 := by
  obtain ⟨p, e, R, s, m, args, below, meth, c, cells, slots, Q, A⟩ := X
  obtain ⟨hx, hb, hml, hown, hts, hK, hA, hfr, hlo, hc, hs⟩ := cx
  intro ls H locs hl hP hS
  refine va_callv (va_runSN (As := av) (rest := st) ⟨hx, hb, hml, hown, hts⟩ hM ⟨va_cnB n hts hG hw rfl rfl (hlk s hK.2.2) (hts _ hini) hy ⟨Nat.le_trans hR.1 hfr, Nat.le_trans hR.2 hlo⟩, hts _ hsta, trivial⟩ ⟨mm_blind E av g h, mm_pre hP hK⟩ rfl hn (by rw [← hml]; exact hl.1) hst (lv_room hcat) hd ⟨hc, hs⟩) hS (fun q _ hq => by obtain ⟨k, hk, rfl⟩ := hq; exact hA k hk) (fun q hq => by obtain ⟨k, hk, rfl⟩ := hq; exact hA k hk) (fun u t H1 locs1 ht hvm hw hB hz1 hk1 hS1 => ?_)
  rw [ht] at hB
  exact kk ls H1 locs1 hl hB hS1
end JC
section JI
variable {E : mm_E} {y : MethodName} {ws ws' : List Cond} {fr lo maxL : Nat} {av : List Value} {g g' : mm_I} {h h' : mm_L} {bytes : ByteArray}
theorem ci_i {r : Int32} (hy : plainName y.cls = true) (hw : ws = Cond.code y bytes maxL (some .int) :: ws') (hl0 : (lg_sl av).length ≤ maxL) (body : ∀ X, Cx E X bytes y.cls ws maxL fr lo → (∀ (pc : Nat) (L : List (Nat × Value)), decode bytes pc = .ok (.ireturn, 1) → JJ E X g' h' pc L [.int r]) → JJ E X g h 0 (lv_args 0 av) []) : Ci E y ws fr lo av g h r g' h' := by
  refine Met.ofW (cc := bytes) (maxL := maxL) (ret := (some .int)) hy hw ?_
  intro p e s m args below meth c s₁ B hml hv
  obtain ⟨rfl, hP, hK⟩ := hv
  have hts := atoms_spec (ws := ws) B.pre
  have hown : s.vm.findClass y.cls = some m.cls := findClass_of_methodNamed B.named
  have hlocks := B.notSynchronized
  have hl := lv_entry av (n := maxL) hl0
  have hS : va_S (mm_A E) s.heap s.heap [] := va_S.rf
  rw [lg_entry_eq]
  generalize (lg_sl av ++ List.replicate (maxL - (lg_sl av).length) Slot.unset).toArray = ls at hl ⊢
  refine body (p, e, (headSpec ws (mm_rm fr lo)).room, s, m, av.toArray, below, meth, c, 0, 0, MQ below (va_Qi (fun x (_ : Unit) => x = r) (fun _ t => mm_Pw E g' h' t.heap) (mm_A E)) av.toArray s 0 0 (mm_A E), mm_A E) ⟨B.exec, B.bytes, hml, hown, hts, hK, fun k hk => ⟨k, hk, rfl⟩, Nat.le_refl _, Nat.le_refl _, Nat.le_refl _, Nat.le_refl _⟩ ?_ ls s.heap [] (by rw [hml]; exact hl) hP hS
  intro pc L hd ls2 H2 locs2 hl2 hP2 hS2
  exact W.iret B.exec B.bytes B.returns (fun t ht hW => ⟨⟨r, (), rfl, rfl, by show mm_Pw _ _ _ t.heap; rw [ht]; exact hP2⟩, hS2.F ht⟩) hS2.2.2 hd hlocks
theorem ci_z {r : Int32} (hy : plainName y.cls = true) (hw : ws = Cond.code y bytes maxL (some .boolean) :: ws') (hl0 : (lg_sl av).length ≤ maxL) (hz : r = 0 ∨ r = 1) (body : ∀ X, Cx E X bytes y.cls ws maxL fr lo → (∀ (pc : Nat) (L : List (Nat × Value)), decode bytes pc = .ok (.ireturn, 1) → JJ E X g' h' pc L [.int r]) → JJ E X g h 0 (lv_args 0 av) []) : Ci E y ws fr lo av g h r g' h' := by
  refine Met.ofW (cc := bytes) (maxL := maxL) (ret := (some .boolean)) hy hw ?_
  intro p e s m args below meth c s₁ B hml hv
  obtain ⟨rfl, hP, hK⟩ := hv
  have hts := atoms_spec (ws := ws) B.pre
  have hown : s.vm.findClass y.cls = some m.cls := findClass_of_methodNamed B.named
  have hlocks := B.notSynchronized
  have hl := lv_entry av (n := maxL) hl0
  have hS : va_S (mm_A E) s.heap s.heap [] := va_S.rf
  rw [lg_entry_eq]
  generalize (lg_sl av ++ List.replicate (maxL - (lg_sl av).length) Slot.unset).toArray = ls at hl ⊢
  refine body (p, e, (headSpec ws (mm_rm fr lo)).room, s, m, av.toArray, below, meth, c, 0, 0, MQ below (va_Qi (fun x (_ : Unit) => x = r) (fun _ t => mm_Pw E g' h' t.heap) (mm_A E)) av.toArray s 0 0 (mm_A E), mm_A E) ⟨B.exec, B.bytes, hml, hown, hts, hK, fun k hk => ⟨k, hk, rfl⟩, Nat.le_refl _, Nat.le_refl _, Nat.le_refl _, Nat.le_refl _⟩ ?_ ls s.heap [] (by rw [hml]; exact hl) hP hS
  intro pc L hd ls2 H2 locs2 hl2 hP2 hS2
  exact W.zret B.exec B.bytes B.returns (by rcases hz with rfl | rfl <;> decide +kernel) (fun t ht hW => ⟨⟨r, (), rfl, rfl, by show mm_Pw _ _ _ t.heap; rw [ht]; exact hP2⟩, hS2.F ht⟩) hS2.2.2 hd hlocks
theorem ci_l {r : Int64} (hy : plainName y.cls = true) (hw : ws = Cond.code y bytes maxL (some .long) :: ws') (hl0 : (lg_sl av).length ≤ maxL) (body : ∀ X, Cx E X bytes y.cls ws maxL fr lo → (∀ (pc : Nat) (L : List (Nat × Value)), decode bytes pc = .ok (.lreturn, 1) → JJ E X g' h' pc L [.long r]) → JJ E X g h 0 (lv_args 0 av) []) : Cl E y ws fr lo av g h r g' h' := by
  refine Met.ofW (cc := bytes) (maxL := maxL) (ret := (some .long)) hy hw ?_
  intro p e s m args below meth c s₁ B hml hv
  obtain ⟨rfl, hP, hK⟩ := hv
  have hts := atoms_spec (ws := ws) B.pre
  have hown : s.vm.findClass y.cls = some m.cls := findClass_of_methodNamed B.named
  have hlocks := B.notSynchronized
  have hl := lv_entry av (n := maxL) hl0
  have hS : va_S (mm_A E) s.heap s.heap [] := va_S.rf
  rw [lg_entry_eq]
  generalize (lg_sl av ++ List.replicate (maxL - (lg_sl av).length) Slot.unset).toArray = ls at hl ⊢
  refine body (p, e, (headSpec ws (mm_rm fr lo)).room, s, m, av.toArray, below, meth, c, 0, 0, MQ below (va_Ql (fun x (_ : Unit) => x = r) (fun _ t => mm_Pw E g' h' t.heap) (mm_A E)) av.toArray s 0 0 (mm_A E), mm_A E) ⟨B.exec, B.bytes, hml, hown, hts, hK, fun k hk => ⟨k, hk, rfl⟩, Nat.le_refl _, Nat.le_refl _, Nat.le_refl _, Nat.le_refl _⟩ ?_ ls s.heap [] (by rw [hml]; exact hl) hP hS
  intro pc L hd ls2 H2 locs2 hl2 hP2 hS2
  exact W.lret B.exec B.bytes B.returns (fun t ht hW => ⟨⟨r, (), rfl, rfl, by show mm_Pw _ _ _ t.heap; rw [ht]; exact hP2⟩, hS2.F ht⟩) hS2.2.2 hd hlocks
theorem ci_v (hy : plainName y.cls = true) (hw : ws = Cond.code y bytes maxL none :: ws') (hl0 : (lg_sl av).length ≤ maxL) (body : ∀ X, Cx E X bytes y.cls ws maxL fr lo → (∀ (pc : Nat) (L : List (Nat × Value)), decode bytes pc = .ok (.return_, 1) → JJ E X g' h' pc L []) → JJ E X g h 0 (lv_args 0 av) []) : Cv E y ws fr lo av g h g' h' := by
  refine Met.ofW (cc := bytes) (maxL := maxL) (ret := none) hy hw ?_
  intro p e s m args below meth c s₁ B hml hv
  obtain ⟨rfl, hP, hK⟩ := hv
  have hts := atoms_spec (ws := ws) B.pre
  have hown : s.vm.findClass y.cls = some m.cls := findClass_of_methodNamed B.named
  have hlocks := B.notSynchronized
  have hl := lv_entry av (n := maxL) hl0
  have hS : va_S (mm_A E) s.heap s.heap [] := va_S.rf
  rw [lg_entry_eq]
  generalize (lg_sl av ++ List.replicate (maxL - (lg_sl av).length) Slot.unset).toArray = ls at hl ⊢
  refine body (p, e, (headSpec ws (mm_rm fr lo)).room, s, m, av.toArray, below, meth, c, 0, 0, MQ below (va_Qv (fun (_ : Unit) => True) (fun _ t => mm_Pw E g' h' t.heap) (mm_A E)) av.toArray s 0 0 (mm_A E), mm_A E) ⟨B.exec, B.bytes, hml, hown, hts, hK, fun k hk => ⟨k, hk, rfl⟩, Nat.le_refl _, Nat.le_refl _, Nat.le_refl _, Nat.le_refl _⟩ ?_ ls s.heap [] (by rw [hml]; exact hl) hP hS
  intro pc L hd ls2 H2 locs2 hl2 hP2 hS2
  exact W.vret B.exec B.bytes B.returns (fun t ht hW => ⟨⟨(), rfl, trivial, by show mm_Pw _ _ _ t.heap; rw [ht]; exact hP2⟩, hS2.F ht⟩) hS2.2.2 hd hlocks
end JI
