section
-- ===== PART A: goes FIRST, ahead of the names: the tables' words, and 'selects' of the private methods out of them =====
/-- a private method of a class that the tables say can be made, by its rows of tables_1 -/
def lw_okq (q : MethodName × Nat) : Prop := (q.1.cls ≠ "java/lang/invoke/MethodHandle" ∧ q.1.cls ≠ "java/lang/invoke/VarHandle") ∧ Cond.instantiable q.1.cls q.2 ∈ tables_1 ∧ Cond.privateMethod q.1 ∈ tables_1 ∧ Cond.instanceMethod q.1 ∈ tables_1
theorem lw_p0 : lw_okq (⟨"BathBook", "refuse", "(I)I"⟩, 9) := ⟨⟨by decide +kernel, by decide +kernel⟩, List.mem_of_getElem? (i := 13) (by decide +kernel), List.mem_of_getElem? (i := 155) (by decide +kernel), List.mem_of_getElem? (i := 156) (by decide +kernel)⟩
theorem lw_p1 : lw_okq (⟨"BathBook$Tables", "productWithout", "(III)J"⟩, 3) := ⟨⟨by decide +kernel, by decide +kernel⟩, List.mem_of_getElem? (i := 40) (by decide +kernel), List.mem_of_getElem? (i := 289) (by decide +kernel), List.mem_of_getElem? (i := 290) (by decide +kernel)⟩
theorem lw_p2 : lw_okq (⟨"BathBook$Certificates", "isOverBulb", "(II)Z"⟩, 2) := ⟨⟨by decide +kernel, by decide +kernel⟩, List.mem_of_getElem? (i := 73) (by decide +kernel), List.mem_of_getElem? (i := 362) (by decide +kernel), List.mem_of_getElem? (i := 363) (by decide +kernel)⟩
theorem lw_p3 : lw_okq (⟨"BathBook$Certificates", "restsOnVoid", "(I)Z"⟩, 2) := ⟨⟨by decide +kernel, by decide +kernel⟩, List.mem_of_getElem? (i := 73) (by decide +kernel), List.mem_of_getElem? (i := 430) (by decide +kernel), List.mem_of_getElem? (i := 431) (by decide +kernel)⟩
theorem lw_p4 : lw_okq (⟨"BathBook", "driftRefusal", "(I)I"⟩, 9) := ⟨⟨by decide +kernel, by decide +kernel⟩, List.mem_of_getElem? (i := 13) (by decide +kernel), List.mem_of_getElem? (i := 457) (by decide +kernel), List.mem_of_getElem? (i := 458) (by decide +kernel)⟩
theorem lw_p5 : lw_okq (⟨"BathBook$Certificates", "isOver", "(II)Z"⟩, 2) := ⟨⟨by decide +kernel, by decide +kernel⟩, List.mem_of_getElem? (i := 73) (by decide +kernel), List.mem_of_getElem? (i := 484) (by decide +kernel), List.mem_of_getElem? (i := 485) (by decide +kernel)⟩
theorem lw_p6 : lw_okq (⟨"BathBookModel", "meets", "(I)I"⟩, 30) := ⟨⟨by decide +kernel, by decide +kernel⟩, List.mem_of_getElem? (i := 566) (by decide +kernel), List.mem_of_getElem? (i := 674) (by decide +kernel), List.mem_of_getElem? (i := 675) (by decide +kernel)⟩
theorem lw_p7 : lw_okq (⟨"BathBookModel", "looked", "(I)I"⟩, 30) := ⟨⟨by decide +kernel, by decide +kernel⟩, List.mem_of_getElem? (i := 566) (by decide +kernel), List.mem_of_getElem? (i := 684) (by decide +kernel), List.mem_of_getElem? (i := 685) (by decide +kernel)⟩
theorem lw_p8 : lw_okq (⟨"BathBookModel", "ask", "(JI)I"⟩, 30) := ⟨⟨by decide +kernel, by decide +kernel⟩, List.mem_of_getElem? (i := 566) (by decide +kernel), List.mem_of_getElem? (i := 700) (by decide +kernel), List.mem_of_getElem? (i := 701) (by decide +kernel)⟩
theorem lw_p9 : lw_okq (⟨"BathBookModel", "tell", "(JJI)I"⟩, 30) := ⟨⟨by decide +kernel, by decide +kernel⟩, List.mem_of_getElem? (i := 566) (by decide +kernel), List.mem_of_getElem? (i := 708) (by decide +kernel), List.mem_of_getElem? (i := 709) (by decide +kernel)⟩
theorem lw_p10 : lw_okq (⟨"BathBookModel", "addCurve", "(III)V"⟩, 30) := ⟨⟨by decide +kernel, by decide +kernel⟩, List.mem_of_getElem? (i := 566) (by decide +kernel), List.mem_of_getElem? (i := 736) (by decide +kernel), List.mem_of_getElem? (i := 737) (by decide +kernel)⟩
theorem lw_p11 : lw_okq (⟨"BathBookModel", "add", "(JJ)V"⟩, 30) := ⟨⟨by decide +kernel, by decide +kernel⟩, List.mem_of_getElem? (i := 566) (by decide +kernel), List.mem_of_getElem? (i := 740) (by decide +kernel), List.mem_of_getElem? (i := 741) (by decide +kernel)⟩
theorem lw_p12 : lw_okq (⟨"BathBookModel", "isBulb", "(I)Z"⟩, 30) := ⟨⟨by decide +kernel, by decide +kernel⟩, List.mem_of_getElem? (i := 566) (by decide +kernel), List.mem_of_getElem? (i := 760) (by decide +kernel), List.mem_of_getElem? (i := 761) (by decide +kernel)⟩
theorem lw_p13 : lw_okq (⟨"BathBookModel", "tells", "(II)I"⟩, 30) := ⟨⟨by decide +kernel, by decide +kernel⟩, List.mem_of_getElem? (i := 566) (by decide +kernel), List.mem_of_getElem? (i := 764) (by decide +kernel), List.mem_of_getElem? (i := 765) (by decide +kernel)⟩
theorem lw_p14 : lw_okq (⟨"BathBookModel", "latestOf", "(I)I"⟩, 30) := ⟨⟨by decide +kernel, by decide +kernel⟩, List.mem_of_getElem? (i := 566) (by decide +kernel), List.mem_of_getElem? (i := 768) (by decide +kernel), List.mem_of_getElem? (i := 769) (by decide +kernel)⟩
theorem lw_p15 : lw_okq (⟨"BathBookModel", "lastOf", "(III)I"⟩, 30) := ⟨⟨by decide +kernel, by decide +kernel⟩, List.mem_of_getElem? (i := 566) (by decide +kernel), List.mem_of_getElem? (i := 772) (by decide +kernel), List.mem_of_getElem? (i := 773) (by decide +kernel)⟩
def lw_privs_1 : List (MethodName × Nat) := [(⟨"BathBook", "refuse", "(I)I"⟩, 9), (⟨"BathBook$Tables", "productWithout", "(III)J"⟩, 3), (⟨"BathBook$Certificates", "isOverBulb", "(II)Z"⟩, 2), (⟨"BathBook$Certificates", "restsOnVoid", "(I)Z"⟩, 2), (⟨"BathBook", "driftRefusal", "(I)I"⟩, 9), (⟨"BathBook$Certificates", "isOver", "(II)Z"⟩, 2), (⟨"BathBookModel", "meets", "(I)I"⟩, 30), (⟨"BathBookModel", "looked", "(I)I"⟩, 30), (⟨"BathBookModel", "ask", "(JI)I"⟩, 30), (⟨"BathBookModel", "tell", "(JJI)I"⟩, 30), (⟨"BathBookModel", "addCurve", "(III)V"⟩, 30), (⟨"BathBookModel", "add", "(JJ)V"⟩, 30), (⟨"BathBookModel", "isBulb", "(I)Z"⟩, 30), (⟨"BathBookModel", "tells", "(II)I"⟩, 30), (⟨"BathBookModel", "latestOf", "(I)I"⟩, 30), (⟨"BathBookModel", "lastOf", "(III)I"⟩, 30)]
theorem lw_r1 : ∀ q ∈ lw_privs_1, lw_okq q := List.forall_mem_cons.mpr ⟨lw_p0, List.forall_mem_cons.mpr ⟨lw_p1, List.forall_mem_cons.mpr ⟨lw_p2, List.forall_mem_cons.mpr ⟨lw_p3, List.forall_mem_cons.mpr ⟨lw_p4, List.forall_mem_cons.mpr ⟨lw_p5, List.forall_mem_cons.mpr ⟨lw_p6, List.forall_mem_cons.mpr ⟨lw_p7, List.forall_mem_cons.mpr ⟨lw_p8, List.forall_mem_cons.mpr ⟨lw_p9, List.forall_mem_cons.mpr ⟨lw_p10, List.forall_mem_cons.mpr ⟨lw_p11, List.forall_mem_cons.mpr ⟨lw_p12, List.forall_mem_cons.mpr ⟨lw_p13, List.forall_mem_cons.mpr ⟨lw_p14, List.forall_mem_cons.mpr ⟨lw_p15, fun _ h => absurd h List.not_mem_nil⟩⟩⟩⟩⟩⟩⟩⟩⟩⟩⟩⟩⟩⟩⟩⟩
theorem lw_p16 : lw_okq (⟨"BathBookModel", "is", "(II)Z"⟩, 30) := ⟨⟨by decide +kernel, by decide +kernel⟩, List.mem_of_getElem? (i := 566) (by decide +kernel), List.mem_of_getElem? (i := 780) (by decide +kernel), List.mem_of_getElem? (i := 781) (by decide +kernel)⟩
theorem lw_p17 : lw_okq (⟨"BathBookModel", "restsOn", "(II)Z"⟩, 30) := ⟨⟨by decide +kernel, by decide +kernel⟩, List.mem_of_getElem? (i := 566) (by decide +kernel), List.mem_of_getElem? (i := 784) (by decide +kernel), List.mem_of_getElem? (i := 785) (by decide +kernel)⟩
theorem lw_p18 : lw_okq (⟨"BathBookModel", "isCertificate", "(I)Z"⟩, 30) := ⟨⟨by decide +kernel, by decide +kernel⟩, List.mem_of_getElem? (i := 566) (by decide +kernel), List.mem_of_getElem? (i := 814) (by decide +kernel), List.mem_of_getElem? (i := 815) (by decide +kernel)⟩
theorem lw_p19 : lw_okq (⟨"BathBookModel", "tellsOf", "(II)I"⟩, 30) := ⟨⟨by decide +kernel, by decide +kernel⟩, List.mem_of_getElem? (i := 566) (by decide +kernel), List.mem_of_getElem? (i := 818) (by decide +kernel), List.mem_of_getElem? (i := 819) (by decide +kernel)⟩
theorem lw_p20 : lw_okq (⟨"BathBookModel", "askedTwo", "(I)I"⟩, 30) := ⟨⟨by decide +kernel, by decide +kernel⟩, List.mem_of_getElem? (i := 566) (by decide +kernel), List.mem_of_getElem? (i := 842) (by decide +kernel), List.mem_of_getElem? (i := 843) (by decide +kernel)⟩
theorem lw_p21 : lw_okq (⟨"BathBookModel", "isRing", "(III)Z"⟩, 30) := ⟨⟨by decide +kernel, by decide +kernel⟩, List.mem_of_getElem? (i := 566) (by decide +kernel), List.mem_of_getElem? (i := 866) (by decide +kernel), List.mem_of_getElem? (i := 867) (by decide +kernel)⟩
theorem lw_p22 : lw_okq (⟨"BathBookModel", "over", "(III)I"⟩, 30) := ⟨⟨by decide +kernel, by decide +kernel⟩, List.mem_of_getElem? (i := 566) (by decide +kernel), List.mem_of_getElem? (i := 870) (by decide +kernel), List.mem_of_getElem? (i := 871) (by decide +kernel)⟩
theorem lw_p23 : lw_okq (⟨"BathBookModel", "isClosed", "(III)Z"⟩, 30) := ⟨⟨by decide +kernel, by decide +kernel⟩, List.mem_of_getElem? (i := 566) (by decide +kernel), List.mem_of_getElem? (i := 874) (by decide +kernel), List.mem_of_getElem? (i := 875) (by decide +kernel)⟩
theorem lw_p24 : lw_okq (⟨"BathBookModel", "tellsCount", "(I)I"⟩, 30) := ⟨⟨by decide +kernel, by decide +kernel⟩, List.mem_of_getElem? (i := 566) (by decide +kernel), List.mem_of_getElem? (i := 898) (by decide +kernel), List.mem_of_getElem? (i := 899) (by decide +kernel)⟩
def lw_privs_2 : List (MethodName × Nat) := [(⟨"BathBookModel", "is", "(II)Z"⟩, 30), (⟨"BathBookModel", "restsOn", "(II)Z"⟩, 30), (⟨"BathBookModel", "isCertificate", "(I)Z"⟩, 30), (⟨"BathBookModel", "tellsOf", "(II)I"⟩, 30), (⟨"BathBookModel", "askedTwo", "(I)I"⟩, 30), (⟨"BathBookModel", "isRing", "(III)Z"⟩, 30), (⟨"BathBookModel", "over", "(III)I"⟩, 30), (⟨"BathBookModel", "isClosed", "(III)Z"⟩, 30), (⟨"BathBookModel", "tellsCount", "(I)I"⟩, 30)]
theorem lw_r2 : ∀ q ∈ lw_privs_2, lw_okq q := List.forall_mem_cons.mpr ⟨lw_p16, List.forall_mem_cons.mpr ⟨lw_p17, List.forall_mem_cons.mpr ⟨lw_p18, List.forall_mem_cons.mpr ⟨lw_p19, List.forall_mem_cons.mpr ⟨lw_p20, List.forall_mem_cons.mpr ⟨lw_p21, List.forall_mem_cons.mpr ⟨lw_p22, List.forall_mem_cons.mpr ⟨lw_p23, List.forall_mem_cons.mpr ⟨lw_p24, fun _ h => absurd h List.not_mem_nil⟩⟩⟩⟩⟩⟩⟩⟩⟩
def lw_privs : List (MethodName × Nat) := lw_privs_1 ++ (lw_privs_2)
def lw_tbl : List Cond := k2_sels lw_privs ++ tables_1
theorem lw_privs_ok : ∀ q ∈ lw_privs, lw_okq q := by
  show ∀ q ∈ lw_privs_1 ++ (lw_privs_2), lw_okq q
  exact List.forall_mem_append.mpr ⟨lw_r1, lw_r2⟩
end
section
/-! ===== BEGIN words of one list among another's, by their places ===== -/
theorem goodIn_r {big : List Cond} (ws : List Cond) (ps : List Nat) (hp : ws = ps.filterMap (fun i => big[i]?)) (h : ws.all goodWord = true) : GoodIn big ws := by
  intro w hw
  have h1 := List.all_eq_true.mp h w hw
  rw [hp] at hw
  obtain ⟨i, -, hi⟩ := List.mem_filterMap.mp hw
  have hm : w ∈ big := by first | exact List.mem_of_getElem? hi | exact List.getElem?_mem hi
  exact ⟨hm, good_of_word h1⟩
theorem goodIn_app {big a b : List Cond} (ha : GoodIn big a) (hb : GoodIn big b) : GoodIn big (a ++ b) := fun w h => (List.mem_append.mp h).elim (ha w) (hb w)
theorem goodIn_ca {big a b : List Cond} {c : Cond} (ha : GoodIn big (c :: a)) (hb : GoodIn big b) : GoodIn big (c :: (a ++ b)) := fun w h => (List.mem_cons.mp h).elim (fun e => ha w (List.mem_cons.mpr (Or.inl e))) (fun h => (List.mem_append.mp h).elim (fun h => ha w (List.mem_cons.mpr (Or.inr h))) (hb w))
theorem goodIn_sub {big ws : List Cond} (hm : ∀ w ∈ ws, w ∈ big) (h : ws.all goodWord = true) : GoodIn big ws := fun w hw => ⟨hm w hw, good_of_word (List.all_eq_true.mp h w hw)⟩
/-! ===== END ===== -/

def va_AOA (ty : FieldType) (U : State) : Prop := (Cond.arrayOver (.array ty)).before #[] U = true
theorem va_AOA.use {ty : FieldType} {A : Array Value} {U : State} (h : va_AOA ty U) : (Cond.arrayOver (.array ty)).before A U = true := by
  first | exact va_tabs rfl rfl h | exact h
/-! ===== BEGIN new T[n][m]: the outer array a place, the inner ones among the pooled ===== -/
/-- f, but v at every address of l -/
def vr_up {α : Type} (f : Nat → α) (l : List Nat) (v : α) : Nat → α := fun a => if a ∈ l then v else f a
theorem vr_up_in {α : Type} {f : Nat → α} {l : List Nat} {v : α} {a : Nat} (h : a ∈ l) : vr_up f l v a = v := if_pos h
theorem vr_up_ne {α : Type} {f : Nat → α} {l : List Nat} {v : α} {a : Nat} (h : a ∉ l) : vr_up f l v a = f a := if_neg h
theorem vr_rows {L l : List Nat} {f : Nat → va_E} {e : va_E} (h : ∀ a, a ∈ l → a ∉ L) : va_pl L f ++ l.map (fun a => (a, e)) = va_pl (L ++ l) (vr_up f l e) := by
  unfold va_pl
  rw [List.map_append]
  congr 1
  · apply List.map_congr_left
    intro a ha
    rw [vr_up_ne (fun q => h a q ha)]
  · apply List.map_congr_left
    intro a ha
    rw [vr_up_in ha]
theorem vr_lay {X rows : va_W} {x : Nat × va_E} {pl : va_W} {D : va_G} {cl : List vw_C} {H : Heap} (hP : va_P D cl (((X ++ pl) ++ [x]) ++ rows) H) : va_P D cl ((X ++ [x]) ++ (pl ++ rows)) H := by
  rw [List.append_assoc (X ++ pl)] at hP
  have h := va_P.swap hP
  rw [← List.append_assoc X] at h
  have h2 := va_P.swap h
  rw [List.append_assoc (X ++ [x])] at h2
  exact h2
theorem vr_layD {X rows : va_W} {x : Nat × va_E} {pl : va_W} {A : Nat → Prop} (hD : va_D A (((X ++ pl) ++ [x]) ++ rows)) : va_D A ((X ++ [x]) ++ (pl ++ rows)) := by
  rw [List.append_assoc (X ++ pl)] at hD
  have h := va_D.swap hD
  rw [← List.append_assoc X] at h
  have h2 := va_D.swap h
  rw [List.append_assoc (X ++ [x])] at h2
  exact h2
theorem vr_outer (c : ClassId) (N h0 : Nat) : ∀ i : Nat, Jvm.Free.Multi.outerC c N h0 i = arrV c N (fun j => va_rf (if j < i then some (h0 + 1 + j) else none))
  | 0 => by
    show ({ cls := c, slots := Array.replicate N .null, vm := .none } : Cell) = _
    rw [arrV_new]
    refine congrArg (arrV c N) (funext fun j => ?_)
    simp [va_rf]
  | i + 1 => by
    show (Jvm.Free.Multi.outerC c N h0 i).setSlot i (.ref (h0 + 1 + i)) = _
    rw [vr_outer c N h0 i, arrV_store]
    refine congrArg (arrV c N) (funext fun j => ?_)
    by_cases e : j = i
    · subst e
      simp [updV, va_rf]
    · by_cases h : j < i
      · simp [updV, e, h, Nat.lt_succ_of_lt h]
      · simp [updV, e, h, show ¬ j < i + 1 by omega]
section VGM
variable {p : Program} {l : Launch} {e : Env} {R : Room} {s : State} {m : MethodId} {args : Array Value} {below : List Frame} {meth : Method} {c : Code} {H : Heap} {locs : List Loc} {cells slots : Nat} {Q : State → Prop}
variable {cc : ByteArray} {pc : Nat} {ls : Array Slot} {rest : List Value} {D : va_G} {cl : List vw_C} {A : Nat → Prop} {a : Nat} {tys : List (ClassId × FieldType)} {ws : va_W} {H0 : Heap}
theorem va_mna {X : va_W} {L : List Nat} {f : Nat → va_E} {cc : ByteArray} (hexec : p.tables.exec = Jvm.exec) (hb : c.code = cc) {own : String} {index : Nat} {ty : FieldType} {cy : ClassId} (hown : s.vm.findClass own = some m.cls) (hclink : (Cond.classLink own index ("[" ++ (FieldType.array ty).toString)).before args s = true) (hover : va_AOA ty s) (harr : (Cond.arrayClass ty).before args s = true) (hcy : s.vm.findClass (FieldType.array ty).toString = some cy)
    (hK : va_K D cl tys s) (hP : va_P D cl (X ++ va_pl L f) H) (hD : va_D A (X ++ va_pl L f)) (hS : va_S A H0 H locs) (hA : ∀ q, H0.size ≤ q → A q) {n k : Int32} {N' K' : Nat} {z : vp_A} (hn : ¬ n < 0) (hk : ¬ k < 0) (hN : n.toNatClampNeg = N') (hM : k.toNatClampNeg = K')
    (hb1 : N' * 4 ≤ 536870912) (hb2 : K' * componentBytes ty ≤ 536870912) (hb3 : K' ≤ 536870912) (hdf : fits ty (defaultValue ty) = true) (hdd : (defaultValue ty).isDefault = true) (hcells : cells + (1 + N') ≤ R.cells) (hslots : slots + (N' + N' * K') ≤ R.slots) (hz : ∀ c : ClassId, Jvm.Free.Multi.innerC c K' (defaultValue ty) = vp_cell c z) (hdg : decode cc pc = .ok (.multianewarray index 2, 4))
    (kk : ∀ (q : Nat) (r : Nat → Nat) (cA : ClassId) (H1 : Heap), (∀ i j : Nat, i < N' → j < N' → r i = r j → i = j) → (∀ i : Nat, i < N' → r i ∉ L) → va_K D cl (tys ++ [(cA, .array ty)]) s →
      va_P D cl ((X ++ [(q, .inl (cA, N', .inr (.inr (.inr (.inr (fun i => if i < N' then some (r i) else none))))))]) ++ va_pl (L ++ (List.range N').map r) (vr_up f ((List.range N').map r) (.inl (cy, z)))) H1 → va_D A ((X ++ [(q, .inl (cA, N', .inr (.inr (.inr (.inr (fun i => if i < N' then some (r i) else none))))))]) ++ va_pl (L ++ (List.range N').map r) (vr_up f ((List.range N').map r) (.inl (cy, z)))) → va_S A H0 H1 locs →
      W p l e R s m args below meth c H1 locs (cells + 1 + N') (slots + N' + N' * K') Q (F0 m (pc + 4) ls (.ref q :: rest))) : W p l e R s m args below meth c H locs cells slots Q (F0 m pc ls (.int k :: .int n :: rest)) := by
  subst hN
  subst hM
  intro T hT Xs
  obtain ⟨vm₁, cA, comp, -, fA, fC, hO, -, X', step⟩ := Xs.multianewarray2F hexec hown hclink (va_AOA.use hover) harr (g := F0 m pc ls (.int k :: .int n :: rest)) rfl (by rw [hb]; exact hdg) rfl hn hk hb1 hb2 hb3 hdf hdd hcells hslots
  have ec : some cy = some comp := hcy.symm.trans fC
  cases ec
  generalize hF : Jvm.Free.Multi.fill (T.setVm vm₁) cA cy n.toNatClampNeg k.toNatClampNeg (defaultValue ty) n.toNatClampNeg = F at X' step
  have hTh : (T.setVm vm₁).heap = H := hT
  obtain ⟨f1, f2, -, -⟩ := Jvm.Free.Multi.fill_facts (T.setVm vm₁) cA cy n.toNatClampNeg k.toNatClampNeg (defaultValue ty) n.toNatClampNeg
  rw [hF, hTh] at f1 f2
  have hold : ∀ x : Nat, x < H.size → F.heap[x]? = H[x]? := fun x hx => by
    have := Jvm.Free.Multi.fill_old (T.setVm vm₁) cA cy n.toNatClampNeg k.toNatClampNeg (defaultValue ty) (a := x) (by rw [hTh]; exact hx) n.toNatClampNeg
    rw [hF, hTh] at this
    exact this
  have hrow : ∀ j : Nat, j < n.toNatClampNeg → F.heap[H.size + 1 + j]? = some (vp_cell cy z) := fun j hj => by
    have := Jvm.Free.Multi.fill_inner (T.setVm vm₁) cA cy n.toNatClampNeg k.toNatClampNeg (defaultValue ty) n.toNatClampNeg j hj
    rw [hF, hTh, hz] at this
    exact this
  have hout : Jvm.Free.Multi.outerC cA n.toNatClampNeg H.size n.toNatClampNeg = vp_cell cA (n.toNatClampNeg, .inr (.inr (.inr (.inr (fun i => if i < n.toNatClampNeg then some (H.size + 1 + i) else none))))) := by
    rw [vp_cell_q]
    exact vr_outer cA n.toNatClampNeg H.size n.toNatClampNeg
  rw [hout] at f2
  have hlt : ∀ a, a ∈ L → a < H.size := fun a ha => by
    obtain ⟨k9, hk9⟩ := va_pl_get (X := X) (f := f) ha
    exact (hP k9 _ hk9).lt
  have hnl : ∀ i : Nat, i < n.toNatClampNeg → H.size + 1 + i ∉ L := fun i _ h => by
    have := hlt _ h
    omega
  have hnm : ∀ a, a ∈ (List.range n.toNatClampNeg).map (fun i => H.size + 1 + i) → a ∉ L := fun a ha h => by
    obtain ⟨i, -, rfl⟩ := List.mem_map.mp ha
    have := hlt _ h
    omega
  have hP0 : va_P D cl (X ++ va_pl L f) F.heap := hP.kept (fun k9 x hx => hold x.1 ((hP k9 x hx).lt))
  have hP1 : va_P D cl ((X ++ va_pl L f) ++ [(H.size, .inl (cA, n.toNatClampNeg, .inr (.inr (.inr (.inr (fun i => if i < n.toNatClampNeg then some (H.size + 1 + i) else none))))))]) F.heap := hP0.app (fun k9 x hx => by
    have h0 : k9 < 1 := (List.getElem?_eq_some_iff.mp hx).1
    rw [show k9 = 0 by omega] at hx
    cases hx
    exact f2)
  have hP2 : va_P D cl (((X ++ va_pl L f) ++ [(H.size, .inl (cA, n.toNatClampNeg, .inr (.inr (.inr (.inr (fun i => if i < n.toNatClampNeg then some (H.size + 1 + i) else none))))))]) ++ ((List.range n.toNatClampNeg).map (fun i => H.size + 1 + i)).map (fun a => (a, .inl (cy, z)))) F.heap := hP1.app (fun k9 x hx => by
    obtain ⟨a, ha, rfl⟩ := List.mem_map.mp (List.mem_of_getElem? hx)
    obtain ⟨i, hi, rfl⟩ := List.mem_map.mp ha
    exact hrow i (List.mem_range.mp hi))
  have hD2 : va_D A (((X ++ va_pl L f) ++ [(H.size, .inl (cA, n.toNatClampNeg, .inr (.inr (.inr (.inr (fun i => if i < n.toNatClampNeg then some (H.size + 1 + i) else none))))))]) ++ ((List.range n.toNatClampNeg).map (fun i => H.size + 1 + i)).map (fun a => (a, .inl (cy, z)))) := by
    have hD1 := hD.push (e := .inl (cA, n.toNatClampNeg, .inr (.inr (.inr (.inr (fun i => if i < n.toNatClampNeg then some (H.size + 1 + i) else none)))))) hP rfl (hA _ hS.1)
    generalize hW1 : (X ++ va_pl L f) ++ [(H.size, .inl (cA, n.toNatClampNeg, .inr (.inr (.inr (.inr (fun i => if i < n.toNatClampNeg then some (H.size + 1 + i) else none))))))] = W1 at hD1 hP1 ⊢
    have hle : ∀ (k9 : Nat) (x : Nat × va_E), W1[k9]? = some x → x.1 ≤ H.size := fun k9 x hx => by
      rw [← hW1] at hx
      by_cases hl : k9 < (X ++ va_pl L f).length
      · rw [List.getElem?_append_left hl] at hx
        exact Nat.le_of_lt ((hP k9 x hx).lt)
      · rw [List.getElem?_append_right (by omega)] at hx
        have h0 : k9 - (X ++ va_pl L f).length < 1 := (List.getElem?_eq_some_iff.mp hx).1
        rw [show k9 - (X ++ va_pl L f).length = 0 by omega] at hx
        cases hx
        exact Nat.le_refl _
    have hr : ∀ (k9 : Nat) (x : Nat × va_E), (((List.range n.toNatClampNeg).map (fun i => H.size + 1 + i)).map (fun a => ((a, .inl (cy, z)) : Nat × va_E)))[k9]? = some x → x.1 = H.size + 1 + k9 := fun k9 x hx => by
      rw [List.getElem?_map, List.getElem?_map] at hx
      by_cases h9 : k9 < n.toNatClampNeg
      · rw [List.getElem?_range h9] at hx
        cases hx
        rfl
      · have hn0 : (List.range n.toNatClampNeg)[k9]? = none := List.getElem?_eq_none (by rw [List.length_range]; omega)
        rw [hn0] at hx
        cases hx
    refine ⟨fun i j x y hi hj hxy => ?_, fun k9 x hx => ?_⟩
    · by_cases h1 : i < W1.length <;> by_cases h2 : j < W1.length
      · rw [List.getElem?_append_left h1] at hi
        rw [List.getElem?_append_left h2] at hj
        exact hD1.1 i j x y hi hj hxy
      · rw [List.getElem?_append_left h1] at hi
        rw [List.getElem?_append_right (by omega)] at hj
        have := hle _ _ hi
        have := hr _ _ hj
        omega
      · rw [List.getElem?_append_right (by omega)] at hi
        rw [List.getElem?_append_left h2] at hj
        have := hle _ _ hj
        have := hr _ _ hi
        omega
      · rw [List.getElem?_append_right (by omega)] at hi hj
        have := hr _ _ hi
        have := hr _ _ hj
        omega
    · by_cases h1 : k9 < W1.length
      · rw [List.getElem?_append_left h1] at hx
        exact hD1.2 k9 x hx
      · rw [List.getElem?_append_right (by omega)] at hx
        have := hr _ _ hx
        exact hA _ (by have := hS.1; omega)
  have hAr : ArrOfT s cA (.array ty) := fun N9 z9 => by
    obtain ⟨-, k9, hk9, cm9, hkk9⟩ := (hO 0 0 0).1
    exact ⟨(fun q hq => by cases hq), k9, hk9, cm9, hkk9⟩
  have hK2 : va_K D cl (tys ++ [(cA, .array ty)]) s := ⟨hK.1, fun k9 x hx => by
    by_cases hl : k9 < tys.length
    · rw [List.getElem?_append_left hl] at hx
      exact hK.2 k9 x hx
    · rw [List.getElem?_append_right (by omega)] at hx
      have h0 : k9 - tys.length < 1 := (List.getElem?_eq_some_iff.mp hx).1
      rw [show k9 - tys.length = 0 by omega] at hx
      cases hx
      exact ⟨hAr, fA⟩⟩
  obtain ⟨t, a1, b1⟩ := kk H.size (fun i => H.size + 1 + i) cA F.heap (fun i j _ _ h => by have h9 : H.size + 1 + i = H.size + 1 + j := h; omega) hnl hK2 (by rw [← vr_rows hnm]; exact vr_lay hP2) (by rw [← vr_rows hnm]; exact vr_layD hD2) ⟨by rw [f1]; have := hS.1; omega, fun x h1 h2 => (hold x (Nat.lt_of_lt_of_le h1 hS.1)).trans (hS.2.1 x h1 h2), hS.2.2⟩ F rfl X'
  refine ⟨t, step t ?_, b1⟩
  have e : T.heap.size = H.size := by rw [hT]
  rw [e]
  exact a1
end VGM
/-! ===== END ===== -/

/-! ===== BEGIN printed: names, fields, word lists, decode rows ===== -/
def RX0 : String := "BathBook$Bulbs"
def TX0 : u_T := fun k => match k with
  | 0 => ("BathBook$Bulbs", "kinds", "[I", true)
  | 1 => ("BathBook$Bulbs", "tolerances", "[I", true)
  | _ => ("BathBook$Bulbs", "made", "I", false)
def tyX0 : Nat → FieldType := fun k => match k with
  | 0 => .array .int
  | 1 => .array .int
  | _ => .int
abbrev wsX00 : List Cond := u_ws RX0 TX0 3
theorem nmX0 : ∀ a, a < 3 → ∀ b, b < 3 → a ≠ b → (TX0 a).2.1 ≠ (TX0 b).2.1 := by decide +kernel
theorem tyX0_ok : ∀ k, k < 3 → parseFieldDescriptor (TX0 k).2.2.1 = some (tyX0 k) := by decide +kernel
abbrev cX0_init : ByteArray := prog_2_method_1_code
def yX0_init : MethodName := ⟨RX0, "<init>", "()V"⟩
abbrev cX0_size : ByteArray := prog_2_method_2_code
def yX0_size : MethodName := ⟨RX0, "size", "()I"⟩
abbrev cX0_has : ByteArray := prog_2_method_3_code
def yX0_has : MethodName := ⟨RX0, "has", "(I)Z"⟩
abbrev cX0_add : ByteArray := prog_2_method_4_code
def yX0_add : MethodName := ⟨RX0, "add", "(II)I"⟩
abbrev cX0_kindOf : ByteArray := prog_2_method_5_code
def yX0_kindOf : MethodName := ⟨RX0, "kindOf", "(I)I"⟩
abbrev cX0_toleranceOf : ByteArray := prog_2_method_6_code
def yX0_toleranceOf : MethodName := ⟨RX0, "toleranceOf", "(I)I"⟩
abbrev cX0_isOf : ByteArray := prog_2_method_7_code
def yX0_isOf : MethodName := ⟨RX0, "isOf", "(II)Z"⟩
def RX1 : String := "BathBook$Certificates"
def TX1 : u_T := fun k => match k with
  | 0 => ("BathBook$Certificates", "facts", "[[I", true)
  | _ => ("BathBook$Certificates", "made", "I", false)
def tyX1 : Nat → FieldType := fun k => match k with
  | 0 => .array (.array .int)
  | _ => .int
abbrev wsX10 : List Cond := u_ws RX1 TX1 2
theorem nmX1 : ∀ a, a < 2 → ∀ b, b < 2 → a ≠ b → (TX1 a).2.1 ≠ (TX1 b).2.1 := by decide +kernel
theorem tyX1_ok : ∀ k, k < 2 → parseFieldDescriptor (TX1 k).2.2.1 = some (tyX1 k) := by decide +kernel
abbrev cX1_init : ByteArray := prog_3_method_1_code
def yX1_init : MethodName := ⟨RX1, "<init>", "()V"⟩
abbrev cX1_size : ByteArray := prog_3_method_2_code
def yX1_size : MethodName := ⟨RX1, "size", "()I"⟩
abbrev cX1_has : ByteArray := prog_3_method_3_code
def yX1_has : MethodName := ⟨RX1, "has", "(I)Z"⟩
abbrev cX1_fact : ByteArray := prog_3_method_4_code
def yX1_fact : MethodName := ⟨RX1, "fact", "(II)I"⟩
abbrev cX1_add : ByteArray := prog_3_method_5_code
def yX1_add : MethodName := ⟨RX1, "add", "(IIIIIII)I"⟩
abbrev cX1_lastUntil : ByteArray := prog_3_method_6_code
def yX1_lastUntil : MethodName := ⟨RX1, "lastUntil", "(III)I"⟩
abbrev cX1_latestOf : ByteArray := prog_3_method_7_code
def yX1_latestOf : MethodName := ⟨RX1, "latestOf", "(I)I"⟩
abbrev cX1_countOf : ByteArray := prog_3_method_8_code
def yX1_countOf : MethodName := ⟨RX1, "countOf", "(IIZ)I"⟩
abbrev cX1_rise : ByteArray := prog_3_method_9_code
def yX1_rise : MethodName := ⟨RX1, "rise", "(III)I"⟩
abbrev cX1_makeVoid : ByteArray := prog_3_method_10_code
def yX1_makeVoid : MethodName := ⟨RX1, "makeVoid", "(III)I"⟩
abbrev cX1_restsOnVoid : ByteArray := prog_3_method_11_code
def yX1_restsOnVoid : MethodName := ⟨RX1, "restsOnVoid", "(I)Z"⟩
abbrev cX1_chainLength : ByteArray := prog_3_method_12_code
def yX1_chainLength : MethodName := ⟨RX1, "chainLength", "(I)I"⟩
abbrev cX1_squaredEnds : ByteArray := prog_3_method_13_code
def yX1_squaredEnds : MethodName := ⟨RX1, "squaredEnds", "(I)J"⟩
abbrev cX1_countOver : ByteArray := prog_3_method_14_code
def yX1_countOver : MethodName := ⟨RX1, "countOver", "(I)I"⟩
abbrev cX1_isOver : ByteArray := prog_3_method_15_code
def yX1_isOver : MethodName := ⟨RX1, "isOver", "(II)Z"⟩
abbrev cX1_countOverBulb : ByteArray := prog_3_method_16_code
def yX1_countOverBulb : MethodName := ⟨RX1, "countOverBulb", "(I)I"⟩
abbrev cX1_isOverBulb : ByteArray := prog_3_method_17_code
def yX1_isOverBulb : MethodName := ⟨RX1, "isOverBulb", "(II)Z"⟩
def RX2 : String := "BathBook$Fraction"
def TX2 : u_T := fun k => match k with
  | 0 => ("BathBook$Fraction", "top", "J", false)
  | _ => ("BathBook$Fraction", "bottom", "J", false)
def tyX2 : Nat → FieldType := fun k => match k with
  | 0 => .long
  | _ => .long
abbrev wsX20 : List Cond := u_ws RX2 TX2 2
theorem nmX2 : ∀ a, a < 2 → ∀ b, b < 2 → a ≠ b → (TX2 a).2.1 ≠ (TX2 b).2.1 := by decide +kernel
theorem tyX2_ok : ∀ k, k < 2 → parseFieldDescriptor (TX2 k).2.2.1 = some (tyX2 k) := by decide +kernel
abbrev cX2_init : ByteArray := prog_4_method_1_code
def yX2_init : MethodName := ⟨RX2, "<init>", "()V"⟩
abbrev cX2_tell : ByteArray := prog_4_method_2_code
def yX2_tell : MethodName := ⟨RX2, "tell", "(JJ)V"⟩
def RX3 : String := "BathBook$Round"
def TX3 : u_T := fun k => match k with
  | 0 => ("BathBook$Round", "differences", "[[I", true)
  | _ => ("BathBook$Round", "ends", "[[I", true)
def tyX3 : Nat → FieldType := fun k => match k with
  | 0 => .array (.array .int)
  | _ => .array (.array .int)
abbrev wsX30 : List Cond := u_ws RX3 TX3 2
theorem nmX3 : ∀ a, a < 2 → ∀ b, b < 2 → a ≠ b → (TX3 a).2.1 ≠ (TX3 b).2.1 := by decide +kernel
theorem tyX3_ok : ∀ k, k < 2 → parseFieldDescriptor (TX3 k).2.2.1 = some (tyX3 k) := by decide +kernel
abbrev cX3_init : ByteArray := prog_5_method_1_code
def yX3_init : MethodName := ⟨RX3, "<init>", "()V"⟩
abbrev cX3_put : ByteArray := prog_5_method_2_code
def yX3_put : MethodName := ⟨RX3, "put", "(IIII)V"⟩
abbrev cX3_isKnown : ByteArray := prog_5_method_3_code
def yX3_isKnown : MethodName := ⟨RX3, "isKnown", "(III)Z"⟩
abbrev cX3_gap : ByteArray := prog_5_method_4_code
def yX3_gap : MethodName := ⟨RX3, "gap", "(III)I"⟩
abbrev cX3_isShut : ByteArray := prog_5_method_5_code
def yX3_isShut : MethodName := ⟨RX3, "isShut", "(III)Z"⟩
def RX4 : String := "BathBook$Rows"
def TX4 : u_T := fun k => match k with
  | 0 => ("BathBook$Rows", "readings", "[[I", true)
  | _ => ("BathBook$Rows", "sizes", "[I", true)
def tyX4 : Nat → FieldType := fun k => match k with
  | 0 => .array (.array .int)
  | _ => .array .int
abbrev wsX40 : List Cond := u_ws RX4 TX4 2
theorem nmX4 : ∀ a, a < 2 → ∀ b, b < 2 → a ≠ b → (TX4 a).2.1 ≠ (TX4 b).2.1 := by decide +kernel
theorem tyX4_ok : ∀ k, k < 2 → parseFieldDescriptor (TX4 k).2.2.1 = some (tyX4 k) := by decide +kernel
abbrev cX4_init : ByteArray := prog_6_method_1_code
def yX4_init : MethodName := ⟨RX4, "<init>", "()V"⟩
abbrev cX4_isMissing : ByteArray := prog_6_method_2_code
def yX4_isMissing : MethodName := ⟨RX4, "isMissing", "(I)Z"⟩
abbrev cX4_sizeOf : ByteArray := prog_6_method_3_code
def yX4_sizeOf : MethodName := ⟨RX4, "sizeOf", "(I)I"⟩
abbrev cX4_make : ByteArray := prog_6_method_4_code
def yX4_make : MethodName := ⟨RX4, "make", "(II)V"⟩
abbrev cX4_drop : ByteArray := prog_6_method_5_code
def yX4_drop : MethodName := ⟨RX4, "drop", "(I)V"⟩
abbrev cX4_hasPlaces : ByteArray := prog_6_method_6_code
def yX4_hasPlaces : MethodName := ⟨RX4, "hasPlaces", "(III)Z"⟩
abbrev cX4_readingAt : ByteArray := prog_6_method_7_code
def yX4_readingAt : MethodName := ⟨RX4, "readingAt", "(II)I"⟩
abbrev cX4_put : ByteArray := prog_6_method_8_code
def yX4_put : MethodName := ⟨RX4, "put", "(III)V"⟩
abbrev cX4_carry : ByteArray := prog_6_method_9_code
def yX4_carry : MethodName := ⟨RX4, "carry", "(IIIII)V"⟩
abbrev cX4_heldCount : ByteArray := prog_6_method_10_code
def yX4_heldCount : MethodName := ⟨RX4, "heldCount", "(I)I"⟩
abbrev cX4_heldSum : ByteArray := prog_6_method_11_code
def yX4_heldSum : MethodName := ⟨RX4, "heldSum", "(III)I"⟩
abbrev cX4_mirrorSum : ByteArray := prog_6_method_12_code
def yX4_mirrorSum : MethodName := ⟨RX4, "mirrorSum", "(II)I"⟩
abbrev cX4_longestLevelStart : ByteArray := prog_6_method_13_code
def yX4_longestLevelStart : MethodName := ⟨RX4, "longestLevelStart", "(II)I"⟩
abbrev cX4_levelLength : ByteArray := prog_6_method_14_code
def yX4_levelLength : MethodName := ⟨RX4, "levelLength", "(III)I"⟩
abbrev cX4_presentCount : ByteArray := prog_6_method_15_code
def yX4_presentCount : MethodName := ⟨RX4, "presentCount", "()I"⟩
abbrev cX4_digestOn : ByteArray := prog_6_method_16_code
def yX4_digestOn : MethodName := ⟨RX4, "digestOn", "(JI)J"⟩
def RX5 : String := "BathBook$Tables"
def TX5 : u_T := fun k => match k with
  | 0 => ("BathBook$Tables", "xs", "[[I", true)
  | 1 => ("BathBook$Tables", "ys", "[[I", true)
  | _ => ("BathBook$Tables", "sizes", "[I", true)
def tyX5 : Nat → FieldType := fun k => match k with
  | 0 => .array (.array .int)
  | 1 => .array (.array .int)
  | _ => .array .int
abbrev wsX50 : List Cond := u_ws RX5 TX5 3
theorem nmX5 : ∀ a, a < 3 → ∀ b, b < 3 → a ≠ b → (TX5 a).2.1 ≠ (TX5 b).2.1 := by decide +kernel
theorem tyX5_ok : ∀ k, k < 3 → parseFieldDescriptor (TX5 k).2.2.1 = some (tyX5 k) := by decide +kernel
abbrev cX5_init : ByteArray := prog_7_method_1_code
def yX5_init : MethodName := ⟨RX5, "<init>", "()V"⟩
abbrev cX5_sizeOf : ByteArray := prog_7_method_2_code
def yX5_sizeOf : MethodName := ⟨RX5, "sizeOf", "(I)I"⟩
abbrev cX5_hasX : ByteArray := prog_7_method_3_code
def yX5_hasX : MethodName := ⟨RX5, "hasX", "(II)Z"⟩
abbrev cX5_add : ByteArray := prog_7_method_4_code
def yX5_add : MethodName := ⟨RX5, "add", "(III)I"⟩
abbrev cX5_empty : ByteArray := prog_7_method_5_code
def yX5_empty : MethodName := ⟨RX5, "empty", "(I)I"⟩
abbrev cX5_pointCount : ByteArray := prog_7_method_6_code
def yX5_pointCount : MethodName := ⟨RX5, "pointCount", "()I"⟩
abbrev cX5_commonLower : ByteArray := prog_7_method_7_code
def yX5_commonLower : MethodName := ⟨RX5, "commonLower", "(I)J"⟩
abbrev cX5_worthAt : ByteArray := prog_7_method_8_code
def yX5_worthAt : MethodName := ⟨RX5, "worthAt", "(IIJ)J"⟩
abbrev cX5_productWithout : ByteArray := prog_7_method_9_code
def yX5_productWithout : MethodName := ⟨RX5, "productWithout", "(III)J"⟩
def RX6 : String := "BathBook"
def TX6 : u_T := fun k => match k with
  | 0 => ("BathBook", "rows", "LBathBook$Rows;", true)
  | 1 => ("BathBook", "tables", "LBathBook$Tables;", true)
  | 2 => ("BathBook", "bulbs", "LBathBook$Bulbs;", true)
  | 3 => ("BathBook", "certificates", "LBathBook$Certificates;", true)
  | 4 => ("BathBook", "round", "LBathBook$Round;", true)
  | 5 => ("BathBook", "fraction", "LBathBook$Fraction;", true)
  | 6 => ("BathBook", "findingCounts", "[I", true)
  | 7 => ("BathBook", "lastFinding", "I", false)
  | _ => ("BathBook", "lastAsked", "J", false)
def tyX6 : Nat → FieldType := fun k => match k with
  | 0 => .object "BathBook$Rows"
  | 1 => .object "BathBook$Tables"
  | 2 => .object "BathBook$Bulbs"
  | 3 => .object "BathBook$Certificates"
  | 4 => .object "BathBook$Round"
  | 5 => .object "BathBook$Fraction"
  | 6 => .array .int
  | 7 => .int
  | _ => .long
abbrev wsX60 : List Cond := u_ws RX6 TX6 9
theorem nmX6 : ∀ a, a < 9 → ∀ b, b < 9 → a ≠ b → (TX6 a).2.1 ≠ (TX6 b).2.1 := by decide +kernel
theorem tyX6_ok : ∀ k, k < 9 → parseFieldDescriptor (TX6 k).2.2.1 = some (tyX6 k) := by decide +kernel
abbrev cX6_init : ByteArray := prog_1_method_1_code
def yX6_init : MethodName := ⟨RX6, "<init>", "()V"⟩
abbrev cX6_row : ByteArray := prog_1_method_2_code
def yX6_row : MethodName := ⟨RX6, "row", "(II)I"⟩
abbrev cX6_lay : ByteArray := prog_1_method_3_code
def yX6_lay : MethodName := ⟨RX6, "lay", "(III)I"⟩
abbrev cX6_tear : ByteArray := prog_1_method_4_code
def yX6_tear : MethodName := ⟨RX6, "tear", "(I)I"⟩
abbrev cX6_copy : ByteArray := prog_1_method_5_code
def yX6_copy : MethodName := ⟨RX6, "copy", "(IIIII)I"⟩
abbrev cX6_mean : ByteArray := prog_1_method_6_code
def yX6_mean : MethodName := ⟨RX6, "mean", "(I)I"⟩
abbrev cX6_plateau : ByteArray := prog_1_method_7_code
def yX6_plateau : MethodName := ⟨RX6, "plateau", "(III)I"⟩
abbrev cX6_point : ByteArray := prog_1_method_8_code
def yX6_point : MethodName := ⟨RX6, "point", "(III)I"⟩
abbrev cX6_clear : ByteArray := prog_1_method_9_code
def yX6_clear : MethodName := ⟨RX6, "clear", "(I)I"⟩
abbrev cX6_curve : ByteArray := prog_1_method_10_code
def yX6_curve : MethodName := ⟨RX6, "curve", "(II)I"⟩
abbrev cX6_apart : ByteArray := prog_1_method_11_code
def yX6_apart : MethodName := ⟨RX6, "apart", "(IIII)I"⟩
abbrev cX6_bulb : ByteArray := prog_1_method_12_code
def yX6_bulb : MethodName := ⟨RX6, "bulb", "(II)I"⟩
abbrev cX6_told : ByteArray := prog_1_method_13_code
def yX6_told : MethodName := ⟨RX6, "told", "(II)I"⟩
abbrev cX6_mark : ByteArray := prog_1_method_14_code
def yX6_mark : MethodName := ⟨RX6, "mark", "(II)I"⟩
abbrev cX6_stem : ByteArray := prog_1_method_15_code
def yX6_stem : MethodName := ⟨RX6, "stem", "(IIIII)I"⟩
abbrev cX6_currents : ByteArray := prog_1_method_16_code
def yX6_currents : MethodName := ⟨RX6, "currents", "(IIIII)I"⟩
abbrev cX6_compare : ByteArray := prog_1_method_17_code
def yX6_compare : MethodName := ⟨RX6, "compare", "(II)I"⟩
abbrev cX6_certify : ByteArray := prog_1_method_18_code
def yX6_certify : MethodName := ⟨RX6, "certify", "(IIIIII)I"⟩
abbrev cX6_certificate : ByteArray := prog_1_method_19_code
def yX6_certificate : MethodName := ⟨RX6, "certificate", "(II)I"⟩
abbrev cX6_offset : ByteArray := prog_1_method_20_code
def yX6_offset : MethodName := ⟨RX6, "offset", "(I)I"⟩
abbrev cX6_wrong : ByteArray := prog_1_method_21_code
def yX6_wrong : MethodName := ⟨RX6, "wrong", "(III)I"⟩
abbrev cX6_passes : ByteArray := prog_1_method_22_code
def yX6_passes : MethodName := ⟨RX6, "passes", "(I)I"⟩
abbrev cX6_whole : ByteArray := prog_1_method_23_code
def yX6_whole : MethodName := ⟨RX6, "whole", "(I)I"⟩
abbrev cX6_drift : ByteArray := prog_1_method_24_code
def yX6_drift : MethodName := ⟨RX6, "drift", "(I)I"⟩
abbrev cX6_due : ByteArray := prog_1_method_25_code
def yX6_due : MethodName := ⟨RX6, "due", "(I)I"⟩
abbrev cX6_resting : ByteArray := prog_1_method_26_code
def yX6_resting : MethodName := ⟨RX6, "resting", "(I)I"⟩
abbrev cX6_lab : ByteArray := prog_1_method_27_code
def yX6_lab : MethodName := ⟨RX6, "lab", "(IIII)I"⟩
abbrev cX6_closes : ByteArray := prog_1_method_28_code
def yX6_closes : MethodName := ⟨RX6, "closes", "(III)I"⟩
abbrev cX6_open : ByteArray := prog_1_method_29_code
def yX6_open : MethodName := ⟨RX6, "open", "()I"⟩
abbrev cX6_asked : ByteArray := prog_1_method_30_code
def yX6_asked : MethodName := ⟨RX6, "asked", "()J"⟩
abbrev cX6_upper : ByteArray := prog_1_method_31_code
def yX6_upper : MethodName := ⟨RX6, "upper", "()J"⟩
abbrev cX6_lower : ByteArray := prog_1_method_32_code
def yX6_lower : MethodName := ⟨RX6, "lower", "()J"⟩
abbrev cX6_count : ByteArray := prog_1_method_33_code
def yX6_count : MethodName := ⟨RX6, "count", "(I)I"⟩
abbrev cX6_finding : ByteArray := prog_1_method_34_code
def yX6_finding : MethodName := ⟨RX6, "finding", "()I"⟩
abbrev cX6_findings : ByteArray := prog_1_method_35_code
def yX6_findings : MethodName := ⟨RX6, "findings", "(I)I"⟩
abbrev cX6_digest : ByteArray := prog_1_method_36_code
def yX6_digest : MethodName := ⟨RX6, "digest", "()J"⟩
abbrev cX6_refuse : ByteArray := prog_1_method_37_code
def yX6_refuse : MethodName := ⟨RX6, "refuse", "(I)I"⟩
abbrev cX6_driftRefusal : ByteArray := prog_1_method_38_code
def yX6_driftRefusal : MethodName := ⟨RX6, "driftRefusal", "(I)I"⟩
abbrev cX6_daysWithin : ByteArray := prog_1_method_39_code
def yX6_daysWithin : MethodName := ⟨RX6, "daysWithin", "(JJJJ)J"⟩
abbrev cX6_isBetween : ByteArray := prog_1_method_40_code
def yX6_isBetween : MethodName := ⟨RX6, "isBetween", "(III)Z"⟩
abbrev cX6_isWithin : ByteArray := prog_1_method_41_code
def yX6_isWithin : MethodName := ⟨RX6, "isWithin", "(II)Z"⟩
abbrev cX6_isRow : ByteArray := prog_1_method_42_code
def yX6_isRow : MethodName := ⟨RX6, "isRow", "(I)Z"⟩
abbrev cX6_isTable : ByteArray := prog_1_method_43_code
def yX6_isTable : MethodName := ⟨RX6, "isTable", "(I)Z"⟩
abbrev cX6_isBath : ByteArray := prog_1_method_44_code
def yX6_isBath : MethodName := ⟨RX6, "isBath", "(I)Z"⟩
abbrev cX6_isDay : ByteArray := prog_1_method_45_code
def yX6_isDay : MethodName := ⟨RX6, "isDay", "(I)Z"⟩
abbrev cX6_isLab : ByteArray := prog_1_method_46_code
def yX6_isLab : MethodName := ⟨RX6, "isLab", "(I)Z"⟩
abbrev cX6_greatestDivisor : ByteArray := prog_1_method_47_code
def yX6_greatestDivisor : MethodName := ⟨RX6, "greatestDivisor", "(JJ)J"⟩
abbrev cX6_leastMultiple : ByteArray := prog_1_method_48_code
def yX6_leastMultiple : MethodName := ⟨RX6, "leastMultiple", "(JJ)J"⟩
def RX7 : String := "BathBookModel"
def TX7 : u_T := fun k => match k with
  | 0 => ("BathBookModel", "finding", "I", false)
  | 1 => ("BathBookModel", "findings", "[I", true)
  | 2 => ("BathBookModel", "asked", "J", false)
  | 3 => ("BathBookModel", "upper", "J", false)
  | 4 => ("BathBookModel", "lower", "J", false)
  | 5 => ("BathBookModel", "sizes", "[I", true)
  | 6 => ("BathBookModel", "rows", "[I", true)
  | 7 => ("BathBookModel", "moving", "[I", true)
  | 8 => ("BathBookModel", "points", "[I", true)
  | 9 => ("BathBookModel", "xs", "[I", true)
  | 10 => ("BathBookModel", "ys", "[I", true)
  | 11 => ("BathBookModel", "sumUp", "J", false)
  | 12 => ("BathBookModel", "sumLow", "J", false)
  | 13 => ("BathBookModel", "bulbs", "I", false)
  | 14 => ("BathBookModel", "kinds", "[I", true)
  | 15 => ("BathBookModel", "tolerances", "[I", true)
  | 16 => ("BathBookModel", "certificates", "I", false)
  | 17 => ("BathBookModel", "ofBulb", "[I", true)
  | 18 => ("BathBookModel", "byBulb", "[I", true)
  | 19 => ("BathBookModel", "inBath", "[I", true)
  | 20 => ("BathBookModel", "onDay", "[I", true)
  | 21 => ("BathBookModel", "offsets", "[I", true)
  | 22 => ("BathBookModel", "ends", "[I", true)
  | 23 => ("BathBookModel", "rest", "[I", true)
  | 24 => ("BathBookModel", "isVoid", "[Z", true)
  | 25 => ("BathBookModel", "last", "I", false)
  | 26 => ("BathBookModel", "ahead", "I", false)
  | 27 => ("BathBookModel", "isTold", "[Z", true)
  | 28 => ("BathBookModel", "differences", "[I", true)
  | _ => ("BathBookModel", "labEnds", "[I", true)
def tyX7 : Nat → FieldType := fun k => match k with
  | 0 => .int
  | 1 => .array .int
  | 2 => .long
  | 3 => .long
  | 4 => .long
  | 5 => .array .int
  | 6 => .array .int
  | 7 => .array .int
  | 8 => .array .int
  | 9 => .array .int
  | 10 => .array .int
  | 11 => .long
  | 12 => .long
  | 13 => .int
  | 14 => .array .int
  | 15 => .array .int
  | 16 => .int
  | 17 => .array .int
  | 18 => .array .int
  | 19 => .array .int
  | 20 => .array .int
  | 21 => .array .int
  | 22 => .array .int
  | 23 => .array .int
  | 24 => .array .boolean
  | 25 => .int
  | 26 => .int
  | 27 => .array .boolean
  | 28 => .array .int
  | _ => .array .int
abbrev wsX70 : List Cond := u_ws RX7 TX7 30
theorem nmX7 : ∀ a, a < 30 → ∀ b, b < 30 → a ≠ b → (TX7 a).2.1 ≠ (TX7 b).2.1 := by decide +kernel
theorem tyX7_ok : ∀ k, k < 30 → parseFieldDescriptor (TX7 k).2.2.1 = some (tyX7 k) := by decide +kernel
abbrev cX7_init : ByteArray := prog_9_method_1_code
def yX7_init : MethodName := ⟨RX7, "<init>", "()V"⟩
abbrev cX7_in : ByteArray := prog_9_method_3_code
def yX7_in : MethodName := ⟨RX7, "in", "(III)Z"⟩
abbrev cX7_meets : ByteArray := prog_9_method_4_code
def yX7_meets : MethodName := ⟨RX7, "meets", "(I)I"⟩
abbrev cX7_size : ByteArray := prog_9_method_5_code
def yX7_size : MethodName := ⟨RX7, "size", "(J)J"⟩
abbrev cX7_divisor : ByteArray := prog_9_method_6_code
def yX7_divisor : MethodName := ⟨RX7, "divisor", "(JJ)J"⟩
abbrev cX7_tell : ByteArray := prog_9_method_7_code
def yX7_tell : MethodName := ⟨RX7, "tell", "(JJI)I"⟩
abbrev cX7_ask : ByteArray := prog_9_method_8_code
def yX7_ask : MethodName := ⟨RX7, "ask", "(JI)I"⟩
abbrev cX7_isRow : ByteArray := prog_9_method_9_code
def yX7_isRow : MethodName := ⟨RX7, "isRow", "(I)Z"⟩
abbrev cX7_looked : ByteArray := prog_9_method_10_code
def yX7_looked : MethodName := ⟨RX7, "looked", "(I)I"⟩
abbrev cX7_row : ByteArray := prog_9_method_11_code
def yX7_row : MethodName := ⟨RX7, "row", "(II)I"⟩
abbrev cX7_lay : ByteArray := prog_9_method_12_code
def yX7_lay : MethodName := ⟨RX7, "lay", "(III)I"⟩
abbrev cX7_tear : ByteArray := prog_9_method_13_code
def yX7_tear : MethodName := ⟨RX7, "tear", "(I)I"⟩
abbrev cX7_copy : ByteArray := prog_9_method_14_code
def yX7_copy : MethodName := ⟨RX7, "copy", "(IIIII)I"⟩
abbrev cX7_mean : ByteArray := prog_9_method_15_code
def yX7_mean : MethodName := ⟨RX7, "mean", "(I)I"⟩
abbrev cX7_plateau : ByteArray := prog_9_method_16_code
def yX7_plateau : MethodName := ⟨RX7, "plateau", "(III)I"⟩
abbrev cX7_isTable : ByteArray := prog_9_method_17_code
def yX7_isTable : MethodName := ⟨RX7, "isTable", "(I)Z"⟩
abbrev cX7_isX : ByteArray := prog_9_method_18_code
def yX7_isX : MethodName := ⟨RX7, "isX", "(I)Z"⟩
abbrev cX7_point : ByteArray := prog_9_method_19_code
def yX7_point : MethodName := ⟨RX7, "point", "(III)I"⟩
abbrev cX7_clear : ByteArray := prog_9_method_20_code
def yX7_clear : MethodName := ⟨RX7, "clear", "(I)I"⟩
abbrev cX7_add : ByteArray := prog_9_method_21_code
def yX7_add : MethodName := ⟨RX7, "add", "(JJ)V"⟩
abbrev cX7_addCurve : ByteArray := prog_9_method_22_code
def yX7_addCurve : MethodName := ⟨RX7, "addCurve", "(III)V"⟩
abbrev cX7_curve : ByteArray := prog_9_method_23_code
def yX7_curve : MethodName := ⟨RX7, "curve", "(II)I"⟩
abbrev cX7_isBelow : ByteArray := prog_9_method_24_code
def yX7_isBelow : MethodName := ⟨RX7, "isBelow", "(JJJJ)Z"⟩
abbrev cX7_apart : ByteArray := prog_9_method_25_code
def yX7_apart : MethodName := ⟨RX7, "apart", "(IIII)I"⟩
abbrev cX7_isBulb : ByteArray := prog_9_method_26_code
def yX7_isBulb : MethodName := ⟨RX7, "isBulb", "(I)Z"⟩
abbrev cX7_bulb : ByteArray := prog_9_method_27_code
def yX7_bulb : MethodName := ⟨RX7, "bulb", "(II)I"⟩
abbrev cX7_lastOf : ByteArray := prog_9_method_28_code
def yX7_lastOf : MethodName := ⟨RX7, "lastOf", "(III)I"⟩
abbrev cX7_latestOf : ByteArray := prog_9_method_29_code
def yX7_latestOf : MethodName := ⟨RX7, "latestOf", "(I)I"⟩
abbrev cX7_tells : ByteArray := prog_9_method_30_code
def yX7_tells : MethodName := ⟨RX7, "tells", "(II)I"⟩
abbrev cX7_told : ByteArray := prog_9_method_31_code
def yX7_told : MethodName := ⟨RX7, "told", "(II)I"⟩
abbrev cX7_is : ByteArray := prog_9_method_32_code
def yX7_is : MethodName := ⟨RX7, "is", "(II)Z"⟩
abbrev cX7_restsOn : ByteArray := prog_9_method_33_code
def yX7_restsOn : MethodName := ⟨RX7, "restsOn", "(II)Z"⟩
abbrev cX7_mark : ByteArray := prog_9_method_34_code
def yX7_mark : MethodName := ⟨RX7, "mark", "(II)I"⟩
abbrev cX7_stem : ByteArray := prog_9_method_35_code
def yX7_stem : MethodName := ⟨RX7, "stem", "(IIIII)I"⟩
abbrev cX7_currents : ByteArray := prog_9_method_36_code
def yX7_currents : MethodName := ⟨RX7, "currents", "(IIIII)I"⟩
abbrev cX7_compare : ByteArray := prog_9_method_37_code
def yX7_compare : MethodName := ⟨RX7, "compare", "(II)I"⟩
abbrev cX7_isCertificate : ByteArray := prog_9_method_38_code
def yX7_isCertificate : MethodName := ⟨RX7, "isCertificate", "(I)Z"⟩
abbrev cX7_isDay : ByteArray := prog_9_method_39_code
def yX7_isDay : MethodName := ⟨RX7, "isDay", "(I)Z"⟩
abbrev cX7_certify : ByteArray := prog_9_method_40_code
def yX7_certify : MethodName := ⟨RX7, "certify", "(IIIIII)I"⟩
abbrev cX7_tellsOf : ByteArray := prog_9_method_41_code
def yX7_tellsOf : MethodName := ⟨RX7, "tellsOf", "(II)I"⟩
abbrev cX7_certificate : ByteArray := prog_9_method_42_code
def yX7_certificate : MethodName := ⟨RX7, "certificate", "(II)I"⟩
abbrev cX7_offset : ByteArray := prog_9_method_43_code
def yX7_offset : MethodName := ⟨RX7, "offset", "(I)I"⟩
abbrev cX7_wrong : ByteArray := prog_9_method_44_code
def yX7_wrong : MethodName := ⟨RX7, "wrong", "(III)I"⟩
abbrev cX7_passes : ByteArray := prog_9_method_45_code
def yX7_passes : MethodName := ⟨RX7, "passes", "(I)I"⟩
abbrev cX7_whole : ByteArray := prog_9_method_46_code
def yX7_whole : MethodName := ⟨RX7, "whole", "(I)I"⟩
abbrev cX7_askedTwo : ByteArray := prog_9_method_47_code
def yX7_askedTwo : MethodName := ⟨RX7, "askedTwo", "(I)I"⟩
abbrev cX7_drift : ByteArray := prog_9_method_48_code
def yX7_drift : MethodName := ⟨RX7, "drift", "(I)I"⟩
abbrev cX7_due : ByteArray := prog_9_method_49_code
def yX7_due : MethodName := ⟨RX7, "due", "(I)I"⟩
abbrev cX7_resting : ByteArray := prog_9_method_50_code
def yX7_resting : MethodName := ⟨RX7, "resting", "(I)I"⟩
abbrev cX7_isLab : ByteArray := prog_9_method_51_code
def yX7_isLab : MethodName := ⟨RX7, "isLab", "(I)Z"⟩
abbrev cX7_lab : ByteArray := prog_9_method_52_code
def yX7_lab : MethodName := ⟨RX7, "lab", "(IIII)I"⟩
abbrev cX7_isRing : ByteArray := prog_9_method_53_code
def yX7_isRing : MethodName := ⟨RX7, "isRing", "(III)Z"⟩
abbrev cX7_over : ByteArray := prog_9_method_54_code
def yX7_over : MethodName := ⟨RX7, "over", "(III)I"⟩
abbrev cX7_isClosed : ByteArray := prog_9_method_55_code
def yX7_isClosed : MethodName := ⟨RX7, "isClosed", "(III)Z"⟩
abbrev cX7_closes : ByteArray := prog_9_method_56_code
def yX7_closes : MethodName := ⟨RX7, "closes", "(III)I"⟩
abbrev cX7_open : ByteArray := prog_9_method_57_code
def yX7_open : MethodName := ⟨RX7, "open", "()I"⟩
abbrev cX7_asked : ByteArray := prog_9_method_58_code
def yX7_asked : MethodName := ⟨RX7, "asked", "()J"⟩
abbrev cX7_upper : ByteArray := prog_9_method_59_code
def yX7_upper : MethodName := ⟨RX7, "upper", "()J"⟩
abbrev cX7_lower : ByteArray := prog_9_method_60_code
def yX7_lower : MethodName := ⟨RX7, "lower", "()J"⟩
abbrev cX7_tellsCount : ByteArray := prog_9_method_61_code
def yX7_tellsCount : MethodName := ⟨RX7, "tellsCount", "(I)I"⟩
abbrev cX7_count : ByteArray := prog_9_method_62_code
def yX7_count : MethodName := ⟨RX7, "count", "(I)I"⟩
abbrev cX7_finding : ByteArray := prog_9_method_63_code
def yX7_finding : MethodName := ⟨RX7, "finding", "()I"⟩
abbrev cX7_findings : ByteArray := prog_9_method_64_code
def yX7_findings : MethodName := ⟨RX7, "findings", "(I)I"⟩
abbrev cX7_digest : ByteArray := prog_9_method_65_code
def yX7_digest : MethodName := ⟨RX7, "digest", "()J"⟩
def RJ9 : String := "java/lang/Math"
def TJ9 : u_T := fun k => match k with
  | _ => ("", "", "", false)
def tyJ9 : Nat → FieldType := fun k => match k with
  | _ => .int
abbrev wsJ90 : List Cond := u_ws RJ9 TJ9 0
theorem nmJ9 : ∀ a, a < 0 → ∀ b, b < 0 → a ≠ b → (TJ9 a).2.1 ≠ (TJ9 b).2.1 := by decide +kernel
theorem tyJ9_ok : ∀ k, k < 0 → parseFieldDescriptor (TJ9 k).2.2.1 = some (tyJ9 k) := by decide +kernel
abbrev cJ9_abs_0f7a4 : ByteArray := prog_10_method_59_code
def yJ9_abs_0f7a4 : MethodName := ⟨RJ9, "abs", "(I)I"⟩
abbrev cJ9_abs_067f4 : ByteArray := prog_10_method_61_code
def yJ9_abs_067f4 : MethodName := ⟨RJ9, "abs", "(J)J"⟩
abbrev cJ9_max_7cf53 : ByteArray := prog_10_method_65_code
def yJ9_max_7cf53 : MethodName := ⟨RJ9, "max", "(II)I"⟩
abbrev cJ9_min_7cf53 : ByteArray := prog_10_method_69_code
def yJ9_min_7cf53 : MethodName := ⟨RJ9, "min", "(II)I"⟩
abbrev cJ9_min_f86c9 : ByteArray := prog_10_method_70_code
def yJ9_min_f86c9 : MethodName := ⟨RJ9, "min", "(JJ)J"⟩
def RJ10 : String := "java/lang/System"
def TJ10 : u_T := fun k => match k with
  | _ => ("", "", "", false)
def tyJ10 : Nat → FieldType := fun k => match k with
  | _ => .int
abbrev wsJ100 : List Cond := u_ws RJ10 TJ10 0
theorem nmJ10 : ∀ a, a < 0 → ∀ b, b < 0 → a ≠ b → (TJ10 a).2.1 ≠ (TJ10 b).2.1 := by decide +kernel
theorem tyJ10_ok : ∀ k, k < 0 → parseFieldDescriptor (TJ10 k).2.2.1 = some (tyJ10 k) := by decide +kernel
def RJ7 : String := "java/util/Arrays"
def TJ7 : u_T := fun k => match k with
  | _ => ("", "", "", false)
def tyJ7 : Nat → FieldType := fun k => match k with
  | _ => .int
abbrev wsJ70 : List Cond := u_ws RJ7 TJ7 0
theorem nmJ7 : ∀ a, a < 0 → ∀ b, b < 0 → a ≠ b → (TJ7 a).2.1 ≠ (TJ7 b).2.1 := by decide +kernel
theorem tyJ7_ok : ∀ k, k < 0 → parseFieldDescriptor (TJ7 k).2.2.1 = some (tyJ7 k) := by decide +kernel
abbrev cJ7_fill_53178 : ByteArray := prog_12_method_103_code
def yJ7_fill_53178 : MethodName := ⟨RJ7, "fill", "([II)V"⟩
def RL : String := "BathBookLaw"
abbrev cL_law : ByteArray := code
def yL_law : MethodName := ⟨RL, "law", "([I)Z"⟩
def wsX0_init : List Cond := .code yX0_init cX0_init 1 none :: ([.methodLink RX0 3 objectInit, .instanceMethod objectInit, .code objectInit ⟨#[0xb1]⟩ 1 none, .arrayClass .int, .fieldLink RX0 9 "BathBook$Bulbs" "kinds" "[I", .fieldLink RX0 15 "BathBook$Bulbs" "tolerances" "[I", .fieldLink RX0 18 "BathBook$Bulbs" "made" "I"] ++ wsX00)
def wsX0_size : List Cond := .code yX0_size cX0_size 1 (some .int) :: ([.fieldLink RX0 18 "BathBook$Bulbs" "made" "I"] ++ wsX00)
def wsX6_isBetween : List Cond := .code yX6_isBetween cX6_isBetween 3 (some .boolean) :: ([])
def wsX0_has : List Cond := .code yX0_has cX0_has 2 (some .boolean) :: ([.fieldLink RX0 18 "BathBook$Bulbs" "made" "I", .static yX6_isBetween, .initialized RX6, .code yX6_isBetween cX6_isBetween 3 (some .boolean)] ++ wsX00)
def wsX0_add : List Cond := .code yX0_add cX0_add 3 (some .int) :: ([.fieldLink RX0 9 "BathBook$Bulbs" "kinds" "[I", .fieldLink RX0 18 "BathBook$Bulbs" "made" "I", .fieldLink RX0 15 "BathBook$Bulbs" "tolerances" "[I"] ++ wsX00)
def wsX0_kindOf : List Cond := .code yX0_kindOf cX0_kindOf 2 (some .int) :: ([.fieldLink RX0 9 "BathBook$Bulbs" "kinds" "[I"] ++ wsX00)
def wsX0_toleranceOf : List Cond := .code yX0_toleranceOf cX0_toleranceOf 2 (some .int) :: ([.fieldLink RX0 15 "BathBook$Bulbs" "tolerances" "[I"] ++ wsX00)
def wsX0_isOf : List Cond := .code yX0_isOf cX0_isOf 3 (some .boolean) :: ([.fieldLink RX0 9 "BathBook$Bulbs" "kinds" "[I"] ++ wsX00)
def wsX1_init : List Cond := .code yX1_init cX1_init 1 none :: ([.methodLink RX1 3 objectInit, .instanceMethod objectInit, .code objectInit ⟨#[0xb1]⟩ 1 none, .classLink RX1 11 "[[I", .arrayClass .int, .fieldLink RX1 13 "BathBook$Certificates" "facts" "[[I", .fieldLink RX1 16 "BathBook$Certificates" "made" "I"] ++ wsX10)
def wsX1_size : List Cond := .code yX1_size cX1_size 1 (some .int) :: ([.fieldLink RX1 16 "BathBook$Certificates" "made" "I"] ++ wsX10)
def wsX1_has : List Cond := .code yX1_has cX1_has 2 (some .boolean) :: ([.fieldLink RX1 16 "BathBook$Certificates" "made" "I", .static yX6_isBetween, .initialized RX6, .code yX6_isBetween cX6_isBetween 3 (some .boolean)] ++ wsX10)
def wsX1_fact : List Cond := .code yX1_fact cX1_fact 3 (some .int) :: ([.fieldLink RX1 13 "BathBook$Certificates" "facts" "[[I"] ++ wsX10)
def wsX1_add : List Cond := .code yX1_add cX1_add 9 (some .int) :: ([.fieldLink RX1 13 "BathBook$Certificates" "facts" "[[I", .fieldLink RX1 16 "BathBook$Certificates" "made" "I"] ++ wsX10)
def wsX1_lastUntil : List Cond := .code yX1_lastUntil cX1_lastUntil 5 (some .int) :: ([.fieldLink RX1 16 "BathBook$Certificates" "made" "I", .methodLink RX1 24 Lib.Math.min.name, .static Lib.Math.min.name, .initialized "java/lang/Math", .code Lib.Math.min.name Lib.Math.min.code 2 (some .int), .fieldLink RX1 13 "BathBook$Certificates" "facts" "[[I"] ++ wsX10)
def wsX1_latestOf : List Cond := .code yX1_latestOf cX1_latestOf 2 (some .int) :: ([.constant RX1 30 (100000), .fieldLink RX1 16 "BathBook$Certificates" "made" "I", .methodLink RX1 31 yX1_lastUntil, .instanceMethod yX1_lastUntil, .selects RX1 yX1_lastUntil yX1_lastUntil, .initialized RX1, .code yX1_lastUntil cX1_lastUntil 5 (some .int), .methodLink RX1 24 Lib.Math.min.name, .static Lib.Math.min.name, .initialized "java/lang/Math", .code Lib.Math.min.name Lib.Math.min.code 2 (some .int), .fieldLink RX1 13 "BathBook$Certificates" "facts" "[[I"] ++ wsX10)
def wsX1_countOf : List Cond := .code yX1_countOf cX1_countOf 6 (some .int) :: ([.fieldLink RX1 16 "BathBook$Certificates" "made" "I", .fieldLink RX1 13 "BathBook$Certificates" "facts" "[[I"] ++ wsX10)
def wsX1_rise : List Cond := .code yX1_rise cX1_rise 4 (some .int) :: ([.fieldLink RX1 13 "BathBook$Certificates" "facts" "[[I"] ++ wsX10)
def wsX1_restsOnVoid : List Cond := .code yX1_restsOnVoid cX1_restsOnVoid 3 (some .boolean) :: ([.fieldLink RX1 13 "BathBook$Certificates" "facts" "[[I", .methodLink RX1 39 yX1_has, .instanceMethod yX1_has, .selects RX1 yX1_has yX1_has, .initialized RX1, .code yX1_has cX1_has 2 (some .boolean), .fieldLink RX1 16 "BathBook$Certificates" "made" "I", .static yX6_isBetween, .initialized RX6, .code yX6_isBetween cX6_isBetween 3 (some .boolean)] ++ wsX10)
def wsX1_makeVoid : List Cond := .code yX1_makeVoid cX1_makeVoid 7 (some .int) :: ([.fieldLink RX1 16 "BathBook$Certificates" "made" "I", .fieldLink RX1 13 "BathBook$Certificates" "facts" "[[I", .static yX6_isBetween, .initialized RX6, .code yX6_isBetween cX6_isBetween 3 (some .boolean), .methodLink RX1 35 yX1_restsOnVoid, .instanceMethod yX1_restsOnVoid, .selects RX1 yX1_restsOnVoid yX1_restsOnVoid, .initialized RX1, .code yX1_restsOnVoid cX1_restsOnVoid 3 (some .boolean), .methodLink RX1 39 yX1_has, .instanceMethod yX1_has, .selects RX1 yX1_has yX1_has, .code yX1_has cX1_has 2 (some .boolean)] ++ wsX10)
def wsX1_chainLength : List Cond := .code yX1_chainLength cX1_chainLength 5 (some .int) :: ([.fieldLink RX1 13 "BathBook$Certificates" "facts" "[[I", .methodLink RX1 39 yX1_has, .instanceMethod yX1_has, .selects RX1 yX1_has yX1_has, .initialized RX1, .code yX1_has cX1_has 2 (some .boolean), .fieldLink RX1 16 "BathBook$Certificates" "made" "I", .static yX6_isBetween, .initialized RX6, .code yX6_isBetween cX6_isBetween 3 (some .boolean)] ++ wsX10)
def wsX1_squaredEnds : List Cond := .code yX1_squaredEnds cX1_squaredEnds 8 (some .long) :: ([.fieldLink RX1 13 "BathBook$Certificates" "facts" "[[I", .methodLink RX1 39 yX1_has, .instanceMethod yX1_has, .selects RX1 yX1_has yX1_has, .initialized RX1, .code yX1_has cX1_has 2 (some .boolean), .fieldLink RX1 16 "BathBook$Certificates" "made" "I", .static yX6_isBetween, .initialized RX6, .code yX6_isBetween cX6_isBetween 3 (some .boolean)] ++ wsX10)
def wsX1_isOver : List Cond := .code yX1_isOver cX1_isOver 5 (some .boolean) :: ([.fieldLink RX1 13 "BathBook$Certificates" "facts" "[[I", .methodLink RX1 39 yX1_has, .instanceMethod yX1_has, .selects RX1 yX1_has yX1_has, .initialized RX1, .code yX1_has cX1_has 2 (some .boolean), .fieldLink RX1 16 "BathBook$Certificates" "made" "I", .static yX6_isBetween, .initialized RX6, .code yX6_isBetween cX6_isBetween 3 (some .boolean)] ++ wsX10)
def wsX1_countOver : List Cond := .code yX1_countOver cX1_countOver 4 (some .int) :: ([.fieldLink RX1 16 "BathBook$Certificates" "made" "I", .methodLink RX1 42 yX1_isOver, .instanceMethod yX1_isOver, .selects RX1 yX1_isOver yX1_isOver, .initialized RX1, .code yX1_isOver cX1_isOver 5 (some .boolean), .fieldLink RX1 13 "BathBook$Certificates" "facts" "[[I", .methodLink RX1 39 yX1_has, .instanceMethod yX1_has, .selects RX1 yX1_has yX1_has, .code yX1_has cX1_has 2 (some .boolean), .static yX6_isBetween, .initialized RX6, .code yX6_isBetween cX6_isBetween 3 (some .boolean)] ++ wsX10)
def wsX1_isOverBulb : List Cond := .code yX1_isOverBulb cX1_isOverBulb 5 (some .boolean) :: ([.fieldLink RX1 13 "BathBook$Certificates" "facts" "[[I", .methodLink RX1 39 yX1_has, .instanceMethod yX1_has, .selects RX1 yX1_has yX1_has, .initialized RX1, .code yX1_has cX1_has 2 (some .boolean), .fieldLink RX1 16 "BathBook$Certificates" "made" "I", .static yX6_isBetween, .initialized RX6, .code yX6_isBetween cX6_isBetween 3 (some .boolean)] ++ wsX10)
def wsX1_countOverBulb : List Cond := .code yX1_countOverBulb cX1_countOverBulb 4 (some .int) :: ([.fieldLink RX1 16 "BathBook$Certificates" "made" "I", .fieldLink RX1 13 "BathBook$Certificates" "facts" "[[I", .methodLink RX1 46 yX1_isOverBulb, .instanceMethod yX1_isOverBulb, .selects RX1 yX1_isOverBulb yX1_isOverBulb, .initialized RX1, .code yX1_isOverBulb cX1_isOverBulb 5 (some .boolean), .methodLink RX1 39 yX1_has, .instanceMethod yX1_has, .selects RX1 yX1_has yX1_has, .code yX1_has cX1_has 2 (some .boolean), .static yX6_isBetween, .initialized RX6, .code yX6_isBetween cX6_isBetween 3 (some .boolean)] ++ wsX10)
def wsX2_init : List Cond := .code yX2_init cX2_init 1 none :: ([.methodLink RX2 1 objectInit, .instanceMethod objectInit, .code objectInit ⟨#[0xb1]⟩ 1 none, .fieldLink RX2 7 "BathBook$Fraction" "top" "J", .fieldLink RX2 13 "BathBook$Fraction" "bottom" "J"] ++ wsX20)
def wsX6_greatestDivisor : List Cond := .code yX6_greatestDivisor cX6_greatestDivisor 11 (some .long) :: ([.methodLink RX6 153 Lib.MathLoose.abs_long.x, .static Lib.MathLoose.abs_long.x, .initialized "java/lang/Math", .code Lib.MathLoose.abs_long.x Lib.MathLoose.abs_long.code 2 (some .long)])
def wsX2_tell : List Cond := .code yX2_tell cX2_tell 9 none :: ([.fieldLink RX2 7 "BathBook$Fraction" "top" "J", .fieldLink RX2 13 "BathBook$Fraction" "bottom" "J", .static yX6_greatestDivisor, .initialized RX6, .code yX6_greatestDivisor cX6_greatestDivisor 11 (some .long), .methodLink RX6 153 Lib.MathLoose.abs_long.x, .static Lib.MathLoose.abs_long.x, .initialized "java/lang/Math", .code Lib.MathLoose.abs_long.x Lib.MathLoose.abs_long.code 2 (some .long)] ++ wsX20)
def wsJ7_fill_53178 : List Cond := .code yJ7_fill_53178 cJ7_fill_53178 4 none :: ([])
def wsX3_init : List Cond := .code yX3_init cX3_init 2 none :: ([.methodLink RX3 3 objectInit, .instanceMethod objectInit, .code objectInit ⟨#[0xb1]⟩ 1 none, .classLink RX3 9 "[[I", .arrayClass .int, .fieldLink RX3 11 "BathBook$Round" "differences" "[[I", .fieldLink RX3 16 "BathBook$Round" "ends" "[[I", .methodLink RX3 19 yJ7_fill_53178, .static yJ7_fill_53178, .initialized RJ7, .code yJ7_fill_53178 cJ7_fill_53178 4 none] ++ wsX30)
def wsX3_put : List Cond := .code yX3_put cX3_put 5 none :: ([.fieldLink RX3 11 "BathBook$Round" "differences" "[[I", .fieldLink RX3 16 "BathBook$Round" "ends" "[[I"] ++ wsX30)
def wsX3_isKnown : List Cond := .code yX3_isKnown cX3_isKnown 4 (some .boolean) :: ([.fieldLink RX3 16 "BathBook$Round" "ends" "[[I"] ++ wsX30)
def wsX3_gap : List Cond := .code yX3_gap cX3_gap 4 (some .int) :: ([.fieldLink RX3 11 "BathBook$Round" "differences" "[[I"] ++ wsX30)
def wsX3_isShut : List Cond := .code yX3_isShut cX3_isShut 4 (some .boolean) :: ([.methodLink RX3 29 Lib.Math.abs.name, .static Lib.Math.abs.name, .initialized "java/lang/Math", .code Lib.Math.abs.name Lib.Math.abs.code 1 (some .int), .fieldLink RX3 16 "BathBook$Round" "ends" "[[I", .methodLink RX3 25 yX3_gap, .instanceMethod yX3_gap, .selects RX3 yX3_gap yX3_gap, .initialized RX3, .code yX3_gap cX3_gap 4 (some .int), .fieldLink RX3 11 "BathBook$Round" "differences" "[[I"] ++ wsX30)
def wsX4_init : List Cond := .code yX4_init cX4_init 1 none :: ([.methodLink RX4 3 objectInit, .instanceMethod objectInit, .code objectInit ⟨#[0xb1]⟩ 1 none, .classLink RX4 9 "[[I", .arrayClass .int, .fieldLink RX4 11 "BathBook$Rows" "readings" "[[I", .fieldLink RX4 16 "BathBook$Rows" "sizes" "[I", .methodLink RX4 20 yJ7_fill_53178, .static yJ7_fill_53178, .initialized RJ7, .code yJ7_fill_53178 cJ7_fill_53178 4 none] ++ wsX40)
def wsX4_isMissing : List Cond := .code yX4_isMissing cX4_isMissing 2 (some .boolean) :: ([.fieldLink RX4 16 "BathBook$Rows" "sizes" "[I"] ++ wsX40)
def wsX4_sizeOf : List Cond := .code yX4_sizeOf cX4_sizeOf 2 (some .int) :: ([.fieldLink RX4 16 "BathBook$Rows" "sizes" "[I"] ++ wsX40)
def wsX4_make : List Cond := .code yX4_make cX4_make 3 none :: ([.fieldLink RX4 11 "BathBook$Rows" "readings" "[[I", .fieldLink RX4 16 "BathBook$Rows" "sizes" "[I", .methodLink RX4 20 yJ7_fill_53178, .static yJ7_fill_53178, .initialized RJ7, .code yJ7_fill_53178 cJ7_fill_53178 4 none] ++ wsX40)
def wsX4_drop : List Cond := .code yX4_drop cX4_drop 2 none :: ([.fieldLink RX4 16 "BathBook$Rows" "sizes" "[I"] ++ wsX40)
def wsX4_hasPlaces : List Cond := .code yX4_hasPlaces cX4_hasPlaces 4 (some .boolean) :: ([.fieldLink RX4 16 "BathBook$Rows" "sizes" "[I", .static yX6_isBetween, .initialized RX6, .code yX6_isBetween cX6_isBetween 3 (some .boolean)] ++ wsX40)
def wsX4_readingAt : List Cond := .code yX4_readingAt cX4_readingAt 3 (some .int) :: ([.fieldLink RX4 11 "BathBook$Rows" "readings" "[[I"] ++ wsX40)
def wsX4_put : List Cond := .code yX4_put cX4_put 4 none :: ([.fieldLink RX4 11 "BathBook$Rows" "readings" "[[I"] ++ wsX40)
def wsX4_carry : List Cond := .code yX4_carry cX4_carry 6 none :: ([.fieldLink RX4 11 "BathBook$Rows" "readings" "[[I", .methodLink RX4 30 arraycopyName, .native arraycopyName, .static arraycopyName, .initialized "java/lang/System"] ++ wsX40)
def wsX4_heldCount : List Cond := .code yX4_heldCount cX4_heldCount 4 (some .int) :: ([.fieldLink RX4 16 "BathBook$Rows" "sizes" "[I", .fieldLink RX4 11 "BathBook$Rows" "readings" "[[I"] ++ wsX40)
def wsX4_heldSum : List Cond := .code yX4_heldSum cX4_heldSum 6 (some .int) :: ([.fieldLink RX4 11 "BathBook$Rows" "readings" "[[I"] ++ wsX40)
def wsX4_mirrorSum : List Cond := .code yX4_mirrorSum cX4_mirrorSum 3 (some .int) :: ([.fieldLink RX4 11 "BathBook$Rows" "readings" "[[I", .fieldLink RX4 16 "BathBook$Rows" "sizes" "[I"] ++ wsX40)
def wsX4_levelLength : List Cond := .code yX4_levelLength cX4_levelLength 9 (some .int) :: ([.constant RX4 40 (100000), .constant RX4 41 (-100000), .fieldLink RX4 16 "BathBook$Rows" "sizes" "[I", .fieldLink RX4 11 "BathBook$Rows" "readings" "[[I", .methodLink RX4 42 Lib.Math.min.name, .static Lib.Math.min.name, .initialized "java/lang/Math", .code Lib.Math.min.name Lib.Math.min.code 2 (some .int), .methodLink RX4 48 Lib.Math.max.name, .static Lib.Math.max.name, .code Lib.Math.max.name Lib.Math.max.code 2 (some .int)] ++ wsX40)
def wsX4_longestLevelStart : List Cond := .code yX4_longestLevelStart cX4_longestLevelStart 7 (some .int) :: ([.fieldLink RX4 16 "BathBook$Rows" "sizes" "[I", .methodLink RX4 36 yX4_levelLength, .instanceMethod yX4_levelLength, .selects RX4 yX4_levelLength yX4_levelLength, .initialized RX4, .code yX4_levelLength cX4_levelLength 9 (some .int), .constant RX4 40 (100000), .constant RX4 41 (-100000), .fieldLink RX4 11 "BathBook$Rows" "readings" "[[I", .methodLink RX4 42 Lib.Math.min.name, .static Lib.Math.min.name, .initialized "java/lang/Math", .code Lib.Math.min.name Lib.Math.min.code 2 (some .int), .methodLink RX4 48 Lib.Math.max.name, .static Lib.Math.max.name, .code Lib.Math.max.name Lib.Math.max.code 2 (some .int)] ++ wsX40)
def wsX4_presentCount : List Cond := .code yX4_presentCount cX4_presentCount 3 (some .int) :: ([.fieldLink RX4 16 "BathBook$Rows" "sizes" "[I"] ++ wsX40)
def wsX4_digestOn : List Cond := .code yX4_digestOn cX4_digestOn 7 (some .long) :: ([.constantLong RX4 51 (31), .fieldLink RX4 16 "BathBook$Rows" "sizes" "[I", .fieldLink RX4 11 "BathBook$Rows" "readings" "[[I"] ++ wsX40)
def wsX5_init : List Cond := .code yX5_init cX5_init 1 none :: ([.methodLink RX5 3 objectInit, .instanceMethod objectInit, .code objectInit ⟨#[0xb1]⟩ 1 none, .classLink RX5 9 "[[I", .arrayClass .int, .fieldLink RX5 11 "BathBook$Tables" "xs" "[[I", .fieldLink RX5 16 "BathBook$Tables" "ys" "[[I", .fieldLink RX5 19 "BathBook$Tables" "sizes" "[I"] ++ wsX50)
def wsX5_sizeOf : List Cond := .code yX5_sizeOf cX5_sizeOf 2 (some .int) :: ([.fieldLink RX5 19 "BathBook$Tables" "sizes" "[I"] ++ wsX50)
def wsX5_hasX : List Cond := .code yX5_hasX cX5_hasX 4 (some .boolean) :: ([.fieldLink RX5 19 "BathBook$Tables" "sizes" "[I", .fieldLink RX5 11 "BathBook$Tables" "xs" "[[I"] ++ wsX50)
def wsX5_add : List Cond := .code yX5_add cX5_add 5 (some .int) :: ([.fieldLink RX5 19 "BathBook$Tables" "sizes" "[I", .fieldLink RX5 11 "BathBook$Tables" "xs" "[[I", .fieldLink RX5 16 "BathBook$Tables" "ys" "[[I"] ++ wsX50)
def wsX5_empty : List Cond := .code yX5_empty cX5_empty 3 (some .int) :: ([.fieldLink RX5 19 "BathBook$Tables" "sizes" "[I"] ++ wsX50)
def wsX5_pointCount : List Cond := .code yX5_pointCount cX5_pointCount 3 (some .int) :: ([.fieldLink RX5 19 "BathBook$Tables" "sizes" "[I"] ++ wsX50)
def wsX5_productWithout : List Cond := .code yX5_productWithout cX5_productWithout 7 (some .long) :: ([.fieldLink RX5 19 "BathBook$Tables" "sizes" "[I", .fieldLink RX5 11 "BathBook$Tables" "xs" "[[I"] ++ wsX50)
def wsX6_leastMultiple : List Cond := .code yX6_leastMultiple cX6_leastMultiple 6 (some .long) :: ([.methodLink RX6 153 Lib.MathLoose.abs_long.x, .static Lib.MathLoose.abs_long.x, .initialized "java/lang/Math", .code Lib.MathLoose.abs_long.x Lib.MathLoose.abs_long.code 2 (some .long), .methodLink RX6 283 yX6_greatestDivisor, .static yX6_greatestDivisor, .initialized RX6, .code yX6_greatestDivisor cX6_greatestDivisor 11 (some .long)])
def wsX5_commonLower : List Cond := .code yX5_commonLower cX5_commonLower 5 (some .long) :: ([.fieldLink RX5 19 "BathBook$Tables" "sizes" "[I", .fieldLink RX5 11 "BathBook$Tables" "xs" "[[I", .methodLink RX5 23 yX5_productWithout, .instanceMethod yX5_productWithout, .selects RX5 yX5_productWithout yX5_productWithout, .initialized RX5, .code yX5_productWithout cX5_productWithout 7 (some .long), .static yX6_leastMultiple, .initialized RX6, .code yX6_leastMultiple cX6_leastMultiple 6 (some .long), .methodLink RX6 153 Lib.MathLoose.abs_long.x, .static Lib.MathLoose.abs_long.x, .initialized "java/lang/Math", .code Lib.MathLoose.abs_long.x Lib.MathLoose.abs_long.code 2 (some .long), .methodLink RX6 283 yX6_greatestDivisor, .static yX6_greatestDivisor, .code yX6_greatestDivisor cX6_greatestDivisor 11 (some .long)] ++ wsX50)
def wsX5_worthAt : List Cond := .code yX5_worthAt cX5_worthAt 10 (some .long) :: ([.fieldLink RX5 19 "BathBook$Tables" "sizes" "[I", .fieldLink RX5 11 "BathBook$Tables" "xs" "[[I", .fieldLink RX5 16 "BathBook$Tables" "ys" "[[I", .methodLink RX5 23 yX5_productWithout, .instanceMethod yX5_productWithout, .selects RX5 yX5_productWithout yX5_productWithout, .initialized RX5, .code yX5_productWithout cX5_productWithout 7 (some .long)] ++ wsX50)
def wsX6_init_r1 : List Cond := [Cond.methodLink RX6 1 objectInit, Cond.instanceMethod objectInit, Cond.code objectInit ⟨#[0xb1]⟩ 1 none, Cond.classLink RX6 7 RX4, Cond.instantiable RX4 2, Cond.initialized RX4, Cond.fieldLink RX6 10 "BathBook" "rows" "LBathBook$Rows;", Cond.classLink RX6 16 RX5, Cond.instantiable RX5 3, Cond.initialized RX5, Cond.fieldLink RX6 19 "BathBook" "tables" "LBathBook$Tables;", Cond.classLink RX6 23 RX0, Cond.instantiable RX0 3, Cond.initialized RX0, Cond.fieldLink RX6 26 "BathBook" "bulbs" "LBathBook$Bulbs;", Cond.classLink RX6 30 RX1, Cond.instantiable RX1 2, Cond.initialized RX1, Cond.fieldLink RX6 33 "BathBook" "certificates" "LBathBook$Certificates;", Cond.classLink RX6 37 RX3, Cond.instantiable RX3 2, Cond.initialized RX3, Cond.fieldLink RX6 40 "BathBook" "round" "LBathBook$Round;", Cond.classLink RX6 44 RX2]
def wsX6_init_r2 : List Cond := [Cond.instantiable RX2 2, Cond.initialized RX2, Cond.fieldLink RX6 47 "BathBook" "fraction" "LBathBook$Fraction;", Cond.arrayClass .int, Cond.fieldLink RX6 51 "BathBook" "findingCounts" "[I", Cond.fieldLink RX6 55 "BathBook" "lastFinding" "I", Cond.fieldLink RX6 59 "BathBook" "lastAsked" "J", Cond.methodLink RX6 9 yX4_init, Cond.instanceMethod yX4_init, Cond.code yX4_init cX4_init 1 none, Cond.methodLink RX4 3 objectInit, Cond.classLink RX4 9 "[[I", Cond.fieldLink RX4 11 "BathBook$Rows" "readings" "[[I", Cond.fieldLink RX4 16 "BathBook$Rows" "sizes" "[I", Cond.methodLink RX4 20 yJ7_fill_53178, Cond.static yJ7_fill_53178, Cond.initialized RJ7, Cond.code yJ7_fill_53178 cJ7_fill_53178 4 none, Cond.methodLink RX6 18 yX5_init, Cond.instanceMethod yX5_init, Cond.code yX5_init cX5_init 1 none, Cond.methodLink RX5 3 objectInit, Cond.classLink RX5 9 "[[I", Cond.fieldLink RX5 11 "BathBook$Tables" "xs" "[[I"]
def wsX6_init_r3 : List Cond := [Cond.fieldLink RX5 16 "BathBook$Tables" "ys" "[[I", Cond.fieldLink RX5 19 "BathBook$Tables" "sizes" "[I", Cond.methodLink RX6 25 yX0_init, Cond.instanceMethod yX0_init, Cond.code yX0_init cX0_init 1 none, Cond.methodLink RX0 3 objectInit, Cond.fieldLink RX0 9 "BathBook$Bulbs" "kinds" "[I", Cond.fieldLink RX0 15 "BathBook$Bulbs" "tolerances" "[I", Cond.fieldLink RX0 18 "BathBook$Bulbs" "made" "I", Cond.methodLink RX6 32 yX1_init, Cond.instanceMethod yX1_init, Cond.code yX1_init cX1_init 1 none, Cond.methodLink RX1 3 objectInit, Cond.classLink RX1 11 "[[I", Cond.fieldLink RX1 13 "BathBook$Certificates" "facts" "[[I", Cond.fieldLink RX1 16 "BathBook$Certificates" "made" "I", Cond.methodLink RX6 39 yX3_init, Cond.instanceMethod yX3_init, Cond.code yX3_init cX3_init 2 none, Cond.methodLink RX3 3 objectInit, Cond.classLink RX3 9 "[[I", Cond.fieldLink RX3 11 "BathBook$Round" "differences" "[[I", Cond.fieldLink RX3 16 "BathBook$Round" "ends" "[[I", Cond.methodLink RX3 19 yJ7_fill_53178]
def wsX6_init_r4 : List Cond := [Cond.methodLink RX6 46 yX2_init, Cond.instanceMethod yX2_init, Cond.code yX2_init cX2_init 1 none, Cond.methodLink RX2 1 objectInit, Cond.fieldLink RX2 7 "BathBook$Fraction" "top" "J", Cond.fieldLink RX2 13 "BathBook$Fraction" "bottom" "J"]
def wsX6_init : List Cond := .code yX6_init cX6_init 1 none :: ((wsX6_init_r1 ++ (wsX6_init_r2 ++ (wsX6_init_r3 ++ wsX6_init_r4))) ++ wsX40 ++ wsX60 ++ wsX50 ++ wsX00 ++ wsX10 ++ wsX30 ++ wsX20)
def wsX6_isRow : List Cond := .code yX6_isRow cX6_isRow 1 (some .boolean) :: ([.methodLink RX6 113 yX6_isBetween, .static yX6_isBetween, .initialized RX6, .code yX6_isBetween cX6_isBetween 3 (some .boolean)])
def wsX6_refuse : List Cond := .code yX6_refuse cX6_refuse 2 (some .int) :: ([.fieldLink RX6 55 "BathBook" "lastFinding" "I", .fieldLink RX6 51 "BathBook" "findingCounts" "[I", .methodLink RX6 113 yX6_isBetween, .static yX6_isBetween, .initialized RX6, .code yX6_isBetween cX6_isBetween 3 (some .boolean)] ++ wsX60)
def wsX6_row_r1 : List Cond := [Cond.fieldLink RX6 10 "BathBook" "rows" "LBathBook$Rows;", Cond.methodLink RX6 63 yX6_isRow, Cond.static yX6_isRow, Cond.initialized RX6, Cond.code yX6_isRow cX6_isRow 1 (some .boolean), Cond.methodLink RX6 113 yX6_isBetween, Cond.static yX6_isBetween, Cond.code yX6_isBetween cX6_isBetween 3 (some .boolean), Cond.methodLink RX6 67 yX6_refuse, Cond.instanceMethod yX6_refuse, Cond.selects RX6 yX6_refuse yX6_refuse, Cond.code yX6_refuse cX6_refuse 2 (some .int), Cond.fieldLink RX6 55 "BathBook" "lastFinding" "I", Cond.fieldLink RX6 51 "BathBook" "findingCounts" "[I", Cond.methodLink RX6 71 yX4_make, Cond.instanceMethod yX4_make, Cond.selects RX4 yX4_make yX4_make, Cond.initialized RX4, Cond.code yX4_make cX4_make 3 none, Cond.fieldLink RX4 11 "BathBook$Rows" "readings" "[[I", Cond.fieldLink RX4 16 "BathBook$Rows" "sizes" "[I", Cond.methodLink RX4 20 yJ7_fill_53178, Cond.static yJ7_fill_53178, Cond.initialized RJ7]
def wsX6_row_r2 : List Cond := [Cond.code yJ7_fill_53178 cJ7_fill_53178 4 none]
def wsX6_row : List Cond := .code yX6_row cX6_row 3 (some .int) :: ((wsX6_row_r1 ++ wsX6_row_r2) ++ wsX60 ++ wsX40)
def wsX6_isWithin : List Cond := .code yX6_isWithin cX6_isWithin 2 (some .boolean) :: ([.methodLink RX6 113 yX6_isBetween, .static yX6_isBetween, .initialized RX6, .code yX6_isBetween cX6_isBetween 3 (some .boolean)])
def wsX6_lay_r1 : List Cond := [Cond.constant RX6 75 (100000), Cond.fieldLink RX6 10 "BathBook" "rows" "LBathBook$Rows;", Cond.fieldLink RX6 59 "BathBook" "lastAsked" "J", Cond.methodLink RX6 63 yX6_isRow, Cond.static yX6_isRow, Cond.initialized RX6, Cond.code yX6_isRow cX6_isRow 1 (some .boolean), Cond.methodLink RX6 113 yX6_isBetween, Cond.static yX6_isBetween, Cond.code yX6_isBetween cX6_isBetween 3 (some .boolean), Cond.methodLink RX6 76 yX6_isWithin, Cond.static yX6_isWithin, Cond.code yX6_isWithin cX6_isWithin 2 (some .boolean), Cond.methodLink RX6 80 yX4_isMissing, Cond.instanceMethod yX4_isMissing, Cond.selects RX4 yX4_isMissing yX4_isMissing, Cond.initialized RX4, Cond.code yX4_isMissing cX4_isMissing 2 (some .boolean), Cond.fieldLink RX4 16 "BathBook$Rows" "sizes" "[I", Cond.methodLink RX6 67 yX6_refuse, Cond.instanceMethod yX6_refuse, Cond.selects RX6 yX6_refuse yX6_refuse, Cond.code yX6_refuse cX6_refuse 2 (some .int), Cond.fieldLink RX6 55 "BathBook" "lastFinding" "I"]
def wsX6_lay_r2 : List Cond := [Cond.fieldLink RX6 51 "BathBook" "findingCounts" "[I", Cond.methodLink RX6 83 yX4_hasPlaces, Cond.instanceMethod yX4_hasPlaces, Cond.selects RX4 yX4_hasPlaces yX4_hasPlaces, Cond.code yX4_hasPlaces cX4_hasPlaces 4 (some .boolean), Cond.methodLink RX6 87 yX4_readingAt, Cond.instanceMethod yX4_readingAt, Cond.selects RX4 yX4_readingAt yX4_readingAt, Cond.code yX4_readingAt cX4_readingAt 3 (some .int), Cond.fieldLink RX4 11 "BathBook$Rows" "readings" "[[I", Cond.methodLink RX6 91 yX4_put, Cond.instanceMethod yX4_put, Cond.selects RX4 yX4_put yX4_put, Cond.code yX4_put cX4_put 4 none]
def wsX6_lay : List Cond := .code yX6_lay cX6_lay 4 (some .int) :: ((wsX6_lay_r1 ++ wsX6_lay_r2) ++ wsX60 ++ wsX40)
def wsX6_tear : List Cond := .code yX6_tear cX6_tear 2 (some .int) :: ([.fieldLink RX6 10 "BathBook" "rows" "LBathBook$Rows;", .methodLink RX6 63 yX6_isRow, .static yX6_isRow, .initialized RX6, .code yX6_isRow cX6_isRow 1 (some .boolean), .methodLink RX6 113 yX6_isBetween, .static yX6_isBetween, .code yX6_isBetween cX6_isBetween 3 (some .boolean), .methodLink RX6 80 yX4_isMissing, .instanceMethod yX4_isMissing, .selects RX4 yX4_isMissing yX4_isMissing, .initialized RX4, .code yX4_isMissing cX4_isMissing 2 (some .boolean), .fieldLink RX4 16 "BathBook$Rows" "sizes" "[I", .methodLink RX6 67 yX6_refuse, .instanceMethod yX6_refuse, .selects RX6 yX6_refuse yX6_refuse, .code yX6_refuse cX6_refuse 2 (some .int), .fieldLink RX6 55 "BathBook" "lastFinding" "I", .fieldLink RX6 51 "BathBook" "findingCounts" "[I", .methodLink RX6 95 yX4_drop, .instanceMethod yX4_drop, .selects RX4 yX4_drop yX4_drop, .code yX4_drop cX4_drop 2 none] ++ wsX60 ++ wsX40)
def wsX6_copy_r1 : List Cond := [Cond.fieldLink RX6 10 "BathBook" "rows" "LBathBook$Rows;", Cond.methodLink RX6 63 yX6_isRow, Cond.static yX6_isRow, Cond.initialized RX6, Cond.code yX6_isRow cX6_isRow 1 (some .boolean), Cond.methodLink RX6 113 yX6_isBetween, Cond.static yX6_isBetween, Cond.code yX6_isBetween cX6_isBetween 3 (some .boolean), Cond.methodLink RX6 67 yX6_refuse, Cond.instanceMethod yX6_refuse, Cond.selects RX6 yX6_refuse yX6_refuse, Cond.code yX6_refuse cX6_refuse 2 (some .int), Cond.fieldLink RX6 55 "BathBook" "lastFinding" "I", Cond.fieldLink RX6 51 "BathBook" "findingCounts" "[I", Cond.methodLink RX6 80 yX4_isMissing, Cond.instanceMethod yX4_isMissing, Cond.selects RX4 yX4_isMissing yX4_isMissing, Cond.initialized RX4, Cond.code yX4_isMissing cX4_isMissing 2 (some .boolean), Cond.fieldLink RX4 16 "BathBook$Rows" "sizes" "[I", Cond.methodLink RX6 83 yX4_hasPlaces, Cond.instanceMethod yX4_hasPlaces, Cond.selects RX4 yX4_hasPlaces yX4_hasPlaces, Cond.code yX4_hasPlaces cX4_hasPlaces 4 (some .boolean)]
def wsX6_copy_r2 : List Cond := [Cond.methodLink RX6 99 yX4_carry, Cond.instanceMethod yX4_carry, Cond.selects RX4 yX4_carry yX4_carry, Cond.code yX4_carry cX4_carry 6 none, Cond.fieldLink RX4 11 "BathBook$Rows" "readings" "[[I", Cond.methodLink RX4 30 arraycopyName, Cond.native arraycopyName, Cond.static arraycopyName, Cond.initialized "java/lang/System"]
def wsX6_copy : List Cond := .code yX6_copy cX6_copy 6 (some .int) :: ((wsX6_copy_r1 ++ wsX6_copy_r2) ++ wsX60 ++ wsX40)
def wsX6_mean_r1 : List Cond := [Cond.fieldLink RX6 10 "BathBook" "rows" "LBathBook$Rows;", Cond.fieldLink RX6 59 "BathBook" "lastAsked" "J", Cond.methodLink RX6 63 yX6_isRow, Cond.static yX6_isRow, Cond.initialized RX6, Cond.code yX6_isRow cX6_isRow 1 (some .boolean), Cond.methodLink RX6 113 yX6_isBetween, Cond.static yX6_isBetween, Cond.code yX6_isBetween cX6_isBetween 3 (some .boolean), Cond.methodLink RX6 80 yX4_isMissing, Cond.instanceMethod yX4_isMissing, Cond.selects RX4 yX4_isMissing yX4_isMissing, Cond.initialized RX4, Cond.code yX4_isMissing cX4_isMissing 2 (some .boolean), Cond.fieldLink RX4 16 "BathBook$Rows" "sizes" "[I", Cond.methodLink RX6 67 yX6_refuse, Cond.instanceMethod yX6_refuse, Cond.selects RX6 yX6_refuse yX6_refuse, Cond.code yX6_refuse cX6_refuse 2 (some .int), Cond.fieldLink RX6 55 "BathBook" "lastFinding" "I", Cond.fieldLink RX6 51 "BathBook" "findingCounts" "[I", Cond.methodLink RX6 103 yX4_heldCount, Cond.instanceMethod yX4_heldCount, Cond.selects RX4 yX4_heldCount yX4_heldCount]
def wsX6_mean_r2 : List Cond := [Cond.code yX4_heldCount cX4_heldCount 4 (some .int), Cond.fieldLink RX4 11 "BathBook$Rows" "readings" "[[I", Cond.methodLink RX6 106 yX4_sizeOf, Cond.instanceMethod yX4_sizeOf, Cond.selects RX4 yX4_sizeOf yX4_sizeOf, Cond.code yX4_sizeOf cX4_sizeOf 2 (some .int), Cond.methodLink RX6 109 yX4_heldSum, Cond.instanceMethod yX4_heldSum, Cond.selects RX4 yX4_heldSum yX4_heldSum, Cond.code yX4_heldSum cX4_heldSum 6 (some .int)]
def wsX6_mean : List Cond := .code yX6_mean cX6_mean 3 (some .int) :: ((wsX6_mean_r1 ++ wsX6_mean_r2) ++ wsX60 ++ wsX40)
def wsX6_plateau_r1 : List Cond := [Cond.constant RX6 75 (100000), Cond.fieldLink RX6 10 "BathBook" "rows" "LBathBook$Rows;", Cond.fieldLink RX6 47 "BathBook" "fraction" "LBathBook$Fraction;", Cond.fieldLink RX6 59 "BathBook" "lastAsked" "J", Cond.methodLink RX6 63 yX6_isRow, Cond.static yX6_isRow, Cond.initialized RX6, Cond.code yX6_isRow cX6_isRow 1 (some .boolean), Cond.methodLink RX6 113 yX6_isBetween, Cond.static yX6_isBetween, Cond.code yX6_isBetween cX6_isBetween 3 (some .boolean), Cond.methodLink RX6 80 yX4_isMissing, Cond.instanceMethod yX4_isMissing, Cond.selects RX4 yX4_isMissing yX4_isMissing, Cond.initialized RX4, Cond.code yX4_isMissing cX4_isMissing 2 (some .boolean), Cond.fieldLink RX4 16 "BathBook$Rows" "sizes" "[I", Cond.methodLink RX6 67 yX6_refuse, Cond.instanceMethod yX6_refuse, Cond.selects RX6 yX6_refuse yX6_refuse, Cond.code yX6_refuse cX6_refuse 2 (some .int), Cond.fieldLink RX6 55 "BathBook" "lastFinding" "I", Cond.fieldLink RX6 51 "BathBook" "findingCounts" "[I", Cond.methodLink RX6 116 yX4_longestLevelStart]
def wsX6_plateau_r2 : List Cond := [Cond.instanceMethod yX4_longestLevelStart, Cond.selects RX4 yX4_longestLevelStart yX4_longestLevelStart, Cond.code yX4_longestLevelStart cX4_longestLevelStart 7 (some .int), Cond.methodLink RX4 36 yX4_levelLength, Cond.instanceMethod yX4_levelLength, Cond.selects RX4 yX4_levelLength yX4_levelLength, Cond.code yX4_levelLength cX4_levelLength 9 (some .int), Cond.constant RX4 40 (100000), Cond.constant RX4 41 (-100000), Cond.fieldLink RX4 11 "BathBook$Rows" "readings" "[[I", Cond.methodLink RX4 42 Lib.Math.min.name, Cond.static Lib.Math.min.name, Cond.initialized "java/lang/Math", Cond.code Lib.Math.min.name Lib.Math.min.code 2 (some .int), Cond.methodLink RX4 48 Lib.Math.max.name, Cond.static Lib.Math.max.name, Cond.code Lib.Math.max.name Lib.Math.max.code 2 (some .int), Cond.methodLink RX6 119 yX4_levelLength, Cond.methodLink RX6 109 yX4_heldSum, Cond.instanceMethod yX4_heldSum, Cond.selects RX4 yX4_heldSum yX4_heldSum, Cond.code yX4_heldSum cX4_heldSum 6 (some .int), Cond.methodLink RX6 122 yX2_tell, Cond.instanceMethod yX2_tell]
def wsX6_plateau_r3 : List Cond := [Cond.selects RX2 yX2_tell yX2_tell, Cond.initialized RX2, Cond.code yX2_tell cX2_tell 9 none, Cond.fieldLink RX2 7 "BathBook$Fraction" "top" "J", Cond.fieldLink RX2 13 "BathBook$Fraction" "bottom" "J", Cond.static yX6_greatestDivisor, Cond.code yX6_greatestDivisor cX6_greatestDivisor 11 (some .long), Cond.methodLink RX6 153 Lib.MathLoose.abs_long.x, Cond.static Lib.MathLoose.abs_long.x, Cond.code Lib.MathLoose.abs_long.x Lib.MathLoose.abs_long.code 2 (some .long)]
def wsX6_plateau : List Cond := .code yX6_plateau cX6_plateau 6 (some .int) :: ((wsX6_plateau_r1 ++ (wsX6_plateau_r2 ++ wsX6_plateau_r3)) ++ wsX60 ++ wsX40 ++ wsX20)
def wsX6_isTable : List Cond := .code yX6_isTable cX6_isTable 1 (some .boolean) :: ([.methodLink RX6 113 yX6_isBetween, .static yX6_isBetween, .initialized RX6, .code yX6_isBetween cX6_isBetween 3 (some .boolean)])
def wsX6_point_r1 : List Cond := [Cond.fieldLink RX6 19 "BathBook" "tables" "LBathBook$Tables;", Cond.methodLink RX6 126 yX6_isTable, Cond.static yX6_isTable, Cond.initialized RX6, Cond.code yX6_isTable cX6_isTable 1 (some .boolean), Cond.methodLink RX6 113 yX6_isBetween, Cond.static yX6_isBetween, Cond.code yX6_isBetween cX6_isBetween 3 (some .boolean), Cond.methodLink RX6 76 yX6_isWithin, Cond.static yX6_isWithin, Cond.code yX6_isWithin cX6_isWithin 2 (some .boolean), Cond.methodLink RX6 129 yX5_hasX, Cond.instanceMethod yX5_hasX, Cond.selects RX5 yX5_hasX yX5_hasX, Cond.initialized RX5, Cond.code yX5_hasX cX5_hasX 4 (some .boolean), Cond.fieldLink RX5 19 "BathBook$Tables" "sizes" "[I", Cond.fieldLink RX5 11 "BathBook$Tables" "xs" "[[I", Cond.methodLink RX6 132 yX5_sizeOf, Cond.instanceMethod yX5_sizeOf, Cond.selects RX5 yX5_sizeOf yX5_sizeOf, Cond.code yX5_sizeOf cX5_sizeOf 2 (some .int), Cond.methodLink RX6 133 yX5_add, Cond.instanceMethod yX5_add]
def wsX6_point_r2 : List Cond := [Cond.selects RX5 yX5_add yX5_add, Cond.code yX5_add cX5_add 5 (some .int), Cond.fieldLink RX5 16 "BathBook$Tables" "ys" "[[I"]
def wsX6_point : List Cond := .code yX6_point cX6_point 4 (some .int) :: ((wsX6_point_r1 ++ wsX6_point_r2) ++ wsX60 ++ wsX50)
def wsX6_clear : List Cond := .code yX6_clear cX6_clear 2 (some .int) :: ([.fieldLink RX6 19 "BathBook" "tables" "LBathBook$Tables;", .methodLink RX6 126 yX6_isTable, .static yX6_isTable, .initialized RX6, .code yX6_isTable cX6_isTable 1 (some .boolean), .methodLink RX6 113 yX6_isBetween, .static yX6_isBetween, .code yX6_isBetween cX6_isBetween 3 (some .boolean), .methodLink RX6 136 yX5_empty, .instanceMethod yX5_empty, .selects RX5 yX5_empty yX5_empty, .initialized RX5, .code yX5_empty cX5_empty 3 (some .int), .fieldLink RX5 19 "BathBook$Tables" "sizes" "[I"] ++ wsX60 ++ wsX50)
def wsX6_curve_r1 : List Cond := [Cond.fieldLink RX6 19 "BathBook" "tables" "LBathBook$Tables;", Cond.fieldLink RX6 47 "BathBook" "fraction" "LBathBook$Fraction;", Cond.methodLink RX6 126 yX6_isTable, Cond.static yX6_isTable, Cond.initialized RX6, Cond.code yX6_isTable cX6_isTable 1 (some .boolean), Cond.methodLink RX6 113 yX6_isBetween, Cond.static yX6_isBetween, Cond.code yX6_isBetween cX6_isBetween 3 (some .boolean), Cond.methodLink RX6 76 yX6_isWithin, Cond.static yX6_isWithin, Cond.code yX6_isWithin cX6_isWithin 2 (some .boolean), Cond.methodLink RX6 132 yX5_sizeOf, Cond.instanceMethod yX5_sizeOf, Cond.selects RX5 yX5_sizeOf yX5_sizeOf, Cond.initialized RX5, Cond.code yX5_sizeOf cX5_sizeOf 2 (some .int), Cond.fieldLink RX5 19 "BathBook$Tables" "sizes" "[I", Cond.methodLink RX6 139 yX5_commonLower, Cond.instanceMethod yX5_commonLower, Cond.selects RX5 yX5_commonLower yX5_commonLower, Cond.code yX5_commonLower cX5_commonLower 5 (some .long), Cond.fieldLink RX5 11 "BathBook$Tables" "xs" "[[I", Cond.methodLink RX5 23 yX5_productWithout]
def wsX6_curve_r2 : List Cond := [Cond.instanceMethod yX5_productWithout, Cond.selects RX5 yX5_productWithout yX5_productWithout, Cond.code yX5_productWithout cX5_productWithout 7 (some .long), Cond.static yX6_leastMultiple, Cond.code yX6_leastMultiple cX6_leastMultiple 6 (some .long), Cond.methodLink RX6 153 Lib.MathLoose.abs_long.x, Cond.static Lib.MathLoose.abs_long.x, Cond.initialized "java/lang/Math", Cond.code Lib.MathLoose.abs_long.x Lib.MathLoose.abs_long.code 2 (some .long), Cond.methodLink RX6 283 yX6_greatestDivisor, Cond.static yX6_greatestDivisor, Cond.code yX6_greatestDivisor cX6_greatestDivisor 11 (some .long), Cond.methodLink RX6 143 yX5_worthAt, Cond.instanceMethod yX5_worthAt, Cond.selects RX5 yX5_worthAt yX5_worthAt, Cond.code yX5_worthAt cX5_worthAt 10 (some .long), Cond.fieldLink RX5 16 "BathBook$Tables" "ys" "[[I", Cond.methodLink RX6 122 yX2_tell, Cond.instanceMethod yX2_tell, Cond.selects RX2 yX2_tell yX2_tell, Cond.initialized RX2, Cond.code yX2_tell cX2_tell 9 none, Cond.fieldLink RX2 7 "BathBook$Fraction" "top" "J", Cond.fieldLink RX2 13 "BathBook$Fraction" "bottom" "J"]
def wsX6_curve : List Cond := .code yX6_curve cX6_curve 5 (some .int) :: ((wsX6_curve_r1 ++ wsX6_curve_r2) ++ wsX60 ++ wsX50 ++ wsX20)
def wsX6_apart_r1 : List Cond := [Cond.fieldLink RX6 19 "BathBook" "tables" "LBathBook$Tables;", Cond.constantLong RX6 151 (-1), Cond.methodLink RX6 153 Lib.MathLoose.abs_long.x, Cond.static Lib.MathLoose.abs_long.x, Cond.initialized "java/lang/Math", Cond.code Lib.MathLoose.abs_long.x Lib.MathLoose.abs_long.code 2 (some .long), Cond.fieldLink RX6 47 "BathBook" "fraction" "LBathBook$Fraction;", Cond.methodLink RX6 126 yX6_isTable, Cond.static yX6_isTable, Cond.initialized RX6, Cond.code yX6_isTable cX6_isTable 1 (some .boolean), Cond.methodLink RX6 113 yX6_isBetween, Cond.static yX6_isBetween, Cond.code yX6_isBetween cX6_isBetween 3 (some .boolean), Cond.methodLink RX6 76 yX6_isWithin, Cond.static yX6_isWithin, Cond.code yX6_isWithin cX6_isWithin 2 (some .boolean), Cond.methodLink RX6 132 yX5_sizeOf, Cond.instanceMethod yX5_sizeOf, Cond.selects RX5 yX5_sizeOf yX5_sizeOf, Cond.initialized RX5, Cond.code yX5_sizeOf cX5_sizeOf 2 (some .int), Cond.fieldLink RX5 19 "BathBook$Tables" "sizes" "[I", Cond.methodLink RX6 139 yX5_commonLower]
def wsX6_apart_r2 : List Cond := [Cond.instanceMethod yX5_commonLower, Cond.selects RX5 yX5_commonLower yX5_commonLower, Cond.code yX5_commonLower cX5_commonLower 5 (some .long), Cond.fieldLink RX5 11 "BathBook$Tables" "xs" "[[I", Cond.methodLink RX5 23 yX5_productWithout, Cond.instanceMethod yX5_productWithout, Cond.selects RX5 yX5_productWithout yX5_productWithout, Cond.code yX5_productWithout cX5_productWithout 7 (some .long), Cond.static yX6_leastMultiple, Cond.code yX6_leastMultiple cX6_leastMultiple 6 (some .long), Cond.methodLink RX6 283 yX6_greatestDivisor, Cond.static yX6_greatestDivisor, Cond.code yX6_greatestDivisor cX6_greatestDivisor 11 (some .long), Cond.methodLink RX6 147 yX6_leastMultiple, Cond.methodLink RX6 143 yX5_worthAt, Cond.instanceMethod yX5_worthAt, Cond.selects RX5 yX5_worthAt yX5_worthAt, Cond.code yX5_worthAt cX5_worthAt 10 (some .long), Cond.fieldLink RX5 16 "BathBook$Tables" "ys" "[[I", Cond.methodLink RX6 122 yX2_tell, Cond.instanceMethod yX2_tell, Cond.selects RX2 yX2_tell yX2_tell, Cond.initialized RX2, Cond.code yX2_tell cX2_tell 9 none]
def wsX6_apart_r3 : List Cond := [Cond.fieldLink RX2 7 "BathBook$Fraction" "top" "J", Cond.fieldLink RX2 13 "BathBook$Fraction" "bottom" "J"]
def wsX6_apart : List Cond := .code yX6_apart cX6_apart 13 (some .int) :: ((wsX6_apart_r1 ++ (wsX6_apart_r2 ++ wsX6_apart_r3)) ++ wsX60 ++ wsX50 ++ wsX20)
def wsX6_bulb : List Cond := .code yX6_bulb cX6_bulb 3 (some .int) :: ([.fieldLink RX6 26 "BathBook" "bulbs" "LBathBook$Bulbs;", .methodLink RX6 113 yX6_isBetween, .static yX6_isBetween, .initialized RX6, .code yX6_isBetween cX6_isBetween 3 (some .boolean), .methodLink RX6 159 yX0_size, .instanceMethod yX0_size, .selects RX0 yX0_size yX0_size, .initialized RX0, .code yX0_size cX0_size 1 (some .int), .fieldLink RX0 18 "BathBook$Bulbs" "made" "I", .methodLink RX6 163 yX0_add, .instanceMethod yX0_add, .selects RX0 yX0_add yX0_add, .code yX0_add cX0_add 3 (some .int), .fieldLink RX0 9 "BathBook$Bulbs" "kinds" "[I", .fieldLink RX0 15 "BathBook$Bulbs" "tolerances" "[I"] ++ wsX60 ++ wsX00)
def wsX6_told_r1 : List Cond := [Cond.fieldLink RX6 26 "BathBook" "bulbs" "LBathBook$Bulbs;", Cond.fieldLink RX6 33 "BathBook" "certificates" "LBathBook$Certificates;", Cond.methodLink RX6 165 yX0_has, Cond.instanceMethod yX0_has, Cond.selects RX0 yX0_has yX0_has, Cond.initialized RX0, Cond.code yX0_has cX0_has 2 (some .boolean), Cond.fieldLink RX0 18 "BathBook$Bulbs" "made" "I", Cond.static yX6_isBetween, Cond.initialized RX6, Cond.code yX6_isBetween cX6_isBetween 3 (some .boolean), Cond.methodLink RX6 168 yX0_kindOf, Cond.instanceMethod yX0_kindOf, Cond.selects RX0 yX0_kindOf yX0_kindOf, Cond.code yX0_kindOf cX0_kindOf 2 (some .int), Cond.fieldLink RX0 9 "BathBook$Bulbs" "kinds" "[I", Cond.methodLink RX6 171 yX0_toleranceOf, Cond.instanceMethod yX0_toleranceOf, Cond.selects RX0 yX0_toleranceOf yX0_toleranceOf, Cond.code yX0_toleranceOf cX0_toleranceOf 2 (some .int), Cond.fieldLink RX0 15 "BathBook$Bulbs" "tolerances" "[I", Cond.methodLink RX6 174 yX1_countOf, Cond.instanceMethod yX1_countOf, Cond.selects RX1 yX1_countOf yX1_countOf]
def wsX6_told_r2 : List Cond := [Cond.initialized RX1, Cond.code yX1_countOf cX1_countOf 6 (some .int), Cond.fieldLink RX1 16 "BathBook$Certificates" "made" "I", Cond.fieldLink RX1 13 "BathBook$Certificates" "facts" "[[I", Cond.methodLink RX6 178 yX1_latestOf, Cond.instanceMethod yX1_latestOf, Cond.selects RX1 yX1_latestOf yX1_latestOf, Cond.code yX1_latestOf cX1_latestOf 2 (some .int), Cond.constant RX1 30 (100000), Cond.methodLink RX1 31 yX1_lastUntil, Cond.instanceMethod yX1_lastUntil, Cond.selects RX1 yX1_lastUntil yX1_lastUntil, Cond.code yX1_lastUntil cX1_lastUntil 5 (some .int), Cond.methodLink RX1 24 Lib.Math.min.name, Cond.static Lib.Math.min.name, Cond.initialized "java/lang/Math", Cond.code Lib.Math.min.name Lib.Math.min.code 2 (some .int)]
def wsX6_told : List Cond := .code yX6_told cX6_told 3 (some .int) :: ((wsX6_told_r1 ++ wsX6_told_r2) ++ wsX60 ++ wsX00 ++ wsX10)
def wsX6_mark_r1 : List Cond := [Cond.fieldLink RX6 26 "BathBook" "bulbs" "LBathBook$Bulbs;", Cond.fieldLink RX6 33 "BathBook" "certificates" "LBathBook$Certificates;", Cond.methodLink RX6 165 yX0_has, Cond.instanceMethod yX0_has, Cond.selects RX0 yX0_has yX0_has, Cond.initialized RX0, Cond.code yX0_has cX0_has 2 (some .boolean), Cond.fieldLink RX0 18 "BathBook$Bulbs" "made" "I", Cond.static yX6_isBetween, Cond.initialized RX6, Cond.code yX6_isBetween cX6_isBetween 3 (some .boolean), Cond.methodLink RX6 113 yX6_isBetween, Cond.methodLink RX6 181 yX0_isOf, Cond.instanceMethod yX0_isOf, Cond.selects RX0 yX0_isOf yX0_isOf, Cond.code yX0_isOf cX0_isOf 3 (some .boolean), Cond.fieldLink RX0 9 "BathBook$Bulbs" "kinds" "[I", Cond.methodLink RX6 67 yX6_refuse, Cond.instanceMethod yX6_refuse, Cond.selects RX6 yX6_refuse yX6_refuse, Cond.code yX6_refuse cX6_refuse 2 (some .int), Cond.fieldLink RX6 55 "BathBook" "lastFinding" "I", Cond.fieldLink RX6 51 "BathBook" "findingCounts" "[I", Cond.methodLink RX6 171 yX0_toleranceOf]
def wsX6_mark_r2 : List Cond := [Cond.instanceMethod yX0_toleranceOf, Cond.selects RX0 yX0_toleranceOf yX0_toleranceOf, Cond.code yX0_toleranceOf cX0_toleranceOf 2 (some .int), Cond.fieldLink RX0 15 "BathBook$Bulbs" "tolerances" "[I", Cond.methodLink RX6 174 yX1_countOf, Cond.instanceMethod yX1_countOf, Cond.selects RX1 yX1_countOf yX1_countOf, Cond.initialized RX1, Cond.code yX1_countOf cX1_countOf 6 (some .int), Cond.fieldLink RX1 16 "BathBook$Certificates" "made" "I", Cond.fieldLink RX1 13 "BathBook$Certificates" "facts" "[[I", Cond.methodLink RX6 184 yX1_countOverBulb, Cond.instanceMethod yX1_countOverBulb, Cond.selects RX1 yX1_countOverBulb yX1_countOverBulb, Cond.code yX1_countOverBulb cX1_countOverBulb 4 (some .int), Cond.methodLink RX1 46 yX1_isOverBulb, Cond.instanceMethod yX1_isOverBulb, Cond.selects RX1 yX1_isOverBulb yX1_isOverBulb, Cond.code yX1_isOverBulb cX1_isOverBulb 5 (some .boolean), Cond.methodLink RX1 39 yX1_has, Cond.instanceMethod yX1_has, Cond.selects RX1 yX1_has yX1_has, Cond.code yX1_has cX1_has 2 (some .boolean)]
def wsX6_mark : List Cond := .code yX6_mark cX6_mark 3 (some .int) :: ((wsX6_mark_r1 ++ wsX6_mark_r2) ++ wsX60 ++ wsX00 ++ wsX10)
def wsX6_stem_r1 : List Cond := [Cond.fieldLink RX6 26 "BathBook" "bulbs" "LBathBook$Bulbs;", Cond.constant RX6 75 (100000), Cond.fieldLink RX6 47 "BathBook" "fraction" "LBathBook$Fraction;", Cond.constantLong RX6 187 (100000), Cond.constantLong RX6 189 (16), Cond.methodLink RX6 165 yX0_has, Cond.instanceMethod yX0_has, Cond.selects RX0 yX0_has yX0_has, Cond.initialized RX0, Cond.code yX0_has cX0_has 2 (some .boolean), Cond.fieldLink RX0 18 "BathBook$Bulbs" "made" "I", Cond.static yX6_isBetween, Cond.initialized RX6, Cond.code yX6_isBetween cX6_isBetween 3 (some .boolean), Cond.methodLink RX6 76 yX6_isWithin, Cond.static yX6_isWithin, Cond.code yX6_isWithin cX6_isWithin 2 (some .boolean), Cond.methodLink RX6 113 yX6_isBetween, Cond.methodLink RX6 181 yX0_isOf, Cond.instanceMethod yX0_isOf, Cond.selects RX0 yX0_isOf yX0_isOf, Cond.code yX0_isOf cX0_isOf 3 (some .boolean), Cond.fieldLink RX0 9 "BathBook$Bulbs" "kinds" "[I", Cond.methodLink RX6 67 yX6_refuse]
def wsX6_stem_r2 : List Cond := [Cond.instanceMethod yX6_refuse, Cond.selects RX6 yX6_refuse yX6_refuse, Cond.code yX6_refuse cX6_refuse 2 (some .int), Cond.fieldLink RX6 55 "BathBook" "lastFinding" "I", Cond.fieldLink RX6 51 "BathBook" "findingCounts" "[I", Cond.methodLink RX6 122 yX2_tell, Cond.instanceMethod yX2_tell, Cond.selects RX2 yX2_tell yX2_tell, Cond.initialized RX2, Cond.code yX2_tell cX2_tell 9 none, Cond.fieldLink RX2 7 "BathBook$Fraction" "top" "J", Cond.fieldLink RX2 13 "BathBook$Fraction" "bottom" "J", Cond.static yX6_greatestDivisor, Cond.code yX6_greatestDivisor cX6_greatestDivisor 11 (some .long), Cond.methodLink RX6 153 Lib.MathLoose.abs_long.x, Cond.static Lib.MathLoose.abs_long.x, Cond.initialized "java/lang/Math", Cond.code Lib.MathLoose.abs_long.x Lib.MathLoose.abs_long.code 2 (some .long)]
def wsX6_stem : List Cond := .code yX6_stem cX6_stem 6 (some .int) :: ((wsX6_stem_r1 ++ wsX6_stem_r2) ++ wsX60 ++ wsX00 ++ wsX20)
def wsX6_currents_r1 : List Cond := [Cond.fieldLink RX6 26 "BathBook" "bulbs" "LBathBook$Bulbs;", Cond.constant RX6 75 (100000), Cond.fieldLink RX6 47 "BathBook" "fraction" "LBathBook$Fraction;", Cond.methodLink RX6 165 yX0_has, Cond.instanceMethod yX0_has, Cond.selects RX0 yX0_has yX0_has, Cond.initialized RX0, Cond.code yX0_has cX0_has 2 (some .boolean), Cond.fieldLink RX0 18 "BathBook$Bulbs" "made" "I", Cond.static yX6_isBetween, Cond.initialized RX6, Cond.code yX6_isBetween cX6_isBetween 3 (some .boolean), Cond.methodLink RX6 76 yX6_isWithin, Cond.static yX6_isWithin, Cond.code yX6_isWithin cX6_isWithin 2 (some .boolean), Cond.methodLink RX6 113 yX6_isBetween, Cond.methodLink RX6 181 yX0_isOf, Cond.instanceMethod yX0_isOf, Cond.selects RX0 yX0_isOf yX0_isOf, Cond.code yX0_isOf cX0_isOf 3 (some .boolean), Cond.fieldLink RX0 9 "BathBook$Bulbs" "kinds" "[I", Cond.methodLink RX6 67 yX6_refuse, Cond.instanceMethod yX6_refuse, Cond.selects RX6 yX6_refuse yX6_refuse]
def wsX6_currents_r2 : List Cond := [Cond.code yX6_refuse cX6_refuse 2 (some .int), Cond.fieldLink RX6 55 "BathBook" "lastFinding" "I", Cond.fieldLink RX6 51 "BathBook" "findingCounts" "[I", Cond.methodLink RX6 122 yX2_tell, Cond.instanceMethod yX2_tell, Cond.selects RX2 yX2_tell yX2_tell, Cond.initialized RX2, Cond.code yX2_tell cX2_tell 9 none, Cond.fieldLink RX2 7 "BathBook$Fraction" "top" "J", Cond.fieldLink RX2 13 "BathBook$Fraction" "bottom" "J", Cond.static yX6_greatestDivisor, Cond.code yX6_greatestDivisor cX6_greatestDivisor 11 (some .long), Cond.methodLink RX6 153 Lib.MathLoose.abs_long.x, Cond.static Lib.MathLoose.abs_long.x, Cond.initialized "java/lang/Math", Cond.code Lib.MathLoose.abs_long.x Lib.MathLoose.abs_long.code 2 (some .long)]
def wsX6_currents : List Cond := .code yX6_currents cX6_currents 10 (some .int) :: ((wsX6_currents_r1 ++ wsX6_currents_r2) ++ wsX60 ++ wsX00 ++ wsX20)
def wsX6_compare_r1 : List Cond := [Cond.fieldLink RX6 10 "BathBook" "rows" "LBathBook$Rows;", Cond.fieldLink RX6 47 "BathBook" "fraction" "LBathBook$Fraction;", Cond.constantLong RX6 194 (2), Cond.methodLink RX6 63 yX6_isRow, Cond.static yX6_isRow, Cond.initialized RX6, Cond.code yX6_isRow cX6_isRow 1 (some .boolean), Cond.methodLink RX6 113 yX6_isBetween, Cond.static yX6_isBetween, Cond.code yX6_isBetween cX6_isBetween 3 (some .boolean), Cond.methodLink RX6 80 yX4_isMissing, Cond.instanceMethod yX4_isMissing, Cond.selects RX4 yX4_isMissing yX4_isMissing, Cond.initialized RX4, Cond.code yX4_isMissing cX4_isMissing 2 (some .boolean), Cond.fieldLink RX4 16 "BathBook$Rows" "sizes" "[I", Cond.methodLink RX6 67 yX6_refuse, Cond.instanceMethod yX6_refuse, Cond.selects RX6 yX6_refuse yX6_refuse, Cond.code yX6_refuse cX6_refuse 2 (some .int), Cond.fieldLink RX6 55 "BathBook" "lastFinding" "I", Cond.fieldLink RX6 51 "BathBook" "findingCounts" "[I", Cond.methodLink RX6 106 yX4_sizeOf, Cond.instanceMethod yX4_sizeOf]
def wsX6_compare_r2 : List Cond := [Cond.selects RX4 yX4_sizeOf yX4_sizeOf, Cond.code yX4_sizeOf cX4_sizeOf 2 (some .int), Cond.methodLink RX6 103 yX4_heldCount, Cond.instanceMethod yX4_heldCount, Cond.selects RX4 yX4_heldCount yX4_heldCount, Cond.code yX4_heldCount cX4_heldCount 4 (some .int), Cond.fieldLink RX4 11 "BathBook$Rows" "readings" "[[I", Cond.methodLink RX6 191 yX4_mirrorSum, Cond.instanceMethod yX4_mirrorSum, Cond.selects RX4 yX4_mirrorSum yX4_mirrorSum, Cond.code yX4_mirrorSum cX4_mirrorSum 3 (some .int), Cond.methodLink RX6 122 yX2_tell, Cond.instanceMethod yX2_tell, Cond.selects RX2 yX2_tell yX2_tell, Cond.initialized RX2, Cond.code yX2_tell cX2_tell 9 none, Cond.fieldLink RX2 7 "BathBook$Fraction" "top" "J", Cond.fieldLink RX2 13 "BathBook$Fraction" "bottom" "J", Cond.static yX6_greatestDivisor, Cond.code yX6_greatestDivisor cX6_greatestDivisor 11 (some .long), Cond.methodLink RX6 153 Lib.MathLoose.abs_long.x, Cond.static Lib.MathLoose.abs_long.x, Cond.initialized "java/lang/Math", Cond.code Lib.MathLoose.abs_long.x Lib.MathLoose.abs_long.code 2 (some .long)]
def wsX6_compare : List Cond := .code yX6_compare cX6_compare 5 (some .int) :: ((wsX6_compare_r1 ++ wsX6_compare_r2) ++ wsX60 ++ wsX40 ++ wsX20)
def wsX6_isBath : List Cond := .code yX6_isBath cX6_isBath 1 (some .boolean) :: ([.methodLink RX6 113 yX6_isBetween, .static yX6_isBetween, .initialized RX6, .code yX6_isBetween cX6_isBetween 3 (some .boolean)])
def wsX6_isDay : List Cond := .code yX6_isDay cX6_isDay 1 (some .boolean) :: ([.constant RX6 75 (100000), .methodLink RX6 113 yX6_isBetween, .static yX6_isBetween, .initialized RX6, .code yX6_isBetween cX6_isBetween 3 (some .boolean)])
def wsX6_certify_r1 : List Cond := [Cond.fieldLink RX6 26 "BathBook" "bulbs" "LBathBook$Bulbs;", Cond.fieldLink RX6 33 "BathBook" "certificates" "LBathBook$Certificates;", Cond.methodLink RX6 165 yX0_has, Cond.instanceMethod yX0_has, Cond.selects RX0 yX0_has yX0_has, Cond.initialized RX0, Cond.code yX0_has cX0_has 2 (some .boolean), Cond.fieldLink RX0 18 "BathBook$Bulbs" "made" "I", Cond.static yX6_isBetween, Cond.initialized RX6, Cond.code yX6_isBetween cX6_isBetween 3 (some .boolean), Cond.methodLink RX6 196 yX6_isBath, Cond.static yX6_isBath, Cond.code yX6_isBath cX6_isBath 1 (some .boolean), Cond.methodLink RX6 113 yX6_isBetween, Cond.methodLink RX6 199 yX6_isDay, Cond.static yX6_isDay, Cond.code yX6_isDay cX6_isDay 1 (some .boolean), Cond.constant RX6 75 (100000), Cond.methodLink RX6 76 yX6_isWithin, Cond.static yX6_isWithin, Cond.code yX6_isWithin cX6_isWithin 2 (some .boolean), Cond.methodLink RX6 202 yX1_size, Cond.instanceMethod yX1_size]
def wsX6_certify_r2 : List Cond := [Cond.selects RX1 yX1_size yX1_size, Cond.initialized RX1, Cond.code yX1_size cX1_size 1 (some .int), Cond.fieldLink RX1 16 "BathBook$Certificates" "made" "I", Cond.methodLink RX6 203 yX1_lastUntil, Cond.instanceMethod yX1_lastUntil, Cond.selects RX1 yX1_lastUntil yX1_lastUntil, Cond.code yX1_lastUntil cX1_lastUntil 5 (some .int), Cond.methodLink RX1 24 Lib.Math.min.name, Cond.static Lib.Math.min.name, Cond.initialized "java/lang/Math", Cond.code Lib.Math.min.name Lib.Math.min.code 2 (some .int), Cond.fieldLink RX1 13 "BathBook$Certificates" "facts" "[[I", Cond.methodLink RX6 206 yX1_add, Cond.instanceMethod yX1_add, Cond.selects RX1 yX1_add yX1_add, Cond.code yX1_add cX1_add 9 (some .int)]
def wsX6_certify : List Cond := .code yX6_certify cX6_certify 8 (some .int) :: ((wsX6_certify_r1 ++ wsX6_certify_r2) ++ wsX60 ++ wsX00 ++ wsX10)
def wsX6_certificate : List Cond := .code yX6_certificate cX6_certificate 3 (some .int) :: ([.fieldLink RX6 33 "BathBook" "certificates" "LBathBook$Certificates;", .methodLink RX6 209 yX1_has, .instanceMethod yX1_has, .selects RX1 yX1_has yX1_has, .initialized RX1, .code yX1_has cX1_has 2 (some .boolean), .fieldLink RX1 16 "BathBook$Certificates" "made" "I", .static yX6_isBetween, .initialized RX6, .code yX6_isBetween cX6_isBetween 3 (some .boolean), .methodLink RX6 113 yX6_isBetween, .methodLink RX6 210 yX1_fact, .instanceMethod yX1_fact, .selects RX1 yX1_fact yX1_fact, .code yX1_fact cX1_fact 3 (some .int), .fieldLink RX1 13 "BathBook$Certificates" "facts" "[[I"] ++ wsX60 ++ wsX10)
def wsX6_offset : List Cond := .code yX6_offset cX6_offset 2 (some .int) :: ([.fieldLink RX6 33 "BathBook" "certificates" "LBathBook$Certificates;", .fieldLink RX6 59 "BathBook" "lastAsked" "J", .methodLink RX6 209 yX1_has, .instanceMethod yX1_has, .selects RX1 yX1_has yX1_has, .initialized RX1, .code yX1_has cX1_has 2 (some .boolean), .fieldLink RX1 16 "BathBook$Certificates" "made" "I", .static yX6_isBetween, .initialized RX6, .code yX6_isBetween cX6_isBetween 3 (some .boolean), .methodLink RX6 210 yX1_fact, .instanceMethod yX1_fact, .selects RX1 yX1_fact yX1_fact, .code yX1_fact cX1_fact 3 (some .int), .fieldLink RX1 13 "BathBook$Certificates" "facts" "[[I"] ++ wsX60 ++ wsX10)
def wsX6_wrong_r1 : List Cond := [Cond.fieldLink RX6 33 "BathBook" "certificates" "LBathBook$Certificates;", Cond.methodLink RX6 196 yX6_isBath, Cond.static yX6_isBath, Cond.initialized RX6, Cond.code yX6_isBath cX6_isBath 1 (some .boolean), Cond.methodLink RX6 113 yX6_isBetween, Cond.static yX6_isBetween, Cond.code yX6_isBetween cX6_isBetween 3 (some .boolean), Cond.methodLink RX6 199 yX6_isDay, Cond.static yX6_isDay, Cond.code yX6_isDay cX6_isDay 1 (some .boolean), Cond.constant RX6 75 (100000), Cond.methodLink RX6 213 yX1_makeVoid, Cond.instanceMethod yX1_makeVoid, Cond.selects RX1 yX1_makeVoid yX1_makeVoid, Cond.initialized RX1, Cond.code yX1_makeVoid cX1_makeVoid 7 (some .int), Cond.fieldLink RX1 16 "BathBook$Certificates" "made" "I", Cond.fieldLink RX1 13 "BathBook$Certificates" "facts" "[[I", Cond.methodLink RX1 35 yX1_restsOnVoid, Cond.instanceMethod yX1_restsOnVoid, Cond.selects RX1 yX1_restsOnVoid yX1_restsOnVoid, Cond.code yX1_restsOnVoid cX1_restsOnVoid 3 (some .boolean), Cond.methodLink RX1 39 yX1_has]
def wsX6_wrong_r2 : List Cond := [Cond.instanceMethod yX1_has, Cond.selects RX1 yX1_has yX1_has, Cond.code yX1_has cX1_has 2 (some .boolean)]
def wsX6_wrong : List Cond := .code yX6_wrong cX6_wrong 4 (some .int) :: ((wsX6_wrong_r1 ++ wsX6_wrong_r2) ++ wsX60 ++ wsX10)
def wsX6_passes_r1 : List Cond := [Cond.fieldLink RX6 26 "BathBook" "bulbs" "LBathBook$Bulbs;", Cond.fieldLink RX6 33 "BathBook" "certificates" "LBathBook$Certificates;", Cond.methodLink RX6 216 Lib.Math.abs.name, Cond.static Lib.Math.abs.name, Cond.initialized "java/lang/Math", Cond.code Lib.Math.abs.name Lib.Math.abs.code 1 (some .int), Cond.methodLink RX6 165 yX0_has, Cond.instanceMethod yX0_has, Cond.selects RX0 yX0_has yX0_has, Cond.initialized RX0, Cond.code yX0_has cX0_has 2 (some .boolean), Cond.fieldLink RX0 18 "BathBook$Bulbs" "made" "I", Cond.static yX6_isBetween, Cond.initialized RX6, Cond.code yX6_isBetween cX6_isBetween 3 (some .boolean), Cond.methodLink RX6 178 yX1_latestOf, Cond.instanceMethod yX1_latestOf, Cond.selects RX1 yX1_latestOf yX1_latestOf, Cond.initialized RX1, Cond.code yX1_latestOf cX1_latestOf 2 (some .int), Cond.constant RX1 30 (100000), Cond.fieldLink RX1 16 "BathBook$Certificates" "made" "I", Cond.methodLink RX1 31 yX1_lastUntil, Cond.instanceMethod yX1_lastUntil]
def wsX6_passes_r2 : List Cond := [Cond.selects RX1 yX1_lastUntil yX1_lastUntil, Cond.code yX1_lastUntil cX1_lastUntil 5 (some .int), Cond.methodLink RX1 24 Lib.Math.min.name, Cond.static Lib.Math.min.name, Cond.code Lib.Math.min.name Lib.Math.min.code 2 (some .int), Cond.fieldLink RX1 13 "BathBook$Certificates" "facts" "[[I", Cond.methodLink RX6 210 yX1_fact, Cond.instanceMethod yX1_fact, Cond.selects RX1 yX1_fact yX1_fact, Cond.code yX1_fact cX1_fact 3 (some .int), Cond.methodLink RX6 171 yX0_toleranceOf, Cond.instanceMethod yX0_toleranceOf, Cond.selects RX0 yX0_toleranceOf yX0_toleranceOf, Cond.code yX0_toleranceOf cX0_toleranceOf 2 (some .int), Cond.fieldLink RX0 15 "BathBook$Bulbs" "tolerances" "[I"]
def wsX6_passes : List Cond := .code yX6_passes cX6_passes 4 (some .int) :: ((wsX6_passes_r1 ++ wsX6_passes_r2) ++ wsX60 ++ wsX00 ++ wsX10)
def wsX6_whole : List Cond := .code yX6_whole cX6_whole 2 (some .int) :: ([.fieldLink RX6 33 "BathBook" "certificates" "LBathBook$Certificates;", .fieldLink RX6 59 "BathBook" "lastAsked" "J", .methodLink RX6 209 yX1_has, .instanceMethod yX1_has, .selects RX1 yX1_has yX1_has, .initialized RX1, .code yX1_has cX1_has 2 (some .boolean), .fieldLink RX1 16 "BathBook$Certificates" "made" "I", .static yX6_isBetween, .initialized RX6, .code yX6_isBetween cX6_isBetween 3 (some .boolean), .methodLink RX6 218 yX1_squaredEnds, .instanceMethod yX1_squaredEnds, .selects RX1 yX1_squaredEnds yX1_squaredEnds, .code yX1_squaredEnds cX1_squaredEnds 8 (some .long), .fieldLink RX1 13 "BathBook$Certificates" "facts" "[[I", .methodLink RX1 39 yX1_has, .methodLink RX6 221 yX1_chainLength, .instanceMethod yX1_chainLength, .selects RX1 yX1_chainLength yX1_chainLength, .code yX1_chainLength cX1_chainLength 5 (some .int)] ++ wsX60 ++ wsX10)
def wsX6_driftRefusal_r1 : List Cond := [Cond.fieldLink RX6 26 "BathBook" "bulbs" "LBathBook$Bulbs;", Cond.fieldLink RX6 33 "BathBook" "certificates" "LBathBook$Certificates;", Cond.constant RX6 75 (100000), Cond.methodLink RX6 165 yX0_has, Cond.instanceMethod yX0_has, Cond.selects RX0 yX0_has yX0_has, Cond.initialized RX0, Cond.code yX0_has cX0_has 2 (some .boolean), Cond.fieldLink RX0 18 "BathBook$Bulbs" "made" "I", Cond.static yX6_isBetween, Cond.initialized RX6, Cond.code yX6_isBetween cX6_isBetween 3 (some .boolean), Cond.methodLink RX6 178 yX1_latestOf, Cond.instanceMethod yX1_latestOf, Cond.selects RX1 yX1_latestOf yX1_latestOf, Cond.initialized RX1, Cond.code yX1_latestOf cX1_latestOf 2 (some .int), Cond.constant RX1 30 (100000), Cond.fieldLink RX1 16 "BathBook$Certificates" "made" "I", Cond.methodLink RX1 31 yX1_lastUntil, Cond.instanceMethod yX1_lastUntil, Cond.selects RX1 yX1_lastUntil yX1_lastUntil, Cond.code yX1_lastUntil cX1_lastUntil 5 (some .int), Cond.methodLink RX1 24 Lib.Math.min.name]
def wsX6_driftRefusal_r2 : List Cond := [Cond.static Lib.Math.min.name, Cond.initialized "java/lang/Math", Cond.code Lib.Math.min.name Lib.Math.min.code 2 (some .int), Cond.fieldLink RX1 13 "BathBook$Certificates" "facts" "[[I", Cond.methodLink RX6 203 yX1_lastUntil, Cond.methodLink RX6 227 yX1_rise, Cond.instanceMethod yX1_rise, Cond.selects RX1 yX1_rise yX1_rise, Cond.code yX1_rise cX1_rise 4 (some .int), Cond.methodLink RX6 67 yX6_refuse, Cond.instanceMethod yX6_refuse, Cond.selects RX6 yX6_refuse yX6_refuse, Cond.code yX6_refuse cX6_refuse 2 (some .int), Cond.fieldLink RX6 55 "BathBook" "lastFinding" "I", Cond.fieldLink RX6 51 "BathBook" "findingCounts" "[I", Cond.methodLink RX6 113 yX6_isBetween]
def wsX6_driftRefusal : List Cond := .code yX6_driftRefusal cX6_driftRefusal 4 (some .int) :: ((wsX6_driftRefusal_r1 ++ wsX6_driftRefusal_r2) ++ wsX60 ++ wsX00 ++ wsX10)
def wsX6_drift_r1 : List Cond := [Cond.fieldLink RX6 33 "BathBook" "certificates" "LBathBook$Certificates;", Cond.constant RX6 75 (100000), Cond.fieldLink RX6 47 "BathBook" "fraction" "LBathBook$Fraction;", Cond.methodLink RX6 224 yX6_driftRefusal, Cond.instanceMethod yX6_driftRefusal, Cond.selects RX6 yX6_driftRefusal yX6_driftRefusal, Cond.initialized RX6, Cond.code yX6_driftRefusal cX6_driftRefusal 4 (some .int), Cond.fieldLink RX6 26 "BathBook" "bulbs" "LBathBook$Bulbs;", Cond.methodLink RX6 165 yX0_has, Cond.instanceMethod yX0_has, Cond.selects RX0 yX0_has yX0_has, Cond.initialized RX0, Cond.code yX0_has cX0_has 2 (some .boolean), Cond.fieldLink RX0 18 "BathBook$Bulbs" "made" "I", Cond.static yX6_isBetween, Cond.code yX6_isBetween cX6_isBetween 3 (some .boolean), Cond.methodLink RX6 178 yX1_latestOf, Cond.instanceMethod yX1_latestOf, Cond.selects RX1 yX1_latestOf yX1_latestOf, Cond.initialized RX1, Cond.code yX1_latestOf cX1_latestOf 2 (some .int), Cond.constant RX1 30 (100000), Cond.fieldLink RX1 16 "BathBook$Certificates" "made" "I"]
def wsX6_drift_r2 : List Cond := [Cond.methodLink RX1 31 yX1_lastUntil, Cond.instanceMethod yX1_lastUntil, Cond.selects RX1 yX1_lastUntil yX1_lastUntil, Cond.code yX1_lastUntil cX1_lastUntil 5 (some .int), Cond.methodLink RX1 24 Lib.Math.min.name, Cond.static Lib.Math.min.name, Cond.initialized "java/lang/Math", Cond.code Lib.Math.min.name Lib.Math.min.code 2 (some .int), Cond.fieldLink RX1 13 "BathBook$Certificates" "facts" "[[I", Cond.methodLink RX6 203 yX1_lastUntil, Cond.methodLink RX6 227 yX1_rise, Cond.instanceMethod yX1_rise, Cond.selects RX1 yX1_rise yX1_rise, Cond.code yX1_rise cX1_rise 4 (some .int), Cond.methodLink RX6 67 yX6_refuse, Cond.instanceMethod yX6_refuse, Cond.selects RX6 yX6_refuse yX6_refuse, Cond.code yX6_refuse cX6_refuse 2 (some .int), Cond.fieldLink RX6 55 "BathBook" "lastFinding" "I", Cond.fieldLink RX6 51 "BathBook" "findingCounts" "[I", Cond.methodLink RX6 113 yX6_isBetween, Cond.methodLink RX6 122 yX2_tell, Cond.instanceMethod yX2_tell, Cond.selects RX2 yX2_tell yX2_tell]
def wsX6_drift_r3 : List Cond := [Cond.initialized RX2, Cond.code yX2_tell cX2_tell 9 none, Cond.fieldLink RX2 7 "BathBook$Fraction" "top" "J", Cond.fieldLink RX2 13 "BathBook$Fraction" "bottom" "J", Cond.static yX6_greatestDivisor, Cond.code yX6_greatestDivisor cX6_greatestDivisor 11 (some .long), Cond.methodLink RX6 153 Lib.MathLoose.abs_long.x, Cond.static Lib.MathLoose.abs_long.x, Cond.code Lib.MathLoose.abs_long.x Lib.MathLoose.abs_long.code 2 (some .long)]
def wsX6_drift : List Cond := .code yX6_drift cX6_drift 5 (some .int) :: ((wsX6_drift_r1 ++ (wsX6_drift_r2 ++ wsX6_drift_r3)) ++ wsX60 ++ wsX00 ++ wsX10 ++ wsX20)
def wsX6_daysWithin : List Cond := .code yX6_daysWithin cX6_daysWithin 14 (some .long) :: ([.methodLink RX6 153 Lib.MathLoose.abs_long.x, .static Lib.MathLoose.abs_long.x, .initialized "java/lang/Math", .code Lib.MathLoose.abs_long.x Lib.MathLoose.abs_long.code 2 (some .long), .constantLong RX6 234 (100001)])
def wsX6_due_r1 : List Cond := [Cond.fieldLink RX6 33 "BathBook" "certificates" "LBathBook$Certificates;", Cond.constant RX6 75 (100000), Cond.fieldLink RX6 26 "BathBook" "bulbs" "LBathBook$Bulbs;", Cond.constantLong RX6 234 (100001), Cond.methodLink RX6 236 Lib.MathLoose.min_long.x, Cond.static Lib.MathLoose.min_long.x, Cond.initialized "java/lang/Math", Cond.code Lib.MathLoose.min_long.x Lib.MathLoose.min_long.code 4 (some .long), Cond.methodLink RX6 224 yX6_driftRefusal, Cond.instanceMethod yX6_driftRefusal, Cond.selects RX6 yX6_driftRefusal yX6_driftRefusal, Cond.initialized RX6, Cond.code yX6_driftRefusal cX6_driftRefusal 4 (some .int), Cond.methodLink RX6 165 yX0_has, Cond.instanceMethod yX0_has, Cond.selects RX0 yX0_has yX0_has, Cond.initialized RX0, Cond.code yX0_has cX0_has 2 (some .boolean), Cond.fieldLink RX0 18 "BathBook$Bulbs" "made" "I", Cond.static yX6_isBetween, Cond.code yX6_isBetween cX6_isBetween 3 (some .boolean), Cond.methodLink RX6 178 yX1_latestOf, Cond.instanceMethod yX1_latestOf, Cond.selects RX1 yX1_latestOf yX1_latestOf]
def wsX6_due_r2 : List Cond := [Cond.initialized RX1, Cond.code yX1_latestOf cX1_latestOf 2 (some .int), Cond.constant RX1 30 (100000), Cond.fieldLink RX1 16 "BathBook$Certificates" "made" "I", Cond.methodLink RX1 31 yX1_lastUntil, Cond.instanceMethod yX1_lastUntil, Cond.selects RX1 yX1_lastUntil yX1_lastUntil, Cond.code yX1_lastUntil cX1_lastUntil 5 (some .int), Cond.methodLink RX1 24 Lib.Math.min.name, Cond.static Lib.Math.min.name, Cond.code Lib.Math.min.name Lib.Math.min.code 2 (some .int), Cond.fieldLink RX1 13 "BathBook$Certificates" "facts" "[[I", Cond.methodLink RX6 203 yX1_lastUntil, Cond.methodLink RX6 227 yX1_rise, Cond.instanceMethod yX1_rise, Cond.selects RX1 yX1_rise yX1_rise, Cond.code yX1_rise cX1_rise 4 (some .int), Cond.methodLink RX6 67 yX6_refuse, Cond.instanceMethod yX6_refuse, Cond.selects RX6 yX6_refuse yX6_refuse, Cond.code yX6_refuse cX6_refuse 2 (some .int), Cond.fieldLink RX6 55 "BathBook" "lastFinding" "I", Cond.fieldLink RX6 51 "BathBook" "findingCounts" "[I", Cond.methodLink RX6 113 yX6_isBetween]
def wsX6_due_r3 : List Cond := [Cond.methodLink RX6 171 yX0_toleranceOf, Cond.instanceMethod yX0_toleranceOf, Cond.selects RX0 yX0_toleranceOf yX0_toleranceOf, Cond.code yX0_toleranceOf cX0_toleranceOf 2 (some .int), Cond.fieldLink RX0 15 "BathBook$Bulbs" "tolerances" "[I", Cond.methodLink RX6 210 yX1_fact, Cond.instanceMethod yX1_fact, Cond.selects RX1 yX1_fact yX1_fact, Cond.code yX1_fact cX1_fact 3 (some .int), Cond.methodLink RX6 230 yX6_daysWithin, Cond.static yX6_daysWithin, Cond.code yX6_daysWithin cX6_daysWithin 14 (some .long), Cond.methodLink RX6 153 Lib.MathLoose.abs_long.x, Cond.static Lib.MathLoose.abs_long.x, Cond.code Lib.MathLoose.abs_long.x Lib.MathLoose.abs_long.code 2 (some .long)]
def wsX6_due : List Cond := .code yX6_due cX6_due 13 (some .int) :: ((wsX6_due_r1 ++ (wsX6_due_r2 ++ wsX6_due_r3)) ++ wsX60 ++ wsX00 ++ wsX10)
def wsX6_resting : List Cond := .code yX6_resting cX6_resting 2 (some .int) :: ([.fieldLink RX6 33 "BathBook" "certificates" "LBathBook$Certificates;", .methodLink RX6 209 yX1_has, .instanceMethod yX1_has, .selects RX1 yX1_has yX1_has, .initialized RX1, .code yX1_has cX1_has 2 (some .boolean), .fieldLink RX1 16 "BathBook$Certificates" "made" "I", .static yX6_isBetween, .initialized RX6, .code yX6_isBetween cX6_isBetween 3 (some .boolean), .methodLink RX6 239 yX1_countOver, .instanceMethod yX1_countOver, .selects RX1 yX1_countOver yX1_countOver, .code yX1_countOver cX1_countOver 4 (some .int), .methodLink RX1 42 yX1_isOver, .instanceMethod yX1_isOver, .selects RX1 yX1_isOver yX1_isOver, .code yX1_isOver cX1_isOver 5 (some .boolean), .fieldLink RX1 13 "BathBook$Certificates" "facts" "[[I", .methodLink RX1 39 yX1_has] ++ wsX60 ++ wsX10)
def wsX6_isLab : List Cond := .code yX6_isLab cX6_isLab 1 (some .boolean) :: ([.methodLink RX6 113 yX6_isBetween, .static yX6_isBetween, .initialized RX6, .code yX6_isBetween cX6_isBetween 3 (some .boolean)])
def wsX6_lab : List Cond := .code yX6_lab cX6_lab 5 (some .int) :: ([.fieldLink RX6 40 "BathBook" "round" "LBathBook$Round;", .methodLink RX6 242 yX6_isLab, .static yX6_isLab, .initialized RX6, .code yX6_isLab cX6_isLab 1 (some .boolean), .methodLink RX6 113 yX6_isBetween, .static yX6_isBetween, .code yX6_isBetween cX6_isBetween 3 (some .boolean), .methodLink RX6 76 yX6_isWithin, .static yX6_isWithin, .code yX6_isWithin cX6_isWithin 2 (some .boolean), .methodLink RX6 245 yX3_put, .instanceMethod yX3_put, .selects RX3 yX3_put yX3_put, .initialized RX3, .code yX3_put cX3_put 5 none, .fieldLink RX3 11 "BathBook$Round" "differences" "[[I", .fieldLink RX3 16 "BathBook$Round" "ends" "[[I"] ++ wsX60 ++ wsX30)
def wsX6_closes_r1 : List Cond := [Cond.fieldLink RX6 40 "BathBook" "round" "LBathBook$Round;", Cond.fieldLink RX6 59 "BathBook" "lastAsked" "J", Cond.methodLink RX6 242 yX6_isLab, Cond.static yX6_isLab, Cond.initialized RX6, Cond.code yX6_isLab cX6_isLab 1 (some .boolean), Cond.methodLink RX6 113 yX6_isBetween, Cond.static yX6_isBetween, Cond.code yX6_isBetween cX6_isBetween 3 (some .boolean), Cond.methodLink RX6 248 yX3_isKnown, Cond.instanceMethod yX3_isKnown, Cond.selects RX3 yX3_isKnown yX3_isKnown, Cond.initialized RX3, Cond.code yX3_isKnown cX3_isKnown 4 (some .boolean), Cond.fieldLink RX3 16 "BathBook$Round" "ends" "[[I", Cond.methodLink RX6 251 yX3_gap, Cond.instanceMethod yX3_gap, Cond.selects RX3 yX3_gap yX3_gap, Cond.code yX3_gap cX3_gap 4 (some .int), Cond.fieldLink RX3 11 "BathBook$Round" "differences" "[[I", Cond.methodLink RX6 254 yX3_isShut, Cond.instanceMethod yX3_isShut, Cond.selects RX3 yX3_isShut yX3_isShut, Cond.code yX3_isShut cX3_isShut 4 (some .boolean)]
def wsX6_closes_r2 : List Cond := [Cond.methodLink RX3 29 Lib.Math.abs.name, Cond.static Lib.Math.abs.name, Cond.initialized "java/lang/Math", Cond.code Lib.Math.abs.name Lib.Math.abs.code 1 (some .int), Cond.methodLink RX3 25 yX3_gap]
def wsX6_closes : List Cond := .code yX6_closes cX6_closes 4 (some .int) :: ((wsX6_closes_r1 ++ wsX6_closes_r2) ++ wsX60 ++ wsX30)
def wsX6_open : List Cond := .code yX6_open cX6_open 5 (some .int) :: ([.fieldLink RX6 40 "BathBook" "round" "LBathBook$Round;", .methodLink RX6 248 yX3_isKnown, .instanceMethod yX3_isKnown, .selects RX3 yX3_isKnown yX3_isKnown, .initialized RX3, .code yX3_isKnown cX3_isKnown 4 (some .boolean), .fieldLink RX3 16 "BathBook$Round" "ends" "[[I", .methodLink RX6 254 yX3_isShut, .instanceMethod yX3_isShut, .selects RX3 yX3_isShut yX3_isShut, .code yX3_isShut cX3_isShut 4 (some .boolean), .methodLink RX3 29 Lib.Math.abs.name, .static Lib.Math.abs.name, .initialized "java/lang/Math", .code Lib.Math.abs.name Lib.Math.abs.code 1 (some .int), .methodLink RX3 25 yX3_gap, .instanceMethod yX3_gap, .selects RX3 yX3_gap yX3_gap, .code yX3_gap cX3_gap 4 (some .int), .fieldLink RX3 11 "BathBook$Round" "differences" "[[I"] ++ wsX60 ++ wsX30)
def wsX6_asked : List Cond := .code yX6_asked cX6_asked 1 (some .long) :: ([.fieldLink RX6 59 "BathBook" "lastAsked" "J"] ++ wsX60)
def wsX6_upper : List Cond := .code yX6_upper cX6_upper 1 (some .long) :: ([.fieldLink RX6 47 "BathBook" "fraction" "LBathBook$Fraction;"] ++ wsX60 ++ wsX20)
def wsX6_lower : List Cond := .code yX6_lower cX6_lower 1 (some .long) :: ([.fieldLink RX6 47 "BathBook" "fraction" "LBathBook$Fraction;"] ++ wsX60 ++ wsX20)
def wsX6_count_r1 : List Cond := [Cond.fieldLink RX6 10 "BathBook" "rows" "LBathBook$Rows;", Cond.fieldLink RX6 19 "BathBook" "tables" "LBathBook$Tables;", Cond.fieldLink RX6 26 "BathBook" "bulbs" "LBathBook$Bulbs;", Cond.fieldLink RX6 33 "BathBook" "certificates" "LBathBook$Certificates;", Cond.methodLink RX6 263 yX4_presentCount, Cond.instanceMethod yX4_presentCount, Cond.selects RX4 yX4_presentCount yX4_presentCount, Cond.initialized RX4, Cond.code yX4_presentCount cX4_presentCount 3 (some .int), Cond.fieldLink RX4 16 "BathBook$Rows" "sizes" "[I", Cond.methodLink RX6 266 yX5_pointCount, Cond.instanceMethod yX5_pointCount, Cond.selects RX5 yX5_pointCount yX5_pointCount, Cond.initialized RX5, Cond.code yX5_pointCount cX5_pointCount 3 (some .int), Cond.fieldLink RX5 19 "BathBook$Tables" "sizes" "[I", Cond.methodLink RX6 159 yX0_size, Cond.instanceMethod yX0_size, Cond.selects RX0 yX0_size yX0_size, Cond.initialized RX0, Cond.code yX0_size cX0_size 1 (some .int), Cond.fieldLink RX0 18 "BathBook$Bulbs" "made" "I", Cond.methodLink RX6 202 yX1_size, Cond.instanceMethod yX1_size]
def wsX6_count_r2 : List Cond := [Cond.selects RX1 yX1_size yX1_size, Cond.initialized RX1, Cond.code yX1_size cX1_size 1 (some .int), Cond.fieldLink RX1 16 "BathBook$Certificates" "made" "I", Cond.methodLink RX6 174 yX1_countOf, Cond.instanceMethod yX1_countOf, Cond.selects RX1 yX1_countOf yX1_countOf, Cond.code yX1_countOf cX1_countOf 6 (some .int), Cond.fieldLink RX1 13 "BathBook$Certificates" "facts" "[[I"]
def wsX6_count : List Cond := .code yX6_count cX6_count 2 (some .int) :: ((wsX6_count_r1 ++ wsX6_count_r2) ++ wsX60 ++ wsX40 ++ wsX50 ++ wsX00 ++ wsX10)
def wsX6_finding : List Cond := .code yX6_finding cX6_finding 1 (some .int) :: ([.fieldLink RX6 55 "BathBook" "lastFinding" "I"] ++ wsX60)
def wsX6_findings : List Cond := .code yX6_findings cX6_findings 2 (some .int) :: ([.fieldLink RX6 51 "BathBook" "findingCounts" "[I", .methodLink RX6 113 yX6_isBetween, .static yX6_isBetween, .initialized RX6, .code yX6_isBetween cX6_isBetween 3 (some .boolean)] ++ wsX60)
def wsX6_digest_r1 : List Cond := [Cond.constantLong RX6 269 (17), Cond.constantLong RX6 271 (31), Cond.fieldLink RX6 26 "BathBook" "bulbs" "LBathBook$Bulbs;", Cond.fieldLink RX6 33 "BathBook" "certificates" "LBathBook$Certificates;", Cond.fieldLink RX6 10 "BathBook" "rows" "LBathBook$Rows;", Cond.methodLink RX6 273 yX6_count, Cond.instanceMethod yX6_count, Cond.selects RX6 yX6_count yX6_count, Cond.initialized RX6, Cond.code yX6_count cX6_count 2 (some .int), Cond.fieldLink RX6 19 "BathBook" "tables" "LBathBook$Tables;", Cond.methodLink RX6 263 yX4_presentCount, Cond.instanceMethod yX4_presentCount, Cond.selects RX4 yX4_presentCount yX4_presentCount, Cond.initialized RX4, Cond.code yX4_presentCount cX4_presentCount 3 (some .int), Cond.fieldLink RX4 16 "BathBook$Rows" "sizes" "[I", Cond.methodLink RX6 266 yX5_pointCount, Cond.instanceMethod yX5_pointCount, Cond.selects RX5 yX5_pointCount yX5_pointCount, Cond.initialized RX5, Cond.code yX5_pointCount cX5_pointCount 3 (some .int), Cond.fieldLink RX5 19 "BathBook$Tables" "sizes" "[I", Cond.methodLink RX6 159 yX0_size]
def wsX6_digest_r2 : List Cond := [Cond.instanceMethod yX0_size, Cond.selects RX0 yX0_size yX0_size, Cond.initialized RX0, Cond.code yX0_size cX0_size 1 (some .int), Cond.fieldLink RX0 18 "BathBook$Bulbs" "made" "I", Cond.methodLink RX6 202 yX1_size, Cond.instanceMethod yX1_size, Cond.selects RX1 yX1_size yX1_size, Cond.initialized RX1, Cond.code yX1_size cX1_size 1 (some .int), Cond.fieldLink RX1 16 "BathBook$Certificates" "made" "I", Cond.methodLink RX6 174 yX1_countOf, Cond.instanceMethod yX1_countOf, Cond.selects RX1 yX1_countOf yX1_countOf, Cond.code yX1_countOf cX1_countOf 6 (some .int), Cond.fieldLink RX1 13 "BathBook$Certificates" "facts" "[[I", Cond.methodLink RX6 276 yX6_told, Cond.instanceMethod yX6_told, Cond.selects RX6 yX6_told yX6_told, Cond.code yX6_told cX6_told 3 (some .int), Cond.methodLink RX6 165 yX0_has, Cond.instanceMethod yX0_has, Cond.selects RX0 yX0_has yX0_has, Cond.code yX0_has cX0_has 2 (some .boolean)]
def wsX6_digest_r3 : List Cond := [Cond.static yX6_isBetween, Cond.code yX6_isBetween cX6_isBetween 3 (some .boolean), Cond.methodLink RX6 168 yX0_kindOf, Cond.instanceMethod yX0_kindOf, Cond.selects RX0 yX0_kindOf yX0_kindOf, Cond.code yX0_kindOf cX0_kindOf 2 (some .int), Cond.fieldLink RX0 9 "BathBook$Bulbs" "kinds" "[I", Cond.methodLink RX6 171 yX0_toleranceOf, Cond.instanceMethod yX0_toleranceOf, Cond.selects RX0 yX0_toleranceOf yX0_toleranceOf, Cond.code yX0_toleranceOf cX0_toleranceOf 2 (some .int), Cond.fieldLink RX0 15 "BathBook$Bulbs" "tolerances" "[I", Cond.methodLink RX6 178 yX1_latestOf, Cond.instanceMethod yX1_latestOf, Cond.selects RX1 yX1_latestOf yX1_latestOf, Cond.code yX1_latestOf cX1_latestOf 2 (some .int), Cond.constant RX1 30 (100000), Cond.methodLink RX1 31 yX1_lastUntil, Cond.instanceMethod yX1_lastUntil, Cond.selects RX1 yX1_lastUntil yX1_lastUntil, Cond.code yX1_lastUntil cX1_lastUntil 5 (some .int), Cond.methodLink RX1 24 Lib.Math.min.name, Cond.static Lib.Math.min.name, Cond.initialized "java/lang/Math"]
def wsX6_digest_r4 : List Cond := [Cond.code Lib.Math.min.name Lib.Math.min.code 2 (some .int), Cond.methodLink RX6 210 yX1_fact, Cond.instanceMethod yX1_fact, Cond.selects RX1 yX1_fact yX1_fact, Cond.code yX1_fact cX1_fact 3 (some .int), Cond.methodLink RX6 279 yX4_digestOn, Cond.instanceMethod yX4_digestOn, Cond.selects RX4 yX4_digestOn yX4_digestOn, Cond.code yX4_digestOn cX4_digestOn 7 (some .long), Cond.constantLong RX4 51 (31), Cond.fieldLink RX4 11 "BathBook$Rows" "readings" "[[I"]
def wsX6_digest : List Cond := .code yX6_digest cX6_digest 5 (some .long) :: ((wsX6_digest_r1 ++ (wsX6_digest_r2 ++ (wsX6_digest_r3 ++ wsX6_digest_r4))) ++ wsX60 ++ wsX40 ++ wsX50 ++ wsX00 ++ wsX10)
def wsX7_init_r1 : List Cond := [Cond.methodLink RX7 1 objectInit, Cond.instanceMethod objectInit, Cond.code objectInit ⟨#[0xb1]⟩ 1 none, Cond.arrayClass .int, Cond.fieldLink RX7 7 "BathBookModel" "findings" "[I", Cond.fieldLink RX7 13 "BathBookModel" "lower" "J", Cond.fieldLink RX7 17 "BathBookModel" "sizes" "[I", Cond.fieldLink RX7 20 "BathBookModel" "rows" "[I", Cond.fieldLink RX7 23 "BathBookModel" "moving" "[I", Cond.fieldLink RX7 26 "BathBookModel" "points" "[I", Cond.fieldLink RX7 29 "BathBookModel" "xs" "[I", Cond.fieldLink RX7 32 "BathBookModel" "ys" "[I", Cond.fieldLink RX7 35 "BathBookModel" "kinds" "[I", Cond.fieldLink RX7 38 "BathBookModel" "tolerances" "[I", Cond.fieldLink RX7 41 "BathBookModel" "ofBulb" "[I", Cond.fieldLink RX7 44 "BathBookModel" "byBulb" "[I", Cond.fieldLink RX7 47 "BathBookModel" "inBath" "[I", Cond.fieldLink RX7 50 "BathBookModel" "onDay" "[I", Cond.fieldLink RX7 53 "BathBookModel" "offsets" "[I", Cond.fieldLink RX7 56 "BathBookModel" "ends" "[I", Cond.fieldLink RX7 59 "BathBookModel" "rest" "[I", Cond.arrayClass .boolean, Cond.fieldLink RX7 62 "BathBookModel" "isVoid" "[Z", Cond.fieldLink RX7 66 "BathBookModel" "isTold" "[Z"]
def wsX7_init_r2 : List Cond := [Cond.fieldLink RX7 69 "BathBookModel" "differences" "[I", Cond.fieldLink RX7 72 "BathBookModel" "labEnds" "[I"]
def wsX7_init : List Cond := .code yX7_init cX7_init 2 none :: ((wsX7_init_r1 ++ wsX7_init_r2) ++ wsX70)
def wsX7_in : List Cond := .code yX7_in cX7_in 3 (some .boolean) :: ([])
def wsX7_meets : List Cond := .code yX7_meets cX7_meets 2 (some .int) :: ([.fieldLink RX7 75 "BathBookModel" "finding" "I", .fieldLink RX7 7 "BathBookModel" "findings" "[I"] ++ wsX70)
def wsX7_size : List Cond := .code yX7_size cX7_size 2 (some .long) :: ([])
def wsX7_divisor : List Cond := .code yX7_divisor cX7_divisor 10 (some .long) :: ([.methodLink RX7 79 yX7_size, .static yX7_size, .initialized RX7, .code yX7_size cX7_size 2 (some .long)])
def wsX7_tell : List Cond := .code yX7_tell cX7_tell 8 (some .int) :: ([.fieldLink RX7 87 "BathBookModel" "upper" "J", .fieldLink RX7 13 "BathBookModel" "lower" "J", .methodLink RX7 83 yX7_divisor, .static yX7_divisor, .initialized RX7, .code yX7_divisor cX7_divisor 10 (some .long), .methodLink RX7 79 yX7_size, .static yX7_size, .code yX7_size cX7_size 2 (some .long)] ++ wsX70)
def wsX7_ask : List Cond := .code yX7_ask cX7_ask 4 (some .int) :: ([.fieldLink RX7 90 "BathBookModel" "asked" "J"] ++ wsX70)
def wsX7_isRow : List Cond := .code yX7_isRow cX7_isRow 1 (some .boolean) :: ([.methodLink RX7 93 yX7_in, .static yX7_in, .initialized RX7, .code yX7_in cX7_in 3 (some .boolean)])
def wsX7_looked : List Cond := .code yX7_looked cX7_looked 2 (some .int) :: ([.fieldLink RX7 17 "BathBookModel" "sizes" "[I", .methodLink RX7 97 yX7_isRow, .static yX7_isRow, .initialized RX7, .code yX7_isRow cX7_isRow 1 (some .boolean), .methodLink RX7 93 yX7_in, .static yX7_in, .code yX7_in cX7_in 3 (some .boolean), .methodLink RX7 101 yX7_meets, .instanceMethod yX7_meets, .selects RX7 yX7_meets yX7_meets, .code yX7_meets cX7_meets 2 (some .int), .fieldLink RX7 75 "BathBookModel" "finding" "I", .fieldLink RX7 7 "BathBookModel" "findings" "[I"] ++ wsX70)
def wsX7_row : List Cond := .code yX7_row cX7_row 4 (some .int) :: ([.fieldLink RX7 17 "BathBookModel" "sizes" "[I", .fieldLink RX7 20 "BathBookModel" "rows" "[I", .methodLink RX7 97 yX7_isRow, .static yX7_isRow, .initialized RX7, .code yX7_isRow cX7_isRow 1 (some .boolean), .methodLink RX7 93 yX7_in, .static yX7_in, .code yX7_in cX7_in 3 (some .boolean), .methodLink RX7 101 yX7_meets, .instanceMethod yX7_meets, .selects RX7 yX7_meets yX7_meets, .code yX7_meets cX7_meets 2 (some .int), .fieldLink RX7 75 "BathBookModel" "finding" "I", .fieldLink RX7 7 "BathBookModel" "findings" "[I"] ++ wsX70)
def wsX7_lay : List Cond := .code yX7_lay cX7_lay 5 (some .int) :: ([.constant RX7 105 (-100000), .constant RX7 106 (100000), .fieldLink RX7 17 "BathBookModel" "sizes" "[I", .fieldLink RX7 20 "BathBookModel" "rows" "[I", .fieldLink RX7 90 "BathBookModel" "asked" "J", .methodLink RX7 93 yX7_in, .static yX7_in, .initialized RX7, .code yX7_in cX7_in 3 (some .boolean), .methodLink RX7 107 yX7_looked, .instanceMethod yX7_looked, .selects RX7 yX7_looked yX7_looked, .code yX7_looked cX7_looked 2 (some .int), .methodLink RX7 97 yX7_isRow, .static yX7_isRow, .code yX7_isRow cX7_isRow 1 (some .boolean), .methodLink RX7 101 yX7_meets, .instanceMethod yX7_meets, .selects RX7 yX7_meets yX7_meets, .code yX7_meets cX7_meets 2 (some .int), .fieldLink RX7 75 "BathBookModel" "finding" "I", .fieldLink RX7 7 "BathBookModel" "findings" "[I"] ++ wsX70)
def wsX7_tear : List Cond := .code yX7_tear cX7_tear 3 (some .int) :: ([.fieldLink RX7 17 "BathBookModel" "sizes" "[I", .methodLink RX7 107 yX7_looked, .instanceMethod yX7_looked, .selects RX7 yX7_looked yX7_looked, .initialized RX7, .code yX7_looked cX7_looked 2 (some .int), .methodLink RX7 97 yX7_isRow, .static yX7_isRow, .code yX7_isRow cX7_isRow 1 (some .boolean), .methodLink RX7 93 yX7_in, .static yX7_in, .code yX7_in cX7_in 3 (some .boolean), .methodLink RX7 101 yX7_meets, .instanceMethod yX7_meets, .selects RX7 yX7_meets yX7_meets, .code yX7_meets cX7_meets 2 (some .int), .fieldLink RX7 75 "BathBookModel" "finding" "I", .fieldLink RX7 7 "BathBookModel" "findings" "[I"] ++ wsX70)
def wsX7_copy : List Cond := .code yX7_copy cX7_copy 7 (some .int) :: ([.fieldLink RX7 17 "BathBookModel" "sizes" "[I", .fieldLink RX7 23 "BathBookModel" "moving" "[I", .fieldLink RX7 20 "BathBookModel" "rows" "[I", .methodLink RX7 97 yX7_isRow, .static yX7_isRow, .initialized RX7, .code yX7_isRow cX7_isRow 1 (some .boolean), .methodLink RX7 93 yX7_in, .static yX7_in, .code yX7_in cX7_in 3 (some .boolean), .methodLink RX7 101 yX7_meets, .instanceMethod yX7_meets, .selects RX7 yX7_meets yX7_meets, .code yX7_meets cX7_meets 2 (some .int), .fieldLink RX7 75 "BathBookModel" "finding" "I", .fieldLink RX7 7 "BathBookModel" "findings" "[I"] ++ wsX70)
def wsX7_mean : List Cond := .code yX7_mean cX7_mean 8 (some .int) :: ([.fieldLink RX7 17 "BathBookModel" "sizes" "[I", .fieldLink RX7 20 "BathBookModel" "rows" "[I", .methodLink RX7 107 yX7_looked, .instanceMethod yX7_looked, .selects RX7 yX7_looked yX7_looked, .initialized RX7, .code yX7_looked cX7_looked 2 (some .int), .methodLink RX7 97 yX7_isRow, .static yX7_isRow, .code yX7_isRow cX7_isRow 1 (some .boolean), .methodLink RX7 93 yX7_in, .static yX7_in, .code yX7_in cX7_in 3 (some .boolean), .methodLink RX7 101 yX7_meets, .instanceMethod yX7_meets, .selects RX7 yX7_meets yX7_meets, .code yX7_meets cX7_meets 2 (some .int), .fieldLink RX7 75 "BathBookModel" "finding" "I", .fieldLink RX7 7 "BathBookModel" "findings" "[I", .methodLink RX7 110 yX7_ask, .instanceMethod yX7_ask, .selects RX7 yX7_ask yX7_ask, .code yX7_ask cX7_ask 4 (some .int), .fieldLink RX7 90 "BathBookModel" "asked" "J"] ++ wsX70)
def wsX7_plateau_r1 : List Cond := [Cond.constant RX7 106 (100000), Cond.fieldLink RX7 17 "BathBookModel" "sizes" "[I", Cond.constant RX7 105 (-100000), Cond.fieldLink RX7 20 "BathBookModel" "rows" "[I", Cond.methodLink RX7 93 yX7_in, Cond.static yX7_in, Cond.initialized RX7, Cond.code yX7_in cX7_in 3 (some .boolean), Cond.methodLink RX7 107 yX7_looked, Cond.instanceMethod yX7_looked, Cond.selects RX7 yX7_looked yX7_looked, Cond.code yX7_looked cX7_looked 2 (some .int), Cond.methodLink RX7 97 yX7_isRow, Cond.static yX7_isRow, Cond.code yX7_isRow cX7_isRow 1 (some .boolean), Cond.methodLink RX7 101 yX7_meets, Cond.instanceMethod yX7_meets, Cond.selects RX7 yX7_meets yX7_meets, Cond.code yX7_meets cX7_meets 2 (some .int), Cond.fieldLink RX7 75 "BathBookModel" "finding" "I", Cond.fieldLink RX7 7 "BathBookModel" "findings" "[I", Cond.methodLink RX7 114 yX7_tell, Cond.instanceMethod yX7_tell, Cond.selects RX7 yX7_tell yX7_tell]
def wsX7_plateau_r2 : List Cond := [Cond.code yX7_tell cX7_tell 8 (some .int), Cond.fieldLink RX7 87 "BathBookModel" "upper" "J", Cond.fieldLink RX7 13 "BathBookModel" "lower" "J", Cond.methodLink RX7 83 yX7_divisor, Cond.static yX7_divisor, Cond.code yX7_divisor cX7_divisor 10 (some .long), Cond.methodLink RX7 79 yX7_size, Cond.static yX7_size, Cond.code yX7_size cX7_size 2 (some .long), Cond.methodLink RX7 110 yX7_ask, Cond.instanceMethod yX7_ask, Cond.selects RX7 yX7_ask yX7_ask, Cond.code yX7_ask cX7_ask 4 (some .int), Cond.fieldLink RX7 90 "BathBookModel" "asked" "J"]
def wsX7_plateau : List Cond := .code yX7_plateau cX7_plateau 16 (some .int) :: ((wsX7_plateau_r1 ++ wsX7_plateau_r2) ++ wsX70)
def wsX7_isTable : List Cond := .code yX7_isTable cX7_isTable 1 (some .boolean) :: ([.methodLink RX7 93 yX7_in, .static yX7_in, .initialized RX7, .code yX7_in cX7_in 3 (some .boolean)])
def wsX7_isX : List Cond := .code yX7_isX cX7_isX 1 (some .boolean) :: ([.methodLink RX7 93 yX7_in, .static yX7_in, .initialized RX7, .code yX7_in cX7_in 3 (some .boolean)])
def wsX7_point : List Cond := .code yX7_point cX7_point 6 (some .int) :: ([.fieldLink RX7 26 "BathBookModel" "points" "[I", .fieldLink RX7 29 "BathBookModel" "xs" "[I", .fieldLink RX7 32 "BathBookModel" "ys" "[I", .methodLink RX7 118 yX7_isTable, .static yX7_isTable, .initialized RX7, .code yX7_isTable cX7_isTable 1 (some .boolean), .methodLink RX7 93 yX7_in, .static yX7_in, .code yX7_in cX7_in 3 (some .boolean), .methodLink RX7 121 yX7_isX, .static yX7_isX, .code yX7_isX cX7_isX 1 (some .boolean)] ++ wsX70)
def wsX7_clear : List Cond := .code yX7_clear cX7_clear 3 (some .int) :: ([.fieldLink RX7 26 "BathBookModel" "points" "[I", .methodLink RX7 118 yX7_isTable, .static yX7_isTable, .initialized RX7, .code yX7_isTable cX7_isTable 1 (some .boolean), .methodLink RX7 93 yX7_in, .static yX7_in, .code yX7_in cX7_in 3 (some .boolean)] ++ wsX70)
def wsX7_add : List Cond := .code yX7_add cX7_add 13 none :: ([.fieldLink RX7 124 "BathBookModel" "sumLow" "J", .fieldLink RX7 127 "BathBookModel" "sumUp" "J", .methodLink RX7 83 yX7_divisor, .static yX7_divisor, .initialized RX7, .code yX7_divisor cX7_divisor 10 (some .long), .methodLink RX7 79 yX7_size, .static yX7_size, .code yX7_size cX7_size 2 (some .long)] ++ wsX70)
def wsX7_addCurve : List Cond := .code yX7_addCurve cX7_addCurve 10 none :: ([.fieldLink RX7 26 "BathBookModel" "points" "[I", .fieldLink RX7 32 "BathBookModel" "ys" "[I", .fieldLink RX7 29 "BathBookModel" "xs" "[I", .methodLink RX7 79 yX7_size, .static yX7_size, .initialized RX7, .code yX7_size cX7_size 2 (some .long), .methodLink RX7 130 yX7_add, .instanceMethod yX7_add, .selects RX7 yX7_add yX7_add, .code yX7_add cX7_add 13 none, .fieldLink RX7 124 "BathBookModel" "sumLow" "J", .fieldLink RX7 127 "BathBookModel" "sumUp" "J", .methodLink RX7 83 yX7_divisor, .static yX7_divisor, .code yX7_divisor cX7_divisor 10 (some .long)] ++ wsX70)
def wsX7_curve_r1 : List Cond := [Cond.fieldLink RX7 26 "BathBookModel" "points" "[I", Cond.fieldLink RX7 127 "BathBookModel" "sumUp" "J", Cond.fieldLink RX7 124 "BathBookModel" "sumLow" "J", Cond.methodLink RX7 118 yX7_isTable, Cond.static yX7_isTable, Cond.initialized RX7, Cond.code yX7_isTable cX7_isTable 1 (some .boolean), Cond.methodLink RX7 93 yX7_in, Cond.static yX7_in, Cond.code yX7_in cX7_in 3 (some .boolean), Cond.methodLink RX7 121 yX7_isX, Cond.static yX7_isX, Cond.code yX7_isX cX7_isX 1 (some .boolean), Cond.methodLink RX7 134 yX7_addCurve, Cond.instanceMethod yX7_addCurve, Cond.selects RX7 yX7_addCurve yX7_addCurve, Cond.code yX7_addCurve cX7_addCurve 10 none, Cond.fieldLink RX7 32 "BathBookModel" "ys" "[I", Cond.fieldLink RX7 29 "BathBookModel" "xs" "[I", Cond.methodLink RX7 79 yX7_size, Cond.static yX7_size, Cond.code yX7_size cX7_size 2 (some .long), Cond.methodLink RX7 130 yX7_add, Cond.instanceMethod yX7_add]
def wsX7_curve_r2 : List Cond := [Cond.selects RX7 yX7_add yX7_add, Cond.code yX7_add cX7_add 13 none, Cond.methodLink RX7 83 yX7_divisor, Cond.static yX7_divisor, Cond.code yX7_divisor cX7_divisor 10 (some .long), Cond.methodLink RX7 114 yX7_tell, Cond.instanceMethod yX7_tell, Cond.selects RX7 yX7_tell yX7_tell, Cond.code yX7_tell cX7_tell 8 (some .int), Cond.fieldLink RX7 87 "BathBookModel" "upper" "J", Cond.fieldLink RX7 13 "BathBookModel" "lower" "J"]
def wsX7_curve : List Cond := .code yX7_curve cX7_curve 3 (some .int) :: ((wsX7_curve_r1 ++ wsX7_curve_r2) ++ wsX70)
def wsX7_isBelow : List Cond := .code yX7_isBelow cX7_isBelow 21 (some .boolean) :: ([])
def wsX7_apart_r1 : List Cond := [Cond.fieldLink RX7 26 "BathBookModel" "points" "[I", Cond.constantLong RX7 138 (-1), Cond.fieldLink RX7 127 "BathBookModel" "sumUp" "J", Cond.fieldLink RX7 124 "BathBookModel" "sumLow" "J", Cond.methodLink RX7 118 yX7_isTable, Cond.static yX7_isTable, Cond.initialized RX7, Cond.code yX7_isTable cX7_isTable 1 (some .boolean), Cond.methodLink RX7 93 yX7_in, Cond.static yX7_in, Cond.code yX7_in cX7_in 3 (some .boolean), Cond.methodLink RX7 121 yX7_isX, Cond.static yX7_isX, Cond.code yX7_isX cX7_isX 1 (some .boolean), Cond.methodLink RX7 134 yX7_addCurve, Cond.instanceMethod yX7_addCurve, Cond.selects RX7 yX7_addCurve yX7_addCurve, Cond.code yX7_addCurve cX7_addCurve 10 none, Cond.fieldLink RX7 32 "BathBookModel" "ys" "[I", Cond.fieldLink RX7 29 "BathBookModel" "xs" "[I", Cond.methodLink RX7 79 yX7_size, Cond.static yX7_size, Cond.code yX7_size cX7_size 2 (some .long), Cond.methodLink RX7 130 yX7_add]
def wsX7_apart_r2 : List Cond := [Cond.instanceMethod yX7_add, Cond.selects RX7 yX7_add yX7_add, Cond.code yX7_add cX7_add 13 none, Cond.methodLink RX7 83 yX7_divisor, Cond.static yX7_divisor, Cond.code yX7_divisor cX7_divisor 10 (some .long), Cond.methodLink RX7 140 yX7_isBelow, Cond.static yX7_isBelow, Cond.code yX7_isBelow cX7_isBelow 21 (some .boolean), Cond.methodLink RX7 114 yX7_tell, Cond.instanceMethod yX7_tell, Cond.selects RX7 yX7_tell yX7_tell, Cond.code yX7_tell cX7_tell 8 (some .int), Cond.fieldLink RX7 87 "BathBookModel" "upper" "J", Cond.fieldLink RX7 13 "BathBookModel" "lower" "J"]
def wsX7_apart : List Cond := .code yX7_apart cX7_apart 11 (some .int) :: ((wsX7_apart_r1 ++ wsX7_apart_r2) ++ wsX70)
def wsX7_isBulb : List Cond := .code yX7_isBulb cX7_isBulb 2 (some .boolean) :: ([.fieldLink RX7 144 "BathBookModel" "bulbs" "I", .methodLink RX7 93 yX7_in, .static yX7_in, .initialized RX7, .code yX7_in cX7_in 3 (some .boolean)] ++ wsX70)
def wsX7_bulb : List Cond := .code yX7_bulb cX7_bulb 3 (some .int) :: ([.fieldLink RX7 144 "BathBookModel" "bulbs" "I", .fieldLink RX7 35 "BathBookModel" "kinds" "[I", .fieldLink RX7 38 "BathBookModel" "tolerances" "[I", .methodLink RX7 93 yX7_in, .static yX7_in, .initialized RX7, .code yX7_in cX7_in 3 (some .boolean)] ++ wsX70)
def wsX7_lastOf : List Cond := .code yX7_lastOf cX7_lastOf 6 (some .int) :: ([.fieldLink RX7 41 "BathBookModel" "ofBulb" "[I", .fieldLink RX7 62 "BathBookModel" "isVoid" "[Z", .fieldLink RX7 50 "BathBookModel" "onDay" "[I"] ++ wsX70)
def wsX7_latestOf : List Cond := .code yX7_latestOf cX7_latestOf 2 (some .int) :: ([.constant RX7 106 (100000), .fieldLink RX7 147 "BathBookModel" "certificates" "I", .methodLink RX7 150 yX7_lastOf, .instanceMethod yX7_lastOf, .selects RX7 yX7_lastOf yX7_lastOf, .initialized RX7, .code yX7_lastOf cX7_lastOf 6 (some .int), .fieldLink RX7 41 "BathBookModel" "ofBulb" "[I", .fieldLink RX7 62 "BathBookModel" "isVoid" "[Z", .fieldLink RX7 50 "BathBookModel" "onDay" "[I"] ++ wsX70)
def wsX7_tells : List Cond := .code yX7_tells cX7_tells 6 (some .int) :: ([.fieldLink RX7 147 "BathBookModel" "certificates" "I", .fieldLink RX7 41 "BathBookModel" "ofBulb" "[I", .fieldLink RX7 62 "BathBookModel" "isVoid" "[Z", .fieldLink RX7 35 "BathBookModel" "kinds" "[I", .fieldLink RX7 38 "BathBookModel" "tolerances" "[I", .methodLink RX7 154 yX7_latestOf, .instanceMethod yX7_latestOf, .selects RX7 yX7_latestOf yX7_latestOf, .initialized RX7, .code yX7_latestOf cX7_latestOf 2 (some .int), .constant RX7 106 (100000), .methodLink RX7 150 yX7_lastOf, .instanceMethod yX7_lastOf, .selects RX7 yX7_lastOf yX7_lastOf, .code yX7_lastOf cX7_lastOf 6 (some .int), .fieldLink RX7 50 "BathBookModel" "onDay" "[I"] ++ wsX70)
def wsX7_told_r1 : List Cond := [Cond.methodLink RX7 157 yX7_isBulb, Cond.instanceMethod yX7_isBulb, Cond.selects RX7 yX7_isBulb yX7_isBulb, Cond.initialized RX7, Cond.code yX7_isBulb cX7_isBulb 2 (some .boolean), Cond.fieldLink RX7 144 "BathBookModel" "bulbs" "I", Cond.methodLink RX7 93 yX7_in, Cond.static yX7_in, Cond.code yX7_in cX7_in 3 (some .boolean), Cond.methodLink RX7 160 yX7_tells, Cond.instanceMethod yX7_tells, Cond.selects RX7 yX7_tells yX7_tells, Cond.code yX7_tells cX7_tells 6 (some .int), Cond.fieldLink RX7 147 "BathBookModel" "certificates" "I", Cond.fieldLink RX7 41 "BathBookModel" "ofBulb" "[I", Cond.fieldLink RX7 62 "BathBookModel" "isVoid" "[Z", Cond.fieldLink RX7 35 "BathBookModel" "kinds" "[I", Cond.fieldLink RX7 38 "BathBookModel" "tolerances" "[I", Cond.methodLink RX7 154 yX7_latestOf, Cond.instanceMethod yX7_latestOf, Cond.selects RX7 yX7_latestOf yX7_latestOf, Cond.code yX7_latestOf cX7_latestOf 2 (some .int), Cond.constant RX7 106 (100000), Cond.methodLink RX7 150 yX7_lastOf]
def wsX7_told_r2 : List Cond := [Cond.instanceMethod yX7_lastOf, Cond.selects RX7 yX7_lastOf yX7_lastOf, Cond.code yX7_lastOf cX7_lastOf 6 (some .int), Cond.fieldLink RX7 50 "BathBookModel" "onDay" "[I"]
def wsX7_told : List Cond := .code yX7_told cX7_told 3 (some .int) :: ((wsX7_told_r1 ++ wsX7_told_r2) ++ wsX70)
def wsX7_is : List Cond := .code yX7_is cX7_is 3 (some .boolean) :: ([.fieldLink RX7 35 "BathBookModel" "kinds" "[I"] ++ wsX70)
def wsX7_restsOn : List Cond := .code yX7_restsOn cX7_restsOn 5 (some .boolean) :: ([.fieldLink RX7 59 "BathBookModel" "rest" "[I", .fieldLink RX7 41 "BathBookModel" "ofBulb" "[I"] ++ wsX70)
def wsX7_mark_r1 : List Cond := [Cond.fieldLink RX7 38 "BathBookModel" "tolerances" "[I", Cond.fieldLink RX7 147 "BathBookModel" "certificates" "I", Cond.fieldLink RX7 62 "BathBookModel" "isVoid" "[Z", Cond.fieldLink RX7 44 "BathBookModel" "byBulb" "[I", Cond.methodLink RX7 157 yX7_isBulb, Cond.instanceMethod yX7_isBulb, Cond.selects RX7 yX7_isBulb yX7_isBulb, Cond.initialized RX7, Cond.code yX7_isBulb cX7_isBulb 2 (some .boolean), Cond.fieldLink RX7 144 "BathBookModel" "bulbs" "I", Cond.methodLink RX7 93 yX7_in, Cond.static yX7_in, Cond.code yX7_in cX7_in 3 (some .boolean), Cond.methodLink RX7 164 yX7_is, Cond.instanceMethod yX7_is, Cond.selects RX7 yX7_is yX7_is, Cond.code yX7_is cX7_is 3 (some .boolean), Cond.fieldLink RX7 35 "BathBookModel" "kinds" "[I", Cond.methodLink RX7 101 yX7_meets, Cond.instanceMethod yX7_meets, Cond.selects RX7 yX7_meets yX7_meets, Cond.code yX7_meets cX7_meets 2 (some .int), Cond.fieldLink RX7 75 "BathBookModel" "finding" "I", Cond.fieldLink RX7 7 "BathBookModel" "findings" "[I"]
def wsX7_mark_r2 : List Cond := [Cond.methodLink RX7 168 yX7_restsOn, Cond.instanceMethod yX7_restsOn, Cond.selects RX7 yX7_restsOn yX7_restsOn, Cond.code yX7_restsOn cX7_restsOn 5 (some .boolean), Cond.fieldLink RX7 59 "BathBookModel" "rest" "[I", Cond.fieldLink RX7 41 "BathBookModel" "ofBulb" "[I"]
def wsX7_mark : List Cond := .code yX7_mark cX7_mark 5 (some .int) :: ((wsX7_mark_r1 ++ wsX7_mark_r2) ++ wsX70)
def wsX7_stem_r1 : List Cond := [Cond.constant RX7 105 (-100000), Cond.constant RX7 106 (100000), Cond.constantLong RX7 171 (100000), Cond.constantLong RX7 173 (16), Cond.methodLink RX7 157 yX7_isBulb, Cond.instanceMethod yX7_isBulb, Cond.selects RX7 yX7_isBulb yX7_isBulb, Cond.initialized RX7, Cond.code yX7_isBulb cX7_isBulb 2 (some .boolean), Cond.fieldLink RX7 144 "BathBookModel" "bulbs" "I", Cond.methodLink RX7 93 yX7_in, Cond.static yX7_in, Cond.code yX7_in cX7_in 3 (some .boolean), Cond.methodLink RX7 164 yX7_is, Cond.instanceMethod yX7_is, Cond.selects RX7 yX7_is yX7_is, Cond.code yX7_is cX7_is 3 (some .boolean), Cond.fieldLink RX7 35 "BathBookModel" "kinds" "[I", Cond.methodLink RX7 101 yX7_meets, Cond.instanceMethod yX7_meets, Cond.selects RX7 yX7_meets yX7_meets, Cond.code yX7_meets cX7_meets 2 (some .int), Cond.fieldLink RX7 75 "BathBookModel" "finding" "I", Cond.fieldLink RX7 7 "BathBookModel" "findings" "[I"]
def wsX7_stem_r2 : List Cond := [Cond.methodLink RX7 114 yX7_tell, Cond.instanceMethod yX7_tell, Cond.selects RX7 yX7_tell yX7_tell, Cond.code yX7_tell cX7_tell 8 (some .int), Cond.fieldLink RX7 87 "BathBookModel" "upper" "J", Cond.fieldLink RX7 13 "BathBookModel" "lower" "J", Cond.methodLink RX7 83 yX7_divisor, Cond.static yX7_divisor, Cond.code yX7_divisor cX7_divisor 10 (some .long), Cond.methodLink RX7 79 yX7_size, Cond.static yX7_size, Cond.code yX7_size cX7_size 2 (some .long)]
def wsX7_stem : List Cond := .code yX7_stem cX7_stem 6 (some .int) :: ((wsX7_stem_r1 ++ wsX7_stem_r2) ++ wsX70)
def wsX7_currents_r1 : List Cond := [Cond.constant RX7 105 (-100000), Cond.constant RX7 106 (100000), Cond.methodLink RX7 157 yX7_isBulb, Cond.instanceMethod yX7_isBulb, Cond.selects RX7 yX7_isBulb yX7_isBulb, Cond.initialized RX7, Cond.code yX7_isBulb cX7_isBulb 2 (some .boolean), Cond.fieldLink RX7 144 "BathBookModel" "bulbs" "I", Cond.methodLink RX7 93 yX7_in, Cond.static yX7_in, Cond.code yX7_in cX7_in 3 (some .boolean), Cond.methodLink RX7 164 yX7_is, Cond.instanceMethod yX7_is, Cond.selects RX7 yX7_is yX7_is, Cond.code yX7_is cX7_is 3 (some .boolean), Cond.fieldLink RX7 35 "BathBookModel" "kinds" "[I", Cond.methodLink RX7 101 yX7_meets, Cond.instanceMethod yX7_meets, Cond.selects RX7 yX7_meets yX7_meets, Cond.code yX7_meets cX7_meets 2 (some .int), Cond.fieldLink RX7 75 "BathBookModel" "finding" "I", Cond.fieldLink RX7 7 "BathBookModel" "findings" "[I", Cond.methodLink RX7 114 yX7_tell, Cond.instanceMethod yX7_tell]
def wsX7_currents_r2 : List Cond := [Cond.selects RX7 yX7_tell yX7_tell, Cond.code yX7_tell cX7_tell 8 (some .int), Cond.fieldLink RX7 87 "BathBookModel" "upper" "J", Cond.fieldLink RX7 13 "BathBookModel" "lower" "J", Cond.methodLink RX7 83 yX7_divisor, Cond.static yX7_divisor, Cond.code yX7_divisor cX7_divisor 10 (some .long), Cond.methodLink RX7 79 yX7_size, Cond.static yX7_size, Cond.code yX7_size cX7_size 2 (some .long)]
def wsX7_currents : List Cond := .code yX7_currents cX7_currents 6 (some .int) :: ((wsX7_currents_r1 ++ wsX7_currents_r2) ++ wsX70)
def wsX7_compare_r1 : List Cond := [Cond.fieldLink RX7 17 "BathBookModel" "sizes" "[I", Cond.fieldLink RX7 20 "BathBookModel" "rows" "[I", Cond.constantLong RX7 175 (2), Cond.methodLink RX7 107 yX7_looked, Cond.instanceMethod yX7_looked, Cond.selects RX7 yX7_looked yX7_looked, Cond.initialized RX7, Cond.code yX7_looked cX7_looked 2 (some .int), Cond.methodLink RX7 97 yX7_isRow, Cond.static yX7_isRow, Cond.code yX7_isRow cX7_isRow 1 (some .boolean), Cond.methodLink RX7 93 yX7_in, Cond.static yX7_in, Cond.code yX7_in cX7_in 3 (some .boolean), Cond.methodLink RX7 101 yX7_meets, Cond.instanceMethod yX7_meets, Cond.selects RX7 yX7_meets yX7_meets, Cond.code yX7_meets cX7_meets 2 (some .int), Cond.fieldLink RX7 75 "BathBookModel" "finding" "I", Cond.fieldLink RX7 7 "BathBookModel" "findings" "[I", Cond.methodLink RX7 114 yX7_tell, Cond.instanceMethod yX7_tell, Cond.selects RX7 yX7_tell yX7_tell, Cond.code yX7_tell cX7_tell 8 (some .int)]
def wsX7_compare_r2 : List Cond := [Cond.fieldLink RX7 87 "BathBookModel" "upper" "J", Cond.fieldLink RX7 13 "BathBookModel" "lower" "J", Cond.methodLink RX7 83 yX7_divisor, Cond.static yX7_divisor, Cond.code yX7_divisor cX7_divisor 10 (some .long), Cond.methodLink RX7 79 yX7_size, Cond.static yX7_size, Cond.code yX7_size cX7_size 2 (some .long)]
def wsX7_compare : List Cond := .code yX7_compare cX7_compare 9 (some .int) :: ((wsX7_compare_r1 ++ wsX7_compare_r2) ++ wsX70)
def wsX7_isCertificate : List Cond := .code yX7_isCertificate cX7_isCertificate 2 (some .boolean) :: ([.fieldLink RX7 147 "BathBookModel" "certificates" "I", .methodLink RX7 93 yX7_in, .static yX7_in, .initialized RX7, .code yX7_in cX7_in 3 (some .boolean)] ++ wsX70)
def wsX7_isDay : List Cond := .code yX7_isDay cX7_isDay 1 (some .boolean) :: ([.constant RX7 106 (100000), .methodLink RX7 93 yX7_in, .static yX7_in, .initialized RX7, .code yX7_in cX7_in 3 (some .boolean)])
def wsX7_certify_r1 : List Cond := [Cond.fieldLink RX7 147 "BathBookModel" "certificates" "I", Cond.fieldLink RX7 41 "BathBookModel" "ofBulb" "[I", Cond.fieldLink RX7 44 "BathBookModel" "byBulb" "[I", Cond.fieldLink RX7 47 "BathBookModel" "inBath" "[I", Cond.fieldLink RX7 50 "BathBookModel" "onDay" "[I", Cond.fieldLink RX7 53 "BathBookModel" "offsets" "[I", Cond.fieldLink RX7 56 "BathBookModel" "ends" "[I", Cond.fieldLink RX7 59 "BathBookModel" "rest" "[I", Cond.methodLink RX7 157 yX7_isBulb, Cond.instanceMethod yX7_isBulb, Cond.selects RX7 yX7_isBulb yX7_isBulb, Cond.initialized RX7, Cond.code yX7_isBulb cX7_isBulb 2 (some .boolean), Cond.fieldLink RX7 144 "BathBookModel" "bulbs" "I", Cond.methodLink RX7 93 yX7_in, Cond.static yX7_in, Cond.code yX7_in cX7_in 3 (some .boolean), Cond.methodLink RX7 177 yX7_isDay, Cond.static yX7_isDay, Cond.code yX7_isDay cX7_isDay 1 (some .boolean), Cond.constant RX7 106 (100000), Cond.methodLink RX7 150 yX7_lastOf, Cond.instanceMethod yX7_lastOf, Cond.selects RX7 yX7_lastOf yX7_lastOf]
def wsX7_certify_r2 : List Cond := [Cond.code yX7_lastOf cX7_lastOf 6 (some .int), Cond.fieldLink RX7 62 "BathBookModel" "isVoid" "[Z"]
def wsX7_certify : List Cond := .code yX7_certify cX7_certify 8 (some .int) :: ((wsX7_certify_r1 ++ wsX7_certify_r2) ++ wsX70)
def wsX7_tellsOf : List Cond := .code yX7_tellsOf cX7_tellsOf 3 (some .int) :: ([.fieldLink RX7 41 "BathBookModel" "ofBulb" "[I", .fieldLink RX7 44 "BathBookModel" "byBulb" "[I", .fieldLink RX7 47 "BathBookModel" "inBath" "[I", .fieldLink RX7 50 "BathBookModel" "onDay" "[I", .fieldLink RX7 56 "BathBookModel" "ends" "[I", .fieldLink RX7 62 "BathBookModel" "isVoid" "[Z", .fieldLink RX7 59 "BathBookModel" "rest" "[I"] ++ wsX70)
def wsX7_certificate : List Cond := .code yX7_certificate cX7_certificate 3 (some .int) :: ([.methodLink RX7 180 yX7_isCertificate, .instanceMethod yX7_isCertificate, .selects RX7 yX7_isCertificate yX7_isCertificate, .initialized RX7, .code yX7_isCertificate cX7_isCertificate 2 (some .boolean), .fieldLink RX7 147 "BathBookModel" "certificates" "I", .methodLink RX7 93 yX7_in, .static yX7_in, .code yX7_in cX7_in 3 (some .boolean), .methodLink RX7 183 yX7_tellsOf, .instanceMethod yX7_tellsOf, .selects RX7 yX7_tellsOf yX7_tellsOf, .code yX7_tellsOf cX7_tellsOf 3 (some .int), .fieldLink RX7 41 "BathBookModel" "ofBulb" "[I", .fieldLink RX7 44 "BathBookModel" "byBulb" "[I", .fieldLink RX7 47 "BathBookModel" "inBath" "[I", .fieldLink RX7 50 "BathBookModel" "onDay" "[I", .fieldLink RX7 56 "BathBookModel" "ends" "[I", .fieldLink RX7 62 "BathBookModel" "isVoid" "[Z", .fieldLink RX7 59 "BathBookModel" "rest" "[I"] ++ wsX70)
def wsX7_offset : List Cond := .code yX7_offset cX7_offset 2 (some .int) :: ([.fieldLink RX7 53 "BathBookModel" "offsets" "[I", .methodLink RX7 180 yX7_isCertificate, .instanceMethod yX7_isCertificate, .selects RX7 yX7_isCertificate yX7_isCertificate, .initialized RX7, .code yX7_isCertificate cX7_isCertificate 2 (some .boolean), .fieldLink RX7 147 "BathBookModel" "certificates" "I", .methodLink RX7 93 yX7_in, .static yX7_in, .code yX7_in cX7_in 3 (some .boolean), .methodLink RX7 110 yX7_ask, .instanceMethod yX7_ask, .selects RX7 yX7_ask yX7_ask, .code yX7_ask cX7_ask 4 (some .int), .fieldLink RX7 90 "BathBookModel" "asked" "J"] ++ wsX70)
def wsX7_wrong : List Cond := .code yX7_wrong cX7_wrong 7 (some .int) :: ([.fieldLink RX7 147 "BathBookModel" "certificates" "I", .fieldLink RX7 47 "BathBookModel" "inBath" "[I", .fieldLink RX7 50 "BathBookModel" "onDay" "[I", .fieldLink RX7 59 "BathBookModel" "rest" "[I", .fieldLink RX7 62 "BathBookModel" "isVoid" "[Z", .methodLink RX7 93 yX7_in, .static yX7_in, .initialized RX7, .code yX7_in cX7_in 3 (some .boolean), .methodLink RX7 177 yX7_isDay, .static yX7_isDay, .code yX7_isDay cX7_isDay 1 (some .boolean), .constant RX7 106 (100000)] ++ wsX70)
def wsX7_passes_r1 : List Cond := [Cond.fieldLink RX7 53 "BathBookModel" "offsets" "[I", Cond.fieldLink RX7 56 "BathBookModel" "ends" "[I", Cond.fieldLink RX7 38 "BathBookModel" "tolerances" "[I", Cond.methodLink RX7 157 yX7_isBulb, Cond.instanceMethod yX7_isBulb, Cond.selects RX7 yX7_isBulb yX7_isBulb, Cond.initialized RX7, Cond.code yX7_isBulb cX7_isBulb 2 (some .boolean), Cond.fieldLink RX7 144 "BathBookModel" "bulbs" "I", Cond.methodLink RX7 93 yX7_in, Cond.static yX7_in, Cond.code yX7_in cX7_in 3 (some .boolean), Cond.methodLink RX7 154 yX7_latestOf, Cond.instanceMethod yX7_latestOf, Cond.selects RX7 yX7_latestOf yX7_latestOf, Cond.code yX7_latestOf cX7_latestOf 2 (some .int), Cond.constant RX7 106 (100000), Cond.fieldLink RX7 147 "BathBookModel" "certificates" "I", Cond.methodLink RX7 150 yX7_lastOf, Cond.instanceMethod yX7_lastOf, Cond.selects RX7 yX7_lastOf yX7_lastOf, Cond.code yX7_lastOf cX7_lastOf 6 (some .int), Cond.fieldLink RX7 41 "BathBookModel" "ofBulb" "[I", Cond.fieldLink RX7 62 "BathBookModel" "isVoid" "[Z"]
def wsX7_passes_r2 : List Cond := [Cond.fieldLink RX7 50 "BathBookModel" "onDay" "[I", Cond.methodLink RX7 79 yX7_size, Cond.static yX7_size, Cond.code yX7_size cX7_size 2 (some .long)]
def wsX7_passes : List Cond := .code yX7_passes cX7_passes 3 (some .int) :: ((wsX7_passes_r1 ++ wsX7_passes_r2) ++ wsX70)
def wsX7_whole : List Cond := .code yX7_whole cX7_whole 6 (some .int) :: ([.fieldLink RX7 56 "BathBookModel" "ends" "[I", .fieldLink RX7 59 "BathBookModel" "rest" "[I", .methodLink RX7 180 yX7_isCertificate, .instanceMethod yX7_isCertificate, .selects RX7 yX7_isCertificate yX7_isCertificate, .initialized RX7, .code yX7_isCertificate cX7_isCertificate 2 (some .boolean), .fieldLink RX7 147 "BathBookModel" "certificates" "I", .methodLink RX7 93 yX7_in, .static yX7_in, .code yX7_in cX7_in 3 (some .boolean), .methodLink RX7 110 yX7_ask, .instanceMethod yX7_ask, .selects RX7 yX7_ask yX7_ask, .code yX7_ask cX7_ask 4 (some .int), .fieldLink RX7 90 "BathBookModel" "asked" "J"] ++ wsX70)
def wsX7_askedTwo_r1 : List Cond := [Cond.fieldLink RX7 186 "BathBookModel" "last" "I", Cond.constant RX7 106 (100000), Cond.fieldLink RX7 189 "BathBookModel" "ahead" "I", Cond.fieldLink RX7 50 "BathBookModel" "onDay" "[I", Cond.methodLink RX7 157 yX7_isBulb, Cond.instanceMethod yX7_isBulb, Cond.selects RX7 yX7_isBulb yX7_isBulb, Cond.initialized RX7, Cond.code yX7_isBulb cX7_isBulb 2 (some .boolean), Cond.fieldLink RX7 144 "BathBookModel" "bulbs" "I", Cond.methodLink RX7 93 yX7_in, Cond.static yX7_in, Cond.code yX7_in cX7_in 3 (some .boolean), Cond.methodLink RX7 154 yX7_latestOf, Cond.instanceMethod yX7_latestOf, Cond.selects RX7 yX7_latestOf yX7_latestOf, Cond.code yX7_latestOf cX7_latestOf 2 (some .int), Cond.fieldLink RX7 147 "BathBookModel" "certificates" "I", Cond.methodLink RX7 150 yX7_lastOf, Cond.instanceMethod yX7_lastOf, Cond.selects RX7 yX7_lastOf yX7_lastOf, Cond.code yX7_lastOf cX7_lastOf 6 (some .int), Cond.fieldLink RX7 41 "BathBookModel" "ofBulb" "[I", Cond.fieldLink RX7 62 "BathBookModel" "isVoid" "[Z"]
def wsX7_askedTwo_r2 : List Cond := [Cond.methodLink RX7 101 yX7_meets, Cond.instanceMethod yX7_meets, Cond.selects RX7 yX7_meets yX7_meets, Cond.code yX7_meets cX7_meets 2 (some .int), Cond.fieldLink RX7 75 "BathBookModel" "finding" "I", Cond.fieldLink RX7 7 "BathBookModel" "findings" "[I"]
def wsX7_askedTwo : List Cond := .code yX7_askedTwo cX7_askedTwo 2 (some .int) :: ((wsX7_askedTwo_r1 ++ wsX7_askedTwo_r2) ++ wsX70)
def wsX7_drift_r1 : List Cond := [Cond.fieldLink RX7 53 "BathBookModel" "offsets" "[I", Cond.fieldLink RX7 186 "BathBookModel" "last" "I", Cond.fieldLink RX7 189 "BathBookModel" "ahead" "I", Cond.fieldLink RX7 50 "BathBookModel" "onDay" "[I", Cond.methodLink RX7 192 yX7_askedTwo, Cond.instanceMethod yX7_askedTwo, Cond.selects RX7 yX7_askedTwo yX7_askedTwo, Cond.initialized RX7, Cond.code yX7_askedTwo cX7_askedTwo 2 (some .int), Cond.constant RX7 106 (100000), Cond.methodLink RX7 157 yX7_isBulb, Cond.instanceMethod yX7_isBulb, Cond.selects RX7 yX7_isBulb yX7_isBulb, Cond.code yX7_isBulb cX7_isBulb 2 (some .boolean), Cond.fieldLink RX7 144 "BathBookModel" "bulbs" "I", Cond.methodLink RX7 93 yX7_in, Cond.static yX7_in, Cond.code yX7_in cX7_in 3 (some .boolean), Cond.methodLink RX7 154 yX7_latestOf, Cond.instanceMethod yX7_latestOf, Cond.selects RX7 yX7_latestOf yX7_latestOf, Cond.code yX7_latestOf cX7_latestOf 2 (some .int), Cond.fieldLink RX7 147 "BathBookModel" "certificates" "I", Cond.methodLink RX7 150 yX7_lastOf]
def wsX7_drift_r2 : List Cond := [Cond.instanceMethod yX7_lastOf, Cond.selects RX7 yX7_lastOf yX7_lastOf, Cond.code yX7_lastOf cX7_lastOf 6 (some .int), Cond.fieldLink RX7 41 "BathBookModel" "ofBulb" "[I", Cond.fieldLink RX7 62 "BathBookModel" "isVoid" "[Z", Cond.methodLink RX7 101 yX7_meets, Cond.instanceMethod yX7_meets, Cond.selects RX7 yX7_meets yX7_meets, Cond.code yX7_meets cX7_meets 2 (some .int), Cond.fieldLink RX7 75 "BathBookModel" "finding" "I", Cond.fieldLink RX7 7 "BathBookModel" "findings" "[I", Cond.methodLink RX7 114 yX7_tell, Cond.instanceMethod yX7_tell, Cond.selects RX7 yX7_tell yX7_tell, Cond.code yX7_tell cX7_tell 8 (some .int), Cond.fieldLink RX7 87 "BathBookModel" "upper" "J", Cond.fieldLink RX7 13 "BathBookModel" "lower" "J", Cond.methodLink RX7 83 yX7_divisor, Cond.static yX7_divisor, Cond.code yX7_divisor cX7_divisor 10 (some .long), Cond.methodLink RX7 79 yX7_size, Cond.static yX7_size, Cond.code yX7_size cX7_size 2 (some .long)]
def wsX7_drift : List Cond := .code yX7_drift cX7_drift 3 (some .int) :: ((wsX7_drift_r1 ++ wsX7_drift_r2) ++ wsX70)
def wsX7_due_r1 : List Cond := [Cond.fieldLink RX7 53 "BathBookModel" "offsets" "[I", Cond.fieldLink RX7 186 "BathBookModel" "last" "I", Cond.fieldLink RX7 189 "BathBookModel" "ahead" "I", Cond.fieldLink RX7 50 "BathBookModel" "onDay" "[I", Cond.constant RX7 106 (100000), Cond.fieldLink RX7 56 "BathBookModel" "ends" "[I", Cond.fieldLink RX7 38 "BathBookModel" "tolerances" "[I", Cond.constant RX7 195 (100001), Cond.methodLink RX7 192 yX7_askedTwo, Cond.instanceMethod yX7_askedTwo, Cond.selects RX7 yX7_askedTwo yX7_askedTwo, Cond.initialized RX7, Cond.code yX7_askedTwo cX7_askedTwo 2 (some .int), Cond.methodLink RX7 157 yX7_isBulb, Cond.instanceMethod yX7_isBulb, Cond.selects RX7 yX7_isBulb yX7_isBulb, Cond.code yX7_isBulb cX7_isBulb 2 (some .boolean), Cond.fieldLink RX7 144 "BathBookModel" "bulbs" "I", Cond.methodLink RX7 93 yX7_in, Cond.static yX7_in, Cond.code yX7_in cX7_in 3 (some .boolean), Cond.methodLink RX7 154 yX7_latestOf, Cond.instanceMethod yX7_latestOf, Cond.selects RX7 yX7_latestOf yX7_latestOf]
def wsX7_due_r2 : List Cond := [Cond.code yX7_latestOf cX7_latestOf 2 (some .int), Cond.fieldLink RX7 147 "BathBookModel" "certificates" "I", Cond.methodLink RX7 150 yX7_lastOf, Cond.instanceMethod yX7_lastOf, Cond.selects RX7 yX7_lastOf yX7_lastOf, Cond.code yX7_lastOf cX7_lastOf 6 (some .int), Cond.fieldLink RX7 41 "BathBookModel" "ofBulb" "[I", Cond.fieldLink RX7 62 "BathBookModel" "isVoid" "[Z", Cond.methodLink RX7 101 yX7_meets, Cond.instanceMethod yX7_meets, Cond.selects RX7 yX7_meets yX7_meets, Cond.code yX7_meets cX7_meets 2 (some .int), Cond.fieldLink RX7 75 "BathBookModel" "finding" "I", Cond.fieldLink RX7 7 "BathBookModel" "findings" "[I", Cond.methodLink RX7 79 yX7_size, Cond.static yX7_size, Cond.code yX7_size cX7_size 2 (some .long)]
def wsX7_due : List Cond := .code yX7_due cX7_due 10 (some .int) :: ((wsX7_due_r1 ++ wsX7_due_r2) ++ wsX70)
def wsX7_resting : List Cond := .code yX7_resting cX7_resting 5 (some .int) :: ([.fieldLink RX7 147 "BathBookModel" "certificates" "I", .fieldLink RX7 59 "BathBookModel" "rest" "[I", .methodLink RX7 180 yX7_isCertificate, .instanceMethod yX7_isCertificate, .selects RX7 yX7_isCertificate yX7_isCertificate, .initialized RX7, .code yX7_isCertificate cX7_isCertificate 2 (some .boolean), .methodLink RX7 93 yX7_in, .static yX7_in, .code yX7_in cX7_in 3 (some .boolean)] ++ wsX70)
def wsX7_isLab : List Cond := .code yX7_isLab cX7_isLab 1 (some .boolean) :: ([.methodLink RX7 93 yX7_in, .static yX7_in, .initialized RX7, .code yX7_in cX7_in 3 (some .boolean)])
def wsX7_lab : List Cond := .code yX7_lab cX7_lab 5 (some .int) :: ([.fieldLink RX7 66 "BathBookModel" "isTold" "[Z", .fieldLink RX7 69 "BathBookModel" "differences" "[I", .fieldLink RX7 72 "BathBookModel" "labEnds" "[I", .methodLink RX7 196 yX7_isLab, .static yX7_isLab, .initialized RX7, .code yX7_isLab cX7_isLab 1 (some .boolean), .methodLink RX7 93 yX7_in, .static yX7_in, .code yX7_in cX7_in 3 (some .boolean)] ++ wsX70)
def wsX7_isRing : List Cond := .code yX7_isRing cX7_isRing 4 (some .boolean) :: ([.fieldLink RX7 66 "BathBookModel" "isTold" "[Z"] ++ wsX70)
def wsX7_over : List Cond := .code yX7_over cX7_over 4 (some .int) :: ([.fieldLink RX7 69 "BathBookModel" "differences" "[I"] ++ wsX70)
def wsX7_isClosed : List Cond := .code yX7_isClosed cX7_isClosed 4 (some .boolean) :: ([.fieldLink RX7 72 "BathBookModel" "labEnds" "[I", .methodLink RX7 199 yX7_over, .instanceMethod yX7_over, .selects RX7 yX7_over yX7_over, .initialized RX7, .code yX7_over cX7_over 4 (some .int), .fieldLink RX7 69 "BathBookModel" "differences" "[I", .methodLink RX7 79 yX7_size, .static yX7_size, .code yX7_size cX7_size 2 (some .long)] ++ wsX70)
def wsX7_closes_r1 : List Cond := [Cond.methodLink RX7 196 yX7_isLab, Cond.static yX7_isLab, Cond.initialized RX7, Cond.code yX7_isLab cX7_isLab 1 (some .boolean), Cond.methodLink RX7 93 yX7_in, Cond.static yX7_in, Cond.code yX7_in cX7_in 3 (some .boolean), Cond.methodLink RX7 202 yX7_isRing, Cond.instanceMethod yX7_isRing, Cond.selects RX7 yX7_isRing yX7_isRing, Cond.code yX7_isRing cX7_isRing 4 (some .boolean), Cond.fieldLink RX7 66 "BathBookModel" "isTold" "[Z", Cond.methodLink RX7 199 yX7_over, Cond.instanceMethod yX7_over, Cond.selects RX7 yX7_over yX7_over, Cond.code yX7_over cX7_over 4 (some .int), Cond.fieldLink RX7 69 "BathBookModel" "differences" "[I", Cond.methodLink RX7 205 yX7_isClosed, Cond.instanceMethod yX7_isClosed, Cond.selects RX7 yX7_isClosed yX7_isClosed, Cond.code yX7_isClosed cX7_isClosed 4 (some .boolean), Cond.fieldLink RX7 72 "BathBookModel" "labEnds" "[I", Cond.methodLink RX7 79 yX7_size, Cond.static yX7_size]
def wsX7_closes_r2 : List Cond := [Cond.code yX7_size cX7_size 2 (some .long), Cond.methodLink RX7 110 yX7_ask, Cond.instanceMethod yX7_ask, Cond.selects RX7 yX7_ask yX7_ask, Cond.code yX7_ask cX7_ask 4 (some .int), Cond.fieldLink RX7 90 "BathBookModel" "asked" "J"]
def wsX7_closes : List Cond := .code yX7_closes cX7_closes 4 (some .int) :: ((wsX7_closes_r1 ++ wsX7_closes_r2) ++ wsX70)
def wsX7_open : List Cond := .code yX7_open cX7_open 5 (some .int) :: ([.methodLink RX7 202 yX7_isRing, .instanceMethod yX7_isRing, .selects RX7 yX7_isRing yX7_isRing, .initialized RX7, .code yX7_isRing cX7_isRing 4 (some .boolean), .fieldLink RX7 66 "BathBookModel" "isTold" "[Z", .methodLink RX7 205 yX7_isClosed, .instanceMethod yX7_isClosed, .selects RX7 yX7_isClosed yX7_isClosed, .code yX7_isClosed cX7_isClosed 4 (some .boolean), .fieldLink RX7 72 "BathBookModel" "labEnds" "[I", .methodLink RX7 199 yX7_over, .instanceMethod yX7_over, .selects RX7 yX7_over yX7_over, .code yX7_over cX7_over 4 (some .int), .fieldLink RX7 69 "BathBookModel" "differences" "[I", .methodLink RX7 79 yX7_size, .static yX7_size, .code yX7_size cX7_size 2 (some .long)] ++ wsX70)
def wsX7_asked : List Cond := .code yX7_asked cX7_asked 1 (some .long) :: ([.fieldLink RX7 90 "BathBookModel" "asked" "J"] ++ wsX70)
def wsX7_upper : List Cond := .code yX7_upper cX7_upper 1 (some .long) :: ([.fieldLink RX7 87 "BathBookModel" "upper" "J"] ++ wsX70)
def wsX7_lower : List Cond := .code yX7_lower cX7_lower 1 (some .long) :: ([.fieldLink RX7 13 "BathBookModel" "lower" "J"] ++ wsX70)
def wsX7_tellsCount : List Cond := .code yX7_tellsCount cX7_tellsCount 4 (some .int) :: ([.fieldLink RX7 17 "BathBookModel" "sizes" "[I", .fieldLink RX7 26 "BathBookModel" "points" "[I", .fieldLink RX7 147 "BathBookModel" "certificates" "I", .fieldLink RX7 62 "BathBookModel" "isVoid" "[Z", .fieldLink RX7 144 "BathBookModel" "bulbs" "I"] ++ wsX70)
def wsX7_count : List Cond := .code yX7_count cX7_count 2 (some .int) :: ([.methodLink RX7 93 yX7_in, .static yX7_in, .initialized RX7, .code yX7_in cX7_in 3 (some .boolean), .methodLink RX7 208 yX7_tellsCount, .instanceMethod yX7_tellsCount, .selects RX7 yX7_tellsCount yX7_tellsCount, .code yX7_tellsCount cX7_tellsCount 4 (some .int), .fieldLink RX7 17 "BathBookModel" "sizes" "[I", .fieldLink RX7 26 "BathBookModel" "points" "[I", .fieldLink RX7 147 "BathBookModel" "certificates" "I", .fieldLink RX7 62 "BathBookModel" "isVoid" "[Z", .fieldLink RX7 144 "BathBookModel" "bulbs" "I"] ++ wsX70)
def wsX7_finding : List Cond := .code yX7_finding cX7_finding 1 (some .int) :: ([.fieldLink RX7 75 "BathBookModel" "finding" "I"] ++ wsX70)
def wsX7_findings : List Cond := .code yX7_findings cX7_findings 2 (some .int) :: ([.fieldLink RX7 7 "BathBookModel" "findings" "[I", .methodLink RX7 93 yX7_in, .static yX7_in, .initialized RX7, .code yX7_in cX7_in 3 (some .boolean)] ++ wsX70)
def wsX7_digest_r1 : List Cond := [Cond.constantLong RX7 211 (17), Cond.constantLong RX7 213 (31), Cond.fieldLink RX7 144 "BathBookModel" "bulbs" "I", Cond.fieldLink RX7 147 "BathBookModel" "certificates" "I", Cond.fieldLink RX7 53 "BathBookModel" "offsets" "[I", Cond.fieldLink RX7 17 "BathBookModel" "sizes" "[I", Cond.fieldLink RX7 20 "BathBookModel" "rows" "[I", Cond.methodLink RX7 208 yX7_tellsCount, Cond.instanceMethod yX7_tellsCount, Cond.selects RX7 yX7_tellsCount yX7_tellsCount, Cond.initialized RX7, Cond.code yX7_tellsCount cX7_tellsCount 4 (some .int), Cond.fieldLink RX7 26 "BathBookModel" "points" "[I", Cond.fieldLink RX7 62 "BathBookModel" "isVoid" "[Z", Cond.methodLink RX7 160 yX7_tells, Cond.instanceMethod yX7_tells, Cond.selects RX7 yX7_tells yX7_tells, Cond.code yX7_tells cX7_tells 6 (some .int), Cond.fieldLink RX7 41 "BathBookModel" "ofBulb" "[I", Cond.fieldLink RX7 35 "BathBookModel" "kinds" "[I", Cond.fieldLink RX7 38 "BathBookModel" "tolerances" "[I", Cond.methodLink RX7 154 yX7_latestOf, Cond.instanceMethod yX7_latestOf, Cond.selects RX7 yX7_latestOf yX7_latestOf]
def wsX7_digest_r2 : List Cond := [Cond.code yX7_latestOf cX7_latestOf 2 (some .int), Cond.constant RX7 106 (100000), Cond.methodLink RX7 150 yX7_lastOf, Cond.instanceMethod yX7_lastOf, Cond.selects RX7 yX7_lastOf yX7_lastOf, Cond.code yX7_lastOf cX7_lastOf 6 (some .int), Cond.fieldLink RX7 50 "BathBookModel" "onDay" "[I", Cond.methodLink RX7 183 yX7_tellsOf, Cond.instanceMethod yX7_tellsOf, Cond.selects RX7 yX7_tellsOf yX7_tellsOf, Cond.code yX7_tellsOf cX7_tellsOf 3 (some .int), Cond.fieldLink RX7 44 "BathBookModel" "byBulb" "[I", Cond.fieldLink RX7 47 "BathBookModel" "inBath" "[I", Cond.fieldLink RX7 56 "BathBookModel" "ends" "[I", Cond.fieldLink RX7 59 "BathBookModel" "rest" "[I"]
def wsX7_digest : List Cond := .code yX7_digest cX7_digest 5 (some .long) :: ((wsX7_digest_r1 ++ wsX7_digest_r2) ++ wsX70)
def wsJ9_abs_0f7a4 : List Cond := .code yJ9_abs_0f7a4 cJ9_abs_0f7a4 1 (some .int) :: ([])
def wsJ9_abs_067f4 : List Cond := .code yJ9_abs_067f4 cJ9_abs_067f4 2 (some .long) :: ([])
def wsJ9_max_7cf53 : List Cond := .code yJ9_max_7cf53 cJ9_max_7cf53 2 (some .int) :: ([])
def wsJ9_min_7cf53 : List Cond := .code yJ9_min_7cf53 cJ9_min_7cf53 2 (some .int) :: ([])
def wsJ9_min_f86c9 : List Cond := .code yJ9_min_f86c9 cJ9_min_f86c9 4 (some .long) :: ([])
def wsL_law_r1 : List Cond := [Cond.classLink RL 7 RX6, Cond.instantiable RX6 9, Cond.initialized RX6, Cond.classLink RL 10 RX7, Cond.instantiable RX7 30, Cond.initialized RX7, Cond.methodLink RL 9 yX6_init, Cond.instanceMethod yX6_init, Cond.code yX6_init cX6_init 1 none, Cond.methodLink RX6 1 objectInit, Cond.instanceMethod objectInit, Cond.code objectInit ⟨#[0xb1]⟩ 1 none, Cond.classLink RX6 7 RX4, Cond.instantiable RX4 2, Cond.initialized RX4, Cond.fieldLink RX6 10 "BathBook" "rows" "LBathBook$Rows;", Cond.classLink RX6 16 RX5, Cond.instantiable RX5 3, Cond.initialized RX5, Cond.fieldLink RX6 19 "BathBook" "tables" "LBathBook$Tables;", Cond.classLink RX6 23 RX0, Cond.instantiable RX0 3, Cond.initialized RX0, Cond.fieldLink RX6 26 "BathBook" "bulbs" "LBathBook$Bulbs;"]
def wsL_law_r2 : List Cond := [Cond.classLink RX6 30 RX1, Cond.instantiable RX1 2, Cond.initialized RX1, Cond.fieldLink RX6 33 "BathBook" "certificates" "LBathBook$Certificates;", Cond.classLink RX6 37 RX3, Cond.instantiable RX3 2, Cond.initialized RX3, Cond.fieldLink RX6 40 "BathBook" "round" "LBathBook$Round;", Cond.classLink RX6 44 RX2, Cond.instantiable RX2 2, Cond.initialized RX2, Cond.fieldLink RX6 47 "BathBook" "fraction" "LBathBook$Fraction;", Cond.arrayClass .int, Cond.fieldLink RX6 51 "BathBook" "findingCounts" "[I", Cond.fieldLink RX6 55 "BathBook" "lastFinding" "I", Cond.fieldLink RX6 59 "BathBook" "lastAsked" "J", Cond.methodLink RX6 9 yX4_init, Cond.instanceMethod yX4_init, Cond.code yX4_init cX4_init 1 none, Cond.methodLink RX4 3 objectInit, Cond.classLink RX4 9 "[[I", Cond.fieldLink RX4 11 "BathBook$Rows" "readings" "[[I", Cond.fieldLink RX4 16 "BathBook$Rows" "sizes" "[I", Cond.methodLink RX4 20 yJ7_fill_53178]
def wsL_law_r3 : List Cond := [Cond.static yJ7_fill_53178, Cond.initialized RJ7, Cond.code yJ7_fill_53178 cJ7_fill_53178 4 none, Cond.methodLink RX6 18 yX5_init, Cond.instanceMethod yX5_init, Cond.code yX5_init cX5_init 1 none, Cond.methodLink RX5 3 objectInit, Cond.classLink RX5 9 "[[I", Cond.fieldLink RX5 11 "BathBook$Tables" "xs" "[[I", Cond.fieldLink RX5 16 "BathBook$Tables" "ys" "[[I", Cond.fieldLink RX5 19 "BathBook$Tables" "sizes" "[I", Cond.methodLink RX6 25 yX0_init, Cond.instanceMethod yX0_init, Cond.code yX0_init cX0_init 1 none, Cond.methodLink RX0 3 objectInit, Cond.fieldLink RX0 9 "BathBook$Bulbs" "kinds" "[I", Cond.fieldLink RX0 15 "BathBook$Bulbs" "tolerances" "[I", Cond.fieldLink RX0 18 "BathBook$Bulbs" "made" "I", Cond.methodLink RX6 32 yX1_init, Cond.instanceMethod yX1_init, Cond.code yX1_init cX1_init 1 none, Cond.methodLink RX1 3 objectInit, Cond.classLink RX1 11 "[[I", Cond.fieldLink RX1 13 "BathBook$Certificates" "facts" "[[I"]
def wsL_law_r4 : List Cond := [Cond.fieldLink RX1 16 "BathBook$Certificates" "made" "I", Cond.methodLink RX6 39 yX3_init, Cond.instanceMethod yX3_init, Cond.code yX3_init cX3_init 2 none, Cond.methodLink RX3 3 objectInit, Cond.classLink RX3 9 "[[I", Cond.fieldLink RX3 11 "BathBook$Round" "differences" "[[I", Cond.fieldLink RX3 16 "BathBook$Round" "ends" "[[I", Cond.methodLink RX3 19 yJ7_fill_53178, Cond.methodLink RX6 46 yX2_init, Cond.instanceMethod yX2_init, Cond.code yX2_init cX2_init 1 none, Cond.methodLink RX2 1 objectInit, Cond.fieldLink RX2 7 "BathBook$Fraction" "top" "J", Cond.fieldLink RX2 13 "BathBook$Fraction" "bottom" "J", Cond.methodLink RL 12 yX7_init, Cond.instanceMethod yX7_init, Cond.code yX7_init cX7_init 2 none, Cond.methodLink RX7 1 objectInit, Cond.fieldLink RX7 7 "BathBookModel" "findings" "[I", Cond.fieldLink RX7 13 "BathBookModel" "lower" "J", Cond.fieldLink RX7 17 "BathBookModel" "sizes" "[I", Cond.fieldLink RX7 20 "BathBookModel" "rows" "[I", Cond.fieldLink RX7 23 "BathBookModel" "moving" "[I"]
def wsL_law_r5 : List Cond := [Cond.fieldLink RX7 26 "BathBookModel" "points" "[I", Cond.fieldLink RX7 29 "BathBookModel" "xs" "[I", Cond.fieldLink RX7 32 "BathBookModel" "ys" "[I", Cond.fieldLink RX7 35 "BathBookModel" "kinds" "[I", Cond.fieldLink RX7 38 "BathBookModel" "tolerances" "[I", Cond.fieldLink RX7 41 "BathBookModel" "ofBulb" "[I", Cond.fieldLink RX7 44 "BathBookModel" "byBulb" "[I", Cond.fieldLink RX7 47 "BathBookModel" "inBath" "[I", Cond.fieldLink RX7 50 "BathBookModel" "onDay" "[I", Cond.fieldLink RX7 53 "BathBookModel" "offsets" "[I", Cond.fieldLink RX7 56 "BathBookModel" "ends" "[I", Cond.fieldLink RX7 59 "BathBookModel" "rest" "[I", Cond.arrayClass .boolean, Cond.fieldLink RX7 62 "BathBookModel" "isVoid" "[Z", Cond.fieldLink RX7 66 "BathBookModel" "isTold" "[Z", Cond.fieldLink RX7 69 "BathBookModel" "differences" "[I", Cond.fieldLink RX7 72 "BathBookModel" "labEnds" "[I", Cond.methodLink RL 13 yX6_row, Cond.instanceMethod yX6_row, Cond.selects RX6 yX6_row yX6_row, Cond.code yX6_row cX6_row 3 (some .int), Cond.methodLink RX6 63 yX6_isRow, Cond.static yX6_isRow, Cond.code yX6_isRow cX6_isRow 1 (some .boolean)]
def wsL_law_r6 : List Cond := [Cond.methodLink RX6 113 yX6_isBetween, Cond.static yX6_isBetween, Cond.code yX6_isBetween cX6_isBetween 3 (some .boolean), Cond.methodLink RX6 67 yX6_refuse, Cond.instanceMethod yX6_refuse, Cond.selects RX6 yX6_refuse yX6_refuse, Cond.code yX6_refuse cX6_refuse 2 (some .int), Cond.methodLink RX6 71 yX4_make, Cond.instanceMethod yX4_make, Cond.selects RX4 yX4_make yX4_make, Cond.code yX4_make cX4_make 3 none, Cond.methodLink RL 17 yX7_row, Cond.instanceMethod yX7_row, Cond.selects RX7 yX7_row yX7_row, Cond.code yX7_row cX7_row 4 (some .int), Cond.methodLink RX7 97 yX7_isRow, Cond.static yX7_isRow, Cond.code yX7_isRow cX7_isRow 1 (some .boolean), Cond.methodLink RX7 93 yX7_in, Cond.static yX7_in, Cond.code yX7_in cX7_in 3 (some .boolean), Cond.methodLink RX7 101 yX7_meets, Cond.instanceMethod yX7_meets, Cond.selects RX7 yX7_meets yX7_meets]
def wsL_law_r7 : List Cond := [Cond.code yX7_meets cX7_meets 2 (some .int), Cond.fieldLink RX7 75 "BathBookModel" "finding" "I", Cond.methodLink RL 18 yX6_lay, Cond.instanceMethod yX6_lay, Cond.selects RX6 yX6_lay yX6_lay, Cond.code yX6_lay cX6_lay 4 (some .int), Cond.constant RX6 75 (100000), Cond.methodLink RX6 76 yX6_isWithin, Cond.static yX6_isWithin, Cond.code yX6_isWithin cX6_isWithin 2 (some .boolean), Cond.methodLink RX6 80 yX4_isMissing, Cond.instanceMethod yX4_isMissing, Cond.selects RX4 yX4_isMissing yX4_isMissing, Cond.code yX4_isMissing cX4_isMissing 2 (some .boolean), Cond.methodLink RX6 83 yX4_hasPlaces, Cond.instanceMethod yX4_hasPlaces, Cond.selects RX4 yX4_hasPlaces yX4_hasPlaces, Cond.code yX4_hasPlaces cX4_hasPlaces 4 (some .boolean), Cond.methodLink RX6 87 yX4_readingAt, Cond.instanceMethod yX4_readingAt, Cond.selects RX4 yX4_readingAt yX4_readingAt, Cond.code yX4_readingAt cX4_readingAt 3 (some .int), Cond.methodLink RX6 91 yX4_put, Cond.instanceMethod yX4_put]
def wsL_law_r8 : List Cond := [Cond.selects RX4 yX4_put yX4_put, Cond.code yX4_put cX4_put 4 none, Cond.methodLink RL 22 yX7_lay, Cond.instanceMethod yX7_lay, Cond.selects RX7 yX7_lay yX7_lay, Cond.code yX7_lay cX7_lay 5 (some .int), Cond.constant RX7 105 (-100000), Cond.constant RX7 106 (100000), Cond.fieldLink RX7 90 "BathBookModel" "asked" "J", Cond.methodLink RX7 107 yX7_looked, Cond.instanceMethod yX7_looked, Cond.selects RX7 yX7_looked yX7_looked, Cond.code yX7_looked cX7_looked 2 (some .int), Cond.methodLink RL 23 yX6_tear, Cond.instanceMethod yX6_tear, Cond.selects RX6 yX6_tear yX6_tear, Cond.code yX6_tear cX6_tear 2 (some .int), Cond.methodLink RX6 95 yX4_drop, Cond.instanceMethod yX4_drop, Cond.selects RX4 yX4_drop yX4_drop, Cond.code yX4_drop cX4_drop 2 none, Cond.methodLink RL 27 yX7_tear, Cond.instanceMethod yX7_tear, Cond.selects RX7 yX7_tear yX7_tear]
def wsL_law_r9 : List Cond := [Cond.code yX7_tear cX7_tear 3 (some .int), Cond.methodLink RL 28 yX6_copy, Cond.instanceMethod yX6_copy, Cond.selects RX6 yX6_copy yX6_copy, Cond.code yX6_copy cX6_copy 6 (some .int), Cond.methodLink RX6 99 yX4_carry, Cond.instanceMethod yX4_carry, Cond.selects RX4 yX4_carry yX4_carry, Cond.code yX4_carry cX4_carry 6 none, Cond.methodLink RX4 30 arraycopyName, Cond.native arraycopyName, Cond.static arraycopyName, Cond.initialized "java/lang/System", Cond.methodLink RL 32 yX7_copy, Cond.instanceMethod yX7_copy, Cond.selects RX7 yX7_copy yX7_copy, Cond.code yX7_copy cX7_copy 7 (some .int), Cond.methodLink RL 33 yX6_mean, Cond.instanceMethod yX6_mean, Cond.selects RX6 yX6_mean yX6_mean, Cond.code yX6_mean cX6_mean 3 (some .int), Cond.methodLink RX6 103 yX4_heldCount, Cond.instanceMethod yX4_heldCount, Cond.selects RX4 yX4_heldCount yX4_heldCount]
def wsL_law_r10 : List Cond := [Cond.code yX4_heldCount cX4_heldCount 4 (some .int), Cond.methodLink RX6 106 yX4_sizeOf, Cond.instanceMethod yX4_sizeOf, Cond.selects RX4 yX4_sizeOf yX4_sizeOf, Cond.code yX4_sizeOf cX4_sizeOf 2 (some .int), Cond.methodLink RX6 109 yX4_heldSum, Cond.instanceMethod yX4_heldSum, Cond.selects RX4 yX4_heldSum yX4_heldSum, Cond.code yX4_heldSum cX4_heldSum 6 (some .int), Cond.methodLink RL 36 yX7_mean, Cond.instanceMethod yX7_mean, Cond.selects RX7 yX7_mean yX7_mean, Cond.code yX7_mean cX7_mean 8 (some .int), Cond.methodLink RX7 110 yX7_ask, Cond.instanceMethod yX7_ask, Cond.selects RX7 yX7_ask yX7_ask, Cond.code yX7_ask cX7_ask 4 (some .int), Cond.methodLink RL 37 yX6_plateau, Cond.instanceMethod yX6_plateau, Cond.selects RX6 yX6_plateau yX6_plateau, Cond.code yX6_plateau cX6_plateau 6 (some .int), Cond.methodLink RX6 116 yX4_longestLevelStart, Cond.instanceMethod yX4_longestLevelStart, Cond.selects RX4 yX4_longestLevelStart yX4_longestLevelStart]
def wsL_law_r11 : List Cond := [Cond.code yX4_longestLevelStart cX4_longestLevelStart 7 (some .int), Cond.methodLink RX4 36 yX4_levelLength, Cond.instanceMethod yX4_levelLength, Cond.selects RX4 yX4_levelLength yX4_levelLength, Cond.code yX4_levelLength cX4_levelLength 9 (some .int), Cond.constant RX4 40 (100000), Cond.constant RX4 41 (-100000), Cond.methodLink RX4 42 Lib.Math.min.name, Cond.static Lib.Math.min.name, Cond.initialized "java/lang/Math", Cond.code Lib.Math.min.name Lib.Math.min.code 2 (some .int), Cond.methodLink RX4 48 Lib.Math.max.name, Cond.static Lib.Math.max.name, Cond.code Lib.Math.max.name Lib.Math.max.code 2 (some .int), Cond.methodLink RX6 119 yX4_levelLength, Cond.methodLink RX6 122 yX2_tell, Cond.instanceMethod yX2_tell, Cond.selects RX2 yX2_tell yX2_tell, Cond.code yX2_tell cX2_tell 9 none, Cond.static yX6_greatestDivisor, Cond.code yX6_greatestDivisor cX6_greatestDivisor 11 (some .long), Cond.methodLink RX6 153 Lib.MathLoose.abs_long.x, Cond.static Lib.MathLoose.abs_long.x, Cond.code Lib.MathLoose.abs_long.x Lib.MathLoose.abs_long.code 2 (some .long)]
def wsL_law_r12 : List Cond := [Cond.methodLink RL 40 yX7_plateau, Cond.instanceMethod yX7_plateau, Cond.selects RX7 yX7_plateau yX7_plateau, Cond.code yX7_plateau cX7_plateau 16 (some .int), Cond.methodLink RX7 114 yX7_tell, Cond.instanceMethod yX7_tell, Cond.selects RX7 yX7_tell yX7_tell, Cond.code yX7_tell cX7_tell 8 (some .int), Cond.fieldLink RX7 87 "BathBookModel" "upper" "J", Cond.methodLink RX7 83 yX7_divisor, Cond.static yX7_divisor, Cond.code yX7_divisor cX7_divisor 10 (some .long), Cond.methodLink RX7 79 yX7_size, Cond.static yX7_size, Cond.code yX7_size cX7_size 2 (some .long), Cond.methodLink RL 41 yX6_point, Cond.instanceMethod yX6_point, Cond.selects RX6 yX6_point yX6_point, Cond.code yX6_point cX6_point 4 (some .int), Cond.methodLink RX6 126 yX6_isTable, Cond.static yX6_isTable, Cond.code yX6_isTable cX6_isTable 1 (some .boolean), Cond.methodLink RX6 129 yX5_hasX, Cond.instanceMethod yX5_hasX]
def wsL_law_r13 : List Cond := [Cond.selects RX5 yX5_hasX yX5_hasX, Cond.code yX5_hasX cX5_hasX 4 (some .boolean), Cond.methodLink RX6 132 yX5_sizeOf, Cond.instanceMethod yX5_sizeOf, Cond.selects RX5 yX5_sizeOf yX5_sizeOf, Cond.code yX5_sizeOf cX5_sizeOf 2 (some .int), Cond.methodLink RX6 133 yX5_add, Cond.instanceMethod yX5_add, Cond.selects RX5 yX5_add yX5_add, Cond.code yX5_add cX5_add 5 (some .int), Cond.methodLink RL 44 yX7_point, Cond.instanceMethod yX7_point, Cond.selects RX7 yX7_point yX7_point, Cond.code yX7_point cX7_point 6 (some .int), Cond.methodLink RX7 118 yX7_isTable, Cond.static yX7_isTable, Cond.code yX7_isTable cX7_isTable 1 (some .boolean), Cond.methodLink RX7 121 yX7_isX, Cond.static yX7_isX, Cond.code yX7_isX cX7_isX 1 (some .boolean), Cond.methodLink RL 45 yX6_clear, Cond.instanceMethod yX6_clear, Cond.selects RX6 yX6_clear yX6_clear, Cond.code yX6_clear cX6_clear 2 (some .int)]
def wsL_law_r14 : List Cond := [Cond.methodLink RX6 136 yX5_empty, Cond.instanceMethod yX5_empty, Cond.selects RX5 yX5_empty yX5_empty, Cond.code yX5_empty cX5_empty 3 (some .int), Cond.methodLink RL 48 yX7_clear, Cond.instanceMethod yX7_clear, Cond.selects RX7 yX7_clear yX7_clear, Cond.code yX7_clear cX7_clear 3 (some .int), Cond.methodLink RL 49 yX6_curve, Cond.instanceMethod yX6_curve, Cond.selects RX6 yX6_curve yX6_curve, Cond.code yX6_curve cX6_curve 5 (some .int), Cond.methodLink RX6 139 yX5_commonLower, Cond.instanceMethod yX5_commonLower, Cond.selects RX5 yX5_commonLower yX5_commonLower, Cond.code yX5_commonLower cX5_commonLower 5 (some .long), Cond.methodLink RX5 23 yX5_productWithout, Cond.instanceMethod yX5_productWithout, Cond.selects RX5 yX5_productWithout yX5_productWithout, Cond.code yX5_productWithout cX5_productWithout 7 (some .long), Cond.static yX6_leastMultiple, Cond.code yX6_leastMultiple cX6_leastMultiple 6 (some .long), Cond.methodLink RX6 283 yX6_greatestDivisor, Cond.methodLink RX6 143 yX5_worthAt]
def wsL_law_r15 : List Cond := [Cond.instanceMethod yX5_worthAt, Cond.selects RX5 yX5_worthAt yX5_worthAt, Cond.code yX5_worthAt cX5_worthAt 10 (some .long), Cond.methodLink RL 52 yX7_curve, Cond.instanceMethod yX7_curve, Cond.selects RX7 yX7_curve yX7_curve, Cond.code yX7_curve cX7_curve 3 (some .int), Cond.fieldLink RX7 127 "BathBookModel" "sumUp" "J", Cond.fieldLink RX7 124 "BathBookModel" "sumLow" "J", Cond.methodLink RX7 134 yX7_addCurve, Cond.instanceMethod yX7_addCurve, Cond.selects RX7 yX7_addCurve yX7_addCurve, Cond.code yX7_addCurve cX7_addCurve 10 none, Cond.methodLink RX7 130 yX7_add, Cond.instanceMethod yX7_add, Cond.selects RX7 yX7_add yX7_add, Cond.code yX7_add cX7_add 13 none, Cond.methodLink RL 53 yX6_apart, Cond.instanceMethod yX6_apart, Cond.selects RX6 yX6_apart yX6_apart, Cond.code yX6_apart cX6_apart 13 (some .int), Cond.constantLong RX6 151 (-1), Cond.methodLink RX6 147 yX6_leastMultiple, Cond.methodLink RL 57 yX7_apart]
def wsL_law_r16 : List Cond := [Cond.instanceMethod yX7_apart, Cond.selects RX7 yX7_apart yX7_apart, Cond.code yX7_apart cX7_apart 11 (some .int), Cond.constantLong RX7 138 (-1), Cond.methodLink RX7 140 yX7_isBelow, Cond.static yX7_isBelow, Cond.code yX7_isBelow cX7_isBelow 21 (some .boolean), Cond.methodLink RL 58 yX6_bulb, Cond.instanceMethod yX6_bulb, Cond.selects RX6 yX6_bulb yX6_bulb, Cond.code yX6_bulb cX6_bulb 3 (some .int), Cond.methodLink RX6 159 yX0_size, Cond.instanceMethod yX0_size, Cond.selects RX0 yX0_size yX0_size, Cond.code yX0_size cX0_size 1 (some .int), Cond.methodLink RX6 163 yX0_add, Cond.instanceMethod yX0_add, Cond.selects RX0 yX0_add yX0_add, Cond.code yX0_add cX0_add 3 (some .int), Cond.methodLink RL 61 yX7_bulb, Cond.instanceMethod yX7_bulb, Cond.selects RX7 yX7_bulb yX7_bulb, Cond.code yX7_bulb cX7_bulb 3 (some .int), Cond.fieldLink RX7 144 "BathBookModel" "bulbs" "I"]
def wsL_law_r17 : List Cond := [Cond.methodLink RL 62 yX6_told, Cond.instanceMethod yX6_told, Cond.selects RX6 yX6_told yX6_told, Cond.code yX6_told cX6_told 3 (some .int), Cond.methodLink RX6 165 yX0_has, Cond.instanceMethod yX0_has, Cond.selects RX0 yX0_has yX0_has, Cond.code yX0_has cX0_has 2 (some .boolean), Cond.methodLink RX6 168 yX0_kindOf, Cond.instanceMethod yX0_kindOf, Cond.selects RX0 yX0_kindOf yX0_kindOf, Cond.code yX0_kindOf cX0_kindOf 2 (some .int), Cond.methodLink RX6 171 yX0_toleranceOf, Cond.instanceMethod yX0_toleranceOf, Cond.selects RX0 yX0_toleranceOf yX0_toleranceOf, Cond.code yX0_toleranceOf cX0_toleranceOf 2 (some .int), Cond.methodLink RX6 174 yX1_countOf, Cond.instanceMethod yX1_countOf, Cond.selects RX1 yX1_countOf yX1_countOf, Cond.code yX1_countOf cX1_countOf 6 (some .int), Cond.methodLink RX6 178 yX1_latestOf, Cond.instanceMethod yX1_latestOf, Cond.selects RX1 yX1_latestOf yX1_latestOf, Cond.code yX1_latestOf cX1_latestOf 2 (some .int)]
def wsL_law_r18 : List Cond := [Cond.constant RX1 30 (100000), Cond.methodLink RX1 31 yX1_lastUntil, Cond.instanceMethod yX1_lastUntil, Cond.selects RX1 yX1_lastUntil yX1_lastUntil, Cond.code yX1_lastUntil cX1_lastUntil 5 (some .int), Cond.methodLink RX1 24 Lib.Math.min.name, Cond.methodLink RL 65 yX7_told, Cond.instanceMethod yX7_told, Cond.selects RX7 yX7_told yX7_told, Cond.code yX7_told cX7_told 3 (some .int), Cond.methodLink RX7 157 yX7_isBulb, Cond.instanceMethod yX7_isBulb, Cond.selects RX7 yX7_isBulb yX7_isBulb, Cond.code yX7_isBulb cX7_isBulb 2 (some .boolean), Cond.methodLink RX7 160 yX7_tells, Cond.instanceMethod yX7_tells, Cond.selects RX7 yX7_tells yX7_tells, Cond.code yX7_tells cX7_tells 6 (some .int), Cond.fieldLink RX7 147 "BathBookModel" "certificates" "I", Cond.methodLink RX7 154 yX7_latestOf, Cond.instanceMethod yX7_latestOf, Cond.selects RX7 yX7_latestOf yX7_latestOf, Cond.code yX7_latestOf cX7_latestOf 2 (some .int), Cond.methodLink RX7 150 yX7_lastOf]
def wsL_law_r19 : List Cond := [Cond.instanceMethod yX7_lastOf, Cond.selects RX7 yX7_lastOf yX7_lastOf, Cond.code yX7_lastOf cX7_lastOf 6 (some .int), Cond.methodLink RL 66 yX6_mark, Cond.instanceMethod yX6_mark, Cond.selects RX6 yX6_mark yX6_mark, Cond.code yX6_mark cX6_mark 3 (some .int), Cond.methodLink RX6 181 yX0_isOf, Cond.instanceMethod yX0_isOf, Cond.selects RX0 yX0_isOf yX0_isOf, Cond.code yX0_isOf cX0_isOf 3 (some .boolean), Cond.methodLink RX6 184 yX1_countOverBulb, Cond.instanceMethod yX1_countOverBulb, Cond.selects RX1 yX1_countOverBulb yX1_countOverBulb, Cond.code yX1_countOverBulb cX1_countOverBulb 4 (some .int), Cond.methodLink RX1 46 yX1_isOverBulb, Cond.instanceMethod yX1_isOverBulb, Cond.selects RX1 yX1_isOverBulb yX1_isOverBulb, Cond.code yX1_isOverBulb cX1_isOverBulb 5 (some .boolean), Cond.methodLink RX1 39 yX1_has, Cond.instanceMethod yX1_has, Cond.selects RX1 yX1_has yX1_has, Cond.code yX1_has cX1_has 2 (some .boolean), Cond.methodLink RL 69 yX7_mark]
def wsL_law_r20 : List Cond := [Cond.instanceMethod yX7_mark, Cond.selects RX7 yX7_mark yX7_mark, Cond.code yX7_mark cX7_mark 5 (some .int), Cond.methodLink RX7 164 yX7_is, Cond.instanceMethod yX7_is, Cond.selects RX7 yX7_is yX7_is, Cond.code yX7_is cX7_is 3 (some .boolean), Cond.methodLink RX7 168 yX7_restsOn, Cond.instanceMethod yX7_restsOn, Cond.selects RX7 yX7_restsOn yX7_restsOn, Cond.code yX7_restsOn cX7_restsOn 5 (some .boolean), Cond.methodLink RL 70 yX6_stem, Cond.instanceMethod yX6_stem, Cond.selects RX6 yX6_stem yX6_stem, Cond.code yX6_stem cX6_stem 6 (some .int), Cond.constantLong RX6 187 (100000), Cond.constantLong RX6 189 (16), Cond.methodLink RL 73 yX7_stem, Cond.instanceMethod yX7_stem, Cond.selects RX7 yX7_stem yX7_stem, Cond.code yX7_stem cX7_stem 6 (some .int), Cond.constantLong RX7 171 (100000), Cond.constantLong RX7 173 (16), Cond.methodLink RL 74 yX6_currents]
def wsL_law_r21 : List Cond := [Cond.instanceMethod yX6_currents, Cond.selects RX6 yX6_currents yX6_currents, Cond.code yX6_currents cX6_currents 10 (some .int), Cond.methodLink RL 77 yX7_currents, Cond.instanceMethod yX7_currents, Cond.selects RX7 yX7_currents yX7_currents, Cond.code yX7_currents cX7_currents 6 (some .int), Cond.methodLink RL 78 yX6_compare, Cond.instanceMethod yX6_compare, Cond.selects RX6 yX6_compare yX6_compare, Cond.code yX6_compare cX6_compare 5 (some .int), Cond.constantLong RX6 194 (2), Cond.methodLink RX6 191 yX4_mirrorSum, Cond.instanceMethod yX4_mirrorSum, Cond.selects RX4 yX4_mirrorSum yX4_mirrorSum, Cond.code yX4_mirrorSum cX4_mirrorSum 3 (some .int), Cond.methodLink RL 81 yX7_compare, Cond.instanceMethod yX7_compare, Cond.selects RX7 yX7_compare yX7_compare, Cond.code yX7_compare cX7_compare 9 (some .int), Cond.constantLong RX7 175 (2), Cond.methodLink RL 82 yX6_certify, Cond.instanceMethod yX6_certify, Cond.selects RX6 yX6_certify yX6_certify]
def wsL_law_r22 : List Cond := [Cond.code yX6_certify cX6_certify 8 (some .int), Cond.methodLink RX6 196 yX6_isBath, Cond.static yX6_isBath, Cond.code yX6_isBath cX6_isBath 1 (some .boolean), Cond.methodLink RX6 199 yX6_isDay, Cond.static yX6_isDay, Cond.code yX6_isDay cX6_isDay 1 (some .boolean), Cond.methodLink RX6 202 yX1_size, Cond.instanceMethod yX1_size, Cond.selects RX1 yX1_size yX1_size, Cond.code yX1_size cX1_size 1 (some .int), Cond.methodLink RX6 203 yX1_lastUntil, Cond.methodLink RX6 206 yX1_add, Cond.instanceMethod yX1_add, Cond.selects RX1 yX1_add yX1_add, Cond.code yX1_add cX1_add 9 (some .int), Cond.methodLink RL 86 yX7_certify, Cond.instanceMethod yX7_certify, Cond.selects RX7 yX7_certify yX7_certify, Cond.code yX7_certify cX7_certify 8 (some .int), Cond.methodLink RX7 177 yX7_isDay, Cond.static yX7_isDay, Cond.code yX7_isDay cX7_isDay 1 (some .boolean), Cond.methodLink RL 87 yX6_certificate]
def wsL_law_r23 : List Cond := [Cond.instanceMethod yX6_certificate, Cond.selects RX6 yX6_certificate yX6_certificate, Cond.code yX6_certificate cX6_certificate 3 (some .int), Cond.methodLink RX6 209 yX1_has, Cond.methodLink RX6 210 yX1_fact, Cond.instanceMethod yX1_fact, Cond.selects RX1 yX1_fact yX1_fact, Cond.code yX1_fact cX1_fact 3 (some .int), Cond.methodLink RL 90 yX7_certificate, Cond.instanceMethod yX7_certificate, Cond.selects RX7 yX7_certificate yX7_certificate, Cond.code yX7_certificate cX7_certificate 3 (some .int), Cond.methodLink RX7 180 yX7_isCertificate, Cond.instanceMethod yX7_isCertificate, Cond.selects RX7 yX7_isCertificate yX7_isCertificate, Cond.code yX7_isCertificate cX7_isCertificate 2 (some .boolean), Cond.methodLink RX7 183 yX7_tellsOf, Cond.instanceMethod yX7_tellsOf, Cond.selects RX7 yX7_tellsOf yX7_tellsOf, Cond.code yX7_tellsOf cX7_tellsOf 3 (some .int), Cond.methodLink RL 91 yX6_offset, Cond.instanceMethod yX6_offset, Cond.selects RX6 yX6_offset yX6_offset, Cond.code yX6_offset cX6_offset 2 (some .int)]
def wsL_law_r24 : List Cond := [Cond.methodLink RL 94 yX7_offset, Cond.instanceMethod yX7_offset, Cond.selects RX7 yX7_offset yX7_offset, Cond.code yX7_offset cX7_offset 2 (some .int), Cond.methodLink RL 95 yX6_wrong, Cond.instanceMethod yX6_wrong, Cond.selects RX6 yX6_wrong yX6_wrong, Cond.code yX6_wrong cX6_wrong 4 (some .int), Cond.methodLink RX6 213 yX1_makeVoid, Cond.instanceMethod yX1_makeVoid, Cond.selects RX1 yX1_makeVoid yX1_makeVoid, Cond.code yX1_makeVoid cX1_makeVoid 7 (some .int), Cond.methodLink RX1 35 yX1_restsOnVoid, Cond.instanceMethod yX1_restsOnVoid, Cond.selects RX1 yX1_restsOnVoid yX1_restsOnVoid, Cond.code yX1_restsOnVoid cX1_restsOnVoid 3 (some .boolean), Cond.methodLink RL 98 yX7_wrong, Cond.instanceMethod yX7_wrong, Cond.selects RX7 yX7_wrong yX7_wrong, Cond.code yX7_wrong cX7_wrong 7 (some .int), Cond.methodLink RL 99 yX6_passes, Cond.instanceMethod yX6_passes, Cond.selects RX6 yX6_passes yX6_passes, Cond.code yX6_passes cX6_passes 4 (some .int)]
def wsL_law_r25 : List Cond := [Cond.methodLink RX6 216 Lib.Math.abs.name, Cond.static Lib.Math.abs.name, Cond.code Lib.Math.abs.name Lib.Math.abs.code 1 (some .int), Cond.methodLink RL 102 yX7_passes, Cond.instanceMethod yX7_passes, Cond.selects RX7 yX7_passes yX7_passes, Cond.code yX7_passes cX7_passes 3 (some .int), Cond.methodLink RL 103 yX6_whole, Cond.instanceMethod yX6_whole, Cond.selects RX6 yX6_whole yX6_whole, Cond.code yX6_whole cX6_whole 2 (some .int), Cond.methodLink RX6 218 yX1_squaredEnds, Cond.instanceMethod yX1_squaredEnds, Cond.selects RX1 yX1_squaredEnds yX1_squaredEnds, Cond.code yX1_squaredEnds cX1_squaredEnds 8 (some .long), Cond.methodLink RX6 221 yX1_chainLength, Cond.instanceMethod yX1_chainLength, Cond.selects RX1 yX1_chainLength yX1_chainLength, Cond.code yX1_chainLength cX1_chainLength 5 (some .int), Cond.methodLink RL 106 yX7_whole, Cond.instanceMethod yX7_whole, Cond.selects RX7 yX7_whole yX7_whole, Cond.code yX7_whole cX7_whole 6 (some .int), Cond.methodLink RL 107 yX6_drift]
def wsL_law_r26 : List Cond := [Cond.instanceMethod yX6_drift, Cond.selects RX6 yX6_drift yX6_drift, Cond.code yX6_drift cX6_drift 5 (some .int), Cond.methodLink RX6 224 yX6_driftRefusal, Cond.instanceMethod yX6_driftRefusal, Cond.selects RX6 yX6_driftRefusal yX6_driftRefusal, Cond.code yX6_driftRefusal cX6_driftRefusal 4 (some .int), Cond.methodLink RX6 227 yX1_rise, Cond.instanceMethod yX1_rise, Cond.selects RX1 yX1_rise yX1_rise, Cond.code yX1_rise cX1_rise 4 (some .int), Cond.methodLink RL 110 yX7_drift, Cond.instanceMethod yX7_drift, Cond.selects RX7 yX7_drift yX7_drift, Cond.code yX7_drift cX7_drift 3 (some .int), Cond.fieldLink RX7 186 "BathBookModel" "last" "I", Cond.fieldLink RX7 189 "BathBookModel" "ahead" "I", Cond.methodLink RX7 192 yX7_askedTwo, Cond.instanceMethod yX7_askedTwo, Cond.selects RX7 yX7_askedTwo yX7_askedTwo, Cond.code yX7_askedTwo cX7_askedTwo 2 (some .int), Cond.methodLink RL 111 yX6_due, Cond.instanceMethod yX6_due, Cond.selects RX6 yX6_due yX6_due]
def wsL_law_r27 : List Cond := [Cond.code yX6_due cX6_due 13 (some .int), Cond.constantLong RX6 234 (100001), Cond.methodLink RX6 236 Lib.MathLoose.min_long.x, Cond.static Lib.MathLoose.min_long.x, Cond.code Lib.MathLoose.min_long.x Lib.MathLoose.min_long.code 4 (some .long), Cond.methodLink RX6 230 yX6_daysWithin, Cond.static yX6_daysWithin, Cond.code yX6_daysWithin cX6_daysWithin 14 (some .long), Cond.methodLink RL 114 yX7_due, Cond.instanceMethod yX7_due, Cond.selects RX7 yX7_due yX7_due, Cond.code yX7_due cX7_due 10 (some .int), Cond.constant RX7 195 (100001), Cond.methodLink RL 115 yX6_resting, Cond.instanceMethod yX6_resting, Cond.selects RX6 yX6_resting yX6_resting, Cond.code yX6_resting cX6_resting 2 (some .int), Cond.methodLink RX6 239 yX1_countOver, Cond.instanceMethod yX1_countOver, Cond.selects RX1 yX1_countOver yX1_countOver, Cond.code yX1_countOver cX1_countOver 4 (some .int), Cond.methodLink RX1 42 yX1_isOver, Cond.instanceMethod yX1_isOver, Cond.selects RX1 yX1_isOver yX1_isOver]
def wsL_law_r28 : List Cond := [Cond.code yX1_isOver cX1_isOver 5 (some .boolean), Cond.methodLink RL 118 yX7_resting, Cond.instanceMethod yX7_resting, Cond.selects RX7 yX7_resting yX7_resting, Cond.code yX7_resting cX7_resting 5 (some .int), Cond.methodLink RL 119 yX6_lab, Cond.instanceMethod yX6_lab, Cond.selects RX6 yX6_lab yX6_lab, Cond.code yX6_lab cX6_lab 5 (some .int), Cond.methodLink RX6 242 yX6_isLab, Cond.static yX6_isLab, Cond.code yX6_isLab cX6_isLab 1 (some .boolean), Cond.methodLink RX6 245 yX3_put, Cond.instanceMethod yX3_put, Cond.selects RX3 yX3_put yX3_put, Cond.code yX3_put cX3_put 5 none, Cond.methodLink RL 122 yX7_lab, Cond.instanceMethod yX7_lab, Cond.selects RX7 yX7_lab yX7_lab, Cond.code yX7_lab cX7_lab 5 (some .int), Cond.methodLink RX7 196 yX7_isLab, Cond.static yX7_isLab, Cond.code yX7_isLab cX7_isLab 1 (some .boolean), Cond.methodLink RL 123 yX6_closes]
def wsL_law_r29 : List Cond := [Cond.instanceMethod yX6_closes, Cond.selects RX6 yX6_closes yX6_closes, Cond.code yX6_closes cX6_closes 4 (some .int), Cond.methodLink RX6 248 yX3_isKnown, Cond.instanceMethod yX3_isKnown, Cond.selects RX3 yX3_isKnown yX3_isKnown, Cond.code yX3_isKnown cX3_isKnown 4 (some .boolean), Cond.methodLink RX6 251 yX3_gap, Cond.instanceMethod yX3_gap, Cond.selects RX3 yX3_gap yX3_gap, Cond.code yX3_gap cX3_gap 4 (some .int), Cond.methodLink RX6 254 yX3_isShut, Cond.instanceMethod yX3_isShut, Cond.selects RX3 yX3_isShut yX3_isShut, Cond.code yX3_isShut cX3_isShut 4 (some .boolean), Cond.methodLink RX3 29 Lib.Math.abs.name, Cond.methodLink RX3 25 yX3_gap, Cond.methodLink RL 126 yX7_closes, Cond.instanceMethod yX7_closes, Cond.selects RX7 yX7_closes yX7_closes, Cond.code yX7_closes cX7_closes 4 (some .int), Cond.methodLink RX7 202 yX7_isRing, Cond.instanceMethod yX7_isRing, Cond.selects RX7 yX7_isRing yX7_isRing]
def wsL_law_r30 : List Cond := [Cond.code yX7_isRing cX7_isRing 4 (some .boolean), Cond.methodLink RX7 199 yX7_over, Cond.instanceMethod yX7_over, Cond.selects RX7 yX7_over yX7_over, Cond.code yX7_over cX7_over 4 (some .int), Cond.methodLink RX7 205 yX7_isClosed, Cond.instanceMethod yX7_isClosed, Cond.selects RX7 yX7_isClosed yX7_isClosed, Cond.code yX7_isClosed cX7_isClosed 4 (some .boolean), Cond.methodLink RL 127 yX6_open, Cond.instanceMethod yX6_open, Cond.selects RX6 yX6_open yX6_open, Cond.code yX6_open cX6_open 5 (some .int), Cond.methodLink RL 131 yX7_open, Cond.instanceMethod yX7_open, Cond.selects RX7 yX7_open yX7_open, Cond.code yX7_open cX7_open 5 (some .int), Cond.methodLink RL 132 yX6_asked, Cond.instanceMethod yX6_asked, Cond.selects RX6 yX6_asked yX6_asked, Cond.code yX6_asked cX6_asked 1 (some .long), Cond.methodLink RL 136 yX7_asked, Cond.instanceMethod yX7_asked, Cond.selects RX7 yX7_asked yX7_asked]
def wsL_law_r31 : List Cond := [Cond.code yX7_asked cX7_asked 1 (some .long), Cond.methodLink RL 137 yX6_upper, Cond.instanceMethod yX6_upper, Cond.selects RX6 yX6_upper yX6_upper, Cond.code yX6_upper cX6_upper 1 (some .long), Cond.methodLink RL 140 yX7_upper, Cond.instanceMethod yX7_upper, Cond.selects RX7 yX7_upper yX7_upper, Cond.code yX7_upper cX7_upper 1 (some .long), Cond.methodLink RL 141 yX6_lower, Cond.instanceMethod yX6_lower, Cond.selects RX6 yX6_lower yX6_lower, Cond.code yX6_lower cX6_lower 1 (some .long), Cond.methodLink RL 144 yX7_lower, Cond.instanceMethod yX7_lower, Cond.selects RX7 yX7_lower yX7_lower, Cond.code yX7_lower cX7_lower 1 (some .long), Cond.methodLink RL 145 yX6_count, Cond.instanceMethod yX6_count, Cond.selects RX6 yX6_count yX6_count, Cond.code yX6_count cX6_count 2 (some .int), Cond.methodLink RX6 263 yX4_presentCount, Cond.instanceMethod yX4_presentCount, Cond.selects RX4 yX4_presentCount yX4_presentCount]
def wsL_law_r32 : List Cond := [Cond.code yX4_presentCount cX4_presentCount 3 (some .int), Cond.methodLink RX6 266 yX5_pointCount, Cond.instanceMethod yX5_pointCount, Cond.selects RX5 yX5_pointCount yX5_pointCount, Cond.code yX5_pointCount cX5_pointCount 3 (some .int), Cond.methodLink RL 148 yX7_count, Cond.instanceMethod yX7_count, Cond.selects RX7 yX7_count yX7_count, Cond.code yX7_count cX7_count 2 (some .int), Cond.methodLink RX7 208 yX7_tellsCount, Cond.instanceMethod yX7_tellsCount, Cond.selects RX7 yX7_tellsCount yX7_tellsCount, Cond.code yX7_tellsCount cX7_tellsCount 4 (some .int), Cond.methodLink RL 149 yX6_finding, Cond.instanceMethod yX6_finding, Cond.selects RX6 yX6_finding yX6_finding, Cond.code yX6_finding cX6_finding 1 (some .int), Cond.methodLink RL 152 yX7_finding, Cond.instanceMethod yX7_finding, Cond.selects RX7 yX7_finding yX7_finding, Cond.code yX7_finding cX7_finding 1 (some .int), Cond.methodLink RL 153 yX6_findings, Cond.instanceMethod yX6_findings, Cond.selects RX6 yX6_findings yX6_findings]
def wsL_law_r33 : List Cond := [Cond.code yX6_findings cX6_findings 2 (some .int), Cond.methodLink RL 156 yX7_findings, Cond.instanceMethod yX7_findings, Cond.selects RX7 yX7_findings yX7_findings, Cond.code yX7_findings cX7_findings 2 (some .int), Cond.methodLink RL 157 yX6_digest, Cond.instanceMethod yX6_digest, Cond.selects RX6 yX6_digest yX6_digest, Cond.code yX6_digest cX6_digest 5 (some .long), Cond.constantLong RX6 269 (17), Cond.constantLong RX6 271 (31), Cond.methodLink RX6 273 yX6_count, Cond.methodLink RX6 276 yX6_told, Cond.methodLink RX6 279 yX4_digestOn, Cond.instanceMethod yX4_digestOn, Cond.selects RX4 yX4_digestOn yX4_digestOn, Cond.code yX4_digestOn cX4_digestOn 7 (some .long), Cond.constantLong RX4 51 (31), Cond.methodLink RL 160 yX7_digest, Cond.instanceMethod yX7_digest, Cond.selects RX7 yX7_digest yX7_digest, Cond.code yX7_digest cX7_digest 5 (some .long), Cond.constantLong RX7 211 (17), Cond.constantLong RX7 213 (31)]
def wsL_law : List Cond := (wsL_law_r1 ++ (wsL_law_r2 ++ (wsL_law_r3 ++ (wsL_law_r4 ++ (wsL_law_r5 ++ (wsL_law_r6 ++ (wsL_law_r7 ++ (wsL_law_r8 ++ (wsL_law_r9 ++ (wsL_law_r10 ++ (wsL_law_r11 ++ (wsL_law_r12 ++ (wsL_law_r13 ++ (wsL_law_r14 ++ (wsL_law_r15 ++ (wsL_law_r16 ++ (wsL_law_r17 ++ (wsL_law_r18 ++ (wsL_law_r19 ++ (wsL_law_r20 ++ (wsL_law_r21 ++ (wsL_law_r22 ++ (wsL_law_r23 ++ (wsL_law_r24 ++ (wsL_law_r25 ++ (wsL_law_r26 ++ (wsL_law_r27 ++ (wsL_law_r28 ++ (wsL_law_r29 ++ (wsL_law_r30 ++ (wsL_law_r31 ++ (wsL_law_r32 ++ wsL_law_r33)))))))))))))))))))))))))))))))) ++ wsX60 ++ wsX70 ++ wsX40 ++ wsX50 ++ wsX00 ++ wsX10 ++ wsX30 ++ wsX20 ++ ([] : List Cond)
end
section
theorem dX0_init_0 : decode cX0_init 0 = .ok (.aload_n 0, 1) := by decide +kernel
theorem dX0_init_1 : decode cX0_init 1 = .ok (.invokespecial 3, 3) := by decide +kernel
theorem dX0_init_4 : decode cX0_init 4 = .ok (.aload_n 0, 1) := by decide +kernel
theorem dX0_init_5 : decode cX0_init 5 = .ok (.bipush 16, 2) := by decide +kernel
theorem dX0_init_7 : decode cX0_init 7 = .ok (.newarray .int, 2) := by decide +kernel
theorem dX0_init_9 : decode cX0_init 9 = .ok (.putfield 9, 3) := by decide +kernel
theorem dX0_init_12 : decode cX0_init 12 = .ok (.aload_n 0, 1) := by decide +kernel
theorem dX0_init_13 : decode cX0_init 13 = .ok (.bipush 16, 2) := by decide +kernel
theorem dX0_init_15 : decode cX0_init 15 = .ok (.newarray .int, 2) := by decide +kernel
theorem dX0_init_17 : decode cX0_init 17 = .ok (.putfield 15, 3) := by decide +kernel
theorem dX0_init_20 : decode cX0_init 20 = .ok (.aload_n 0, 1) := by decide +kernel
theorem dX0_init_21 : decode cX0_init 21 = .ok (.iconst 0, 1) := by decide +kernel
theorem dX0_init_22 : decode cX0_init 22 = .ok (.putfield 18, 3) := by decide +kernel
theorem dX0_init_25 : decode cX0_init 25 = .ok (.return_, 1) := by decide +kernel
theorem dX0_size_0 : decode cX0_size 0 = .ok (.aload_n 0, 1) := by decide +kernel
theorem dX0_size_1 : decode cX0_size 1 = .ok (.getfield 18, 3) := by decide +kernel
theorem dX0_size_4 : decode cX0_size 4 = .ok (.ireturn, 1) := by decide +kernel
set_option maxRecDepth 20000 in
theorem ggX0_has_X6_isBetween : GoodIn wsX0_has wsX6_isBetween := goodIn_r _ [4] (by decide +kernel) (by decide +kernel)
set_option maxRecDepth 20000 in
theorem gX0_has_X6_isBetween_n22 : GoodIn wsX0_has (wsX6_isBetween) := ggX0_has_X6_isBetween
theorem dX0_has_0 : decode cX0_has 0 = .ok (.iload_n 1, 1) := by decide +kernel
theorem dX0_has_1 : decode cX0_has 1 = .ok (.iconst 0, 1) := by decide +kernel
theorem dX0_has_2 : decode cX0_has 2 = .ok (.aload_n 0, 1) := by decide +kernel
theorem dX0_has_3 : decode cX0_has 3 = .ok (.getfield 18, 3) := by decide +kernel
theorem dX0_has_6 : decode cX0_has 6 = .ok (.iconst 1, 1) := by decide +kernel
theorem dX0_has_7 : decode cX0_has 7 = .ok (.isub, 1) := by decide +kernel
theorem dX0_has_8 : decode cX0_has 8 = .ok (.invokestatic 22, 3) := by decide +kernel
theorem dX0_has_11 : decode cX0_has 11 = .ok (.ireturn, 1) := by decide +kernel
theorem dX0_add_0 : decode cX0_add 0 = .ok (.aload_n 0, 1) := by decide +kernel
theorem dX0_add_1 : decode cX0_add 1 = .ok (.getfield 9, 3) := by decide +kernel
theorem dX0_add_4 : decode cX0_add 4 = .ok (.aload_n 0, 1) := by decide +kernel
theorem dX0_add_5 : decode cX0_add 5 = .ok (.getfield 18, 3) := by decide +kernel
theorem dX0_add_8 : decode cX0_add 8 = .ok (.iload_n 1, 1) := by decide +kernel
theorem dX0_add_9 : decode cX0_add 9 = .ok (.iastore, 1) := by decide +kernel
theorem dX0_add_10 : decode cX0_add 10 = .ok (.aload_n 0, 1) := by decide +kernel
theorem dX0_add_11 : decode cX0_add 11 = .ok (.getfield 15, 3) := by decide +kernel
theorem dX0_add_14 : decode cX0_add 14 = .ok (.aload_n 0, 1) := by decide +kernel
theorem dX0_add_15 : decode cX0_add 15 = .ok (.getfield 18, 3) := by decide +kernel
theorem dX0_add_18 : decode cX0_add 18 = .ok (.iload_n 2, 1) := by decide +kernel
theorem dX0_add_19 : decode cX0_add 19 = .ok (.iastore, 1) := by decide +kernel
theorem dX0_add_20 : decode cX0_add 20 = .ok (.aload_n 0, 1) := by decide +kernel
theorem dX0_add_21 : decode cX0_add 21 = .ok (.dup, 1) := by decide +kernel
theorem dX0_add_22 : decode cX0_add 22 = .ok (.getfield 18, 3) := by decide +kernel
theorem dX0_add_25 : decode cX0_add 25 = .ok (.iconst 1, 1) := by decide +kernel
theorem dX0_add_26 : decode cX0_add 26 = .ok (.iadd, 1) := by decide +kernel
theorem dX0_add_27 : decode cX0_add 27 = .ok (.putfield 18, 3) := by decide +kernel
theorem dX0_add_30 : decode cX0_add 30 = .ok (.aload_n 0, 1) := by decide +kernel
theorem dX0_add_31 : decode cX0_add 31 = .ok (.getfield 18, 3) := by decide +kernel
theorem dX0_add_34 : decode cX0_add 34 = .ok (.iconst 1, 1) := by decide +kernel
theorem dX0_add_35 : decode cX0_add 35 = .ok (.isub, 1) := by decide +kernel
theorem dX0_add_36 : decode cX0_add 36 = .ok (.ireturn, 1) := by decide +kernel
theorem dX0_kindOf_0 : decode cX0_kindOf 0 = .ok (.aload_n 0, 1) := by decide +kernel
theorem dX0_kindOf_1 : decode cX0_kindOf 1 = .ok (.getfield 9, 3) := by decide +kernel
theorem dX0_kindOf_4 : decode cX0_kindOf 4 = .ok (.iload_n 1, 1) := by decide +kernel
theorem dX0_kindOf_5 : decode cX0_kindOf 5 = .ok (.iaload, 1) := by decide +kernel
theorem dX0_kindOf_6 : decode cX0_kindOf 6 = .ok (.ireturn, 1) := by decide +kernel
theorem dX0_toleranceOf_0 : decode cX0_toleranceOf 0 = .ok (.aload_n 0, 1) := by decide +kernel
theorem dX0_toleranceOf_1 : decode cX0_toleranceOf 1 = .ok (.getfield 15, 3) := by decide +kernel
theorem dX0_toleranceOf_4 : decode cX0_toleranceOf 4 = .ok (.iload_n 1, 1) := by decide +kernel
theorem dX0_toleranceOf_5 : decode cX0_toleranceOf 5 = .ok (.iaload, 1) := by decide +kernel
theorem dX0_toleranceOf_6 : decode cX0_toleranceOf 6 = .ok (.ireturn, 1) := by decide +kernel
theorem dX0_isOf_0 : decode cX0_isOf 0 = .ok (.aload_n 0, 1) := by decide +kernel
theorem dX0_isOf_1 : decode cX0_isOf 1 = .ok (.getfield 9, 3) := by decide +kernel
theorem dX0_isOf_4 : decode cX0_isOf 4 = .ok (.iload_n 1, 1) := by decide +kernel
theorem dX0_isOf_5 : decode cX0_isOf 5 = .ok (.iaload, 1) := by decide +kernel
theorem dX0_isOf_6 : decode cX0_isOf 6 = .ok (.iload_n 2, 1) := by decide +kernel
theorem dX0_isOf_7 : decode cX0_isOf 7 = .ok (.if_icmp .eq 18, 3) := by decide +kernel
theorem dX0_isOf_10 : decode cX0_isOf 10 = .ok (.aload_n 0, 1) := by decide +kernel
theorem dX0_isOf_11 : decode cX0_isOf 11 = .ok (.getfield 9, 3) := by decide +kernel
theorem dX0_isOf_14 : decode cX0_isOf 14 = .ok (.iload_n 1, 1) := by decide +kernel
theorem dX0_isOf_15 : decode cX0_isOf 15 = .ok (.iaload, 1) := by decide +kernel
theorem dX0_isOf_16 : decode cX0_isOf 16 = .ok (.iconst 3, 1) := by decide +kernel
theorem dX0_isOf_17 : decode cX0_isOf 17 = .ok (.if_icmp .ne 12, 3) := by decide +kernel
theorem dX0_isOf_20 : decode cX0_isOf 20 = .ok (.iload_n 2, 1) := by decide +kernel
theorem dX0_isOf_21 : decode cX0_isOf 21 = .ok (.iconst 2, 1) := by decide +kernel
theorem dX0_isOf_22 : decode cX0_isOf 22 = .ok (.if_icmp .ne 7, 3) := by decide +kernel
theorem dX0_isOf_25 : decode cX0_isOf 25 = .ok (.iconst 1, 1) := by decide +kernel
theorem dX0_isOf_26 : decode cX0_isOf 26 = .ok (.goto 4, 3) := by decide +kernel
theorem dX0_isOf_29 : decode cX0_isOf 29 = .ok (.iconst 0, 1) := by decide +kernel
theorem dX0_isOf_30 : decode cX0_isOf 30 = .ok (.ireturn, 1) := by decide +kernel
theorem dX1_init_0 : decode cX1_init 0 = .ok (.aload_n 0, 1) := by decide +kernel
theorem dX1_init_1 : decode cX1_init 1 = .ok (.invokespecial 3, 3) := by decide +kernel
theorem dX1_init_4 : decode cX1_init 4 = .ok (.aload_n 0, 1) := by decide +kernel
theorem dX1_init_5 : decode cX1_init 5 = .ok (.bipush 40, 2) := by decide +kernel
theorem dX1_init_7 : decode cX1_init 7 = .ok (.bipush 8, 2) := by decide +kernel
theorem dX1_init_9 : decode cX1_init 9 = .ok (.multianewarray 11 2, 4) := by decide +kernel
theorem dX1_init_13 : decode cX1_init 13 = .ok (.putfield 13, 3) := by decide +kernel
theorem dX1_init_16 : decode cX1_init 16 = .ok (.aload_n 0, 1) := by decide +kernel
theorem dX1_init_17 : decode cX1_init 17 = .ok (.iconst 0, 1) := by decide +kernel
theorem dX1_init_18 : decode cX1_init 18 = .ok (.putfield 16, 3) := by decide +kernel
theorem dX1_init_21 : decode cX1_init 21 = .ok (.return_, 1) := by decide +kernel
theorem dX1_size_0 : decode cX1_size 0 = .ok (.aload_n 0, 1) := by decide +kernel
theorem dX1_size_1 : decode cX1_size 1 = .ok (.getfield 16, 3) := by decide +kernel
theorem dX1_size_4 : decode cX1_size 4 = .ok (.ireturn, 1) := by decide +kernel
set_option maxRecDepth 20000 in
theorem ggX1_has_X6_isBetween : GoodIn wsX1_has wsX6_isBetween := goodIn_r _ [4] (by decide +kernel) (by decide +kernel)
set_option maxRecDepth 20000 in
theorem gX1_has_X6_isBetween_n20 : GoodIn wsX1_has (wsX6_isBetween) := ggX1_has_X6_isBetween
theorem dX1_has_0 : decode cX1_has 0 = .ok (.iload_n 1, 1) := by decide +kernel
theorem dX1_has_1 : decode cX1_has 1 = .ok (.iconst 0, 1) := by decide +kernel
theorem dX1_has_2 : decode cX1_has 2 = .ok (.aload_n 0, 1) := by decide +kernel
theorem dX1_has_3 : decode cX1_has 3 = .ok (.getfield 16, 3) := by decide +kernel
theorem dX1_has_6 : decode cX1_has 6 = .ok (.iconst 1, 1) := by decide +kernel
theorem dX1_has_7 : decode cX1_has 7 = .ok (.isub, 1) := by decide +kernel
theorem dX1_has_8 : decode cX1_has 8 = .ok (.invokestatic 20, 3) := by decide +kernel
theorem dX1_has_11 : decode cX1_has 11 = .ok (.ireturn, 1) := by decide +kernel
theorem dX1_fact_0 : decode cX1_fact 0 = .ok (.aload_n 0, 1) := by decide +kernel
theorem dX1_fact_1 : decode cX1_fact 1 = .ok (.getfield 13, 3) := by decide +kernel
theorem dX1_fact_4 : decode cX1_fact 4 = .ok (.iload_n 1, 1) := by decide +kernel
theorem dX1_fact_5 : decode cX1_fact 5 = .ok (.aaload, 1) := by decide +kernel
theorem dX1_fact_6 : decode cX1_fact 6 = .ok (.iload_n 2, 1) := by decide +kernel
theorem dX1_fact_7 : decode cX1_fact 7 = .ok (.iaload, 1) := by decide +kernel
theorem dX1_fact_8 : decode cX1_fact 8 = .ok (.ireturn, 1) := by decide +kernel
theorem dX1_add_0 : decode cX1_add 0 = .ok (.aload_n 0, 1) := by decide +kernel
theorem dX1_add_1 : decode cX1_add 1 = .ok (.getfield 13, 3) := by decide +kernel
theorem dX1_add_4 : decode cX1_add 4 = .ok (.aload_n 0, 1) := by decide +kernel
theorem dX1_add_5 : decode cX1_add 5 = .ok (.getfield 16, 3) := by decide +kernel
theorem dX1_add_8 : decode cX1_add 8 = .ok (.aaload, 1) := by decide +kernel
theorem dX1_add_9 : decode cX1_add 9 = .ok (.astore 8, 2) := by decide +kernel
theorem dX1_add_11 : decode cX1_add 11 = .ok (.aload 8, 2) := by decide +kernel
theorem dX1_add_13 : decode cX1_add 13 = .ok (.iconst 0, 1) := by decide +kernel
theorem dX1_add_14 : decode cX1_add 14 = .ok (.iload_n 1, 1) := by decide +kernel
theorem dX1_add_15 : decode cX1_add 15 = .ok (.iastore, 1) := by decide +kernel
theorem dX1_add_16 : decode cX1_add 16 = .ok (.aload 8, 2) := by decide +kernel
theorem dX1_add_18 : decode cX1_add 18 = .ok (.iconst 1, 1) := by decide +kernel
theorem dX1_add_19 : decode cX1_add 19 = .ok (.iload_n 2, 1) := by decide +kernel
theorem dX1_add_20 : decode cX1_add 20 = .ok (.iastore, 1) := by decide +kernel
theorem dX1_add_21 : decode cX1_add 21 = .ok (.aload 8, 2) := by decide +kernel
theorem dX1_add_23 : decode cX1_add 23 = .ok (.iconst 2, 1) := by decide +kernel
theorem dX1_add_24 : decode cX1_add 24 = .ok (.iload_n 3, 1) := by decide +kernel
theorem dX1_add_25 : decode cX1_add 25 = .ok (.iastore, 1) := by decide +kernel
theorem dX1_add_26 : decode cX1_add 26 = .ok (.aload 8, 2) := by decide +kernel
theorem dX1_add_28 : decode cX1_add 28 = .ok (.iconst 3, 1) := by decide +kernel
theorem dX1_add_29 : decode cX1_add 29 = .ok (.iload 4, 2) := by decide +kernel
theorem dX1_add_31 : decode cX1_add 31 = .ok (.iastore, 1) := by decide +kernel
theorem dX1_add_32 : decode cX1_add 32 = .ok (.aload 8, 2) := by decide +kernel
theorem dX1_add_34 : decode cX1_add 34 = .ok (.iconst 4, 1) := by decide +kernel
theorem dX1_add_35 : decode cX1_add 35 = .ok (.iload 6, 2) := by decide +kernel
theorem dX1_add_37 : decode cX1_add 37 = .ok (.iastore, 1) := by decide +kernel
theorem dX1_add_38 : decode cX1_add 38 = .ok (.aload 8, 2) := by decide +kernel
theorem dX1_add_40 : decode cX1_add 40 = .ok (.iconst 5, 1) := by decide +kernel
theorem dX1_add_41 : decode cX1_add 41 = .ok (.iconst 0, 1) := by decide +kernel
theorem dX1_add_42 : decode cX1_add 42 = .ok (.iastore, 1) := by decide +kernel
theorem dX1_add_43 : decode cX1_add 43 = .ok (.aload 8, 2) := by decide +kernel
theorem dX1_add_45 : decode cX1_add 45 = .ok (.bipush 6, 2) := by decide +kernel
theorem dX1_add_47 : decode cX1_add 47 = .ok (.iload 7, 2) := by decide +kernel
theorem dX1_add_49 : decode cX1_add 49 = .ok (.iastore, 1) := by decide +kernel
theorem dX1_add_50 : decode cX1_add 50 = .ok (.aload 8, 2) := by decide +kernel
theorem dX1_add_52 : decode cX1_add 52 = .ok (.bipush 7, 2) := by decide +kernel
theorem dX1_add_54 : decode cX1_add 54 = .ok (.iload 5, 2) := by decide +kernel
theorem dX1_add_56 : decode cX1_add 56 = .ok (.iastore, 1) := by decide +kernel
theorem dX1_add_57 : decode cX1_add 57 = .ok (.aload_n 0, 1) := by decide +kernel
theorem dX1_add_58 : decode cX1_add 58 = .ok (.dup, 1) := by decide +kernel
theorem dX1_add_59 : decode cX1_add 59 = .ok (.getfield 16, 3) := by decide +kernel
theorem dX1_add_62 : decode cX1_add 62 = .ok (.iconst 1, 1) := by decide +kernel
theorem dX1_add_63 : decode cX1_add 63 = .ok (.iadd, 1) := by decide +kernel
theorem dX1_add_64 : decode cX1_add 64 = .ok (.putfield 16, 3) := by decide +kernel
theorem dX1_add_67 : decode cX1_add 67 = .ok (.aload_n 0, 1) := by decide +kernel
theorem dX1_add_68 : decode cX1_add 68 = .ok (.getfield 16, 3) := by decide +kernel
theorem dX1_add_71 : decode cX1_add 71 = .ok (.iconst 1, 1) := by decide +kernel
theorem dX1_add_72 : decode cX1_add 72 = .ok (.isub, 1) := by decide +kernel
theorem dX1_add_73 : decode cX1_add 73 = .ok (.ireturn, 1) := by decide +kernel
theorem dX1_lastUntil_0 : decode cX1_lastUntil 0 = .ok (.iload_n 3, 1) := by decide +kernel
theorem dX1_lastUntil_1 : decode cX1_lastUntil 1 = .ok (.aload_n 0, 1) := by decide +kernel
theorem dX1_lastUntil_2 : decode cX1_lastUntil 2 = .ok (.getfield 16, 3) := by decide +kernel
theorem dX1_lastUntil_5 : decode cX1_lastUntil 5 = .ok (.invokestatic 24, 3) := by decide +kernel
theorem dX1_lastUntil_8 : decode cX1_lastUntil 8 = .ok (.iconst 1, 1) := by decide +kernel
theorem dX1_lastUntil_9 : decode cX1_lastUntil 9 = .ok (.isub, 1) := by decide +kernel
theorem dX1_lastUntil_10 : decode cX1_lastUntil 10 = .ok (.istore 4, 2) := by decide +kernel
theorem dX1_lastUntil_12 : decode cX1_lastUntil 12 = .ok (.iload 4, 2) := by decide +kernel
theorem dX1_lastUntil_14 : decode cX1_lastUntil 14 = .ok (.ifCond .lt 50, 3) := by decide +kernel
theorem dX1_lastUntil_17 : decode cX1_lastUntil 17 = .ok (.aload_n 0, 1) := by decide +kernel
theorem dX1_lastUntil_18 : decode cX1_lastUntil 18 = .ok (.getfield 13, 3) := by decide +kernel
theorem dX1_lastUntil_21 : decode cX1_lastUntil 21 = .ok (.iload 4, 2) := by decide +kernel
theorem dX1_lastUntil_23 : decode cX1_lastUntil 23 = .ok (.aaload, 1) := by decide +kernel
theorem dX1_lastUntil_24 : decode cX1_lastUntil 24 = .ok (.iconst 0, 1) := by decide +kernel
theorem dX1_lastUntil_25 : decode cX1_lastUntil 25 = .ok (.iaload, 1) := by decide +kernel
theorem dX1_lastUntil_26 : decode cX1_lastUntil 26 = .ok (.iload_n 1, 1) := by decide +kernel
theorem dX1_lastUntil_27 : decode cX1_lastUntil 27 = .ok (.if_icmp .ne 31, 3) := by decide +kernel
theorem dX1_lastUntil_30 : decode cX1_lastUntil 30 = .ok (.aload_n 0, 1) := by decide +kernel
theorem dX1_lastUntil_31 : decode cX1_lastUntil 31 = .ok (.getfield 13, 3) := by decide +kernel
theorem dX1_lastUntil_34 : decode cX1_lastUntil 34 = .ok (.iload 4, 2) := by decide +kernel
theorem dX1_lastUntil_36 : decode cX1_lastUntil 36 = .ok (.aaload, 1) := by decide +kernel
theorem dX1_lastUntil_37 : decode cX1_lastUntil 37 = .ok (.iconst 5, 1) := by decide +kernel
theorem dX1_lastUntil_38 : decode cX1_lastUntil 38 = .ok (.iaload, 1) := by decide +kernel
theorem dX1_lastUntil_39 : decode cX1_lastUntil 39 = .ok (.ifCond .ne 19, 3) := by decide +kernel
theorem dX1_lastUntil_42 : decode cX1_lastUntil 42 = .ok (.aload_n 0, 1) := by decide +kernel
theorem dX1_lastUntil_43 : decode cX1_lastUntil 43 = .ok (.getfield 13, 3) := by decide +kernel
theorem dX1_lastUntil_46 : decode cX1_lastUntil 46 = .ok (.iload 4, 2) := by decide +kernel
theorem dX1_lastUntil_48 : decode cX1_lastUntil 48 = .ok (.aaload, 1) := by decide +kernel
theorem dX1_lastUntil_49 : decode cX1_lastUntil 49 = .ok (.iconst 3, 1) := by decide +kernel
theorem dX1_lastUntil_50 : decode cX1_lastUntil 50 = .ok (.iaload, 1) := by decide +kernel
theorem dX1_lastUntil_51 : decode cX1_lastUntil 51 = .ok (.iload_n 2, 1) := by decide +kernel
theorem dX1_lastUntil_52 : decode cX1_lastUntil 52 = .ok (.if_icmp .gt 6, 3) := by decide +kernel
theorem dX1_lastUntil_55 : decode cX1_lastUntil 55 = .ok (.iload 4, 2) := by decide +kernel
theorem dX1_lastUntil_57 : decode cX1_lastUntil 57 = .ok (.ireturn, 1) := by decide +kernel
theorem dX1_lastUntil_58 : decode cX1_lastUntil 58 = .ok (.iinc 4 (-1), 3) := by decide +kernel
theorem dX1_lastUntil_61 : decode cX1_lastUntil 61 = .ok (.goto (-49), 3) := by decide +kernel
theorem dX1_lastUntil_64 : decode cX1_lastUntil 64 = .ok (.bipush (-9), 2) := by decide +kernel
theorem dX1_lastUntil_66 : decode cX1_lastUntil 66 = .ok (.ireturn, 1) := by decide +kernel
set_option maxRecDepth 20000 in
theorem ggX1_latestOf_X1_lastUntil : GoodIn wsX1_latestOf wsX1_lastUntil := goodIn_r _ [7, 2, 8, 9, 10, 11, 12, 13, 14] (by decide +kernel) (by decide +kernel)
set_option maxRecDepth 20000 in
theorem gX1_latestOf_X1_lastUntil : GoodIn wsX1_latestOf (wsV RX1 31 RX1 yX1_lastUntil wsX1_lastUntil) := goodIn_app (goodIn_of _ (by decide +kernel)) ggX1_latestOf_X1_lastUntil
theorem dX1_latestOf_0 : decode cX1_latestOf 0 = .ok (.aload_n 0, 1) := by decide +kernel
theorem dX1_latestOf_1 : decode cX1_latestOf 1 = .ok (.iload_n 1, 1) := by decide +kernel
theorem dX1_latestOf_2 : decode cX1_latestOf 2 = .ok (.ldc 30, 2) := by decide +kernel
theorem dX1_latestOf_4 : decode cX1_latestOf 4 = .ok (.aload_n 0, 1) := by decide +kernel
theorem dX1_latestOf_5 : decode cX1_latestOf 5 = .ok (.getfield 16, 3) := by decide +kernel
theorem dX1_latestOf_8 : decode cX1_latestOf 8 = .ok (.invokevirtual 31, 3) := by decide +kernel
theorem dX1_latestOf_11 : decode cX1_latestOf 11 = .ok (.ireturn, 1) := by decide +kernel
theorem dX1_countOf_0 : decode cX1_countOf 0 = .ok (.iconst 0, 1) := by decide +kernel
theorem dX1_countOf_1 : decode cX1_countOf 1 = .ok (.istore 4, 2) := by decide +kernel
theorem dX1_countOf_3 : decode cX1_countOf 3 = .ok (.iconst 0, 1) := by decide +kernel
theorem dX1_countOf_4 : decode cX1_countOf 4 = .ok (.istore 5, 2) := by decide +kernel
theorem dX1_countOf_6 : decode cX1_countOf 6 = .ok (.iload 5, 2) := by decide +kernel
theorem dX1_countOf_8 : decode cX1_countOf 8 = .ok (.aload_n 0, 1) := by decide +kernel
theorem dX1_countOf_9 : decode cX1_countOf 9 = .ok (.getfield 16, 3) := by decide +kernel
theorem dX1_countOf_12 : decode cX1_countOf 12 = .ok (.if_icmp .ge 42, 3) := by decide +kernel
theorem dX1_countOf_15 : decode cX1_countOf 15 = .ok (.aload_n 0, 1) := by decide +kernel
theorem dX1_countOf_16 : decode cX1_countOf 16 = .ok (.getfield 13, 3) := by decide +kernel
theorem dX1_countOf_19 : decode cX1_countOf 19 = .ok (.iload 5, 2) := by decide +kernel
theorem dX1_countOf_21 : decode cX1_countOf 21 = .ok (.aaload, 1) := by decide +kernel
theorem dX1_countOf_22 : decode cX1_countOf 22 = .ok (.iload_n 1, 1) := by decide +kernel
theorem dX1_countOf_23 : decode cX1_countOf 23 = .ok (.iaload, 1) := by decide +kernel
theorem dX1_countOf_24 : decode cX1_countOf 24 = .ok (.iload_n 2, 1) := by decide +kernel
theorem dX1_countOf_25 : decode cX1_countOf 25 = .ok (.if_icmp .ne 23, 3) := by decide +kernel
theorem dX1_countOf_28 : decode cX1_countOf 28 = .ok (.iload_n 3, 1) := by decide +kernel
theorem dX1_countOf_29 : decode cX1_countOf 29 = .ok (.ifCond .eq 16, 3) := by decide +kernel
theorem dX1_countOf_32 : decode cX1_countOf 32 = .ok (.aload_n 0, 1) := by decide +kernel
theorem dX1_countOf_33 : decode cX1_countOf 33 = .ok (.getfield 13, 3) := by decide +kernel
theorem dX1_countOf_36 : decode cX1_countOf 36 = .ok (.iload 5, 2) := by decide +kernel
theorem dX1_countOf_38 : decode cX1_countOf 38 = .ok (.aaload, 1) := by decide +kernel
theorem dX1_countOf_39 : decode cX1_countOf 39 = .ok (.iconst 5, 1) := by decide +kernel
theorem dX1_countOf_40 : decode cX1_countOf 40 = .ok (.iaload, 1) := by decide +kernel
theorem dX1_countOf_41 : decode cX1_countOf 41 = .ok (.iconst 1, 1) := by decide +kernel
theorem dX1_countOf_42 : decode cX1_countOf 42 = .ok (.if_icmp .eq 6, 3) := by decide +kernel
theorem dX1_countOf_45 : decode cX1_countOf 45 = .ok (.iinc 4 1, 3) := by decide +kernel
theorem dX1_countOf_48 : decode cX1_countOf 48 = .ok (.iinc 5 1, 3) := by decide +kernel
theorem dX1_countOf_51 : decode cX1_countOf 51 = .ok (.goto (-45), 3) := by decide +kernel
theorem dX1_countOf_54 : decode cX1_countOf 54 = .ok (.iload 4, 2) := by decide +kernel
theorem dX1_countOf_56 : decode cX1_countOf 56 = .ok (.ireturn, 1) := by decide +kernel
theorem dX1_rise_0 : decode cX1_rise 0 = .ok (.aload_n 0, 1) := by decide +kernel
theorem dX1_rise_1 : decode cX1_rise 1 = .ok (.getfield 13, 3) := by decide +kernel
theorem dX1_rise_4 : decode cX1_rise 4 = .ok (.iload_n 3, 1) := by decide +kernel
theorem dX1_rise_5 : decode cX1_rise 5 = .ok (.aaload, 1) := by decide +kernel
theorem dX1_rise_6 : decode cX1_rise 6 = .ok (.iload_n 1, 1) := by decide +kernel
theorem dX1_rise_7 : decode cX1_rise 7 = .ok (.iaload, 1) := by decide +kernel
theorem dX1_rise_8 : decode cX1_rise 8 = .ok (.aload_n 0, 1) := by decide +kernel
theorem dX1_rise_9 : decode cX1_rise 9 = .ok (.getfield 13, 3) := by decide +kernel
theorem dX1_rise_12 : decode cX1_rise 12 = .ok (.iload_n 2, 1) := by decide +kernel
theorem dX1_rise_13 : decode cX1_rise 13 = .ok (.aaload, 1) := by decide +kernel
theorem dX1_rise_14 : decode cX1_rise 14 = .ok (.iload_n 1, 1) := by decide +kernel
theorem dX1_rise_15 : decode cX1_rise 15 = .ok (.iaload, 1) := by decide +kernel
theorem dX1_rise_16 : decode cX1_rise 16 = .ok (.isub, 1) := by decide +kernel
theorem dX1_rise_17 : decode cX1_rise 17 = .ok (.ireturn, 1) := by decide +kernel
set_option maxRecDepth 20000 in
theorem ggX1_makeVoid_X6_isBetween : GoodIn wsX1_makeVoid wsX6_isBetween := goodIn_r _ [5] (by decide +kernel) (by decide +kernel)
set_option maxRecDepth 20000 in
theorem gX1_makeVoid_X6_isBetween_n20 : GoodIn wsX1_makeVoid (wsX6_isBetween) := ggX1_makeVoid_X6_isBetween
set_option maxRecDepth 20000 in
theorem ggX1_makeVoid_X1_restsOnVoid : GoodIn wsX1_makeVoid wsX1_restsOnVoid := goodIn_r _ [10, 2, 11, 12, 13, 9, 14, 1, 3, 4, 5, 15, 16] (by decide +kernel) (by decide +kernel)
set_option maxRecDepth 20000 in
theorem gX1_makeVoid_X1_restsOnVoid : GoodIn wsX1_makeVoid (wsV RX1 35 RX1 yX1_restsOnVoid wsX1_restsOnVoid) := goodIn_app (goodIn_of _ (by decide +kernel)) ggX1_makeVoid_X1_restsOnVoid
theorem dX1_makeVoid_0 : decode cX1_makeVoid 0 = .ok (.iconst 0, 1) := by decide +kernel
theorem dX1_makeVoid_1 : decode cX1_makeVoid 1 = .ok (.istore 4, 2) := by decide +kernel
theorem dX1_makeVoid_3 : decode cX1_makeVoid 3 = .ok (.iconst 0, 1) := by decide +kernel
theorem dX1_makeVoid_4 : decode cX1_makeVoid 4 = .ok (.istore 5, 2) := by decide +kernel
theorem dX1_makeVoid_6 : decode cX1_makeVoid 6 = .ok (.iload 5, 2) := by decide +kernel
theorem dX1_makeVoid_8 : decode cX1_makeVoid 8 = .ok (.aload_n 0, 1) := by decide +kernel
theorem dX1_makeVoid_9 : decode cX1_makeVoid 9 = .ok (.getfield 16, 3) := by decide +kernel
theorem dX1_makeVoid_12 : decode cX1_makeVoid 12 = .ok (.if_icmp .ge 85, 3) := by decide +kernel
theorem dX1_makeVoid_15 : decode cX1_makeVoid 15 = .ok (.aload_n 0, 1) := by decide +kernel
theorem dX1_makeVoid_16 : decode cX1_makeVoid 16 = .ok (.getfield 13, 3) := by decide +kernel
theorem dX1_makeVoid_19 : decode cX1_makeVoid 19 = .ok (.iload 5, 2) := by decide +kernel
theorem dX1_makeVoid_21 : decode cX1_makeVoid 21 = .ok (.aaload, 1) := by decide +kernel
theorem dX1_makeVoid_22 : decode cX1_makeVoid 22 = .ok (.iconst 2, 1) := by decide +kernel
theorem dX1_makeVoid_23 : decode cX1_makeVoid 23 = .ok (.iaload, 1) := by decide +kernel
theorem dX1_makeVoid_24 : decode cX1_makeVoid 24 = .ok (.iload_n 1, 1) := by decide +kernel
theorem dX1_makeVoid_25 : decode cX1_makeVoid 25 = .ok (.if_icmp .ne 24, 3) := by decide +kernel
theorem dX1_makeVoid_28 : decode cX1_makeVoid 28 = .ok (.aload_n 0, 1) := by decide +kernel
theorem dX1_makeVoid_29 : decode cX1_makeVoid 29 = .ok (.getfield 13, 3) := by decide +kernel
theorem dX1_makeVoid_32 : decode cX1_makeVoid 32 = .ok (.iload 5, 2) := by decide +kernel
theorem dX1_makeVoid_34 : decode cX1_makeVoid 34 = .ok (.aaload, 1) := by decide +kernel
theorem dX1_makeVoid_35 : decode cX1_makeVoid 35 = .ok (.iconst 3, 1) := by decide +kernel
theorem dX1_makeVoid_36 : decode cX1_makeVoid 36 = .ok (.iaload, 1) := by decide +kernel
theorem dX1_makeVoid_37 : decode cX1_makeVoid 37 = .ok (.iload_n 2, 1) := by decide +kernel
theorem dX1_makeVoid_38 : decode cX1_makeVoid 38 = .ok (.iload_n 3, 1) := by decide +kernel
theorem dX1_makeVoid_39 : decode cX1_makeVoid 39 = .ok (.invokestatic 20, 3) := by decide +kernel
theorem dX1_makeVoid_42 : decode cX1_makeVoid 42 = .ok (.ifCond .eq 7, 3) := by decide +kernel
theorem dX1_makeVoid_45 : decode cX1_makeVoid 45 = .ok (.iconst 1, 1) := by decide +kernel
theorem dX1_makeVoid_46 : decode cX1_makeVoid 46 = .ok (.goto 4, 3) := by decide +kernel
theorem dX1_makeVoid_49 : decode cX1_makeVoid 49 = .ok (.iconst 0, 1) := by decide +kernel
theorem dX1_makeVoid_50 : decode cX1_makeVoid 50 = .ok (.istore 6, 2) := by decide +kernel
theorem dX1_makeVoid_52 : decode cX1_makeVoid 52 = .ok (.aload_n 0, 1) := by decide +kernel
theorem dX1_makeVoid_53 : decode cX1_makeVoid 53 = .ok (.getfield 13, 3) := by decide +kernel
theorem dX1_makeVoid_56 : decode cX1_makeVoid 56 = .ok (.iload 5, 2) := by decide +kernel
theorem dX1_makeVoid_58 : decode cX1_makeVoid 58 = .ok (.aaload, 1) := by decide +kernel
theorem dX1_makeVoid_59 : decode cX1_makeVoid 59 = .ok (.iconst 5, 1) := by decide +kernel
theorem dX1_makeVoid_60 : decode cX1_makeVoid 60 = .ok (.iaload, 1) := by decide +kernel
theorem dX1_makeVoid_61 : decode cX1_makeVoid 61 = .ok (.ifCond .ne 30, 3) := by decide +kernel
theorem dX1_makeVoid_64 : decode cX1_makeVoid 64 = .ok (.iload 6, 2) := by decide +kernel
theorem dX1_makeVoid_66 : decode cX1_makeVoid 66 = .ok (.ifCond .ne 12, 3) := by decide +kernel
theorem dX1_makeVoid_69 : decode cX1_makeVoid 69 = .ok (.aload_n 0, 1) := by decide +kernel
theorem dX1_makeVoid_70 : decode cX1_makeVoid 70 = .ok (.iload 5, 2) := by decide +kernel
theorem dX1_makeVoid_72 : decode cX1_makeVoid 72 = .ok (.invokevirtual 35, 3) := by decide +kernel
theorem dX1_makeVoid_75 : decode cX1_makeVoid 75 = .ok (.ifCond .eq 16, 3) := by decide +kernel
theorem dX1_makeVoid_78 : decode cX1_makeVoid 78 = .ok (.aload_n 0, 1) := by decide +kernel
theorem dX1_makeVoid_79 : decode cX1_makeVoid 79 = .ok (.getfield 13, 3) := by decide +kernel
theorem dX1_makeVoid_82 : decode cX1_makeVoid 82 = .ok (.iload 5, 2) := by decide +kernel
theorem dX1_makeVoid_84 : decode cX1_makeVoid 84 = .ok (.aaload, 1) := by decide +kernel
theorem dX1_makeVoid_85 : decode cX1_makeVoid 85 = .ok (.iconst 5, 1) := by decide +kernel
theorem dX1_makeVoid_86 : decode cX1_makeVoid 86 = .ok (.iconst 1, 1) := by decide +kernel
theorem dX1_makeVoid_87 : decode cX1_makeVoid 87 = .ok (.iastore, 1) := by decide +kernel
theorem dX1_makeVoid_88 : decode cX1_makeVoid 88 = .ok (.iinc 4 1, 3) := by decide +kernel
theorem dX1_makeVoid_91 : decode cX1_makeVoid 91 = .ok (.iinc 5 1, 3) := by decide +kernel
theorem dX1_makeVoid_94 : decode cX1_makeVoid 94 = .ok (.goto (-88), 3) := by decide +kernel
theorem dX1_makeVoid_97 : decode cX1_makeVoid 97 = .ok (.iload 4, 2) := by decide +kernel
theorem dX1_makeVoid_99 : decode cX1_makeVoid 99 = .ok (.ireturn, 1) := by decide +kernel
set_option maxRecDepth 20000 in
theorem ggX1_restsOnVoid_X1_has : GoodIn wsX1_restsOnVoid wsX1_has := goodIn_r _ [6, 7, 8, 9, 10, 11, 12] (by decide +kernel) (by decide +kernel)
set_option maxRecDepth 20000 in
theorem gX1_restsOnVoid_X1_has : GoodIn wsX1_restsOnVoid (wsV RX1 39 RX1 yX1_has wsX1_has) := goodIn_app (goodIn_of _ (by decide +kernel)) ggX1_restsOnVoid_X1_has
theorem dX1_restsOnVoid_0 : decode cX1_restsOnVoid 0 = .ok (.aload_n 0, 1) := by decide +kernel
theorem dX1_restsOnVoid_1 : decode cX1_restsOnVoid 1 = .ok (.getfield 13, 3) := by decide +kernel
theorem dX1_restsOnVoid_4 : decode cX1_restsOnVoid 4 = .ok (.iload_n 1, 1) := by decide +kernel
theorem dX1_restsOnVoid_5 : decode cX1_restsOnVoid 5 = .ok (.aaload, 1) := by decide +kernel
theorem dX1_restsOnVoid_6 : decode cX1_restsOnVoid 6 = .ok (.bipush 6, 2) := by decide +kernel
theorem dX1_restsOnVoid_8 : decode cX1_restsOnVoid 8 = .ok (.iaload, 1) := by decide +kernel
theorem dX1_restsOnVoid_9 : decode cX1_restsOnVoid 9 = .ok (.istore_n 2, 1) := by decide +kernel
theorem dX1_restsOnVoid_10 : decode cX1_restsOnVoid 10 = .ok (.aload_n 0, 1) := by decide +kernel
theorem dX1_restsOnVoid_11 : decode cX1_restsOnVoid 11 = .ok (.iload_n 2, 1) := by decide +kernel
theorem dX1_restsOnVoid_12 : decode cX1_restsOnVoid 12 = .ok (.invokevirtual 39, 3) := by decide +kernel
theorem dX1_restsOnVoid_15 : decode cX1_restsOnVoid 15 = .ok (.ifCond .eq 19, 3) := by decide +kernel
theorem dX1_restsOnVoid_18 : decode cX1_restsOnVoid 18 = .ok (.aload_n 0, 1) := by decide +kernel
theorem dX1_restsOnVoid_19 : decode cX1_restsOnVoid 19 = .ok (.getfield 13, 3) := by decide +kernel
theorem dX1_restsOnVoid_22 : decode cX1_restsOnVoid 22 = .ok (.iload_n 2, 1) := by decide +kernel
theorem dX1_restsOnVoid_23 : decode cX1_restsOnVoid 23 = .ok (.aaload, 1) := by decide +kernel
theorem dX1_restsOnVoid_24 : decode cX1_restsOnVoid 24 = .ok (.iconst 5, 1) := by decide +kernel
theorem dX1_restsOnVoid_25 : decode cX1_restsOnVoid 25 = .ok (.iaload, 1) := by decide +kernel
theorem dX1_restsOnVoid_26 : decode cX1_restsOnVoid 26 = .ok (.iconst 1, 1) := by decide +kernel
theorem dX1_restsOnVoid_27 : decode cX1_restsOnVoid 27 = .ok (.if_icmp .ne 7, 3) := by decide +kernel
theorem dX1_restsOnVoid_30 : decode cX1_restsOnVoid 30 = .ok (.iconst 1, 1) := by decide +kernel
theorem dX1_restsOnVoid_31 : decode cX1_restsOnVoid 31 = .ok (.goto 4, 3) := by decide +kernel
theorem dX1_restsOnVoid_34 : decode cX1_restsOnVoid 34 = .ok (.iconst 0, 1) := by decide +kernel
theorem dX1_restsOnVoid_35 : decode cX1_restsOnVoid 35 = .ok (.ireturn, 1) := by decide +kernel
set_option maxRecDepth 20000 in
theorem ggX1_chainLength_X1_has : GoodIn wsX1_chainLength wsX1_has := goodIn_r _ [6, 7, 8, 9, 10, 11, 12] (by decide +kernel) (by decide +kernel)
set_option maxRecDepth 20000 in
theorem gX1_chainLength_X1_has : GoodIn wsX1_chainLength (wsV RX1 39 RX1 yX1_has wsX1_has) := goodIn_app (goodIn_of _ (by decide +kernel)) ggX1_chainLength_X1_has
theorem dX1_chainLength_0 : decode cX1_chainLength 0 = .ok (.iconst 0, 1) := by decide +kernel
theorem dX1_chainLength_1 : decode cX1_chainLength 1 = .ok (.istore_n 2, 1) := by decide +kernel
theorem dX1_chainLength_2 : decode cX1_chainLength 2 = .ok (.iload_n 1, 1) := by decide +kernel
theorem dX1_chainLength_3 : decode cX1_chainLength 3 = .ok (.istore_n 3, 1) := by decide +kernel
theorem dX1_chainLength_4 : decode cX1_chainLength 4 = .ok (.iconst 0, 1) := by decide +kernel
theorem dX1_chainLength_5 : decode cX1_chainLength 5 = .ok (.istore 4, 2) := by decide +kernel
theorem dX1_chainLength_7 : decode cX1_chainLength 7 = .ok (.iload 4, 2) := by decide +kernel
theorem dX1_chainLength_9 : decode cX1_chainLength 9 = .ok (.bipush 40, 2) := by decide +kernel
theorem dX1_chainLength_11 : decode cX1_chainLength 11 = .ok (.if_icmp .ge 30, 3) := by decide +kernel
theorem dX1_chainLength_14 : decode cX1_chainLength 14 = .ok (.aload_n 0, 1) := by decide +kernel
theorem dX1_chainLength_15 : decode cX1_chainLength 15 = .ok (.iload_n 3, 1) := by decide +kernel
theorem dX1_chainLength_16 : decode cX1_chainLength 16 = .ok (.invokevirtual 39, 3) := by decide +kernel
theorem dX1_chainLength_19 : decode cX1_chainLength 19 = .ok (.ifCond .eq 22, 3) := by decide +kernel
theorem dX1_chainLength_22 : decode cX1_chainLength 22 = .ok (.iinc 2 1, 3) := by decide +kernel
theorem dX1_chainLength_25 : decode cX1_chainLength 25 = .ok (.aload_n 0, 1) := by decide +kernel
theorem dX1_chainLength_26 : decode cX1_chainLength 26 = .ok (.getfield 13, 3) := by decide +kernel
theorem dX1_chainLength_29 : decode cX1_chainLength 29 = .ok (.iload_n 3, 1) := by decide +kernel
theorem dX1_chainLength_30 : decode cX1_chainLength 30 = .ok (.aaload, 1) := by decide +kernel
theorem dX1_chainLength_31 : decode cX1_chainLength 31 = .ok (.bipush 6, 2) := by decide +kernel
theorem dX1_chainLength_33 : decode cX1_chainLength 33 = .ok (.iaload, 1) := by decide +kernel
theorem dX1_chainLength_34 : decode cX1_chainLength 34 = .ok (.istore_n 3, 1) := by decide +kernel
theorem dX1_chainLength_35 : decode cX1_chainLength 35 = .ok (.iinc 4 1, 3) := by decide +kernel
theorem dX1_chainLength_38 : decode cX1_chainLength 38 = .ok (.goto (-31), 3) := by decide +kernel
theorem dX1_chainLength_41 : decode cX1_chainLength 41 = .ok (.iload_n 2, 1) := by decide +kernel
theorem dX1_chainLength_42 : decode cX1_chainLength 42 = .ok (.ireturn, 1) := by decide +kernel
set_option maxRecDepth 20000 in
theorem ggX1_squaredEnds_X1_has : GoodIn wsX1_squaredEnds wsX1_has := goodIn_r _ [6, 7, 8, 9, 10, 11, 12] (by decide +kernel) (by decide +kernel)
set_option maxRecDepth 20000 in
theorem gX1_squaredEnds_X1_has : GoodIn wsX1_squaredEnds (wsV RX1 39 RX1 yX1_has wsX1_has) := goodIn_app (goodIn_of _ (by decide +kernel)) ggX1_squaredEnds_X1_has
theorem dX1_squaredEnds_0 : decode cX1_squaredEnds 0 = .ok (.lconst 0, 1) := by decide +kernel
theorem dX1_squaredEnds_1 : decode cX1_squaredEnds 1 = .ok (.lstore_n 2, 1) := by decide +kernel
theorem dX1_squaredEnds_2 : decode cX1_squaredEnds 2 = .ok (.iload_n 1, 1) := by decide +kernel
theorem dX1_squaredEnds_3 : decode cX1_squaredEnds 3 = .ok (.istore 4, 2) := by decide +kernel
theorem dX1_squaredEnds_5 : decode cX1_squaredEnds 5 = .ok (.iconst 0, 1) := by decide +kernel
theorem dX1_squaredEnds_6 : decode cX1_squaredEnds 6 = .ok (.istore 5, 2) := by decide +kernel
theorem dX1_squaredEnds_8 : decode cX1_squaredEnds 8 = .ok (.iload 5, 2) := by decide +kernel
theorem dX1_squaredEnds_10 : decode cX1_squaredEnds 10 = .ok (.bipush 40, 2) := by decide +kernel
theorem dX1_squaredEnds_12 : decode cX1_squaredEnds 12 = .ok (.if_icmp .ge 50, 3) := by decide +kernel
theorem dX1_squaredEnds_15 : decode cX1_squaredEnds 15 = .ok (.aload_n 0, 1) := by decide +kernel
theorem dX1_squaredEnds_16 : decode cX1_squaredEnds 16 = .ok (.iload 4, 2) := by decide +kernel
theorem dX1_squaredEnds_18 : decode cX1_squaredEnds 18 = .ok (.invokevirtual 39, 3) := by decide +kernel
theorem dX1_squaredEnds_21 : decode cX1_squaredEnds 21 = .ok (.ifCond .eq 41, 3) := by decide +kernel
theorem dX1_squaredEnds_24 : decode cX1_squaredEnds 24 = .ok (.aload_n 0, 1) := by decide +kernel
theorem dX1_squaredEnds_25 : decode cX1_squaredEnds 25 = .ok (.getfield 13, 3) := by decide +kernel
theorem dX1_squaredEnds_28 : decode cX1_squaredEnds 28 = .ok (.iload 4, 2) := by decide +kernel
theorem dX1_squaredEnds_30 : decode cX1_squaredEnds 30 = .ok (.aaload, 1) := by decide +kernel
theorem dX1_squaredEnds_31 : decode cX1_squaredEnds 31 = .ok (.iconst 4, 1) := by decide +kernel
theorem dX1_squaredEnds_32 : decode cX1_squaredEnds 32 = .ok (.iaload, 1) := by decide +kernel
theorem dX1_squaredEnds_33 : decode cX1_squaredEnds 33 = .ok (.i2l, 1) := by decide +kernel
theorem dX1_squaredEnds_34 : decode cX1_squaredEnds 34 = .ok (.lstore 6, 2) := by decide +kernel
theorem dX1_squaredEnds_36 : decode cX1_squaredEnds 36 = .ok (.lload_n 2, 1) := by decide +kernel
theorem dX1_squaredEnds_37 : decode cX1_squaredEnds 37 = .ok (.lload 6, 2) := by decide +kernel
theorem dX1_squaredEnds_39 : decode cX1_squaredEnds 39 = .ok (.lload 6, 2) := by decide +kernel
theorem dX1_squaredEnds_41 : decode cX1_squaredEnds 41 = .ok (.lmul, 1) := by decide +kernel
theorem dX1_squaredEnds_42 : decode cX1_squaredEnds 42 = .ok (.ladd, 1) := by decide +kernel
theorem dX1_squaredEnds_43 : decode cX1_squaredEnds 43 = .ok (.lstore_n 2, 1) := by decide +kernel
theorem dX1_squaredEnds_44 : decode cX1_squaredEnds 44 = .ok (.aload_n 0, 1) := by decide +kernel
theorem dX1_squaredEnds_45 : decode cX1_squaredEnds 45 = .ok (.getfield 13, 3) := by decide +kernel
theorem dX1_squaredEnds_48 : decode cX1_squaredEnds 48 = .ok (.iload 4, 2) := by decide +kernel
theorem dX1_squaredEnds_50 : decode cX1_squaredEnds 50 = .ok (.aaload, 1) := by decide +kernel
theorem dX1_squaredEnds_51 : decode cX1_squaredEnds 51 = .ok (.bipush 6, 2) := by decide +kernel
theorem dX1_squaredEnds_53 : decode cX1_squaredEnds 53 = .ok (.iaload, 1) := by decide +kernel
theorem dX1_squaredEnds_54 : decode cX1_squaredEnds 54 = .ok (.istore 4, 2) := by decide +kernel
theorem dX1_squaredEnds_56 : decode cX1_squaredEnds 56 = .ok (.iinc 5 1, 3) := by decide +kernel
theorem dX1_squaredEnds_59 : decode cX1_squaredEnds 59 = .ok (.goto (-51), 3) := by decide +kernel
theorem dX1_squaredEnds_62 : decode cX1_squaredEnds 62 = .ok (.lload_n 2, 1) := by decide +kernel
theorem dX1_squaredEnds_63 : decode cX1_squaredEnds 63 = .ok (.lreturn, 1) := by decide +kernel
set_option maxRecDepth 20000 in
theorem ggX1_countOver_X1_isOver : GoodIn wsX1_countOver wsX1_isOver := goodIn_r _ [6, 7, 8, 9, 10, 5, 11, 1, 12, 13, 14, 15, 16] (by decide +kernel) (by decide +kernel)
set_option maxRecDepth 20000 in
theorem gX1_countOver_X1_isOver : GoodIn wsX1_countOver (wsV RX1 42 RX1 yX1_isOver wsX1_isOver) := goodIn_app (goodIn_of _ (by decide +kernel)) ggX1_countOver_X1_isOver
theorem dX1_countOver_0 : decode cX1_countOver 0 = .ok (.iconst 0, 1) := by decide +kernel
theorem dX1_countOver_1 : decode cX1_countOver 1 = .ok (.istore_n 2, 1) := by decide +kernel
theorem dX1_countOver_2 : decode cX1_countOver 2 = .ok (.iload_n 1, 1) := by decide +kernel
theorem dX1_countOver_3 : decode cX1_countOver 3 = .ok (.iconst 1, 1) := by decide +kernel
theorem dX1_countOver_4 : decode cX1_countOver 4 = .ok (.iadd, 1) := by decide +kernel
theorem dX1_countOver_5 : decode cX1_countOver 5 = .ok (.istore_n 3, 1) := by decide +kernel
theorem dX1_countOver_6 : decode cX1_countOver 6 = .ok (.iload_n 3, 1) := by decide +kernel
theorem dX1_countOver_7 : decode cX1_countOver 7 = .ok (.aload_n 0, 1) := by decide +kernel
theorem dX1_countOver_8 : decode cX1_countOver 8 = .ok (.getfield 16, 3) := by decide +kernel
theorem dX1_countOver_11 : decode cX1_countOver 11 = .ok (.if_icmp .ge 21, 3) := by decide +kernel
theorem dX1_countOver_14 : decode cX1_countOver 14 = .ok (.aload_n 0, 1) := by decide +kernel
theorem dX1_countOver_15 : decode cX1_countOver 15 = .ok (.iload_n 3, 1) := by decide +kernel
theorem dX1_countOver_16 : decode cX1_countOver 16 = .ok (.iload_n 1, 1) := by decide +kernel
theorem dX1_countOver_17 : decode cX1_countOver 17 = .ok (.invokevirtual 42, 3) := by decide +kernel
theorem dX1_countOver_20 : decode cX1_countOver 20 = .ok (.ifCond .eq 6, 3) := by decide +kernel
theorem dX1_countOver_23 : decode cX1_countOver 23 = .ok (.iinc 2 1, 3) := by decide +kernel
theorem dX1_countOver_26 : decode cX1_countOver 26 = .ok (.iinc 3 1, 3) := by decide +kernel
theorem dX1_countOver_29 : decode cX1_countOver 29 = .ok (.goto (-23), 3) := by decide +kernel
theorem dX1_countOver_32 : decode cX1_countOver 32 = .ok (.iload_n 2, 1) := by decide +kernel
theorem dX1_countOver_33 : decode cX1_countOver 33 = .ok (.ireturn, 1) := by decide +kernel
set_option maxRecDepth 20000 in
theorem ggX1_isOver_X1_has : GoodIn wsX1_isOver wsX1_has := goodIn_r _ [6, 7, 8, 9, 10, 11, 12] (by decide +kernel) (by decide +kernel)
set_option maxRecDepth 20000 in
theorem gX1_isOver_X1_has : GoodIn wsX1_isOver (wsV RX1 39 RX1 yX1_has wsX1_has) := goodIn_app (goodIn_of _ (by decide +kernel)) ggX1_isOver_X1_has
theorem dX1_isOver_0 : decode cX1_isOver 0 = .ok (.aload_n 0, 1) := by decide +kernel
theorem dX1_isOver_1 : decode cX1_isOver 1 = .ok (.getfield 13, 3) := by decide +kernel
theorem dX1_isOver_4 : decode cX1_isOver 4 = .ok (.iload_n 1, 1) := by decide +kernel
theorem dX1_isOver_5 : decode cX1_isOver 5 = .ok (.aaload, 1) := by decide +kernel
theorem dX1_isOver_6 : decode cX1_isOver 6 = .ok (.bipush 6, 2) := by decide +kernel
theorem dX1_isOver_8 : decode cX1_isOver 8 = .ok (.iaload, 1) := by decide +kernel
theorem dX1_isOver_9 : decode cX1_isOver 9 = .ok (.istore_n 3, 1) := by decide +kernel
theorem dX1_isOver_10 : decode cX1_isOver 10 = .ok (.iconst 0, 1) := by decide +kernel
theorem dX1_isOver_11 : decode cX1_isOver 11 = .ok (.istore 4, 2) := by decide +kernel
theorem dX1_isOver_13 : decode cX1_isOver 13 = .ok (.iload 4, 2) := by decide +kernel
theorem dX1_isOver_15 : decode cX1_isOver 15 = .ok (.bipush 40, 2) := by decide +kernel
theorem dX1_isOver_17 : decode cX1_isOver 17 = .ok (.if_icmp .ge 34, 3) := by decide +kernel
theorem dX1_isOver_20 : decode cX1_isOver 20 = .ok (.aload_n 0, 1) := by decide +kernel
theorem dX1_isOver_21 : decode cX1_isOver 21 = .ok (.iload_n 3, 1) := by decide +kernel
theorem dX1_isOver_22 : decode cX1_isOver 22 = .ok (.invokevirtual 39, 3) := by decide +kernel
theorem dX1_isOver_25 : decode cX1_isOver 25 = .ok (.ifCond .eq 26, 3) := by decide +kernel
theorem dX1_isOver_28 : decode cX1_isOver 28 = .ok (.iload_n 3, 1) := by decide +kernel
theorem dX1_isOver_29 : decode cX1_isOver 29 = .ok (.iload_n 2, 1) := by decide +kernel
theorem dX1_isOver_30 : decode cX1_isOver 30 = .ok (.if_icmp .ne 5, 3) := by decide +kernel
theorem dX1_isOver_33 : decode cX1_isOver 33 = .ok (.iconst 1, 1) := by decide +kernel
theorem dX1_isOver_34 : decode cX1_isOver 34 = .ok (.ireturn, 1) := by decide +kernel
theorem dX1_isOver_35 : decode cX1_isOver 35 = .ok (.aload_n 0, 1) := by decide +kernel
theorem dX1_isOver_36 : decode cX1_isOver 36 = .ok (.getfield 13, 3) := by decide +kernel
theorem dX1_isOver_39 : decode cX1_isOver 39 = .ok (.iload_n 3, 1) := by decide +kernel
theorem dX1_isOver_40 : decode cX1_isOver 40 = .ok (.aaload, 1) := by decide +kernel
theorem dX1_isOver_41 : decode cX1_isOver 41 = .ok (.bipush 6, 2) := by decide +kernel
theorem dX1_isOver_43 : decode cX1_isOver 43 = .ok (.iaload, 1) := by decide +kernel
theorem dX1_isOver_44 : decode cX1_isOver 44 = .ok (.istore_n 3, 1) := by decide +kernel
theorem dX1_isOver_45 : decode cX1_isOver 45 = .ok (.iinc 4 1, 3) := by decide +kernel
theorem dX1_isOver_48 : decode cX1_isOver 48 = .ok (.goto (-35), 3) := by decide +kernel
theorem dX1_isOver_51 : decode cX1_isOver 51 = .ok (.iconst 0, 1) := by decide +kernel
theorem dX1_isOver_52 : decode cX1_isOver 52 = .ok (.ireturn, 1) := by decide +kernel
set_option maxRecDepth 20000 in
theorem ggX1_countOverBulb_X1_isOverBulb : GoodIn wsX1_countOverBulb wsX1_isOverBulb := goodIn_r _ [7, 2, 8, 9, 10, 6, 11, 1, 12, 13, 14, 15, 16] (by decide +kernel) (by decide +kernel)
set_option maxRecDepth 20000 in
theorem gX1_countOverBulb_X1_isOverBulb : GoodIn wsX1_countOverBulb (wsV RX1 46 RX1 yX1_isOverBulb wsX1_isOverBulb) := goodIn_app (goodIn_of _ (by decide +kernel)) ggX1_countOverBulb_X1_isOverBulb
theorem dX1_countOverBulb_0 : decode cX1_countOverBulb 0 = .ok (.iconst 0, 1) := by decide +kernel
theorem dX1_countOverBulb_1 : decode cX1_countOverBulb 1 = .ok (.istore_n 2, 1) := by decide +kernel
theorem dX1_countOverBulb_2 : decode cX1_countOverBulb 2 = .ok (.iconst 0, 1) := by decide +kernel
theorem dX1_countOverBulb_3 : decode cX1_countOverBulb 3 = .ok (.istore_n 3, 1) := by decide +kernel
theorem dX1_countOverBulb_4 : decode cX1_countOverBulb 4 = .ok (.iload_n 3, 1) := by decide +kernel
theorem dX1_countOverBulb_5 : decode cX1_countOverBulb 5 = .ok (.aload_n 0, 1) := by decide +kernel
theorem dX1_countOverBulb_6 : decode cX1_countOverBulb 6 = .ok (.getfield 16, 3) := by decide +kernel
theorem dX1_countOverBulb_9 : decode cX1_countOverBulb 9 = .ok (.if_icmp .ge 32, 3) := by decide +kernel
theorem dX1_countOverBulb_12 : decode cX1_countOverBulb 12 = .ok (.aload_n 0, 1) := by decide +kernel
theorem dX1_countOverBulb_13 : decode cX1_countOverBulb 13 = .ok (.getfield 13, 3) := by decide +kernel
theorem dX1_countOverBulb_16 : decode cX1_countOverBulb 16 = .ok (.iload_n 3, 1) := by decide +kernel
theorem dX1_countOverBulb_17 : decode cX1_countOverBulb 17 = .ok (.aaload, 1) := by decide +kernel
theorem dX1_countOverBulb_18 : decode cX1_countOverBulb 18 = .ok (.iconst 5, 1) := by decide +kernel
theorem dX1_countOverBulb_19 : decode cX1_countOverBulb 19 = .ok (.iaload, 1) := by decide +kernel
theorem dX1_countOverBulb_20 : decode cX1_countOverBulb 20 = .ok (.ifCond .ne 15, 3) := by decide +kernel
theorem dX1_countOverBulb_23 : decode cX1_countOverBulb 23 = .ok (.aload_n 0, 1) := by decide +kernel
theorem dX1_countOverBulb_24 : decode cX1_countOverBulb 24 = .ok (.iload_n 3, 1) := by decide +kernel
theorem dX1_countOverBulb_25 : decode cX1_countOverBulb 25 = .ok (.iload_n 1, 1) := by decide +kernel
theorem dX1_countOverBulb_26 : decode cX1_countOverBulb 26 = .ok (.invokevirtual 46, 3) := by decide +kernel
theorem dX1_countOverBulb_29 : decode cX1_countOverBulb 29 = .ok (.ifCond .eq 6, 3) := by decide +kernel
theorem dX1_countOverBulb_32 : decode cX1_countOverBulb 32 = .ok (.iinc 2 1, 3) := by decide +kernel
theorem dX1_countOverBulb_35 : decode cX1_countOverBulb 35 = .ok (.iinc 3 1, 3) := by decide +kernel
theorem dX1_countOverBulb_38 : decode cX1_countOverBulb 38 = .ok (.goto (-34), 3) := by decide +kernel
theorem dX1_countOverBulb_41 : decode cX1_countOverBulb 41 = .ok (.iload_n 2, 1) := by decide +kernel
theorem dX1_countOverBulb_42 : decode cX1_countOverBulb 42 = .ok (.ireturn, 1) := by decide +kernel
set_option maxRecDepth 20000 in
theorem ggX1_isOverBulb_X1_has : GoodIn wsX1_isOverBulb wsX1_has := goodIn_r _ [6, 7, 8, 9, 10, 11, 12] (by decide +kernel) (by decide +kernel)
set_option maxRecDepth 20000 in
theorem gX1_isOverBulb_X1_has : GoodIn wsX1_isOverBulb (wsV RX1 39 RX1 yX1_has wsX1_has) := goodIn_app (goodIn_of _ (by decide +kernel)) ggX1_isOverBulb_X1_has
theorem dX1_isOverBulb_0 : decode cX1_isOverBulb 0 = .ok (.aload_n 0, 1) := by decide +kernel
theorem dX1_isOverBulb_1 : decode cX1_isOverBulb 1 = .ok (.getfield 13, 3) := by decide +kernel
theorem dX1_isOverBulb_4 : decode cX1_isOverBulb 4 = .ok (.iload_n 1, 1) := by decide +kernel
theorem dX1_isOverBulb_5 : decode cX1_isOverBulb 5 = .ok (.aaload, 1) := by decide +kernel
theorem dX1_isOverBulb_6 : decode cX1_isOverBulb 6 = .ok (.bipush 6, 2) := by decide +kernel
theorem dX1_isOverBulb_8 : decode cX1_isOverBulb 8 = .ok (.iaload, 1) := by decide +kernel
theorem dX1_isOverBulb_9 : decode cX1_isOverBulb 9 = .ok (.istore_n 3, 1) := by decide +kernel
theorem dX1_isOverBulb_10 : decode cX1_isOverBulb 10 = .ok (.iconst 0, 1) := by decide +kernel
theorem dX1_isOverBulb_11 : decode cX1_isOverBulb 11 = .ok (.istore 4, 2) := by decide +kernel
theorem dX1_isOverBulb_13 : decode cX1_isOverBulb 13 = .ok (.iload 4, 2) := by decide +kernel
theorem dX1_isOverBulb_15 : decode cX1_isOverBulb 15 = .ok (.bipush 40, 2) := by decide +kernel
theorem dX1_isOverBulb_17 : decode cX1_isOverBulb 17 = .ok (.if_icmp .ge 41, 3) := by decide +kernel
theorem dX1_isOverBulb_20 : decode cX1_isOverBulb 20 = .ok (.aload_n 0, 1) := by decide +kernel
theorem dX1_isOverBulb_21 : decode cX1_isOverBulb 21 = .ok (.iload_n 3, 1) := by decide +kernel
theorem dX1_isOverBulb_22 : decode cX1_isOverBulb 22 = .ok (.invokevirtual 39, 3) := by decide +kernel
theorem dX1_isOverBulb_25 : decode cX1_isOverBulb 25 = .ok (.ifCond .eq 33, 3) := by decide +kernel
theorem dX1_isOverBulb_28 : decode cX1_isOverBulb 28 = .ok (.aload_n 0, 1) := by decide +kernel
theorem dX1_isOverBulb_29 : decode cX1_isOverBulb 29 = .ok (.getfield 13, 3) := by decide +kernel
theorem dX1_isOverBulb_32 : decode cX1_isOverBulb 32 = .ok (.iload_n 3, 1) := by decide +kernel
theorem dX1_isOverBulb_33 : decode cX1_isOverBulb 33 = .ok (.aaload, 1) := by decide +kernel
theorem dX1_isOverBulb_34 : decode cX1_isOverBulb 34 = .ok (.iconst 0, 1) := by decide +kernel
theorem dX1_isOverBulb_35 : decode cX1_isOverBulb 35 = .ok (.iaload, 1) := by decide +kernel
theorem dX1_isOverBulb_36 : decode cX1_isOverBulb 36 = .ok (.iload_n 2, 1) := by decide +kernel
theorem dX1_isOverBulb_37 : decode cX1_isOverBulb 37 = .ok (.if_icmp .ne 5, 3) := by decide +kernel
theorem dX1_isOverBulb_40 : decode cX1_isOverBulb 40 = .ok (.iconst 1, 1) := by decide +kernel
theorem dX1_isOverBulb_41 : decode cX1_isOverBulb 41 = .ok (.ireturn, 1) := by decide +kernel
theorem dX1_isOverBulb_42 : decode cX1_isOverBulb 42 = .ok (.aload_n 0, 1) := by decide +kernel
theorem dX1_isOverBulb_43 : decode cX1_isOverBulb 43 = .ok (.getfield 13, 3) := by decide +kernel
theorem dX1_isOverBulb_46 : decode cX1_isOverBulb 46 = .ok (.iload_n 3, 1) := by decide +kernel
theorem dX1_isOverBulb_47 : decode cX1_isOverBulb 47 = .ok (.aaload, 1) := by decide +kernel
theorem dX1_isOverBulb_48 : decode cX1_isOverBulb 48 = .ok (.bipush 6, 2) := by decide +kernel
theorem dX1_isOverBulb_50 : decode cX1_isOverBulb 50 = .ok (.iaload, 1) := by decide +kernel
theorem dX1_isOverBulb_51 : decode cX1_isOverBulb 51 = .ok (.istore_n 3, 1) := by decide +kernel
theorem dX1_isOverBulb_52 : decode cX1_isOverBulb 52 = .ok (.iinc 4 1, 3) := by decide +kernel
theorem dX1_isOverBulb_55 : decode cX1_isOverBulb 55 = .ok (.goto (-42), 3) := by decide +kernel
theorem dX1_isOverBulb_58 : decode cX1_isOverBulb 58 = .ok (.iconst 0, 1) := by decide +kernel
theorem dX1_isOverBulb_59 : decode cX1_isOverBulb 59 = .ok (.ireturn, 1) := by decide +kernel
theorem dX2_init_0 : decode cX2_init 0 = .ok (.aload_n 0, 1) := by decide +kernel
theorem dX2_init_1 : decode cX2_init 1 = .ok (.invokespecial 1, 3) := by decide +kernel
theorem dX2_init_4 : decode cX2_init 4 = .ok (.aload_n 0, 1) := by decide +kernel
theorem dX2_init_5 : decode cX2_init 5 = .ok (.lconst 0, 1) := by decide +kernel
theorem dX2_init_6 : decode cX2_init 6 = .ok (.putfield 7, 3) := by decide +kernel
theorem dX2_init_9 : decode cX2_init 9 = .ok (.aload_n 0, 1) := by decide +kernel
theorem dX2_init_10 : decode cX2_init 10 = .ok (.lconst 1, 1) := by decide +kernel
theorem dX2_init_11 : decode cX2_init 11 = .ok (.putfield 13, 3) := by decide +kernel
theorem dX2_init_14 : decode cX2_init 14 = .ok (.return_, 1) := by decide +kernel
set_option maxRecDepth 20000 in
theorem ggX2_tell_X6_greatestDivisor : GoodIn wsX2_tell wsX6_greatestDivisor := goodIn_r _ [5, 6, 7, 8, 9] (by decide +kernel) (by decide +kernel)
set_option maxRecDepth 20000 in
theorem gX2_tell_X6_greatestDivisor_n16 : GoodIn wsX2_tell (wsX6_greatestDivisor) := ggX2_tell_X6_greatestDivisor
theorem dX2_tell_0 : decode cX2_tell 0 = .ok (.lload_n 1, 1) := by decide +kernel
theorem dX2_tell_1 : decode cX2_tell 1 = .ok (.lload_n 3, 1) := by decide +kernel
theorem dX2_tell_2 : decode cX2_tell 2 = .ok (.invokestatic 16, 3) := by decide +kernel
theorem dX2_tell_5 : decode cX2_tell 5 = .ok (.lstore 5, 2) := by decide +kernel
theorem dX2_tell_7 : decode cX2_tell 7 = .ok (.lload_n 3, 1) := by decide +kernel
theorem dX2_tell_8 : decode cX2_tell 8 = .ok (.lconst 0, 1) := by decide +kernel
theorem dX2_tell_9 : decode cX2_tell 9 = .ok (.lcmp, 1) := by decide +kernel
theorem dX2_tell_10 : decode cX2_tell 10 = .ok (.ifCond .eq 10, 3) := by decide +kernel
theorem dX2_tell_13 : decode cX2_tell 13 = .ok (.lload 5, 2) := by decide +kernel
theorem dX2_tell_15 : decode cX2_tell 15 = .ok (.lconst 0, 1) := by decide +kernel
theorem dX2_tell_16 : decode cX2_tell 16 = .ok (.lcmp, 1) := by decide +kernel
theorem dX2_tell_17 : decode cX2_tell 17 = .ok (.ifCond .ne 4, 3) := by decide +kernel
theorem dX2_tell_20 : decode cX2_tell 20 = .ok (.return_, 1) := by decide +kernel
theorem dX2_tell_21 : decode cX2_tell 21 = .ok (.lload_n 3, 1) := by decide +kernel
theorem dX2_tell_22 : decode cX2_tell 22 = .ok (.lconst 0, 1) := by decide +kernel
theorem dX2_tell_23 : decode cX2_tell 23 = .ok (.lcmp, 1) := by decide +kernel
theorem dX2_tell_24 : decode cX2_tell 24 = .ok (.ifCond .ge 9, 3) := by decide +kernel
theorem dX2_tell_27 : decode cX2_tell 27 = .ok (.lload 5, 2) := by decide +kernel
theorem dX2_tell_29 : decode cX2_tell 29 = .ok (.lneg, 1) := by decide +kernel
theorem dX2_tell_30 : decode cX2_tell 30 = .ok (.goto 5, 3) := by decide +kernel
theorem dX2_tell_33 : decode cX2_tell 33 = .ok (.lload 5, 2) := by decide +kernel
theorem dX2_tell_35 : decode cX2_tell 35 = .ok (.lstore 7, 2) := by decide +kernel
theorem dX2_tell_37 : decode cX2_tell 37 = .ok (.aload_n 0, 1) := by decide +kernel
theorem dX2_tell_38 : decode cX2_tell 38 = .ok (.lload_n 1, 1) := by decide +kernel
theorem dX2_tell_39 : decode cX2_tell 39 = .ok (.lload 7, 2) := by decide +kernel
theorem dX2_tell_41 : decode cX2_tell 41 = .ok (.ldiv, 1) := by decide +kernel
theorem dX2_tell_42 : decode cX2_tell 42 = .ok (.putfield 7, 3) := by decide +kernel
theorem dX2_tell_45 : decode cX2_tell 45 = .ok (.aload_n 0, 1) := by decide +kernel
theorem dX2_tell_46 : decode cX2_tell 46 = .ok (.lload_n 3, 1) := by decide +kernel
theorem dX2_tell_47 : decode cX2_tell 47 = .ok (.lload 7, 2) := by decide +kernel
theorem dX2_tell_49 : decode cX2_tell 49 = .ok (.ldiv, 1) := by decide +kernel
theorem dX2_tell_50 : decode cX2_tell 50 = .ok (.putfield 13, 3) := by decide +kernel
theorem dX2_tell_53 : decode cX2_tell 53 = .ok (.return_, 1) := by decide +kernel
set_option maxRecDepth 20000 in
theorem ggX3_init_J7_fill_53178 : GoodIn wsX3_init wsJ7_fill_53178 := goodIn_r _ [11] (by decide +kernel) (by decide +kernel)
set_option maxRecDepth 20000 in
theorem gX3_init_J7_fill_53178 : GoodIn wsX3_init (va_wsS RX3 19 yJ7_fill_53178 wsJ7_fill_53178) := goodIn_app (goodIn_of _ (by decide +kernel)) ggX3_init_J7_fill_53178
theorem dX3_init_0 : decode cX3_init 0 = .ok (.aload_n 0, 1) := by decide +kernel
theorem dX3_init_1 : decode cX3_init 1 = .ok (.invokespecial 3, 3) := by decide +kernel
theorem dX3_init_4 : decode cX3_init 4 = .ok (.aload_n 0, 1) := by decide +kernel
theorem dX3_init_5 : decode cX3_init 5 = .ok (.bipush 6, 2) := by decide +kernel
theorem dX3_init_7 : decode cX3_init 7 = .ok (.bipush 6, 2) := by decide +kernel
theorem dX3_init_9 : decode cX3_init 9 = .ok (.multianewarray 9 2, 4) := by decide +kernel
theorem dX3_init_13 : decode cX3_init 13 = .ok (.putfield 11, 3) := by decide +kernel
theorem dX3_init_16 : decode cX3_init 16 = .ok (.aload_n 0, 1) := by decide +kernel
theorem dX3_init_17 : decode cX3_init 17 = .ok (.bipush 6, 2) := by decide +kernel
theorem dX3_init_19 : decode cX3_init 19 = .ok (.bipush 6, 2) := by decide +kernel
theorem dX3_init_21 : decode cX3_init 21 = .ok (.multianewarray 9 2, 4) := by decide +kernel
theorem dX3_init_25 : decode cX3_init 25 = .ok (.putfield 16, 3) := by decide +kernel
theorem dX3_init_28 : decode cX3_init 28 = .ok (.iconst 0, 1) := by decide +kernel
theorem dX3_init_29 : decode cX3_init 29 = .ok (.istore_n 1, 1) := by decide +kernel
theorem dX3_init_30 : decode cX3_init 30 = .ok (.iload_n 1, 1) := by decide +kernel
theorem dX3_init_31 : decode cX3_init 31 = .ok (.bipush 6, 2) := by decide +kernel
theorem dX3_init_33 : decode cX3_init 33 = .ok (.if_icmp .ge 19, 3) := by decide +kernel
theorem dX3_init_36 : decode cX3_init 36 = .ok (.aload_n 0, 1) := by decide +kernel
theorem dX3_init_37 : decode cX3_init 37 = .ok (.getfield 16, 3) := by decide +kernel
theorem dX3_init_40 : decode cX3_init 40 = .ok (.iload_n 1, 1) := by decide +kernel
theorem dX3_init_41 : decode cX3_init 41 = .ok (.aaload, 1) := by decide +kernel
theorem dX3_init_42 : decode cX3_init 42 = .ok (.iconst (-1), 1) := by decide +kernel
theorem dX3_init_43 : decode cX3_init 43 = .ok (.invokestatic 19, 3) := by decide +kernel
theorem dX3_init_46 : decode cX3_init 46 = .ok (.iinc 1 1, 3) := by decide +kernel
theorem dX3_init_49 : decode cX3_init 49 = .ok (.goto (-19), 3) := by decide +kernel
theorem dX3_init_52 : decode cX3_init 52 = .ok (.return_, 1) := by decide +kernel
theorem dX3_put_0 : decode cX3_put 0 = .ok (.aload_n 0, 1) := by decide +kernel
theorem dX3_put_1 : decode cX3_put 1 = .ok (.getfield 11, 3) := by decide +kernel
theorem dX3_put_4 : decode cX3_put 4 = .ok (.iload_n 1, 1) := by decide +kernel
theorem dX3_put_5 : decode cX3_put 5 = .ok (.aaload, 1) := by decide +kernel
theorem dX3_put_6 : decode cX3_put 6 = .ok (.iload_n 2, 1) := by decide +kernel
theorem dX3_put_7 : decode cX3_put 7 = .ok (.iload_n 3, 1) := by decide +kernel
theorem dX3_put_8 : decode cX3_put 8 = .ok (.iastore, 1) := by decide +kernel
theorem dX3_put_9 : decode cX3_put 9 = .ok (.aload_n 0, 1) := by decide +kernel
theorem dX3_put_10 : decode cX3_put 10 = .ok (.getfield 11, 3) := by decide +kernel
theorem dX3_put_13 : decode cX3_put 13 = .ok (.iload_n 2, 1) := by decide +kernel
theorem dX3_put_14 : decode cX3_put 14 = .ok (.aaload, 1) := by decide +kernel
theorem dX3_put_15 : decode cX3_put 15 = .ok (.iload_n 1, 1) := by decide +kernel
theorem dX3_put_16 : decode cX3_put 16 = .ok (.iload_n 3, 1) := by decide +kernel
theorem dX3_put_17 : decode cX3_put 17 = .ok (.ineg, 1) := by decide +kernel
theorem dX3_put_18 : decode cX3_put 18 = .ok (.iastore, 1) := by decide +kernel
theorem dX3_put_19 : decode cX3_put 19 = .ok (.aload_n 0, 1) := by decide +kernel
theorem dX3_put_20 : decode cX3_put 20 = .ok (.getfield 16, 3) := by decide +kernel
theorem dX3_put_23 : decode cX3_put 23 = .ok (.iload_n 1, 1) := by decide +kernel
theorem dX3_put_24 : decode cX3_put 24 = .ok (.aaload, 1) := by decide +kernel
theorem dX3_put_25 : decode cX3_put 25 = .ok (.iload_n 2, 1) := by decide +kernel
theorem dX3_put_26 : decode cX3_put 26 = .ok (.iload 4, 2) := by decide +kernel
theorem dX3_put_28 : decode cX3_put 28 = .ok (.iastore, 1) := by decide +kernel
theorem dX3_put_29 : decode cX3_put 29 = .ok (.aload_n 0, 1) := by decide +kernel
theorem dX3_put_30 : decode cX3_put 30 = .ok (.getfield 16, 3) := by decide +kernel
theorem dX3_put_33 : decode cX3_put 33 = .ok (.iload_n 2, 1) := by decide +kernel
theorem dX3_put_34 : decode cX3_put 34 = .ok (.aaload, 1) := by decide +kernel
theorem dX3_put_35 : decode cX3_put 35 = .ok (.iload_n 1, 1) := by decide +kernel
theorem dX3_put_36 : decode cX3_put 36 = .ok (.iload 4, 2) := by decide +kernel
theorem dX3_put_38 : decode cX3_put 38 = .ok (.iastore, 1) := by decide +kernel
theorem dX3_put_39 : decode cX3_put 39 = .ok (.return_, 1) := by decide +kernel
theorem dX3_isKnown_0 : decode cX3_isKnown 0 = .ok (.aload_n 0, 1) := by decide +kernel
theorem dX3_isKnown_1 : decode cX3_isKnown 1 = .ok (.getfield 16, 3) := by decide +kernel
theorem dX3_isKnown_4 : decode cX3_isKnown 4 = .ok (.iload_n 1, 1) := by decide +kernel
theorem dX3_isKnown_5 : decode cX3_isKnown 5 = .ok (.aaload, 1) := by decide +kernel
theorem dX3_isKnown_6 : decode cX3_isKnown 6 = .ok (.iload_n 2, 1) := by decide +kernel
theorem dX3_isKnown_7 : decode cX3_isKnown 7 = .ok (.iaload, 1) := by decide +kernel
theorem dX3_isKnown_8 : decode cX3_isKnown 8 = .ok (.iconst (-1), 1) := by decide +kernel
theorem dX3_isKnown_9 : decode cX3_isKnown 9 = .ok (.if_icmp .eq 31, 3) := by decide +kernel
theorem dX3_isKnown_12 : decode cX3_isKnown 12 = .ok (.aload_n 0, 1) := by decide +kernel
theorem dX3_isKnown_13 : decode cX3_isKnown 13 = .ok (.getfield 16, 3) := by decide +kernel
theorem dX3_isKnown_16 : decode cX3_isKnown 16 = .ok (.iload_n 2, 1) := by decide +kernel
theorem dX3_isKnown_17 : decode cX3_isKnown 17 = .ok (.aaload, 1) := by decide +kernel
theorem dX3_isKnown_18 : decode cX3_isKnown 18 = .ok (.iload_n 3, 1) := by decide +kernel
theorem dX3_isKnown_19 : decode cX3_isKnown 19 = .ok (.iaload, 1) := by decide +kernel
theorem dX3_isKnown_20 : decode cX3_isKnown 20 = .ok (.iconst (-1), 1) := by decide +kernel
theorem dX3_isKnown_21 : decode cX3_isKnown 21 = .ok (.if_icmp .eq 19, 3) := by decide +kernel
theorem dX3_isKnown_24 : decode cX3_isKnown 24 = .ok (.aload_n 0, 1) := by decide +kernel
theorem dX3_isKnown_25 : decode cX3_isKnown 25 = .ok (.getfield 16, 3) := by decide +kernel
theorem dX3_isKnown_28 : decode cX3_isKnown 28 = .ok (.iload_n 3, 1) := by decide +kernel
theorem dX3_isKnown_29 : decode cX3_isKnown 29 = .ok (.aaload, 1) := by decide +kernel
theorem dX3_isKnown_30 : decode cX3_isKnown 30 = .ok (.iload_n 1, 1) := by decide +kernel
theorem dX3_isKnown_31 : decode cX3_isKnown 31 = .ok (.iaload, 1) := by decide +kernel
theorem dX3_isKnown_32 : decode cX3_isKnown 32 = .ok (.iconst (-1), 1) := by decide +kernel
theorem dX3_isKnown_33 : decode cX3_isKnown 33 = .ok (.if_icmp .eq 7, 3) := by decide +kernel
theorem dX3_isKnown_36 : decode cX3_isKnown 36 = .ok (.iconst 1, 1) := by decide +kernel
theorem dX3_isKnown_37 : decode cX3_isKnown 37 = .ok (.goto 4, 3) := by decide +kernel
theorem dX3_isKnown_40 : decode cX3_isKnown 40 = .ok (.iconst 0, 1) := by decide +kernel
theorem dX3_isKnown_41 : decode cX3_isKnown 41 = .ok (.ireturn, 1) := by decide +kernel
theorem dX3_gap_0 : decode cX3_gap 0 = .ok (.aload_n 0, 1) := by decide +kernel
theorem dX3_gap_1 : decode cX3_gap 1 = .ok (.getfield 11, 3) := by decide +kernel
theorem dX3_gap_4 : decode cX3_gap 4 = .ok (.iload_n 1, 1) := by decide +kernel
theorem dX3_gap_5 : decode cX3_gap 5 = .ok (.aaload, 1) := by decide +kernel
theorem dX3_gap_6 : decode cX3_gap 6 = .ok (.iload_n 2, 1) := by decide +kernel
theorem dX3_gap_7 : decode cX3_gap 7 = .ok (.iaload, 1) := by decide +kernel
theorem dX3_gap_8 : decode cX3_gap 8 = .ok (.aload_n 0, 1) := by decide +kernel
theorem dX3_gap_9 : decode cX3_gap 9 = .ok (.getfield 11, 3) := by decide +kernel
theorem dX3_gap_12 : decode cX3_gap 12 = .ok (.iload_n 2, 1) := by decide +kernel
theorem dX3_gap_13 : decode cX3_gap 13 = .ok (.aaload, 1) := by decide +kernel
theorem dX3_gap_14 : decode cX3_gap 14 = .ok (.iload_n 3, 1) := by decide +kernel
theorem dX3_gap_15 : decode cX3_gap 15 = .ok (.iaload, 1) := by decide +kernel
theorem dX3_gap_16 : decode cX3_gap 16 = .ok (.iadd, 1) := by decide +kernel
theorem dX3_gap_17 : decode cX3_gap 17 = .ok (.aload_n 0, 1) := by decide +kernel
theorem dX3_gap_18 : decode cX3_gap 18 = .ok (.getfield 11, 3) := by decide +kernel
theorem dX3_gap_21 : decode cX3_gap 21 = .ok (.iload_n 3, 1) := by decide +kernel
theorem dX3_gap_22 : decode cX3_gap 22 = .ok (.aaload, 1) := by decide +kernel
theorem dX3_gap_23 : decode cX3_gap 23 = .ok (.iload_n 1, 1) := by decide +kernel
theorem dX3_gap_24 : decode cX3_gap 24 = .ok (.iaload, 1) := by decide +kernel
theorem dX3_gap_25 : decode cX3_gap 25 = .ok (.iadd, 1) := by decide +kernel
theorem dX3_gap_26 : decode cX3_gap 26 = .ok (.ireturn, 1) := by decide +kernel
set_option maxRecDepth 20000 in
theorem ggX3_isShut_X3_gap : GoodIn wsX3_isShut wsX3_gap := goodIn_r _ [10, 11, 12, 13] (by decide +kernel) (by decide +kernel)
set_option maxRecDepth 20000 in
theorem gX3_isShut_X3_gap : GoodIn wsX3_isShut (wsV RX3 25 RX3 yX3_gap wsX3_gap) := goodIn_app (goodIn_of _ (by decide +kernel)) ggX3_isShut_X3_gap
theorem dX3_isShut_0 : decode cX3_isShut 0 = .ok (.aload_n 0, 1) := by decide +kernel
theorem dX3_isShut_1 : decode cX3_isShut 1 = .ok (.iload_n 1, 1) := by decide +kernel
theorem dX3_isShut_2 : decode cX3_isShut 2 = .ok (.iload_n 2, 1) := by decide +kernel
theorem dX3_isShut_3 : decode cX3_isShut 3 = .ok (.iload_n 3, 1) := by decide +kernel
theorem dX3_isShut_4 : decode cX3_isShut 4 = .ok (.invokevirtual 25, 3) := by decide +kernel
theorem dX3_isShut_7 : decode cX3_isShut 7 = .ok (.invokestatic 29, 3) := by decide +kernel
theorem dX3_isShut_10 : decode cX3_isShut 10 = .ok (.aload_n 0, 1) := by decide +kernel
theorem dX3_isShut_11 : decode cX3_isShut 11 = .ok (.getfield 16, 3) := by decide +kernel
theorem dX3_isShut_14 : decode cX3_isShut 14 = .ok (.iload_n 1, 1) := by decide +kernel
theorem dX3_isShut_15 : decode cX3_isShut 15 = .ok (.aaload, 1) := by decide +kernel
theorem dX3_isShut_16 : decode cX3_isShut 16 = .ok (.iload_n 2, 1) := by decide +kernel
theorem dX3_isShut_17 : decode cX3_isShut 17 = .ok (.iaload, 1) := by decide +kernel
theorem dX3_isShut_18 : decode cX3_isShut 18 = .ok (.aload_n 0, 1) := by decide +kernel
theorem dX3_isShut_19 : decode cX3_isShut 19 = .ok (.getfield 16, 3) := by decide +kernel
theorem dX3_isShut_22 : decode cX3_isShut 22 = .ok (.iload_n 2, 1) := by decide +kernel
theorem dX3_isShut_23 : decode cX3_isShut 23 = .ok (.aaload, 1) := by decide +kernel
theorem dX3_isShut_24 : decode cX3_isShut 24 = .ok (.iload_n 3, 1) := by decide +kernel
theorem dX3_isShut_25 : decode cX3_isShut 25 = .ok (.iaload, 1) := by decide +kernel
theorem dX3_isShut_26 : decode cX3_isShut 26 = .ok (.iadd, 1) := by decide +kernel
theorem dX3_isShut_27 : decode cX3_isShut 27 = .ok (.aload_n 0, 1) := by decide +kernel
theorem dX3_isShut_28 : decode cX3_isShut 28 = .ok (.getfield 16, 3) := by decide +kernel
theorem dX3_isShut_31 : decode cX3_isShut 31 = .ok (.iload_n 3, 1) := by decide +kernel
theorem dX3_isShut_32 : decode cX3_isShut 32 = .ok (.aaload, 1) := by decide +kernel
theorem dX3_isShut_33 : decode cX3_isShut 33 = .ok (.iload_n 1, 1) := by decide +kernel
theorem dX3_isShut_34 : decode cX3_isShut 34 = .ok (.iaload, 1) := by decide +kernel
theorem dX3_isShut_35 : decode cX3_isShut 35 = .ok (.iadd, 1) := by decide +kernel
theorem dX3_isShut_36 : decode cX3_isShut 36 = .ok (.if_icmp .gt 7, 3) := by decide +kernel
theorem dX3_isShut_39 : decode cX3_isShut 39 = .ok (.iconst 1, 1) := by decide +kernel
theorem dX3_isShut_40 : decode cX3_isShut 40 = .ok (.goto 4, 3) := by decide +kernel
theorem dX3_isShut_43 : decode cX3_isShut 43 = .ok (.iconst 0, 1) := by decide +kernel
theorem dX3_isShut_44 : decode cX3_isShut 44 = .ok (.ireturn, 1) := by decide +kernel
set_option maxRecDepth 20000 in
theorem ggX4_init_J7_fill_53178 : GoodIn wsX4_init wsJ7_fill_53178 := goodIn_r _ [11] (by decide +kernel) (by decide +kernel)
set_option maxRecDepth 20000 in
theorem gX4_init_J7_fill_53178 : GoodIn wsX4_init (va_wsS RX4 20 yJ7_fill_53178 wsJ7_fill_53178) := goodIn_app (goodIn_of _ (by decide +kernel)) ggX4_init_J7_fill_53178
theorem dX4_init_0 : decode cX4_init 0 = .ok (.aload_n 0, 1) := by decide +kernel
theorem dX4_init_1 : decode cX4_init 1 = .ok (.invokespecial 3, 3) := by decide +kernel
theorem dX4_init_4 : decode cX4_init 4 = .ok (.aload_n 0, 1) := by decide +kernel
theorem dX4_init_5 : decode cX4_init 5 = .ok (.bipush 6, 2) := by decide +kernel
theorem dX4_init_7 : decode cX4_init 7 = .ok (.bipush 40, 2) := by decide +kernel
theorem dX4_init_9 : decode cX4_init 9 = .ok (.multianewarray 9 2, 4) := by decide +kernel
theorem dX4_init_13 : decode cX4_init 13 = .ok (.putfield 11, 3) := by decide +kernel
theorem dX4_init_16 : decode cX4_init 16 = .ok (.aload_n 0, 1) := by decide +kernel
theorem dX4_init_17 : decode cX4_init 17 = .ok (.bipush 6, 2) := by decide +kernel
theorem dX4_init_19 : decode cX4_init 19 = .ok (.newarray .int, 2) := by decide +kernel
theorem dX4_init_21 : decode cX4_init 21 = .ok (.putfield 16, 3) := by decide +kernel
theorem dX4_init_24 : decode cX4_init 24 = .ok (.aload_n 0, 1) := by decide +kernel
theorem dX4_init_25 : decode cX4_init 25 = .ok (.getfield 16, 3) := by decide +kernel
theorem dX4_init_28 : decode cX4_init 28 = .ok (.iconst (-1), 1) := by decide +kernel
theorem dX4_init_29 : decode cX4_init 29 = .ok (.invokestatic 20, 3) := by decide +kernel
theorem dX4_init_32 : decode cX4_init 32 = .ok (.return_, 1) := by decide +kernel
theorem dX4_isMissing_0 : decode cX4_isMissing 0 = .ok (.aload_n 0, 1) := by decide +kernel
theorem dX4_isMissing_1 : decode cX4_isMissing 1 = .ok (.getfield 16, 3) := by decide +kernel
theorem dX4_isMissing_4 : decode cX4_isMissing 4 = .ok (.iload_n 1, 1) := by decide +kernel
theorem dX4_isMissing_5 : decode cX4_isMissing 5 = .ok (.iaload, 1) := by decide +kernel
theorem dX4_isMissing_6 : decode cX4_isMissing 6 = .ok (.iconst (-1), 1) := by decide +kernel
theorem dX4_isMissing_7 : decode cX4_isMissing 7 = .ok (.if_icmp .ne 7, 3) := by decide +kernel
theorem dX4_isMissing_10 : decode cX4_isMissing 10 = .ok (.iconst 1, 1) := by decide +kernel
theorem dX4_isMissing_11 : decode cX4_isMissing 11 = .ok (.goto 4, 3) := by decide +kernel
theorem dX4_isMissing_14 : decode cX4_isMissing 14 = .ok (.iconst 0, 1) := by decide +kernel
theorem dX4_isMissing_15 : decode cX4_isMissing 15 = .ok (.ireturn, 1) := by decide +kernel
theorem dX4_sizeOf_0 : decode cX4_sizeOf 0 = .ok (.aload_n 0, 1) := by decide +kernel
theorem dX4_sizeOf_1 : decode cX4_sizeOf 1 = .ok (.getfield 16, 3) := by decide +kernel
theorem dX4_sizeOf_4 : decode cX4_sizeOf 4 = .ok (.iload_n 1, 1) := by decide +kernel
theorem dX4_sizeOf_5 : decode cX4_sizeOf 5 = .ok (.iaload, 1) := by decide +kernel
theorem dX4_sizeOf_6 : decode cX4_sizeOf 6 = .ok (.ireturn, 1) := by decide +kernel
set_option maxRecDepth 20000 in
theorem ggX4_make_J7_fill_53178 : GoodIn wsX4_make wsJ7_fill_53178 := goodIn_r _ [6] (by decide +kernel) (by decide +kernel)
set_option maxRecDepth 20000 in
theorem gX4_make_J7_fill_53178 : GoodIn wsX4_make (va_wsS RX4 20 yJ7_fill_53178 wsJ7_fill_53178) := goodIn_app (goodIn_of _ (by decide +kernel)) ggX4_make_J7_fill_53178
theorem dX4_make_0 : decode cX4_make 0 = .ok (.aload_n 0, 1) := by decide +kernel
theorem dX4_make_1 : decode cX4_make 1 = .ok (.getfield 11, 3) := by decide +kernel
theorem dX4_make_4 : decode cX4_make 4 = .ok (.iload_n 1, 1) := by decide +kernel
theorem dX4_make_5 : decode cX4_make 5 = .ok (.aaload, 1) := by decide +kernel
theorem dX4_make_6 : decode cX4_make 6 = .ok (.iconst 0, 1) := by decide +kernel
theorem dX4_make_7 : decode cX4_make 7 = .ok (.invokestatic 20, 3) := by decide +kernel
theorem dX4_make_10 : decode cX4_make 10 = .ok (.aload_n 0, 1) := by decide +kernel
theorem dX4_make_11 : decode cX4_make 11 = .ok (.getfield 16, 3) := by decide +kernel
theorem dX4_make_14 : decode cX4_make 14 = .ok (.iload_n 1, 1) := by decide +kernel
theorem dX4_make_15 : decode cX4_make 15 = .ok (.iload_n 2, 1) := by decide +kernel
theorem dX4_make_16 : decode cX4_make 16 = .ok (.iastore, 1) := by decide +kernel
theorem dX4_make_17 : decode cX4_make 17 = .ok (.return_, 1) := by decide +kernel
theorem dX4_drop_0 : decode cX4_drop 0 = .ok (.aload_n 0, 1) := by decide +kernel
theorem dX4_drop_1 : decode cX4_drop 1 = .ok (.getfield 16, 3) := by decide +kernel
theorem dX4_drop_4 : decode cX4_drop 4 = .ok (.iload_n 1, 1) := by decide +kernel
theorem dX4_drop_5 : decode cX4_drop 5 = .ok (.iconst (-1), 1) := by decide +kernel
theorem dX4_drop_6 : decode cX4_drop 6 = .ok (.iastore, 1) := by decide +kernel
theorem dX4_drop_7 : decode cX4_drop 7 = .ok (.return_, 1) := by decide +kernel
set_option maxRecDepth 20000 in
theorem ggX4_hasPlaces_X6_isBetween : GoodIn wsX4_hasPlaces wsX6_isBetween := goodIn_r _ [4] (by decide +kernel) (by decide +kernel)
set_option maxRecDepth 20000 in
theorem gX4_hasPlaces_X6_isBetween_n26 : GoodIn wsX4_hasPlaces (wsX6_isBetween) := ggX4_hasPlaces_X6_isBetween
theorem dX4_hasPlaces_0 : decode cX4_hasPlaces 0 = .ok (.iload_n 2, 1) := by decide +kernel
theorem dX4_hasPlaces_1 : decode cX4_hasPlaces 1 = .ok (.iconst 0, 1) := by decide +kernel
theorem dX4_hasPlaces_2 : decode cX4_hasPlaces 2 = .ok (.aload_n 0, 1) := by decide +kernel
theorem dX4_hasPlaces_3 : decode cX4_hasPlaces 3 = .ok (.getfield 16, 3) := by decide +kernel
theorem dX4_hasPlaces_6 : decode cX4_hasPlaces 6 = .ok (.iload_n 1, 1) := by decide +kernel
theorem dX4_hasPlaces_7 : decode cX4_hasPlaces 7 = .ok (.iaload, 1) := by decide +kernel
theorem dX4_hasPlaces_8 : decode cX4_hasPlaces 8 = .ok (.invokestatic 26, 3) := by decide +kernel
theorem dX4_hasPlaces_11 : decode cX4_hasPlaces 11 = .ok (.ifCond .eq 23, 3) := by decide +kernel
theorem dX4_hasPlaces_14 : decode cX4_hasPlaces 14 = .ok (.iload_n 3, 1) := by decide +kernel
theorem dX4_hasPlaces_15 : decode cX4_hasPlaces 15 = .ok (.iconst 0, 1) := by decide +kernel
theorem dX4_hasPlaces_16 : decode cX4_hasPlaces 16 = .ok (.aload_n 0, 1) := by decide +kernel
theorem dX4_hasPlaces_17 : decode cX4_hasPlaces 17 = .ok (.getfield 16, 3) := by decide +kernel
theorem dX4_hasPlaces_20 : decode cX4_hasPlaces 20 = .ok (.iload_n 1, 1) := by decide +kernel
theorem dX4_hasPlaces_21 : decode cX4_hasPlaces 21 = .ok (.iaload, 1) := by decide +kernel
theorem dX4_hasPlaces_22 : decode cX4_hasPlaces 22 = .ok (.iload_n 2, 1) := by decide +kernel
theorem dX4_hasPlaces_23 : decode cX4_hasPlaces 23 = .ok (.isub, 1) := by decide +kernel
theorem dX4_hasPlaces_24 : decode cX4_hasPlaces 24 = .ok (.invokestatic 26, 3) := by decide +kernel
theorem dX4_hasPlaces_27 : decode cX4_hasPlaces 27 = .ok (.ifCond .eq 7, 3) := by decide +kernel
theorem dX4_hasPlaces_30 : decode cX4_hasPlaces 30 = .ok (.iconst 1, 1) := by decide +kernel
theorem dX4_hasPlaces_31 : decode cX4_hasPlaces 31 = .ok (.goto 4, 3) := by decide +kernel
theorem dX4_hasPlaces_34 : decode cX4_hasPlaces 34 = .ok (.iconst 0, 1) := by decide +kernel
theorem dX4_hasPlaces_35 : decode cX4_hasPlaces 35 = .ok (.ireturn, 1) := by decide +kernel
theorem dX4_readingAt_0 : decode cX4_readingAt 0 = .ok (.aload_n 0, 1) := by decide +kernel
theorem dX4_readingAt_1 : decode cX4_readingAt 1 = .ok (.getfield 11, 3) := by decide +kernel
theorem dX4_readingAt_4 : decode cX4_readingAt 4 = .ok (.iload_n 1, 1) := by decide +kernel
theorem dX4_readingAt_5 : decode cX4_readingAt 5 = .ok (.aaload, 1) := by decide +kernel
theorem dX4_readingAt_6 : decode cX4_readingAt 6 = .ok (.iload_n 2, 1) := by decide +kernel
theorem dX4_readingAt_7 : decode cX4_readingAt 7 = .ok (.iaload, 1) := by decide +kernel
theorem dX4_readingAt_8 : decode cX4_readingAt 8 = .ok (.ireturn, 1) := by decide +kernel
theorem dX4_put_0 : decode cX4_put 0 = .ok (.aload_n 0, 1) := by decide +kernel
theorem dX4_put_1 : decode cX4_put 1 = .ok (.getfield 11, 3) := by decide +kernel
theorem dX4_put_4 : decode cX4_put 4 = .ok (.iload_n 1, 1) := by decide +kernel
theorem dX4_put_5 : decode cX4_put 5 = .ok (.aaload, 1) := by decide +kernel
theorem dX4_put_6 : decode cX4_put 6 = .ok (.iload_n 2, 1) := by decide +kernel
theorem dX4_put_7 : decode cX4_put 7 = .ok (.iload_n 3, 1) := by decide +kernel
theorem dX4_put_8 : decode cX4_put 8 = .ok (.iastore, 1) := by decide +kernel
theorem dX4_put_9 : decode cX4_put 9 = .ok (.return_, 1) := by decide +kernel
theorem dX4_carry_0 : decode cX4_carry 0 = .ok (.aload_n 0, 1) := by decide +kernel
theorem dX4_carry_1 : decode cX4_carry 1 = .ok (.getfield 11, 3) := by decide +kernel
theorem dX4_carry_4 : decode cX4_carry 4 = .ok (.iload_n 1, 1) := by decide +kernel
theorem dX4_carry_5 : decode cX4_carry 5 = .ok (.aaload, 1) := by decide +kernel
theorem dX4_carry_6 : decode cX4_carry 6 = .ok (.iload_n 2, 1) := by decide +kernel
theorem dX4_carry_7 : decode cX4_carry 7 = .ok (.aload_n 0, 1) := by decide +kernel
theorem dX4_carry_8 : decode cX4_carry 8 = .ok (.getfield 11, 3) := by decide +kernel
theorem dX4_carry_11 : decode cX4_carry 11 = .ok (.iload_n 3, 1) := by decide +kernel
theorem dX4_carry_12 : decode cX4_carry 12 = .ok (.aaload, 1) := by decide +kernel
theorem dX4_carry_13 : decode cX4_carry 13 = .ok (.iload 4, 2) := by decide +kernel
theorem dX4_carry_15 : decode cX4_carry 15 = .ok (.iload 5, 2) := by decide +kernel
theorem dX4_carry_17 : decode cX4_carry 17 = .ok (.invokestatic 30, 3) := by decide +kernel
theorem dX4_carry_20 : decode cX4_carry 20 = .ok (.return_, 1) := by decide +kernel
theorem dX4_heldCount_0 : decode cX4_heldCount 0 = .ok (.iconst 0, 1) := by decide +kernel
theorem dX4_heldCount_1 : decode cX4_heldCount 1 = .ok (.istore_n 2, 1) := by decide +kernel
theorem dX4_heldCount_2 : decode cX4_heldCount 2 = .ok (.iconst 0, 1) := by decide +kernel
theorem dX4_heldCount_3 : decode cX4_heldCount 3 = .ok (.istore_n 3, 1) := by decide +kernel
theorem dX4_heldCount_4 : decode cX4_heldCount 4 = .ok (.iload_n 3, 1) := by decide +kernel
theorem dX4_heldCount_5 : decode cX4_heldCount 5 = .ok (.aload_n 0, 1) := by decide +kernel
theorem dX4_heldCount_6 : decode cX4_heldCount 6 = .ok (.getfield 16, 3) := by decide +kernel
theorem dX4_heldCount_9 : decode cX4_heldCount 9 = .ok (.iload_n 1, 1) := by decide +kernel
theorem dX4_heldCount_10 : decode cX4_heldCount 10 = .ok (.iaload, 1) := by decide +kernel
theorem dX4_heldCount_11 : decode cX4_heldCount 11 = .ok (.if_icmp .ge 25, 3) := by decide +kernel
theorem dX4_heldCount_14 : decode cX4_heldCount 14 = .ok (.aload_n 0, 1) := by decide +kernel
theorem dX4_heldCount_15 : decode cX4_heldCount 15 = .ok (.getfield 11, 3) := by decide +kernel
theorem dX4_heldCount_18 : decode cX4_heldCount 18 = .ok (.iload_n 1, 1) := by decide +kernel
theorem dX4_heldCount_19 : decode cX4_heldCount 19 = .ok (.aaload, 1) := by decide +kernel
theorem dX4_heldCount_20 : decode cX4_heldCount 20 = .ok (.iload_n 3, 1) := by decide +kernel
theorem dX4_heldCount_21 : decode cX4_heldCount 21 = .ok (.iaload, 1) := by decide +kernel
theorem dX4_heldCount_22 : decode cX4_heldCount 22 = .ok (.bipush (-9), 2) := by decide +kernel
theorem dX4_heldCount_24 : decode cX4_heldCount 24 = .ok (.if_icmp .eq 6, 3) := by decide +kernel
theorem dX4_heldCount_27 : decode cX4_heldCount 27 = .ok (.iinc 2 1, 3) := by decide +kernel
theorem dX4_heldCount_30 : decode cX4_heldCount 30 = .ok (.iinc 3 1, 3) := by decide +kernel
theorem dX4_heldCount_33 : decode cX4_heldCount 33 = .ok (.goto (-29), 3) := by decide +kernel
theorem dX4_heldCount_36 : decode cX4_heldCount 36 = .ok (.iload_n 2, 1) := by decide +kernel
theorem dX4_heldCount_37 : decode cX4_heldCount 37 = .ok (.ireturn, 1) := by decide +kernel
theorem dX4_heldSum_0 : decode cX4_heldSum 0 = .ok (.iconst 0, 1) := by decide +kernel
theorem dX4_heldSum_1 : decode cX4_heldSum 1 = .ok (.istore 4, 2) := by decide +kernel
theorem dX4_heldSum_3 : decode cX4_heldSum 3 = .ok (.iload_n 2, 1) := by decide +kernel
theorem dX4_heldSum_4 : decode cX4_heldSum 4 = .ok (.istore 5, 2) := by decide +kernel
theorem dX4_heldSum_6 : decode cX4_heldSum 6 = .ok (.iload 5, 2) := by decide +kernel
theorem dX4_heldSum_8 : decode cX4_heldSum 8 = .ok (.iload_n 2, 1) := by decide +kernel
theorem dX4_heldSum_9 : decode cX4_heldSum 9 = .ok (.iload_n 3, 1) := by decide +kernel
theorem dX4_heldSum_10 : decode cX4_heldSum 10 = .ok (.iadd, 1) := by decide +kernel
theorem dX4_heldSum_11 : decode cX4_heldSum 11 = .ok (.if_icmp .ge 37, 3) := by decide +kernel
theorem dX4_heldSum_14 : decode cX4_heldSum 14 = .ok (.aload_n 0, 1) := by decide +kernel
theorem dX4_heldSum_15 : decode cX4_heldSum 15 = .ok (.getfield 11, 3) := by decide +kernel
theorem dX4_heldSum_18 : decode cX4_heldSum 18 = .ok (.iload_n 1, 1) := by decide +kernel
theorem dX4_heldSum_19 : decode cX4_heldSum 19 = .ok (.aaload, 1) := by decide +kernel
theorem dX4_heldSum_20 : decode cX4_heldSum 20 = .ok (.iload 5, 2) := by decide +kernel
theorem dX4_heldSum_22 : decode cX4_heldSum 22 = .ok (.iaload, 1) := by decide +kernel
theorem dX4_heldSum_23 : decode cX4_heldSum 23 = .ok (.bipush (-9), 2) := by decide +kernel
theorem dX4_heldSum_25 : decode cX4_heldSum 25 = .ok (.if_icmp .eq 17, 3) := by decide +kernel
theorem dX4_heldSum_28 : decode cX4_heldSum 28 = .ok (.iload 4, 2) := by decide +kernel
theorem dX4_heldSum_30 : decode cX4_heldSum 30 = .ok (.aload_n 0, 1) := by decide +kernel
theorem dX4_heldSum_31 : decode cX4_heldSum 31 = .ok (.getfield 11, 3) := by decide +kernel
theorem dX4_heldSum_34 : decode cX4_heldSum 34 = .ok (.iload_n 1, 1) := by decide +kernel
theorem dX4_heldSum_35 : decode cX4_heldSum 35 = .ok (.aaload, 1) := by decide +kernel
theorem dX4_heldSum_36 : decode cX4_heldSum 36 = .ok (.iload 5, 2) := by decide +kernel
theorem dX4_heldSum_38 : decode cX4_heldSum 38 = .ok (.iaload, 1) := by decide +kernel
theorem dX4_heldSum_39 : decode cX4_heldSum 39 = .ok (.iadd, 1) := by decide +kernel
theorem dX4_heldSum_40 : decode cX4_heldSum 40 = .ok (.istore 4, 2) := by decide +kernel
theorem dX4_heldSum_42 : decode cX4_heldSum 42 = .ok (.iinc 5 1, 3) := by decide +kernel
theorem dX4_heldSum_45 : decode cX4_heldSum 45 = .ok (.goto (-39), 3) := by decide +kernel
theorem dX4_heldSum_48 : decode cX4_heldSum 48 = .ok (.iload 4, 2) := by decide +kernel
theorem dX4_heldSum_50 : decode cX4_heldSum 50 = .ok (.ireturn, 1) := by decide +kernel
theorem dX4_mirrorSum_0 : decode cX4_mirrorSum 0 = .ok (.aload_n 0, 1) := by decide +kernel
theorem dX4_mirrorSum_1 : decode cX4_mirrorSum 1 = .ok (.getfield 11, 3) := by decide +kernel
theorem dX4_mirrorSum_4 : decode cX4_mirrorSum 4 = .ok (.iload_n 1, 1) := by decide +kernel
theorem dX4_mirrorSum_5 : decode cX4_mirrorSum 5 = .ok (.aaload, 1) := by decide +kernel
theorem dX4_mirrorSum_6 : decode cX4_mirrorSum 6 = .ok (.iload_n 2, 1) := by decide +kernel
theorem dX4_mirrorSum_7 : decode cX4_mirrorSum 7 = .ok (.iaload, 1) := by decide +kernel
theorem dX4_mirrorSum_8 : decode cX4_mirrorSum 8 = .ok (.aload_n 0, 1) := by decide +kernel
theorem dX4_mirrorSum_9 : decode cX4_mirrorSum 9 = .ok (.getfield 11, 3) := by decide +kernel
theorem dX4_mirrorSum_12 : decode cX4_mirrorSum 12 = .ok (.iload_n 1, 1) := by decide +kernel
theorem dX4_mirrorSum_13 : decode cX4_mirrorSum 13 = .ok (.aaload, 1) := by decide +kernel
theorem dX4_mirrorSum_14 : decode cX4_mirrorSum 14 = .ok (.aload_n 0, 1) := by decide +kernel
theorem dX4_mirrorSum_15 : decode cX4_mirrorSum 15 = .ok (.getfield 16, 3) := by decide +kernel
theorem dX4_mirrorSum_18 : decode cX4_mirrorSum 18 = .ok (.iload_n 1, 1) := by decide +kernel
theorem dX4_mirrorSum_19 : decode cX4_mirrorSum 19 = .ok (.iaload, 1) := by decide +kernel
theorem dX4_mirrorSum_20 : decode cX4_mirrorSum 20 = .ok (.iconst 1, 1) := by decide +kernel
theorem dX4_mirrorSum_21 : decode cX4_mirrorSum 21 = .ok (.isub, 1) := by decide +kernel
theorem dX4_mirrorSum_22 : decode cX4_mirrorSum 22 = .ok (.iload_n 2, 1) := by decide +kernel
theorem dX4_mirrorSum_23 : decode cX4_mirrorSum 23 = .ok (.isub, 1) := by decide +kernel
theorem dX4_mirrorSum_24 : decode cX4_mirrorSum 24 = .ok (.iaload, 1) := by decide +kernel
theorem dX4_mirrorSum_25 : decode cX4_mirrorSum 25 = .ok (.iadd, 1) := by decide +kernel
theorem dX4_mirrorSum_26 : decode cX4_mirrorSum 26 = .ok (.ireturn, 1) := by decide +kernel
set_option maxRecDepth 20000 in
theorem ggX4_longestLevelStart_X4_levelLength : GoodIn wsX4_longestLevelStart wsX4_levelLength := goodIn_r _ [6, 7, 8, 1, 9, 10, 11, 12, 13, 14, 15, 16, 17, 18] (by decide +kernel) (by decide +kernel)
set_option maxRecDepth 20000 in
theorem gX4_longestLevelStart_X4_levelLength : GoodIn wsX4_longestLevelStart (wsV RX4 36 RX4 yX4_levelLength wsX4_levelLength) := goodIn_app (goodIn_of _ (by decide +kernel)) ggX4_longestLevelStart_X4_levelLength
theorem dX4_longestLevelStart_0 : decode cX4_longestLevelStart 0 = .ok (.iconst 0, 1) := by decide +kernel
theorem dX4_longestLevelStart_1 : decode cX4_longestLevelStart 1 = .ok (.istore_n 3, 1) := by decide +kernel
theorem dX4_longestLevelStart_2 : decode cX4_longestLevelStart 2 = .ok (.iconst 0, 1) := by decide +kernel
theorem dX4_longestLevelStart_3 : decode cX4_longestLevelStart 3 = .ok (.istore 4, 2) := by decide +kernel
theorem dX4_longestLevelStart_5 : decode cX4_longestLevelStart 5 = .ok (.iconst 0, 1) := by decide +kernel
theorem dX4_longestLevelStart_6 : decode cX4_longestLevelStart 6 = .ok (.istore 5, 2) := by decide +kernel
theorem dX4_longestLevelStart_8 : decode cX4_longestLevelStart 8 = .ok (.iload 5, 2) := by decide +kernel
theorem dX4_longestLevelStart_10 : decode cX4_longestLevelStart 10 = .ok (.aload_n 0, 1) := by decide +kernel
theorem dX4_longestLevelStart_11 : decode cX4_longestLevelStart 11 = .ok (.getfield 16, 3) := by decide +kernel
theorem dX4_longestLevelStart_14 : decode cX4_longestLevelStart 14 = .ok (.iload_n 1, 1) := by decide +kernel
theorem dX4_longestLevelStart_15 : decode cX4_longestLevelStart 15 = .ok (.iaload, 1) := by decide +kernel
theorem dX4_longestLevelStart_16 : decode cX4_longestLevelStart 16 = .ok (.if_icmp .ge 33, 3) := by decide +kernel
theorem dX4_longestLevelStart_19 : decode cX4_longestLevelStart 19 = .ok (.aload_n 0, 1) := by decide +kernel
theorem dX4_longestLevelStart_20 : decode cX4_longestLevelStart 20 = .ok (.iload_n 1, 1) := by decide +kernel
theorem dX4_longestLevelStart_21 : decode cX4_longestLevelStart 21 = .ok (.iload 5, 2) := by decide +kernel
theorem dX4_longestLevelStart_23 : decode cX4_longestLevelStart 23 = .ok (.iload_n 2, 1) := by decide +kernel
theorem dX4_longestLevelStart_24 : decode cX4_longestLevelStart 24 = .ok (.invokevirtual 36, 3) := by decide +kernel
theorem dX4_longestLevelStart_27 : decode cX4_longestLevelStart 27 = .ok (.istore 6, 2) := by decide +kernel
theorem dX4_longestLevelStart_29 : decode cX4_longestLevelStart 29 = .ok (.iload 6, 2) := by decide +kernel
theorem dX4_longestLevelStart_31 : decode cX4_longestLevelStart 31 = .ok (.iload 4, 2) := by decide +kernel
theorem dX4_longestLevelStart_33 : decode cX4_longestLevelStart 33 = .ok (.if_icmp .le 10, 3) := by decide +kernel
theorem dX4_longestLevelStart_36 : decode cX4_longestLevelStart 36 = .ok (.iload 6, 2) := by decide +kernel
theorem dX4_longestLevelStart_38 : decode cX4_longestLevelStart 38 = .ok (.istore 4, 2) := by decide +kernel
theorem dX4_longestLevelStart_40 : decode cX4_longestLevelStart 40 = .ok (.iload 5, 2) := by decide +kernel
theorem dX4_longestLevelStart_42 : decode cX4_longestLevelStart 42 = .ok (.istore_n 3, 1) := by decide +kernel
theorem dX4_longestLevelStart_43 : decode cX4_longestLevelStart 43 = .ok (.iinc 5 1, 3) := by decide +kernel
theorem dX4_longestLevelStart_46 : decode cX4_longestLevelStart 46 = .ok (.goto (-38), 3) := by decide +kernel
theorem dX4_longestLevelStart_49 : decode cX4_longestLevelStart 49 = .ok (.iload_n 3, 1) := by decide +kernel
theorem dX4_longestLevelStart_50 : decode cX4_longestLevelStart 50 = .ok (.ireturn, 1) := by decide +kernel
theorem dX4_levelLength_0 : decode cX4_levelLength 0 = .ok (.ldc 40, 2) := by decide +kernel
theorem dX4_levelLength_2 : decode cX4_levelLength 2 = .ok (.istore 4, 2) := by decide +kernel
theorem dX4_levelLength_4 : decode cX4_levelLength 4 = .ok (.ldc 41, 2) := by decide +kernel
theorem dX4_levelLength_6 : decode cX4_levelLength 6 = .ok (.istore 5, 2) := by decide +kernel
theorem dX4_levelLength_8 : decode cX4_levelLength 8 = .ok (.iconst 0, 1) := by decide +kernel
theorem dX4_levelLength_9 : decode cX4_levelLength 9 = .ok (.istore 6, 2) := by decide +kernel
theorem dX4_levelLength_11 : decode cX4_levelLength 11 = .ok (.iload_n 2, 1) := by decide +kernel
theorem dX4_levelLength_12 : decode cX4_levelLength 12 = .ok (.istore 7, 2) := by decide +kernel
theorem dX4_levelLength_14 : decode cX4_levelLength 14 = .ok (.iload 7, 2) := by decide +kernel
theorem dX4_levelLength_16 : decode cX4_levelLength 16 = .ok (.aload_n 0, 1) := by decide +kernel
theorem dX4_levelLength_17 : decode cX4_levelLength 17 = .ok (.getfield 16, 3) := by decide +kernel
theorem dX4_levelLength_20 : decode cX4_levelLength 20 = .ok (.iload_n 1, 1) := by decide +kernel
theorem dX4_levelLength_21 : decode cX4_levelLength 21 = .ok (.iaload, 1) := by decide +kernel
theorem dX4_levelLength_22 : decode cX4_levelLength 22 = .ok (.if_icmp .ge 60, 3) := by decide +kernel
theorem dX4_levelLength_25 : decode cX4_levelLength 25 = .ok (.aload_n 0, 1) := by decide +kernel
theorem dX4_levelLength_26 : decode cX4_levelLength 26 = .ok (.getfield 11, 3) := by decide +kernel
theorem dX4_levelLength_29 : decode cX4_levelLength 29 = .ok (.iload_n 1, 1) := by decide +kernel
theorem dX4_levelLength_30 : decode cX4_levelLength 30 = .ok (.aaload, 1) := by decide +kernel
theorem dX4_levelLength_31 : decode cX4_levelLength 31 = .ok (.iload 7, 2) := by decide +kernel
theorem dX4_levelLength_33 : decode cX4_levelLength 33 = .ok (.iaload, 1) := by decide +kernel
theorem dX4_levelLength_34 : decode cX4_levelLength 34 = .ok (.istore 8, 2) := by decide +kernel
theorem dX4_levelLength_36 : decode cX4_levelLength 36 = .ok (.iload 4, 2) := by decide +kernel
theorem dX4_levelLength_38 : decode cX4_levelLength 38 = .ok (.iload 8, 2) := by decide +kernel
theorem dX4_levelLength_40 : decode cX4_levelLength 40 = .ok (.invokestatic 42, 3) := by decide +kernel
theorem dX4_levelLength_43 : decode cX4_levelLength 43 = .ok (.istore 4, 2) := by decide +kernel
theorem dX4_levelLength_45 : decode cX4_levelLength 45 = .ok (.iload 5, 2) := by decide +kernel
theorem dX4_levelLength_47 : decode cX4_levelLength 47 = .ok (.iload 8, 2) := by decide +kernel
theorem dX4_levelLength_49 : decode cX4_levelLength 49 = .ok (.invokestatic 48, 3) := by decide +kernel
theorem dX4_levelLength_52 : decode cX4_levelLength 52 = .ok (.istore 5, 2) := by decide +kernel
theorem dX4_levelLength_54 : decode cX4_levelLength 54 = .ok (.iload 8, 2) := by decide +kernel
theorem dX4_levelLength_56 : decode cX4_levelLength 56 = .ok (.bipush (-9), 2) := by decide +kernel
theorem dX4_levelLength_58 : decode cX4_levelLength 58 = .ok (.if_icmp .eq 24, 3) := by decide +kernel
theorem dX4_levelLength_61 : decode cX4_levelLength 61 = .ok (.iload 5, 2) := by decide +kernel
theorem dX4_levelLength_63 : decode cX4_levelLength 63 = .ok (.iload 4, 2) := by decide +kernel
theorem dX4_levelLength_65 : decode cX4_levelLength 65 = .ok (.isub, 1) := by decide +kernel
theorem dX4_levelLength_66 : decode cX4_levelLength 66 = .ok (.iload_n 3, 1) := by decide +kernel
theorem dX4_levelLength_67 : decode cX4_levelLength 67 = .ok (.if_icmp .le 6, 3) := by decide +kernel
theorem dX4_levelLength_70 : decode cX4_levelLength 70 = .ok (.goto 12, 3) := by decide +kernel
theorem dX4_levelLength_73 : decode cX4_levelLength 73 = .ok (.iinc 6 1, 3) := by decide +kernel
theorem dX4_levelLength_76 : decode cX4_levelLength 76 = .ok (.iinc 7 1, 3) := by decide +kernel
theorem dX4_levelLength_79 : decode cX4_levelLength 79 = .ok (.goto (-65), 3) := by decide +kernel
theorem dX4_levelLength_82 : decode cX4_levelLength 82 = .ok (.iload 6, 2) := by decide +kernel
theorem dX4_levelLength_84 : decode cX4_levelLength 84 = .ok (.ireturn, 1) := by decide +kernel
theorem dX4_presentCount_0 : decode cX4_presentCount 0 = .ok (.iconst 0, 1) := by decide +kernel
theorem dX4_presentCount_1 : decode cX4_presentCount 1 = .ok (.istore_n 1, 1) := by decide +kernel
theorem dX4_presentCount_2 : decode cX4_presentCount 2 = .ok (.iconst 0, 1) := by decide +kernel
theorem dX4_presentCount_3 : decode cX4_presentCount 3 = .ok (.istore_n 2, 1) := by decide +kernel
theorem dX4_presentCount_4 : decode cX4_presentCount 4 = .ok (.iload_n 2, 1) := by decide +kernel
theorem dX4_presentCount_5 : decode cX4_presentCount 5 = .ok (.bipush 6, 2) := by decide +kernel
theorem dX4_presentCount_7 : decode cX4_presentCount 7 = .ok (.if_icmp .ge 22, 3) := by decide +kernel
theorem dX4_presentCount_10 : decode cX4_presentCount 10 = .ok (.aload_n 0, 1) := by decide +kernel
theorem dX4_presentCount_11 : decode cX4_presentCount 11 = .ok (.getfield 16, 3) := by decide +kernel
theorem dX4_presentCount_14 : decode cX4_presentCount 14 = .ok (.iload_n 2, 1) := by decide +kernel
theorem dX4_presentCount_15 : decode cX4_presentCount 15 = .ok (.iaload, 1) := by decide +kernel
theorem dX4_presentCount_16 : decode cX4_presentCount 16 = .ok (.iconst (-1), 1) := by decide +kernel
theorem dX4_presentCount_17 : decode cX4_presentCount 17 = .ok (.if_icmp .eq 6, 3) := by decide +kernel
theorem dX4_presentCount_20 : decode cX4_presentCount 20 = .ok (.iinc 1 1, 3) := by decide +kernel
theorem dX4_presentCount_23 : decode cX4_presentCount 23 = .ok (.iinc 2 1, 3) := by decide +kernel
theorem dX4_presentCount_26 : decode cX4_presentCount 26 = .ok (.goto (-22), 3) := by decide +kernel
theorem dX4_presentCount_29 : decode cX4_presentCount 29 = .ok (.iload_n 1, 1) := by decide +kernel
theorem dX4_presentCount_30 : decode cX4_presentCount 30 = .ok (.ireturn, 1) := by decide +kernel
theorem dX4_digestOn_0 : decode cX4_digestOn 0 = .ok (.ldc2_w 51, 3) := by decide +kernel
theorem dX4_digestOn_3 : decode cX4_digestOn 3 = .ok (.lload_n 1, 1) := by decide +kernel
theorem dX4_digestOn_4 : decode cX4_digestOn 4 = .ok (.lmul, 1) := by decide +kernel
theorem dX4_digestOn_5 : decode cX4_digestOn 5 = .ok (.aload_n 0, 1) := by decide +kernel
theorem dX4_digestOn_6 : decode cX4_digestOn 6 = .ok (.getfield 16, 3) := by decide +kernel
theorem dX4_digestOn_9 : decode cX4_digestOn 9 = .ok (.iload_n 3, 1) := by decide +kernel
theorem dX4_digestOn_10 : decode cX4_digestOn 10 = .ok (.iaload, 1) := by decide +kernel
theorem dX4_digestOn_11 : decode cX4_digestOn 11 = .ok (.i2l, 1) := by decide +kernel
theorem dX4_digestOn_12 : decode cX4_digestOn 12 = .ok (.ladd, 1) := by decide +kernel
theorem dX4_digestOn_13 : decode cX4_digestOn 13 = .ok (.lstore 4, 2) := by decide +kernel
theorem dX4_digestOn_15 : decode cX4_digestOn 15 = .ok (.iconst 0, 1) := by decide +kernel
theorem dX4_digestOn_16 : decode cX4_digestOn 16 = .ok (.istore 6, 2) := by decide +kernel
theorem dX4_digestOn_18 : decode cX4_digestOn 18 = .ok (.iload 6, 2) := by decide +kernel
theorem dX4_digestOn_20 : decode cX4_digestOn 20 = .ok (.aload_n 0, 1) := by decide +kernel
theorem dX4_digestOn_21 : decode cX4_digestOn 21 = .ok (.getfield 16, 3) := by decide +kernel
theorem dX4_digestOn_24 : decode cX4_digestOn 24 = .ok (.iload_n 3, 1) := by decide +kernel
theorem dX4_digestOn_25 : decode cX4_digestOn 25 = .ok (.iaload, 1) := by decide +kernel
theorem dX4_digestOn_26 : decode cX4_digestOn 26 = .ok (.if_icmp .ge 28, 3) := by decide +kernel
theorem dX4_digestOn_29 : decode cX4_digestOn 29 = .ok (.ldc2_w 51, 3) := by decide +kernel
theorem dX4_digestOn_32 : decode cX4_digestOn 32 = .ok (.lload 4, 2) := by decide +kernel
theorem dX4_digestOn_34 : decode cX4_digestOn 34 = .ok (.lmul, 1) := by decide +kernel
theorem dX4_digestOn_35 : decode cX4_digestOn 35 = .ok (.aload_n 0, 1) := by decide +kernel
theorem dX4_digestOn_36 : decode cX4_digestOn 36 = .ok (.getfield 11, 3) := by decide +kernel
theorem dX4_digestOn_39 : decode cX4_digestOn 39 = .ok (.iload_n 3, 1) := by decide +kernel
theorem dX4_digestOn_40 : decode cX4_digestOn 40 = .ok (.aaload, 1) := by decide +kernel
theorem dX4_digestOn_41 : decode cX4_digestOn 41 = .ok (.iload 6, 2) := by decide +kernel
theorem dX4_digestOn_43 : decode cX4_digestOn 43 = .ok (.iaload, 1) := by decide +kernel
theorem dX4_digestOn_44 : decode cX4_digestOn 44 = .ok (.i2l, 1) := by decide +kernel
theorem dX4_digestOn_45 : decode cX4_digestOn 45 = .ok (.ladd, 1) := by decide +kernel
theorem dX4_digestOn_46 : decode cX4_digestOn 46 = .ok (.lstore 4, 2) := by decide +kernel
theorem dX4_digestOn_48 : decode cX4_digestOn 48 = .ok (.iinc 6 1, 3) := by decide +kernel
theorem dX4_digestOn_51 : decode cX4_digestOn 51 = .ok (.goto (-33), 3) := by decide +kernel
theorem dX4_digestOn_54 : decode cX4_digestOn 54 = .ok (.lload 4, 2) := by decide +kernel
theorem dX4_digestOn_56 : decode cX4_digestOn 56 = .ok (.lreturn, 1) := by decide +kernel
theorem dX5_init_0 : decode cX5_init 0 = .ok (.aload_n 0, 1) := by decide +kernel
theorem dX5_init_1 : decode cX5_init 1 = .ok (.invokespecial 3, 3) := by decide +kernel
theorem dX5_init_4 : decode cX5_init 4 = .ok (.aload_n 0, 1) := by decide +kernel
theorem dX5_init_5 : decode cX5_init 5 = .ok (.iconst 4, 1) := by decide +kernel
theorem dX5_init_6 : decode cX5_init 6 = .ok (.iconst 4, 1) := by decide +kernel
theorem dX5_init_7 : decode cX5_init 7 = .ok (.multianewarray 9 2, 4) := by decide +kernel
theorem dX5_init_11 : decode cX5_init 11 = .ok (.putfield 11, 3) := by decide +kernel
theorem dX5_init_14 : decode cX5_init 14 = .ok (.aload_n 0, 1) := by decide +kernel
theorem dX5_init_15 : decode cX5_init 15 = .ok (.iconst 4, 1) := by decide +kernel
theorem dX5_init_16 : decode cX5_init 16 = .ok (.iconst 4, 1) := by decide +kernel
theorem dX5_init_17 : decode cX5_init 17 = .ok (.multianewarray 9 2, 4) := by decide +kernel
theorem dX5_init_21 : decode cX5_init 21 = .ok (.putfield 16, 3) := by decide +kernel
theorem dX5_init_24 : decode cX5_init 24 = .ok (.aload_n 0, 1) := by decide +kernel
theorem dX5_init_25 : decode cX5_init 25 = .ok (.iconst 4, 1) := by decide +kernel
theorem dX5_init_26 : decode cX5_init 26 = .ok (.newarray .int, 2) := by decide +kernel
theorem dX5_init_28 : decode cX5_init 28 = .ok (.putfield 19, 3) := by decide +kernel
theorem dX5_init_31 : decode cX5_init 31 = .ok (.return_, 1) := by decide +kernel
theorem dX5_sizeOf_0 : decode cX5_sizeOf 0 = .ok (.aload_n 0, 1) := by decide +kernel
theorem dX5_sizeOf_1 : decode cX5_sizeOf 1 = .ok (.getfield 19, 3) := by decide +kernel
theorem dX5_sizeOf_4 : decode cX5_sizeOf 4 = .ok (.iload_n 1, 1) := by decide +kernel
theorem dX5_sizeOf_5 : decode cX5_sizeOf 5 = .ok (.iaload, 1) := by decide +kernel
theorem dX5_sizeOf_6 : decode cX5_sizeOf 6 = .ok (.ireturn, 1) := by decide +kernel
theorem dX5_hasX_0 : decode cX5_hasX 0 = .ok (.iconst 0, 1) := by decide +kernel
theorem dX5_hasX_1 : decode cX5_hasX 1 = .ok (.istore_n 3, 1) := by decide +kernel
theorem dX5_hasX_2 : decode cX5_hasX 2 = .ok (.iload_n 3, 1) := by decide +kernel
theorem dX5_hasX_3 : decode cX5_hasX 3 = .ok (.aload_n 0, 1) := by decide +kernel
theorem dX5_hasX_4 : decode cX5_hasX 4 = .ok (.getfield 19, 3) := by decide +kernel
theorem dX5_hasX_7 : decode cX5_hasX 7 = .ok (.iload_n 1, 1) := by decide +kernel
theorem dX5_hasX_8 : decode cX5_hasX 8 = .ok (.iaload, 1) := by decide +kernel
theorem dX5_hasX_9 : decode cX5_hasX 9 = .ok (.if_icmp .ge 23, 3) := by decide +kernel
theorem dX5_hasX_12 : decode cX5_hasX 12 = .ok (.aload_n 0, 1) := by decide +kernel
theorem dX5_hasX_13 : decode cX5_hasX 13 = .ok (.getfield 11, 3) := by decide +kernel
theorem dX5_hasX_16 : decode cX5_hasX 16 = .ok (.iload_n 1, 1) := by decide +kernel
theorem dX5_hasX_17 : decode cX5_hasX 17 = .ok (.aaload, 1) := by decide +kernel
theorem dX5_hasX_18 : decode cX5_hasX 18 = .ok (.iload_n 3, 1) := by decide +kernel
theorem dX5_hasX_19 : decode cX5_hasX 19 = .ok (.iaload, 1) := by decide +kernel
theorem dX5_hasX_20 : decode cX5_hasX 20 = .ok (.iload_n 2, 1) := by decide +kernel
theorem dX5_hasX_21 : decode cX5_hasX 21 = .ok (.if_icmp .ne 5, 3) := by decide +kernel
theorem dX5_hasX_24 : decode cX5_hasX 24 = .ok (.iconst 1, 1) := by decide +kernel
theorem dX5_hasX_25 : decode cX5_hasX 25 = .ok (.ireturn, 1) := by decide +kernel
theorem dX5_hasX_26 : decode cX5_hasX 26 = .ok (.iinc 3 1, 3) := by decide +kernel
theorem dX5_hasX_29 : decode cX5_hasX 29 = .ok (.goto (-27), 3) := by decide +kernel
theorem dX5_hasX_32 : decode cX5_hasX 32 = .ok (.iconst 0, 1) := by decide +kernel
theorem dX5_hasX_33 : decode cX5_hasX 33 = .ok (.ireturn, 1) := by decide +kernel
theorem dX5_add_0 : decode cX5_add 0 = .ok (.aload_n 0, 1) := by decide +kernel
theorem dX5_add_1 : decode cX5_add 1 = .ok (.getfield 19, 3) := by decide +kernel
theorem dX5_add_4 : decode cX5_add 4 = .ok (.iload_n 1, 1) := by decide +kernel
theorem dX5_add_5 : decode cX5_add 5 = .ok (.iaload, 1) := by decide +kernel
theorem dX5_add_6 : decode cX5_add 6 = .ok (.istore 4, 2) := by decide +kernel
theorem dX5_add_8 : decode cX5_add 8 = .ok (.aload_n 0, 1) := by decide +kernel
theorem dX5_add_9 : decode cX5_add 9 = .ok (.getfield 11, 3) := by decide +kernel
theorem dX5_add_12 : decode cX5_add 12 = .ok (.iload_n 1, 1) := by decide +kernel
theorem dX5_add_13 : decode cX5_add 13 = .ok (.aaload, 1) := by decide +kernel
theorem dX5_add_14 : decode cX5_add 14 = .ok (.iload 4, 2) := by decide +kernel
theorem dX5_add_16 : decode cX5_add 16 = .ok (.iload_n 2, 1) := by decide +kernel
theorem dX5_add_17 : decode cX5_add 17 = .ok (.iastore, 1) := by decide +kernel
theorem dX5_add_18 : decode cX5_add 18 = .ok (.aload_n 0, 1) := by decide +kernel
theorem dX5_add_19 : decode cX5_add 19 = .ok (.getfield 16, 3) := by decide +kernel
theorem dX5_add_22 : decode cX5_add 22 = .ok (.iload_n 1, 1) := by decide +kernel
theorem dX5_add_23 : decode cX5_add 23 = .ok (.aaload, 1) := by decide +kernel
theorem dX5_add_24 : decode cX5_add 24 = .ok (.iload 4, 2) := by decide +kernel
theorem dX5_add_26 : decode cX5_add 26 = .ok (.iload_n 3, 1) := by decide +kernel
theorem dX5_add_27 : decode cX5_add 27 = .ok (.iastore, 1) := by decide +kernel
theorem dX5_add_28 : decode cX5_add 28 = .ok (.aload_n 0, 1) := by decide +kernel
theorem dX5_add_29 : decode cX5_add 29 = .ok (.getfield 19, 3) := by decide +kernel
theorem dX5_add_32 : decode cX5_add 32 = .ok (.iload_n 1, 1) := by decide +kernel
theorem dX5_add_33 : decode cX5_add 33 = .ok (.iload 4, 2) := by decide +kernel
theorem dX5_add_35 : decode cX5_add 35 = .ok (.iconst 1, 1) := by decide +kernel
theorem dX5_add_36 : decode cX5_add 36 = .ok (.iadd, 1) := by decide +kernel
theorem dX5_add_37 : decode cX5_add 37 = .ok (.iastore, 1) := by decide +kernel
theorem dX5_add_38 : decode cX5_add 38 = .ok (.iload 4, 2) := by decide +kernel
theorem dX5_add_40 : decode cX5_add 40 = .ok (.iconst 1, 1) := by decide +kernel
theorem dX5_add_41 : decode cX5_add 41 = .ok (.iadd, 1) := by decide +kernel
theorem dX5_add_42 : decode cX5_add 42 = .ok (.ireturn, 1) := by decide +kernel
theorem dX5_empty_0 : decode cX5_empty 0 = .ok (.aload_n 0, 1) := by decide +kernel
theorem dX5_empty_1 : decode cX5_empty 1 = .ok (.getfield 19, 3) := by decide +kernel
theorem dX5_empty_4 : decode cX5_empty 4 = .ok (.iload_n 1, 1) := by decide +kernel
theorem dX5_empty_5 : decode cX5_empty 5 = .ok (.iaload, 1) := by decide +kernel
theorem dX5_empty_6 : decode cX5_empty 6 = .ok (.istore_n 2, 1) := by decide +kernel
theorem dX5_empty_7 : decode cX5_empty 7 = .ok (.aload_n 0, 1) := by decide +kernel
theorem dX5_empty_8 : decode cX5_empty 8 = .ok (.getfield 19, 3) := by decide +kernel
theorem dX5_empty_11 : decode cX5_empty 11 = .ok (.iload_n 1, 1) := by decide +kernel
theorem dX5_empty_12 : decode cX5_empty 12 = .ok (.iconst 0, 1) := by decide +kernel
theorem dX5_empty_13 : decode cX5_empty 13 = .ok (.iastore, 1) := by decide +kernel
theorem dX5_empty_14 : decode cX5_empty 14 = .ok (.iload_n 2, 1) := by decide +kernel
theorem dX5_empty_15 : decode cX5_empty 15 = .ok (.ireturn, 1) := by decide +kernel
theorem dX5_pointCount_0 : decode cX5_pointCount 0 = .ok (.iconst 0, 1) := by decide +kernel
theorem dX5_pointCount_1 : decode cX5_pointCount 1 = .ok (.istore_n 1, 1) := by decide +kernel
theorem dX5_pointCount_2 : decode cX5_pointCount 2 = .ok (.iconst 0, 1) := by decide +kernel
theorem dX5_pointCount_3 : decode cX5_pointCount 3 = .ok (.istore_n 2, 1) := by decide +kernel
theorem dX5_pointCount_4 : decode cX5_pointCount 4 = .ok (.iload_n 2, 1) := by decide +kernel
theorem dX5_pointCount_5 : decode cX5_pointCount 5 = .ok (.iconst 4, 1) := by decide +kernel
theorem dX5_pointCount_6 : decode cX5_pointCount 6 = .ok (.if_icmp .ge 18, 3) := by decide +kernel
theorem dX5_pointCount_9 : decode cX5_pointCount 9 = .ok (.iload_n 1, 1) := by decide +kernel
theorem dX5_pointCount_10 : decode cX5_pointCount 10 = .ok (.aload_n 0, 1) := by decide +kernel
theorem dX5_pointCount_11 : decode cX5_pointCount 11 = .ok (.getfield 19, 3) := by decide +kernel
theorem dX5_pointCount_14 : decode cX5_pointCount 14 = .ok (.iload_n 2, 1) := by decide +kernel
theorem dX5_pointCount_15 : decode cX5_pointCount 15 = .ok (.iaload, 1) := by decide +kernel
theorem dX5_pointCount_16 : decode cX5_pointCount 16 = .ok (.iadd, 1) := by decide +kernel
theorem dX5_pointCount_17 : decode cX5_pointCount 17 = .ok (.istore_n 1, 1) := by decide +kernel
theorem dX5_pointCount_18 : decode cX5_pointCount 18 = .ok (.iinc 2 1, 3) := by decide +kernel
theorem dX5_pointCount_21 : decode cX5_pointCount 21 = .ok (.goto (-17), 3) := by decide +kernel
theorem dX5_pointCount_24 : decode cX5_pointCount 24 = .ok (.iload_n 1, 1) := by decide +kernel
theorem dX5_pointCount_25 : decode cX5_pointCount 25 = .ok (.ireturn, 1) := by decide +kernel
set_option maxRecDepth 20000 in
theorem ggX5_commonLower_X5_productWithout : GoodIn wsX5_commonLower wsX5_productWithout := goodIn_r _ [7, 1, 2, 18, 19, 20] (by decide +kernel) (by decide +kernel)
set_option maxRecDepth 20000 in
theorem gX5_commonLower_X5_productWithout : GoodIn wsX5_commonLower (wsV RX5 23 RX5 yX5_productWithout wsX5_productWithout) := goodIn_app (goodIn_of _ (by decide +kernel)) ggX5_commonLower_X5_productWithout
set_option maxRecDepth 20000 in
theorem ggX5_commonLower_X6_leastMultiple : GoodIn wsX5_commonLower wsX6_leastMultiple := goodIn_r _ [10, 11, 12, 13, 14, 15, 16, 9, 17] (by decide +kernel) (by decide +kernel)
set_option maxRecDepth 20000 in
theorem gX5_commonLower_X6_leastMultiple_n27 : GoodIn wsX5_commonLower (wsX6_leastMultiple) := ggX5_commonLower_X6_leastMultiple
theorem dX5_commonLower_0 : decode cX5_commonLower 0 = .ok (.lconst 1, 1) := by decide +kernel
theorem dX5_commonLower_1 : decode cX5_commonLower 1 = .ok (.lstore_n 2, 1) := by decide +kernel
theorem dX5_commonLower_2 : decode cX5_commonLower 2 = .ok (.iconst 0, 1) := by decide +kernel
theorem dX5_commonLower_3 : decode cX5_commonLower 3 = .ok (.istore 4, 2) := by decide +kernel
theorem dX5_commonLower_5 : decode cX5_commonLower 5 = .ok (.iload 4, 2) := by decide +kernel
theorem dX5_commonLower_7 : decode cX5_commonLower 7 = .ok (.aload_n 0, 1) := by decide +kernel
theorem dX5_commonLower_8 : decode cX5_commonLower 8 = .ok (.getfield 19, 3) := by decide +kernel
theorem dX5_commonLower_11 : decode cX5_commonLower 11 = .ok (.iload_n 1, 1) := by decide +kernel
theorem dX5_commonLower_12 : decode cX5_commonLower 12 = .ok (.iaload, 1) := by decide +kernel
theorem dX5_commonLower_13 : decode cX5_commonLower 13 = .ok (.if_icmp .ge 30, 3) := by decide +kernel
theorem dX5_commonLower_16 : decode cX5_commonLower 16 = .ok (.lload_n 2, 1) := by decide +kernel
theorem dX5_commonLower_17 : decode cX5_commonLower 17 = .ok (.aload_n 0, 1) := by decide +kernel
theorem dX5_commonLower_18 : decode cX5_commonLower 18 = .ok (.iload_n 1, 1) := by decide +kernel
theorem dX5_commonLower_19 : decode cX5_commonLower 19 = .ok (.iload 4, 2) := by decide +kernel
theorem dX5_commonLower_21 : decode cX5_commonLower 21 = .ok (.aload_n 0, 1) := by decide +kernel
theorem dX5_commonLower_22 : decode cX5_commonLower 22 = .ok (.getfield 11, 3) := by decide +kernel
theorem dX5_commonLower_25 : decode cX5_commonLower 25 = .ok (.iload_n 1, 1) := by decide +kernel
theorem dX5_commonLower_26 : decode cX5_commonLower 26 = .ok (.aaload, 1) := by decide +kernel
theorem dX5_commonLower_27 : decode cX5_commonLower 27 = .ok (.iload 4, 2) := by decide +kernel
theorem dX5_commonLower_29 : decode cX5_commonLower 29 = .ok (.iaload, 1) := by decide +kernel
theorem dX5_commonLower_30 : decode cX5_commonLower 30 = .ok (.invokevirtual 23, 3) := by decide +kernel
theorem dX5_commonLower_33 : decode cX5_commonLower 33 = .ok (.invokestatic 27, 3) := by decide +kernel
theorem dX5_commonLower_36 : decode cX5_commonLower 36 = .ok (.lstore_n 2, 1) := by decide +kernel
theorem dX5_commonLower_37 : decode cX5_commonLower 37 = .ok (.iinc 4 1, 3) := by decide +kernel
theorem dX5_commonLower_40 : decode cX5_commonLower 40 = .ok (.goto (-35), 3) := by decide +kernel
theorem dX5_commonLower_43 : decode cX5_commonLower 43 = .ok (.lload_n 2, 1) := by decide +kernel
theorem dX5_commonLower_44 : decode cX5_commonLower 44 = .ok (.lreturn, 1) := by decide +kernel
set_option maxRecDepth 20000 in
theorem ggX5_worthAt_X5_productWithout : GoodIn wsX5_worthAt wsX5_productWithout := goodIn_r _ [8, 1, 2, 9, 10, 11] (by decide +kernel) (by decide +kernel)
set_option maxRecDepth 20000 in
theorem gX5_worthAt_X5_productWithout : GoodIn wsX5_worthAt (wsV RX5 23 RX5 yX5_productWithout wsX5_productWithout) := goodIn_app (goodIn_of _ (by decide +kernel)) ggX5_worthAt_X5_productWithout
theorem dX5_worthAt_0 : decode cX5_worthAt 0 = .ok (.lconst 0, 1) := by decide +kernel
theorem dX5_worthAt_1 : decode cX5_worthAt 1 = .ok (.lstore 5, 2) := by decide +kernel
theorem dX5_worthAt_3 : decode cX5_worthAt 3 = .ok (.iconst 0, 1) := by decide +kernel
theorem dX5_worthAt_4 : decode cX5_worthAt 4 = .ok (.istore 7, 2) := by decide +kernel
theorem dX5_worthAt_6 : decode cX5_worthAt 6 = .ok (.iload 7, 2) := by decide +kernel
theorem dX5_worthAt_8 : decode cX5_worthAt 8 = .ok (.aload_n 0, 1) := by decide +kernel
theorem dX5_worthAt_9 : decode cX5_worthAt 9 = .ok (.getfield 19, 3) := by decide +kernel
theorem dX5_worthAt_12 : decode cX5_worthAt 12 = .ok (.iload_n 1, 1) := by decide +kernel
theorem dX5_worthAt_13 : decode cX5_worthAt 13 = .ok (.iaload, 1) := by decide +kernel
theorem dX5_worthAt_14 : decode cX5_worthAt 14 = .ok (.if_icmp .ge 63, 3) := by decide +kernel
theorem dX5_worthAt_17 : decode cX5_worthAt 17 = .ok (.aload_n 0, 1) := by decide +kernel
theorem dX5_worthAt_18 : decode cX5_worthAt 18 = .ok (.iload_n 1, 1) := by decide +kernel
theorem dX5_worthAt_19 : decode cX5_worthAt 19 = .ok (.iload 7, 2) := by decide +kernel
theorem dX5_worthAt_21 : decode cX5_worthAt 21 = .ok (.aload_n 0, 1) := by decide +kernel
theorem dX5_worthAt_22 : decode cX5_worthAt 22 = .ok (.getfield 11, 3) := by decide +kernel
theorem dX5_worthAt_25 : decode cX5_worthAt 25 = .ok (.iload_n 1, 1) := by decide +kernel
theorem dX5_worthAt_26 : decode cX5_worthAt 26 = .ok (.aaload, 1) := by decide +kernel
theorem dX5_worthAt_27 : decode cX5_worthAt 27 = .ok (.iload 7, 2) := by decide +kernel
theorem dX5_worthAt_29 : decode cX5_worthAt 29 = .ok (.iaload, 1) := by decide +kernel
theorem dX5_worthAt_30 : decode cX5_worthAt 30 = .ok (.invokevirtual 23, 3) := by decide +kernel
theorem dX5_worthAt_33 : decode cX5_worthAt 33 = .ok (.lstore 8, 2) := by decide +kernel
theorem dX5_worthAt_35 : decode cX5_worthAt 35 = .ok (.lload 8, 2) := by decide +kernel
theorem dX5_worthAt_37 : decode cX5_worthAt 37 = .ok (.lconst 0, 1) := by decide +kernel
theorem dX5_worthAt_38 : decode cX5_worthAt 38 = .ok (.lcmp, 1) := by decide +kernel
theorem dX5_worthAt_39 : decode cX5_worthAt 39 = .ok (.ifCond .eq 32, 3) := by decide +kernel
theorem dX5_worthAt_42 : decode cX5_worthAt 42 = .ok (.lload 5, 2) := by decide +kernel
theorem dX5_worthAt_44 : decode cX5_worthAt 44 = .ok (.lload_n 3, 1) := by decide +kernel
theorem dX5_worthAt_45 : decode cX5_worthAt 45 = .ok (.lload 8, 2) := by decide +kernel
theorem dX5_worthAt_47 : decode cX5_worthAt 47 = .ok (.ldiv, 1) := by decide +kernel
theorem dX5_worthAt_48 : decode cX5_worthAt 48 = .ok (.aload_n 0, 1) := by decide +kernel
theorem dX5_worthAt_49 : decode cX5_worthAt 49 = .ok (.iload_n 1, 1) := by decide +kernel
theorem dX5_worthAt_50 : decode cX5_worthAt 50 = .ok (.iload 7, 2) := by decide +kernel
theorem dX5_worthAt_52 : decode cX5_worthAt 52 = .ok (.iload_n 2, 1) := by decide +kernel
theorem dX5_worthAt_53 : decode cX5_worthAt 53 = .ok (.invokevirtual 23, 3) := by decide +kernel
theorem dX5_worthAt_56 : decode cX5_worthAt 56 = .ok (.lmul, 1) := by decide +kernel
theorem dX5_worthAt_57 : decode cX5_worthAt 57 = .ok (.aload_n 0, 1) := by decide +kernel
theorem dX5_worthAt_58 : decode cX5_worthAt 58 = .ok (.getfield 16, 3) := by decide +kernel
theorem dX5_worthAt_61 : decode cX5_worthAt 61 = .ok (.iload_n 1, 1) := by decide +kernel
theorem dX5_worthAt_62 : decode cX5_worthAt 62 = .ok (.aaload, 1) := by decide +kernel
theorem dX5_worthAt_63 : decode cX5_worthAt 63 = .ok (.iload 7, 2) := by decide +kernel
theorem dX5_worthAt_65 : decode cX5_worthAt 65 = .ok (.iaload, 1) := by decide +kernel
theorem dX5_worthAt_66 : decode cX5_worthAt 66 = .ok (.i2l, 1) := by decide +kernel
theorem dX5_worthAt_67 : decode cX5_worthAt 67 = .ok (.lmul, 1) := by decide +kernel
theorem dX5_worthAt_68 : decode cX5_worthAt 68 = .ok (.ladd, 1) := by decide +kernel
theorem dX5_worthAt_69 : decode cX5_worthAt 69 = .ok (.lstore 5, 2) := by decide +kernel
theorem dX5_worthAt_71 : decode cX5_worthAt 71 = .ok (.iinc 7 1, 3) := by decide +kernel
theorem dX5_worthAt_74 : decode cX5_worthAt 74 = .ok (.goto (-68), 3) := by decide +kernel
theorem dX5_worthAt_77 : decode cX5_worthAt 77 = .ok (.lload 5, 2) := by decide +kernel
theorem dX5_worthAt_79 : decode cX5_worthAt 79 = .ok (.lreturn, 1) := by decide +kernel
theorem dX5_productWithout_0 : decode cX5_productWithout 0 = .ok (.lconst 1, 1) := by decide +kernel
theorem dX5_productWithout_1 : decode cX5_productWithout 1 = .ok (.lstore 4, 2) := by decide +kernel
theorem dX5_productWithout_3 : decode cX5_productWithout 3 = .ok (.iconst 0, 1) := by decide +kernel
theorem dX5_productWithout_4 : decode cX5_productWithout 4 = .ok (.istore 6, 2) := by decide +kernel
theorem dX5_productWithout_6 : decode cX5_productWithout 6 = .ok (.iload 6, 2) := by decide +kernel
theorem dX5_productWithout_8 : decode cX5_productWithout 8 = .ok (.aload_n 0, 1) := by decide +kernel
theorem dX5_productWithout_9 : decode cX5_productWithout 9 = .ok (.getfield 19, 3) := by decide +kernel
theorem dX5_productWithout_12 : decode cX5_productWithout 12 = .ok (.iload_n 1, 1) := by decide +kernel
theorem dX5_productWithout_13 : decode cX5_productWithout 13 = .ok (.iaload, 1) := by decide +kernel
theorem dX5_productWithout_14 : decode cX5_productWithout 14 = .ok (.if_icmp .ge 32, 3) := by decide +kernel
theorem dX5_productWithout_17 : decode cX5_productWithout 17 = .ok (.iload 6, 2) := by decide +kernel
theorem dX5_productWithout_19 : decode cX5_productWithout 19 = .ok (.iload_n 2, 1) := by decide +kernel
theorem dX5_productWithout_20 : decode cX5_productWithout 20 = .ok (.if_icmp .eq 20, 3) := by decide +kernel
theorem dX5_productWithout_23 : decode cX5_productWithout 23 = .ok (.lload 4, 2) := by decide +kernel
theorem dX5_productWithout_25 : decode cX5_productWithout 25 = .ok (.iload_n 3, 1) := by decide +kernel
theorem dX5_productWithout_26 : decode cX5_productWithout 26 = .ok (.aload_n 0, 1) := by decide +kernel
theorem dX5_productWithout_27 : decode cX5_productWithout 27 = .ok (.getfield 11, 3) := by decide +kernel
theorem dX5_productWithout_30 : decode cX5_productWithout 30 = .ok (.iload_n 1, 1) := by decide +kernel
theorem dX5_productWithout_31 : decode cX5_productWithout 31 = .ok (.aaload, 1) := by decide +kernel
theorem dX5_productWithout_32 : decode cX5_productWithout 32 = .ok (.iload 6, 2) := by decide +kernel
theorem dX5_productWithout_34 : decode cX5_productWithout 34 = .ok (.iaload, 1) := by decide +kernel
theorem dX5_productWithout_35 : decode cX5_productWithout 35 = .ok (.isub, 1) := by decide +kernel
theorem dX5_productWithout_36 : decode cX5_productWithout 36 = .ok (.i2l, 1) := by decide +kernel
theorem dX5_productWithout_37 : decode cX5_productWithout 37 = .ok (.lmul, 1) := by decide +kernel
theorem dX5_productWithout_38 : decode cX5_productWithout 38 = .ok (.lstore 4, 2) := by decide +kernel
theorem dX5_productWithout_40 : decode cX5_productWithout 40 = .ok (.iinc 6 1, 3) := by decide +kernel
theorem dX5_productWithout_43 : decode cX5_productWithout 43 = .ok (.goto (-37), 3) := by decide +kernel
theorem dX5_productWithout_46 : decode cX5_productWithout 46 = .ok (.lload 4, 2) := by decide +kernel
theorem dX5_productWithout_48 : decode cX5_productWithout 48 = .ok (.lreturn, 1) := by decide +kernel
set_option maxRecDepth 20000 in
theorem ggX6_init_X4_init : GoodIn wsX6_init wsX4_init := goodIn_r _ [34, 35, 2, 3, 36, 28, 37, 38, 39, 40, 41, 42, 79, 80] (by decide +kernel) (by decide +kernel)
set_option maxRecDepth 20000 in
theorem gX6_init_X4_init : GoodIn wsX6_init (wsX4_init) := ggX6_init_X4_init
set_option maxRecDepth 20000 in
theorem ggX6_init_X5_init : GoodIn wsX6_init wsX5_init := goodIn_r _ [45, 46, 2, 3, 47, 28, 48, 49, 50, 90, 91, 92] (by decide +kernel) (by decide +kernel)
set_option maxRecDepth 20000 in
theorem gX6_init_X5_init : GoodIn wsX6_init (wsX5_init) := ggX6_init_X5_init
set_option maxRecDepth 20000 in
theorem ggX6_init_X0_init : GoodIn wsX6_init wsX0_init := goodIn_r _ [53, 54, 2, 3, 28, 55, 56, 57, 93, 94, 95] (by decide +kernel) (by decide +kernel)
set_option maxRecDepth 20000 in
theorem gX6_init_X0_init : GoodIn wsX6_init (wsX0_init) := ggX6_init_X0_init
set_option maxRecDepth 20000 in
theorem ggX6_init_X1_init : GoodIn wsX6_init wsX1_init := goodIn_r _ [60, 61, 2, 3, 62, 28, 63, 64, 96, 97] (by decide +kernel) (by decide +kernel)
set_option maxRecDepth 20000 in
theorem gX6_init_X1_init : GoodIn wsX6_init (wsX1_init) := ggX6_init_X1_init
set_option maxRecDepth 20000 in
theorem ggX6_init_X3_init : GoodIn wsX6_init wsX3_init := goodIn_r _ [67, 68, 2, 3, 69, 28, 70, 71, 72, 40, 41, 42, 98, 99] (by decide +kernel) (by decide +kernel)
set_option maxRecDepth 20000 in
theorem gX6_init_X3_init : GoodIn wsX6_init (wsX3_init) := ggX6_init_X3_init
set_option maxRecDepth 20000 in
theorem ggX6_init_X2_init : GoodIn wsX6_init wsX2_init := goodIn_r _ [75, 76, 2, 3, 77, 78, 100, 101] (by decide +kernel) (by decide +kernel)
set_option maxRecDepth 20000 in
theorem gX6_init_X2_init : GoodIn wsX6_init (wsX2_init) := ggX6_init_X2_init
theorem dX6_init_0 : decode cX6_init 0 = .ok (.aload_n 0, 1) := by decide +kernel
theorem dX6_init_1 : decode cX6_init 1 = .ok (.invokespecial 1, 3) := by decide +kernel
theorem dX6_init_4 : decode cX6_init 4 = .ok (.aload_n 0, 1) := by decide +kernel
theorem dX6_init_5 : decode cX6_init 5 = .ok (.new 7, 3) := by decide +kernel
theorem dX6_init_8 : decode cX6_init 8 = .ok (.dup, 1) := by decide +kernel
theorem dX6_init_9 : decode cX6_init 9 = .ok (.invokespecial 9, 3) := by decide +kernel
theorem dX6_init_12 : decode cX6_init 12 = .ok (.putfield 10, 3) := by decide +kernel
theorem dX6_init_15 : decode cX6_init 15 = .ok (.aload_n 0, 1) := by decide +kernel
theorem dX6_init_16 : decode cX6_init 16 = .ok (.new 16, 3) := by decide +kernel
theorem dX6_init_19 : decode cX6_init 19 = .ok (.dup, 1) := by decide +kernel
theorem dX6_init_20 : decode cX6_init 20 = .ok (.invokespecial 18, 3) := by decide +kernel
theorem dX6_init_23 : decode cX6_init 23 = .ok (.putfield 19, 3) := by decide +kernel
theorem dX6_init_26 : decode cX6_init 26 = .ok (.aload_n 0, 1) := by decide +kernel
theorem dX6_init_27 : decode cX6_init 27 = .ok (.new 23, 3) := by decide +kernel
theorem dX6_init_30 : decode cX6_init 30 = .ok (.dup, 1) := by decide +kernel
theorem dX6_init_31 : decode cX6_init 31 = .ok (.invokespecial 25, 3) := by decide +kernel
theorem dX6_init_34 : decode cX6_init 34 = .ok (.putfield 26, 3) := by decide +kernel
theorem dX6_init_37 : decode cX6_init 37 = .ok (.aload_n 0, 1) := by decide +kernel
theorem dX6_init_38 : decode cX6_init 38 = .ok (.new 30, 3) := by decide +kernel
theorem dX6_init_41 : decode cX6_init 41 = .ok (.dup, 1) := by decide +kernel
theorem dX6_init_42 : decode cX6_init 42 = .ok (.invokespecial 32, 3) := by decide +kernel
theorem dX6_init_45 : decode cX6_init 45 = .ok (.putfield 33, 3) := by decide +kernel
theorem dX6_init_48 : decode cX6_init 48 = .ok (.aload_n 0, 1) := by decide +kernel
theorem dX6_init_49 : decode cX6_init 49 = .ok (.new 37, 3) := by decide +kernel
theorem dX6_init_52 : decode cX6_init 52 = .ok (.dup, 1) := by decide +kernel
theorem dX6_init_53 : decode cX6_init 53 = .ok (.invokespecial 39, 3) := by decide +kernel
theorem dX6_init_56 : decode cX6_init 56 = .ok (.putfield 40, 3) := by decide +kernel
theorem dX6_init_59 : decode cX6_init 59 = .ok (.aload_n 0, 1) := by decide +kernel
theorem dX6_init_60 : decode cX6_init 60 = .ok (.new 44, 3) := by decide +kernel
theorem dX6_init_63 : decode cX6_init 63 = .ok (.dup, 1) := by decide +kernel
theorem dX6_init_64 : decode cX6_init 64 = .ok (.invokespecial 46, 3) := by decide +kernel
theorem dX6_init_67 : decode cX6_init 67 = .ok (.putfield 47, 3) := by decide +kernel
theorem dX6_init_70 : decode cX6_init 70 = .ok (.aload_n 0, 1) := by decide +kernel
theorem dX6_init_71 : decode cX6_init 71 = .ok (.bipush 6, 2) := by decide +kernel
theorem dX6_init_73 : decode cX6_init 73 = .ok (.newarray .int, 2) := by decide +kernel
theorem dX6_init_75 : decode cX6_init 75 = .ok (.putfield 51, 3) := by decide +kernel
theorem dX6_init_78 : decode cX6_init 78 = .ok (.aload_n 0, 1) := by decide +kernel
theorem dX6_init_79 : decode cX6_init 79 = .ok (.iconst 0, 1) := by decide +kernel
theorem dX6_init_80 : decode cX6_init 80 = .ok (.putfield 55, 3) := by decide +kernel
theorem dX6_init_83 : decode cX6_init 83 = .ok (.aload_n 0, 1) := by decide +kernel
theorem dX6_init_84 : decode cX6_init 84 = .ok (.lconst 0, 1) := by decide +kernel
theorem dX6_init_85 : decode cX6_init 85 = .ok (.putfield 59, 3) := by decide +kernel
theorem dX6_init_88 : decode cX6_init 88 = .ok (.return_, 1) := by decide +kernel
set_option maxRecDepth 20000 in
theorem ggX6_row_X6_isRow : GoodIn wsX6_row wsX6_isRow := goodIn_r _ [5, 6, 7, 4, 8] (by decide +kernel) (by decide +kernel)
set_option maxRecDepth 20000 in
theorem gX6_row_X6_isRow : GoodIn wsX6_row (va_wsS RX6 63 yX6_isRow wsX6_isRow) := goodIn_app (goodIn_of _ (by decide +kernel)) ggX6_row_X6_isRow
set_option maxRecDepth 20000 in
theorem ggX6_row_X6_refuse : GoodIn wsX6_row wsX6_refuse := goodIn_r _ [12, 13, 14, 6, 7, 4, 8, 26, 27, 28, 29, 30, 31, 32, 33, 34] (by decide +kernel) (by decide +kernel)
set_option maxRecDepth 20000 in
theorem gX6_row_X6_refuse : GoodIn wsX6_row (wsV RX6 67 RX6 yX6_refuse wsX6_refuse) := goodIn_app (goodIn_of _ (by decide +kernel)) ggX6_row_X6_refuse
set_option maxRecDepth 20000 in
theorem ggX6_row_X4_make : GoodIn wsX6_row wsX4_make := goodIn_r _ [19, 20, 21, 22, 23, 24, 25, 35, 36] (by decide +kernel) (by decide +kernel)
set_option maxRecDepth 20000 in
theorem gX6_row_X4_make : GoodIn wsX6_row (wsV RX6 71 RX4 yX4_make wsX4_make) := goodIn_app (goodIn_of _ (by decide +kernel)) ggX6_row_X4_make
theorem dX6_row_0 : decode cX6_row 0 = .ok (.iload_n 1, 1) := by decide +kernel
theorem dX6_row_1 : decode cX6_row 1 = .ok (.invokestatic 63, 3) := by decide +kernel
theorem dX6_row_4 : decode cX6_row 4 = .ok (.ifCond .eq 9, 3) := by decide +kernel
theorem dX6_row_7 : decode cX6_row 7 = .ok (.iload_n 2, 1) := by decide +kernel
theorem dX6_row_8 : decode cX6_row 8 = .ok (.bipush 40, 2) := by decide +kernel
theorem dX6_row_10 : decode cX6_row 10 = .ok (.if_icmp .le 5, 3) := by decide +kernel
theorem dX6_row_13 : decode cX6_row 13 = .ok (.iconst (-1), 1) := by decide +kernel
theorem dX6_row_14 : decode cX6_row 14 = .ok (.ireturn, 1) := by decide +kernel
theorem dX6_row_15 : decode cX6_row 15 = .ok (.iload_n 2, 1) := by decide +kernel
theorem dX6_row_16 : decode cX6_row 16 = .ok (.ifCond .ge 9, 3) := by decide +kernel
theorem dX6_row_19 : decode cX6_row 19 = .ok (.aload_n 0, 1) := by decide +kernel
theorem dX6_row_20 : decode cX6_row 20 = .ok (.iconst 5, 1) := by decide +kernel
theorem dX6_row_21 : decode cX6_row 21 = .ok (.invokevirtual 67, 3) := by decide +kernel
theorem dX6_row_24 : decode cX6_row 24 = .ok (.ireturn, 1) := by decide +kernel
theorem dX6_row_25 : decode cX6_row 25 = .ok (.aload_n 0, 1) := by decide +kernel
theorem dX6_row_26 : decode cX6_row 26 = .ok (.getfield 10, 3) := by decide +kernel
theorem dX6_row_29 : decode cX6_row 29 = .ok (.iload_n 1, 1) := by decide +kernel
theorem dX6_row_30 : decode cX6_row 30 = .ok (.iload_n 2, 1) := by decide +kernel
theorem dX6_row_31 : decode cX6_row 31 = .ok (.invokevirtual 71, 3) := by decide +kernel
theorem dX6_row_34 : decode cX6_row 34 = .ok (.iload_n 2, 1) := by decide +kernel
theorem dX6_row_35 : decode cX6_row 35 = .ok (.ireturn, 1) := by decide +kernel
set_option maxRecDepth 20000 in
theorem ggX6_lay_X6_isRow : GoodIn wsX6_lay wsX6_isRow := goodIn_r _ [7, 8, 9, 6, 10] (by decide +kernel) (by decide +kernel)
set_option maxRecDepth 20000 in
theorem gX6_lay_X6_isRow : GoodIn wsX6_lay (va_wsS RX6 63 yX6_isRow wsX6_isRow) := goodIn_app (goodIn_of _ (by decide +kernel)) ggX6_lay_X6_isRow
set_option maxRecDepth 20000 in
theorem ggX6_lay_X6_isWithin : GoodIn wsX6_lay wsX6_isWithin := goodIn_r _ [13, 8, 9, 6, 10] (by decide +kernel) (by decide +kernel)
set_option maxRecDepth 20000 in
theorem gX6_lay_X6_isWithin : GoodIn wsX6_lay (va_wsS RX6 76 yX6_isWithin wsX6_isWithin) := goodIn_app (goodIn_of _ (by decide +kernel)) ggX6_lay_X6_isWithin
set_option maxRecDepth 20000 in
theorem ggX6_lay_X4_isMissing : GoodIn wsX6_lay wsX4_isMissing := goodIn_r _ [18, 19, 48, 49] (by decide +kernel) (by decide +kernel)
set_option maxRecDepth 20000 in
theorem gX6_lay_X4_isMissing : GoodIn wsX6_lay (wsV RX6 80 RX4 yX4_isMissing wsX4_isMissing) := goodIn_app (goodIn_of _ (by decide +kernel)) ggX6_lay_X4_isMissing
set_option maxRecDepth 20000 in
theorem ggX6_lay_X6_refuse : GoodIn wsX6_lay wsX6_refuse := goodIn_r _ [23, 24, 25, 8, 9, 6, 10, 39, 40, 41, 42, 43, 44, 45, 46, 47] (by decide +kernel) (by decide +kernel)
set_option maxRecDepth 20000 in
theorem gX6_lay_X6_refuse : GoodIn wsX6_lay (wsV RX6 67 RX6 yX6_refuse wsX6_refuse) := goodIn_app (goodIn_of _ (by decide +kernel)) ggX6_lay_X6_refuse
set_option maxRecDepth 20000 in
theorem ggX6_lay_X4_hasPlaces : GoodIn wsX6_lay wsX4_hasPlaces := goodIn_r _ [29, 19, 9, 6, 10, 48, 49] (by decide +kernel) (by decide +kernel)
set_option maxRecDepth 20000 in
theorem gX6_lay_X4_hasPlaces : GoodIn wsX6_lay (wsV RX6 83 RX4 yX4_hasPlaces wsX4_hasPlaces) := goodIn_app (goodIn_of _ (by decide +kernel)) ggX6_lay_X4_hasPlaces
set_option maxRecDepth 20000 in
theorem ggX6_lay_X4_readingAt : GoodIn wsX6_lay wsX4_readingAt := goodIn_r _ [33, 34, 48, 49] (by decide +kernel) (by decide +kernel)
set_option maxRecDepth 20000 in
theorem gX6_lay_X4_readingAt : GoodIn wsX6_lay (wsV RX6 87 RX4 yX4_readingAt wsX4_readingAt) := goodIn_app (goodIn_of _ (by decide +kernel)) ggX6_lay_X4_readingAt
set_option maxRecDepth 20000 in
theorem ggX6_lay_X4_put : GoodIn wsX6_lay wsX4_put := goodIn_r _ [38, 34, 48, 49] (by decide +kernel) (by decide +kernel)
set_option maxRecDepth 20000 in
theorem gX6_lay_X4_put : GoodIn wsX6_lay (wsV RX6 91 RX4 yX4_put wsX4_put) := goodIn_app (goodIn_of _ (by decide +kernel)) ggX6_lay_X4_put
theorem dX6_lay_0 : decode cX6_lay 0 = .ok (.iload_n 1, 1) := by decide +kernel
theorem dX6_lay_1 : decode cX6_lay 1 = .ok (.invokestatic 63, 3) := by decide +kernel
theorem dX6_lay_4 : decode cX6_lay 4 = .ok (.ifCond .eq 12, 3) := by decide +kernel
theorem dX6_lay_7 : decode cX6_lay 7 = .ok (.iload_n 3, 1) := by decide +kernel
theorem dX6_lay_8 : decode cX6_lay 8 = .ok (.ldc 75, 2) := by decide +kernel
theorem dX6_lay_10 : decode cX6_lay 10 = .ok (.invokestatic 76, 3) := by decide +kernel
theorem dX6_lay_13 : decode cX6_lay 13 = .ok (.ifCond .ne 5, 3) := by decide +kernel
theorem dX6_lay_16 : decode cX6_lay 16 = .ok (.iconst (-1), 1) := by decide +kernel
theorem dX6_lay_17 : decode cX6_lay 17 = .ok (.ireturn, 1) := by decide +kernel
theorem dX6_lay_18 : decode cX6_lay 18 = .ok (.aload_n 0, 1) := by decide +kernel
theorem dX6_lay_19 : decode cX6_lay 19 = .ok (.getfield 10, 3) := by decide +kernel
theorem dX6_lay_22 : decode cX6_lay 22 = .ok (.iload_n 1, 1) := by decide +kernel
theorem dX6_lay_23 : decode cX6_lay 23 = .ok (.invokevirtual 80, 3) := by decide +kernel
theorem dX6_lay_26 : decode cX6_lay 26 = .ok (.ifCond .eq 9, 3) := by decide +kernel
theorem dX6_lay_29 : decode cX6_lay 29 = .ok (.aload_n 0, 1) := by decide +kernel
theorem dX6_lay_30 : decode cX6_lay 30 = .ok (.iconst 1, 1) := by decide +kernel
theorem dX6_lay_31 : decode cX6_lay 31 = .ok (.invokevirtual 67, 3) := by decide +kernel
theorem dX6_lay_34 : decode cX6_lay 34 = .ok (.ireturn, 1) := by decide +kernel
theorem dX6_lay_35 : decode cX6_lay 35 = .ok (.aload_n 0, 1) := by decide +kernel
theorem dX6_lay_36 : decode cX6_lay 36 = .ok (.getfield 10, 3) := by decide +kernel
theorem dX6_lay_39 : decode cX6_lay 39 = .ok (.iload_n 1, 1) := by decide +kernel
theorem dX6_lay_40 : decode cX6_lay 40 = .ok (.iload_n 2, 1) := by decide +kernel
theorem dX6_lay_41 : decode cX6_lay 41 = .ok (.iconst 1, 1) := by decide +kernel
theorem dX6_lay_42 : decode cX6_lay 42 = .ok (.invokevirtual 83, 3) := by decide +kernel
theorem dX6_lay_45 : decode cX6_lay 45 = .ok (.ifCond .ne 9, 3) := by decide +kernel
theorem dX6_lay_48 : decode cX6_lay 48 = .ok (.aload_n 0, 1) := by decide +kernel
theorem dX6_lay_49 : decode cX6_lay 49 = .ok (.iconst 2, 1) := by decide +kernel
theorem dX6_lay_50 : decode cX6_lay 50 = .ok (.invokevirtual 67, 3) := by decide +kernel
theorem dX6_lay_53 : decode cX6_lay 53 = .ok (.ireturn, 1) := by decide +kernel
theorem dX6_lay_54 : decode cX6_lay 54 = .ok (.aload_n 0, 1) := by decide +kernel
theorem dX6_lay_55 : decode cX6_lay 55 = .ok (.aload_n 0, 1) := by decide +kernel
theorem dX6_lay_56 : decode cX6_lay 56 = .ok (.getfield 10, 3) := by decide +kernel
theorem dX6_lay_59 : decode cX6_lay 59 = .ok (.iload_n 1, 1) := by decide +kernel
theorem dX6_lay_60 : decode cX6_lay 60 = .ok (.iload_n 2, 1) := by decide +kernel
theorem dX6_lay_61 : decode cX6_lay 61 = .ok (.invokevirtual 87, 3) := by decide +kernel
theorem dX6_lay_64 : decode cX6_lay 64 = .ok (.i2l, 1) := by decide +kernel
theorem dX6_lay_65 : decode cX6_lay 65 = .ok (.putfield 59, 3) := by decide +kernel
theorem dX6_lay_68 : decode cX6_lay 68 = .ok (.aload_n 0, 1) := by decide +kernel
theorem dX6_lay_69 : decode cX6_lay 69 = .ok (.getfield 10, 3) := by decide +kernel
theorem dX6_lay_72 : decode cX6_lay 72 = .ok (.iload_n 1, 1) := by decide +kernel
theorem dX6_lay_73 : decode cX6_lay 73 = .ok (.iload_n 2, 1) := by decide +kernel
theorem dX6_lay_74 : decode cX6_lay 74 = .ok (.iload_n 3, 1) := by decide +kernel
theorem dX6_lay_75 : decode cX6_lay 75 = .ok (.invokevirtual 91, 3) := by decide +kernel
theorem dX6_lay_78 : decode cX6_lay 78 = .ok (.iconst 1, 1) := by decide +kernel
theorem dX6_lay_79 : decode cX6_lay 79 = .ok (.ireturn, 1) := by decide +kernel
set_option maxRecDepth 20000 in
theorem ggX6_tear_X6_isRow : GoodIn wsX6_tear wsX6_isRow := goodIn_r _ [5, 6, 7, 4, 8] (by decide +kernel) (by decide +kernel)
set_option maxRecDepth 20000 in
theorem gX6_tear_X6_isRow : GoodIn wsX6_tear (va_wsS RX6 63 yX6_isRow wsX6_isRow) := goodIn_app (goodIn_of _ (by decide +kernel)) ggX6_tear_X6_isRow
set_option maxRecDepth 20000 in
theorem ggX6_tear_X4_isMissing : GoodIn wsX6_tear wsX4_isMissing := goodIn_r _ [13, 14, 34, 35] (by decide +kernel) (by decide +kernel)
set_option maxRecDepth 20000 in
theorem gX6_tear_X4_isMissing : GoodIn wsX6_tear (wsV RX6 80 RX4 yX4_isMissing wsX4_isMissing) := goodIn_app (goodIn_of _ (by decide +kernel)) ggX6_tear_X4_isMissing
set_option maxRecDepth 20000 in
theorem ggX6_tear_X6_refuse : GoodIn wsX6_tear wsX6_refuse := goodIn_r _ [18, 19, 20, 6, 7, 4, 8, 25, 26, 27, 28, 29, 30, 31, 32, 33] (by decide +kernel) (by decide +kernel)
set_option maxRecDepth 20000 in
theorem gX6_tear_X6_refuse : GoodIn wsX6_tear (wsV RX6 67 RX6 yX6_refuse wsX6_refuse) := goodIn_app (goodIn_of _ (by decide +kernel)) ggX6_tear_X6_refuse
set_option maxRecDepth 20000 in
theorem ggX6_tear_X4_drop : GoodIn wsX6_tear wsX4_drop := goodIn_r _ [24, 14, 34, 35] (by decide +kernel) (by decide +kernel)
set_option maxRecDepth 20000 in
theorem gX6_tear_X4_drop : GoodIn wsX6_tear (wsV RX6 95 RX4 yX4_drop wsX4_drop) := goodIn_app (goodIn_of _ (by decide +kernel)) ggX6_tear_X4_drop
theorem dX6_tear_0 : decode cX6_tear 0 = .ok (.iload_n 1, 1) := by decide +kernel
theorem dX6_tear_1 : decode cX6_tear 1 = .ok (.invokestatic 63, 3) := by decide +kernel
theorem dX6_tear_4 : decode cX6_tear 4 = .ok (.ifCond .ne 5, 3) := by decide +kernel
theorem dX6_tear_7 : decode cX6_tear 7 = .ok (.iconst (-1), 1) := by decide +kernel
theorem dX6_tear_8 : decode cX6_tear 8 = .ok (.ireturn, 1) := by decide +kernel
theorem dX6_tear_9 : decode cX6_tear 9 = .ok (.aload_n 0, 1) := by decide +kernel
theorem dX6_tear_10 : decode cX6_tear 10 = .ok (.getfield 10, 3) := by decide +kernel
theorem dX6_tear_13 : decode cX6_tear 13 = .ok (.iload_n 1, 1) := by decide +kernel
theorem dX6_tear_14 : decode cX6_tear 14 = .ok (.invokevirtual 80, 3) := by decide +kernel
theorem dX6_tear_17 : decode cX6_tear 17 = .ok (.ifCond .eq 9, 3) := by decide +kernel
theorem dX6_tear_20 : decode cX6_tear 20 = .ok (.aload_n 0, 1) := by decide +kernel
theorem dX6_tear_21 : decode cX6_tear 21 = .ok (.iconst 1, 1) := by decide +kernel
theorem dX6_tear_22 : decode cX6_tear 22 = .ok (.invokevirtual 67, 3) := by decide +kernel
theorem dX6_tear_25 : decode cX6_tear 25 = .ok (.ireturn, 1) := by decide +kernel
theorem dX6_tear_26 : decode cX6_tear 26 = .ok (.aload_n 0, 1) := by decide +kernel
theorem dX6_tear_27 : decode cX6_tear 27 = .ok (.getfield 10, 3) := by decide +kernel
theorem dX6_tear_30 : decode cX6_tear 30 = .ok (.iload_n 1, 1) := by decide +kernel
theorem dX6_tear_31 : decode cX6_tear 31 = .ok (.invokevirtual 95, 3) := by decide +kernel
theorem dX6_tear_34 : decode cX6_tear 34 = .ok (.iconst 1, 1) := by decide +kernel
theorem dX6_tear_35 : decode cX6_tear 35 = .ok (.ireturn, 1) := by decide +kernel
set_option maxRecDepth 20000 in
theorem ggX6_copy_X6_isRow : GoodIn wsX6_copy wsX6_isRow := goodIn_r _ [5, 6, 7, 4, 8] (by decide +kernel) (by decide +kernel)
set_option maxRecDepth 20000 in
theorem gX6_copy_X6_isRow : GoodIn wsX6_copy (va_wsS RX6 63 yX6_isRow wsX6_isRow) := goodIn_app (goodIn_of _ (by decide +kernel)) ggX6_copy_X6_isRow
set_option maxRecDepth 20000 in
theorem ggX6_copy_X6_refuse : GoodIn wsX6_copy wsX6_refuse := goodIn_r _ [12, 13, 14, 6, 7, 4, 8, 34, 35, 36, 37, 38, 39, 40, 41, 42] (by decide +kernel) (by decide +kernel)
set_option maxRecDepth 20000 in
theorem gX6_copy_X6_refuse : GoodIn wsX6_copy (wsV RX6 67 RX6 yX6_refuse wsX6_refuse) := goodIn_app (goodIn_of _ (by decide +kernel)) ggX6_copy_X6_refuse
set_option maxRecDepth 20000 in
theorem ggX6_copy_X4_isMissing : GoodIn wsX6_copy wsX4_isMissing := goodIn_r _ [19, 20, 43, 44] (by decide +kernel) (by decide +kernel)
set_option maxRecDepth 20000 in
theorem gX6_copy_X4_isMissing : GoodIn wsX6_copy (wsV RX6 80 RX4 yX4_isMissing wsX4_isMissing) := goodIn_app (goodIn_of _ (by decide +kernel)) ggX6_copy_X4_isMissing
set_option maxRecDepth 20000 in
theorem ggX6_copy_X4_hasPlaces : GoodIn wsX6_copy wsX4_hasPlaces := goodIn_r _ [24, 20, 7, 4, 8, 43, 44] (by decide +kernel) (by decide +kernel)
set_option maxRecDepth 20000 in
theorem gX6_copy_X4_hasPlaces : GoodIn wsX6_copy (wsV RX6 83 RX4 yX4_hasPlaces wsX4_hasPlaces) := goodIn_app (goodIn_of _ (by decide +kernel)) ggX6_copy_X4_hasPlaces
set_option maxRecDepth 20000 in
theorem ggX6_copy_X4_carry : GoodIn wsX6_copy wsX4_carry := goodIn_r _ [28, 29, 30, 31, 32, 33, 43, 44] (by decide +kernel) (by decide +kernel)
set_option maxRecDepth 20000 in
theorem gX6_copy_X4_carry : GoodIn wsX6_copy (wsV RX6 99 RX4 yX4_carry wsX4_carry) := goodIn_app (goodIn_of _ (by decide +kernel)) ggX6_copy_X4_carry
theorem dX6_copy_0 : decode cX6_copy 0 = .ok (.iload_n 1, 1) := by decide +kernel
theorem dX6_copy_1 : decode cX6_copy 1 = .ok (.invokestatic 63, 3) := by decide +kernel
theorem dX6_copy_4 : decode cX6_copy 4 = .ok (.ifCond .eq 10, 3) := by decide +kernel
theorem dX6_copy_7 : decode cX6_copy 7 = .ok (.iload_n 3, 1) := by decide +kernel
theorem dX6_copy_8 : decode cX6_copy 8 = .ok (.invokestatic 63, 3) := by decide +kernel
theorem dX6_copy_11 : decode cX6_copy 11 = .ok (.ifCond .ne 5, 3) := by decide +kernel
theorem dX6_copy_14 : decode cX6_copy 14 = .ok (.iconst (-1), 1) := by decide +kernel
theorem dX6_copy_15 : decode cX6_copy 15 = .ok (.ireturn, 1) := by decide +kernel
theorem dX6_copy_16 : decode cX6_copy 16 = .ok (.iload 5, 2) := by decide +kernel
theorem dX6_copy_18 : decode cX6_copy 18 = .ok (.ifCond .ge 9, 3) := by decide +kernel
theorem dX6_copy_21 : decode cX6_copy 21 = .ok (.aload_n 0, 1) := by decide +kernel
theorem dX6_copy_22 : decode cX6_copy 22 = .ok (.iconst 5, 1) := by decide +kernel
theorem dX6_copy_23 : decode cX6_copy 23 = .ok (.invokevirtual 67, 3) := by decide +kernel
theorem dX6_copy_26 : decode cX6_copy 26 = .ok (.ireturn, 1) := by decide +kernel
theorem dX6_copy_27 : decode cX6_copy 27 = .ok (.aload_n 0, 1) := by decide +kernel
theorem dX6_copy_28 : decode cX6_copy 28 = .ok (.getfield 10, 3) := by decide +kernel
theorem dX6_copy_31 : decode cX6_copy 31 = .ok (.iload_n 1, 1) := by decide +kernel
theorem dX6_copy_32 : decode cX6_copy 32 = .ok (.invokevirtual 80, 3) := by decide +kernel
theorem dX6_copy_35 : decode cX6_copy 35 = .ok (.ifCond .ne 14, 3) := by decide +kernel
theorem dX6_copy_38 : decode cX6_copy 38 = .ok (.aload_n 0, 1) := by decide +kernel
theorem dX6_copy_39 : decode cX6_copy 39 = .ok (.getfield 10, 3) := by decide +kernel
theorem dX6_copy_42 : decode cX6_copy 42 = .ok (.iload_n 3, 1) := by decide +kernel
theorem dX6_copy_43 : decode cX6_copy 43 = .ok (.invokevirtual 80, 3) := by decide +kernel
theorem dX6_copy_46 : decode cX6_copy 46 = .ok (.ifCond .eq 9, 3) := by decide +kernel
theorem dX6_copy_49 : decode cX6_copy 49 = .ok (.aload_n 0, 1) := by decide +kernel
theorem dX6_copy_50 : decode cX6_copy 50 = .ok (.iconst 1, 1) := by decide +kernel
theorem dX6_copy_51 : decode cX6_copy 51 = .ok (.invokevirtual 67, 3) := by decide +kernel
theorem dX6_copy_54 : decode cX6_copy 54 = .ok (.ireturn, 1) := by decide +kernel
theorem dX6_copy_55 : decode cX6_copy 55 = .ok (.aload_n 0, 1) := by decide +kernel
theorem dX6_copy_56 : decode cX6_copy 56 = .ok (.getfield 10, 3) := by decide +kernel
theorem dX6_copy_59 : decode cX6_copy 59 = .ok (.iload_n 1, 1) := by decide +kernel
theorem dX6_copy_60 : decode cX6_copy 60 = .ok (.iload_n 2, 1) := by decide +kernel
theorem dX6_copy_61 : decode cX6_copy 61 = .ok (.iload 5, 2) := by decide +kernel
theorem dX6_copy_63 : decode cX6_copy 63 = .ok (.invokevirtual 83, 3) := by decide +kernel
theorem dX6_copy_66 : decode cX6_copy 66 = .ok (.ifCond .eq 18, 3) := by decide +kernel
theorem dX6_copy_69 : decode cX6_copy 69 = .ok (.aload_n 0, 1) := by decide +kernel
theorem dX6_copy_70 : decode cX6_copy 70 = .ok (.getfield 10, 3) := by decide +kernel
theorem dX6_copy_73 : decode cX6_copy 73 = .ok (.iload_n 3, 1) := by decide +kernel
theorem dX6_copy_74 : decode cX6_copy 74 = .ok (.iload 4, 2) := by decide +kernel
theorem dX6_copy_76 : decode cX6_copy 76 = .ok (.iload 5, 2) := by decide +kernel
theorem dX6_copy_78 : decode cX6_copy 78 = .ok (.invokevirtual 83, 3) := by decide +kernel
theorem dX6_copy_81 : decode cX6_copy 81 = .ok (.ifCond .ne 9, 3) := by decide +kernel
theorem dX6_copy_84 : decode cX6_copy 84 = .ok (.aload_n 0, 1) := by decide +kernel
theorem dX6_copy_85 : decode cX6_copy 85 = .ok (.iconst 2, 1) := by decide +kernel
theorem dX6_copy_86 : decode cX6_copy 86 = .ok (.invokevirtual 67, 3) := by decide +kernel
theorem dX6_copy_89 : decode cX6_copy 89 = .ok (.ireturn, 1) := by decide +kernel
theorem dX6_copy_90 : decode cX6_copy 90 = .ok (.aload_n 0, 1) := by decide +kernel
theorem dX6_copy_91 : decode cX6_copy 91 = .ok (.getfield 10, 3) := by decide +kernel
theorem dX6_copy_94 : decode cX6_copy 94 = .ok (.iload_n 1, 1) := by decide +kernel
theorem dX6_copy_95 : decode cX6_copy 95 = .ok (.iload_n 2, 1) := by decide +kernel
theorem dX6_copy_96 : decode cX6_copy 96 = .ok (.iload_n 3, 1) := by decide +kernel
theorem dX6_copy_97 : decode cX6_copy 97 = .ok (.iload 4, 2) := by decide +kernel
theorem dX6_copy_99 : decode cX6_copy 99 = .ok (.iload 5, 2) := by decide +kernel
theorem dX6_copy_101 : decode cX6_copy 101 = .ok (.invokevirtual 99, 3) := by decide +kernel
theorem dX6_copy_104 : decode cX6_copy 104 = .ok (.iconst 1, 1) := by decide +kernel
theorem dX6_copy_105 : decode cX6_copy 105 = .ok (.ireturn, 1) := by decide +kernel
set_option maxRecDepth 20000 in
theorem ggX6_mean_X6_isRow : GoodIn wsX6_mean wsX6_isRow := goodIn_r _ [6, 7, 8, 5, 9] (by decide +kernel) (by decide +kernel)
set_option maxRecDepth 20000 in
theorem gX6_mean_X6_isRow : GoodIn wsX6_mean (va_wsS RX6 63 yX6_isRow wsX6_isRow) := goodIn_app (goodIn_of _ (by decide +kernel)) ggX6_mean_X6_isRow
set_option maxRecDepth 20000 in
theorem ggX6_mean_X4_isMissing : GoodIn wsX6_mean wsX4_isMissing := goodIn_r _ [14, 15, 44, 45] (by decide +kernel) (by decide +kernel)
set_option maxRecDepth 20000 in
theorem gX6_mean_X4_isMissing : GoodIn wsX6_mean (wsV RX6 80 RX4 yX4_isMissing wsX4_isMissing) := goodIn_app (goodIn_of _ (by decide +kernel)) ggX6_mean_X4_isMissing
set_option maxRecDepth 20000 in
theorem ggX6_mean_X6_refuse : GoodIn wsX6_mean wsX6_refuse := goodIn_r _ [19, 20, 21, 7, 8, 5, 9, 35, 36, 37, 38, 39, 40, 41, 42, 43] (by decide +kernel) (by decide +kernel)
set_option maxRecDepth 20000 in
theorem gX6_mean_X6_refuse : GoodIn wsX6_mean (wsV RX6 67 RX6 yX6_refuse wsX6_refuse) := goodIn_app (goodIn_of _ (by decide +kernel)) ggX6_mean_X6_refuse
set_option maxRecDepth 20000 in
theorem ggX6_mean_X4_heldCount : GoodIn wsX6_mean wsX4_heldCount := goodIn_r _ [25, 15, 26, 44, 45] (by decide +kernel) (by decide +kernel)
set_option maxRecDepth 20000 in
theorem gX6_mean_X4_heldCount : GoodIn wsX6_mean (wsV RX6 103 RX4 yX4_heldCount wsX4_heldCount) := goodIn_app (goodIn_of _ (by decide +kernel)) ggX6_mean_X4_heldCount
set_option maxRecDepth 20000 in
theorem ggX6_mean_X4_sizeOf : GoodIn wsX6_mean wsX4_sizeOf := goodIn_r _ [30, 15, 44, 45] (by decide +kernel) (by decide +kernel)
set_option maxRecDepth 20000 in
theorem gX6_mean_X4_sizeOf : GoodIn wsX6_mean (wsV RX6 106 RX4 yX4_sizeOf wsX4_sizeOf) := goodIn_app (goodIn_of _ (by decide +kernel)) ggX6_mean_X4_sizeOf
set_option maxRecDepth 20000 in
theorem ggX6_mean_X4_heldSum : GoodIn wsX6_mean wsX4_heldSum := goodIn_r _ [34, 26, 44, 45] (by decide +kernel) (by decide +kernel)
set_option maxRecDepth 20000 in
theorem gX6_mean_X4_heldSum : GoodIn wsX6_mean (wsV RX6 109 RX4 yX4_heldSum wsX4_heldSum) := goodIn_app (goodIn_of _ (by decide +kernel)) ggX6_mean_X4_heldSum
theorem dX6_mean_0 : decode cX6_mean 0 = .ok (.iload_n 1, 1) := by decide +kernel
theorem dX6_mean_1 : decode cX6_mean 1 = .ok (.invokestatic 63, 3) := by decide +kernel
theorem dX6_mean_4 : decode cX6_mean 4 = .ok (.ifCond .ne 5, 3) := by decide +kernel
theorem dX6_mean_7 : decode cX6_mean 7 = .ok (.iconst (-1), 1) := by decide +kernel
theorem dX6_mean_8 : decode cX6_mean 8 = .ok (.ireturn, 1) := by decide +kernel
theorem dX6_mean_9 : decode cX6_mean 9 = .ok (.aload_n 0, 1) := by decide +kernel
theorem dX6_mean_10 : decode cX6_mean 10 = .ok (.getfield 10, 3) := by decide +kernel
theorem dX6_mean_13 : decode cX6_mean 13 = .ok (.iload_n 1, 1) := by decide +kernel
theorem dX6_mean_14 : decode cX6_mean 14 = .ok (.invokevirtual 80, 3) := by decide +kernel
theorem dX6_mean_17 : decode cX6_mean 17 = .ok (.ifCond .eq 9, 3) := by decide +kernel
theorem dX6_mean_20 : decode cX6_mean 20 = .ok (.aload_n 0, 1) := by decide +kernel
theorem dX6_mean_21 : decode cX6_mean 21 = .ok (.iconst 1, 1) := by decide +kernel
theorem dX6_mean_22 : decode cX6_mean 22 = .ok (.invokevirtual 67, 3) := by decide +kernel
theorem dX6_mean_25 : decode cX6_mean 25 = .ok (.ireturn, 1) := by decide +kernel
theorem dX6_mean_26 : decode cX6_mean 26 = .ok (.aload_n 0, 1) := by decide +kernel
theorem dX6_mean_27 : decode cX6_mean 27 = .ok (.getfield 10, 3) := by decide +kernel
theorem dX6_mean_30 : decode cX6_mean 30 = .ok (.iload_n 1, 1) := by decide +kernel
theorem dX6_mean_31 : decode cX6_mean 31 = .ok (.invokevirtual 103, 3) := by decide +kernel
theorem dX6_mean_34 : decode cX6_mean 34 = .ok (.istore_n 2, 1) := by decide +kernel
theorem dX6_mean_35 : decode cX6_mean 35 = .ok (.iload_n 2, 1) := by decide +kernel
theorem dX6_mean_36 : decode cX6_mean 36 = .ok (.ifCond .ne 9, 3) := by decide +kernel
theorem dX6_mean_39 : decode cX6_mean 39 = .ok (.aload_n 0, 1) := by decide +kernel
theorem dX6_mean_40 : decode cX6_mean 40 = .ok (.iconst 4, 1) := by decide +kernel
theorem dX6_mean_41 : decode cX6_mean 41 = .ok (.invokevirtual 67, 3) := by decide +kernel
theorem dX6_mean_44 : decode cX6_mean 44 = .ok (.ireturn, 1) := by decide +kernel
theorem dX6_mean_45 : decode cX6_mean 45 = .ok (.aload_n 0, 1) := by decide +kernel
theorem dX6_mean_46 : decode cX6_mean 46 = .ok (.aload_n 0, 1) := by decide +kernel
theorem dX6_mean_47 : decode cX6_mean 47 = .ok (.getfield 10, 3) := by decide +kernel
theorem dX6_mean_50 : decode cX6_mean 50 = .ok (.iload_n 1, 1) := by decide +kernel
theorem dX6_mean_51 : decode cX6_mean 51 = .ok (.iconst 0, 1) := by decide +kernel
theorem dX6_mean_52 : decode cX6_mean 52 = .ok (.aload_n 0, 1) := by decide +kernel
theorem dX6_mean_53 : decode cX6_mean 53 = .ok (.getfield 10, 3) := by decide +kernel
theorem dX6_mean_56 : decode cX6_mean 56 = .ok (.iload_n 1, 1) := by decide +kernel
theorem dX6_mean_57 : decode cX6_mean 57 = .ok (.invokevirtual 106, 3) := by decide +kernel
theorem dX6_mean_60 : decode cX6_mean 60 = .ok (.invokevirtual 109, 3) := by decide +kernel
theorem dX6_mean_63 : decode cX6_mean 63 = .ok (.iload_n 2, 1) := by decide +kernel
theorem dX6_mean_64 : decode cX6_mean 64 = .ok (.idiv, 1) := by decide +kernel
theorem dX6_mean_65 : decode cX6_mean 65 = .ok (.i2l, 1) := by decide +kernel
theorem dX6_mean_66 : decode cX6_mean 66 = .ok (.putfield 59, 3) := by decide +kernel
theorem dX6_mean_69 : decode cX6_mean 69 = .ok (.iconst 1, 1) := by decide +kernel
theorem dX6_mean_70 : decode cX6_mean 70 = .ok (.ireturn, 1) := by decide +kernel
set_option maxRecDepth 20000 in
theorem ggX6_plateau_X6_isRow : GoodIn wsX6_plateau wsX6_isRow := goodIn_r _ [8, 9, 10, 7, 11] (by decide +kernel) (by decide +kernel)
set_option maxRecDepth 20000 in
theorem gX6_plateau_X6_isRow : GoodIn wsX6_plateau (va_wsS RX6 63 yX6_isRow wsX6_isRow) := goodIn_app (goodIn_of _ (by decide +kernel)) ggX6_plateau_X6_isRow
set_option maxRecDepth 20000 in
theorem ggX6_plateau_X6_isBetween : GoodIn wsX6_plateau wsX6_isBetween := goodIn_r _ [11] (by decide +kernel) (by decide +kernel)
set_option maxRecDepth 20000 in
theorem gX6_plateau_X6_isBetween : GoodIn wsX6_plateau (va_wsS RX6 113 yX6_isBetween wsX6_isBetween) := goodIn_app (goodIn_of _ (by decide +kernel)) ggX6_plateau_X6_isBetween
set_option maxRecDepth 20000 in
theorem ggX6_plateau_X4_isMissing : GoodIn wsX6_plateau wsX4_isMissing := goodIn_r _ [16, 17, 68, 69] (by decide +kernel) (by decide +kernel)
set_option maxRecDepth 20000 in
theorem gX6_plateau_X4_isMissing : GoodIn wsX6_plateau (wsV RX6 80 RX4 yX4_isMissing wsX4_isMissing) := goodIn_app (goodIn_of _ (by decide +kernel)) ggX6_plateau_X4_isMissing
set_option maxRecDepth 20000 in
theorem ggX6_plateau_X6_refuse : GoodIn wsX6_plateau wsX6_refuse := goodIn_r _ [21, 22, 23, 9, 10, 7, 11, 59, 60, 61, 62, 63, 64, 65, 66, 67] (by decide +kernel) (by decide +kernel)
set_option maxRecDepth 20000 in
theorem gX6_plateau_X6_refuse : GoodIn wsX6_plateau (wsV RX6 67 RX6 yX6_refuse wsX6_refuse) := goodIn_app (goodIn_of _ (by decide +kernel)) ggX6_plateau_X6_refuse
set_option maxRecDepth 20000 in
theorem ggX6_plateau_X4_longestLevelStart : GoodIn wsX6_plateau wsX4_longestLevelStart := goodIn_r _ [27, 17, 28, 29, 30, 15, 31, 32, 33, 34, 35, 36, 37, 38, 39, 40, 41, 68, 69] (by decide +kernel) (by decide +kernel)
set_option maxRecDepth 20000 in
theorem gX6_plateau_X4_longestLevelStart : GoodIn wsX6_plateau (wsV RX6 116 RX4 yX4_longestLevelStart wsX4_longestLevelStart) := goodIn_app (goodIn_of _ (by decide +kernel)) ggX6_plateau_X4_longestLevelStart
set_option maxRecDepth 20000 in
theorem ggX6_plateau_X4_levelLength : GoodIn wsX6_plateau wsX4_levelLength := goodIn_r _ [31, 32, 33, 17, 34, 35, 36, 37, 38, 39, 40, 41, 68, 69] (by decide +kernel) (by decide +kernel)
set_option maxRecDepth 20000 in
theorem gX6_plateau_X4_levelLength : GoodIn wsX6_plateau (wsV RX6 119 RX4 yX4_levelLength wsX4_levelLength) := goodIn_app (goodIn_of _ (by decide +kernel)) ggX6_plateau_X4_levelLength
set_option maxRecDepth 20000 in
theorem ggX6_plateau_X4_heldSum : GoodIn wsX6_plateau wsX4_heldSum := goodIn_r _ [46, 34, 68, 69] (by decide +kernel) (by decide +kernel)
set_option maxRecDepth 20000 in
theorem gX6_plateau_X4_heldSum : GoodIn wsX6_plateau (wsV RX6 109 RX4 yX4_heldSum wsX4_heldSum) := goodIn_app (goodIn_of _ (by decide +kernel)) ggX6_plateau_X4_heldSum
set_option maxRecDepth 20000 in
theorem ggX6_plateau_X2_tell : GoodIn wsX6_plateau wsX2_tell := goodIn_r _ [51, 52, 53, 54, 7, 55, 56, 57, 37, 58, 70, 71] (by decide +kernel) (by decide +kernel)
set_option maxRecDepth 20000 in
theorem gX6_plateau_X2_tell : GoodIn wsX6_plateau (wsV RX6 122 RX2 yX2_tell wsX2_tell) := goodIn_app (goodIn_of _ (by decide +kernel)) ggX6_plateau_X2_tell
theorem dX6_plateau_0 : decode cX6_plateau 0 = .ok (.iload_n 1, 1) := by decide +kernel
theorem dX6_plateau_1 : decode cX6_plateau 1 = .ok (.invokestatic 63, 3) := by decide +kernel
theorem dX6_plateau_4 : decode cX6_plateau 4 = .ok (.ifCond .eq 23, 3) := by decide +kernel
theorem dX6_plateau_7 : decode cX6_plateau 7 = .ok (.iload_n 2, 1) := by decide +kernel
theorem dX6_plateau_8 : decode cX6_plateau 8 = .ok (.iconst 0, 1) := by decide +kernel
theorem dX6_plateau_9 : decode cX6_plateau 9 = .ok (.ldc 75, 2) := by decide +kernel
theorem dX6_plateau_11 : decode cX6_plateau 11 = .ok (.invokestatic 113, 3) := by decide +kernel
theorem dX6_plateau_14 : decode cX6_plateau 14 = .ok (.ifCond .eq 13, 3) := by decide +kernel
theorem dX6_plateau_17 : decode cX6_plateau 17 = .ok (.iload_n 3, 1) := by decide +kernel
theorem dX6_plateau_18 : decode cX6_plateau 18 = .ok (.iconst 1, 1) := by decide +kernel
theorem dX6_plateau_19 : decode cX6_plateau 19 = .ok (.bipush 40, 2) := by decide +kernel
theorem dX6_plateau_21 : decode cX6_plateau 21 = .ok (.invokestatic 113, 3) := by decide +kernel
theorem dX6_plateau_24 : decode cX6_plateau 24 = .ok (.ifCond .ne 5, 3) := by decide +kernel
theorem dX6_plateau_27 : decode cX6_plateau 27 = .ok (.iconst (-1), 1) := by decide +kernel
theorem dX6_plateau_28 : decode cX6_plateau 28 = .ok (.ireturn, 1) := by decide +kernel
theorem dX6_plateau_29 : decode cX6_plateau 29 = .ok (.aload_n 0, 1) := by decide +kernel
theorem dX6_plateau_30 : decode cX6_plateau 30 = .ok (.getfield 10, 3) := by decide +kernel
theorem dX6_plateau_33 : decode cX6_plateau 33 = .ok (.iload_n 1, 1) := by decide +kernel
theorem dX6_plateau_34 : decode cX6_plateau 34 = .ok (.invokevirtual 80, 3) := by decide +kernel
theorem dX6_plateau_37 : decode cX6_plateau 37 = .ok (.ifCond .eq 9, 3) := by decide +kernel
theorem dX6_plateau_40 : decode cX6_plateau 40 = .ok (.aload_n 0, 1) := by decide +kernel
theorem dX6_plateau_41 : decode cX6_plateau 41 = .ok (.iconst 1, 1) := by decide +kernel
theorem dX6_plateau_42 : decode cX6_plateau 42 = .ok (.invokevirtual 67, 3) := by decide +kernel
theorem dX6_plateau_45 : decode cX6_plateau 45 = .ok (.ireturn, 1) := by decide +kernel
theorem dX6_plateau_46 : decode cX6_plateau 46 = .ok (.aload_n 0, 1) := by decide +kernel
theorem dX6_plateau_47 : decode cX6_plateau 47 = .ok (.getfield 10, 3) := by decide +kernel
theorem dX6_plateau_50 : decode cX6_plateau 50 = .ok (.iload_n 1, 1) := by decide +kernel
theorem dX6_plateau_51 : decode cX6_plateau 51 = .ok (.iload_n 2, 1) := by decide +kernel
theorem dX6_plateau_52 : decode cX6_plateau 52 = .ok (.invokevirtual 116, 3) := by decide +kernel
theorem dX6_plateau_55 : decode cX6_plateau 55 = .ok (.istore 4, 2) := by decide +kernel
theorem dX6_plateau_57 : decode cX6_plateau 57 = .ok (.aload_n 0, 1) := by decide +kernel
theorem dX6_plateau_58 : decode cX6_plateau 58 = .ok (.getfield 10, 3) := by decide +kernel
theorem dX6_plateau_61 : decode cX6_plateau 61 = .ok (.iload_n 1, 1) := by decide +kernel
theorem dX6_plateau_62 : decode cX6_plateau 62 = .ok (.iload 4, 2) := by decide +kernel
theorem dX6_plateau_64 : decode cX6_plateau 64 = .ok (.iload_n 2, 1) := by decide +kernel
theorem dX6_plateau_65 : decode cX6_plateau 65 = .ok (.invokevirtual 119, 3) := by decide +kernel
theorem dX6_plateau_68 : decode cX6_plateau 68 = .ok (.istore 5, 2) := by decide +kernel
theorem dX6_plateau_70 : decode cX6_plateau 70 = .ok (.iload 5, 2) := by decide +kernel
theorem dX6_plateau_72 : decode cX6_plateau 72 = .ok (.iload_n 3, 1) := by decide +kernel
theorem dX6_plateau_73 : decode cX6_plateau 73 = .ok (.if_icmp .ge 6, 3) := by decide +kernel
theorem dX6_plateau_76 : decode cX6_plateau 76 = .ok (.bipush (-9), 2) := by decide +kernel
theorem dX6_plateau_78 : decode cX6_plateau 78 = .ok (.ireturn, 1) := by decide +kernel
theorem dX6_plateau_79 : decode cX6_plateau 79 = .ok (.aload_n 0, 1) := by decide +kernel
theorem dX6_plateau_80 : decode cX6_plateau 80 = .ok (.getfield 47, 3) := by decide +kernel
theorem dX6_plateau_83 : decode cX6_plateau 83 = .ok (.aload_n 0, 1) := by decide +kernel
theorem dX6_plateau_84 : decode cX6_plateau 84 = .ok (.getfield 10, 3) := by decide +kernel
theorem dX6_plateau_87 : decode cX6_plateau 87 = .ok (.iload_n 1, 1) := by decide +kernel
theorem dX6_plateau_88 : decode cX6_plateau 88 = .ok (.iload 4, 2) := by decide +kernel
theorem dX6_plateau_90 : decode cX6_plateau 90 = .ok (.iload 5, 2) := by decide +kernel
theorem dX6_plateau_92 : decode cX6_plateau 92 = .ok (.invokevirtual 109, 3) := by decide +kernel
theorem dX6_plateau_95 : decode cX6_plateau 95 = .ok (.i2l, 1) := by decide +kernel
theorem dX6_plateau_96 : decode cX6_plateau 96 = .ok (.iload 5, 2) := by decide +kernel
theorem dX6_plateau_98 : decode cX6_plateau 98 = .ok (.i2l, 1) := by decide +kernel
theorem dX6_plateau_99 : decode cX6_plateau 99 = .ok (.invokevirtual 122, 3) := by decide +kernel
theorem dX6_plateau_102 : decode cX6_plateau 102 = .ok (.aload_n 0, 1) := by decide +kernel
theorem dX6_plateau_103 : decode cX6_plateau 103 = .ok (.iload 5, 2) := by decide +kernel
theorem dX6_plateau_105 : decode cX6_plateau 105 = .ok (.i2l, 1) := by decide +kernel
theorem dX6_plateau_106 : decode cX6_plateau 106 = .ok (.putfield 59, 3) := by decide +kernel
theorem dX6_plateau_109 : decode cX6_plateau 109 = .ok (.iload 4, 2) := by decide +kernel
theorem dX6_plateau_111 : decode cX6_plateau 111 = .ok (.ireturn, 1) := by decide +kernel
set_option maxRecDepth 20000 in
theorem ggX6_point_X6_isTable : GoodIn wsX6_point wsX6_isTable := goodIn_r _ [5, 6, 7, 4, 8] (by decide +kernel) (by decide +kernel)
set_option maxRecDepth 20000 in
theorem gX6_point_X6_isTable : GoodIn wsX6_point (va_wsS RX6 126 yX6_isTable wsX6_isTable) := goodIn_app (goodIn_of _ (by decide +kernel)) ggX6_point_X6_isTable
set_option maxRecDepth 20000 in
theorem ggX6_point_X6_isWithin : GoodIn wsX6_point wsX6_isWithin := goodIn_r _ [11, 6, 7, 4, 8] (by decide +kernel) (by decide +kernel)
set_option maxRecDepth 20000 in
theorem gX6_point_X6_isWithin : GoodIn wsX6_point (va_wsS RX6 76 yX6_isWithin wsX6_isWithin) := goodIn_app (goodIn_of _ (by decide +kernel)) ggX6_point_X6_isWithin
set_option maxRecDepth 20000 in
theorem ggX6_point_X5_hasX : GoodIn wsX6_point wsX5_hasX := goodIn_r _ [16, 17, 18, 37, 38, 39] (by decide +kernel) (by decide +kernel)
set_option maxRecDepth 20000 in
theorem gX6_point_X5_hasX : GoodIn wsX6_point (wsV RX6 129 RX5 yX5_hasX wsX5_hasX) := goodIn_app (goodIn_of _ (by decide +kernel)) ggX6_point_X5_hasX
set_option maxRecDepth 20000 in
theorem ggX6_point_X5_sizeOf : GoodIn wsX6_point wsX5_sizeOf := goodIn_r _ [22, 17, 37, 38, 39] (by decide +kernel) (by decide +kernel)
set_option maxRecDepth 20000 in
theorem gX6_point_X5_sizeOf : GoodIn wsX6_point (wsV RX6 132 RX5 yX5_sizeOf wsX5_sizeOf) := goodIn_app (goodIn_of _ (by decide +kernel)) ggX6_point_X5_sizeOf
set_option maxRecDepth 20000 in
theorem ggX6_point_X5_add : GoodIn wsX6_point wsX5_add := goodIn_r _ [26, 17, 18, 27, 37, 38, 39] (by decide +kernel) (by decide +kernel)
set_option maxRecDepth 20000 in
theorem gX6_point_X5_add : GoodIn wsX6_point (wsV RX6 133 RX5 yX5_add wsX5_add) := goodIn_app (goodIn_of _ (by decide +kernel)) ggX6_point_X5_add
theorem dX6_point_0 : decode cX6_point 0 = .ok (.iload_n 1, 1) := by decide +kernel
theorem dX6_point_1 : decode cX6_point 1 = .ok (.invokestatic 126, 3) := by decide +kernel
theorem dX6_point_4 : decode cX6_point 4 = .ok (.ifCond .eq 34, 3) := by decide +kernel
theorem dX6_point_7 : decode cX6_point 7 = .ok (.iload_n 2, 1) := by decide +kernel
theorem dX6_point_8 : decode cX6_point 8 = .ok (.bipush 20, 2) := by decide +kernel
theorem dX6_point_10 : decode cX6_point 10 = .ok (.invokestatic 76, 3) := by decide +kernel
theorem dX6_point_13 : decode cX6_point 13 = .ok (.ifCond .eq 25, 3) := by decide +kernel
theorem dX6_point_16 : decode cX6_point 16 = .ok (.iload_n 3, 1) := by decide +kernel
theorem dX6_point_17 : decode cX6_point 17 = .ok (.sipush 10000, 3) := by decide +kernel
theorem dX6_point_20 : decode cX6_point 20 = .ok (.invokestatic 76, 3) := by decide +kernel
theorem dX6_point_23 : decode cX6_point 23 = .ok (.ifCond .eq 15, 3) := by decide +kernel
theorem dX6_point_26 : decode cX6_point 26 = .ok (.aload_n 0, 1) := by decide +kernel
theorem dX6_point_27 : decode cX6_point 27 = .ok (.getfield 19, 3) := by decide +kernel
theorem dX6_point_30 : decode cX6_point 30 = .ok (.iload_n 1, 1) := by decide +kernel
theorem dX6_point_31 : decode cX6_point 31 = .ok (.iload_n 2, 1) := by decide +kernel
theorem dX6_point_32 : decode cX6_point 32 = .ok (.invokevirtual 129, 3) := by decide +kernel
theorem dX6_point_35 : decode cX6_point 35 = .ok (.ifCond .eq 5, 3) := by decide +kernel
theorem dX6_point_38 : decode cX6_point 38 = .ok (.iconst (-1), 1) := by decide +kernel
theorem dX6_point_39 : decode cX6_point 39 = .ok (.ireturn, 1) := by decide +kernel
theorem dX6_point_40 : decode cX6_point 40 = .ok (.aload_n 0, 1) := by decide +kernel
theorem dX6_point_41 : decode cX6_point 41 = .ok (.getfield 19, 3) := by decide +kernel
theorem dX6_point_44 : decode cX6_point 44 = .ok (.iload_n 1, 1) := by decide +kernel
theorem dX6_point_45 : decode cX6_point 45 = .ok (.invokevirtual 132, 3) := by decide +kernel
theorem dX6_point_48 : decode cX6_point 48 = .ok (.iconst 4, 1) := by decide +kernel
theorem dX6_point_49 : decode cX6_point 49 = .ok (.if_icmp .lt 6, 3) := by decide +kernel
theorem dX6_point_52 : decode cX6_point 52 = .ok (.bipush (-2), 2) := by decide +kernel
theorem dX6_point_54 : decode cX6_point 54 = .ok (.ireturn, 1) := by decide +kernel
theorem dX6_point_55 : decode cX6_point 55 = .ok (.aload_n 0, 1) := by decide +kernel
theorem dX6_point_56 : decode cX6_point 56 = .ok (.getfield 19, 3) := by decide +kernel
theorem dX6_point_59 : decode cX6_point 59 = .ok (.iload_n 1, 1) := by decide +kernel
theorem dX6_point_60 : decode cX6_point 60 = .ok (.iload_n 2, 1) := by decide +kernel
theorem dX6_point_61 : decode cX6_point 61 = .ok (.iload_n 3, 1) := by decide +kernel
theorem dX6_point_62 : decode cX6_point 62 = .ok (.invokevirtual 133, 3) := by decide +kernel
theorem dX6_point_65 : decode cX6_point 65 = .ok (.ireturn, 1) := by decide +kernel
set_option maxRecDepth 20000 in
theorem ggX6_clear_X6_isTable : GoodIn wsX6_clear wsX6_isTable := goodIn_r _ [5, 6, 7, 4, 8] (by decide +kernel) (by decide +kernel)
set_option maxRecDepth 20000 in
theorem gX6_clear_X6_isTable : GoodIn wsX6_clear (va_wsS RX6 126 yX6_isTable wsX6_isTable) := goodIn_app (goodIn_of _ (by decide +kernel)) ggX6_clear_X6_isTable
set_option maxRecDepth 20000 in
theorem ggX6_clear_X5_empty : GoodIn wsX6_clear wsX5_empty := goodIn_r _ [13, 14, 24, 25, 26] (by decide +kernel) (by decide +kernel)
set_option maxRecDepth 20000 in
theorem gX6_clear_X5_empty : GoodIn wsX6_clear (wsV RX6 136 RX5 yX5_empty wsX5_empty) := goodIn_app (goodIn_of _ (by decide +kernel)) ggX6_clear_X5_empty
theorem dX6_clear_0 : decode cX6_clear 0 = .ok (.iload_n 1, 1) := by decide +kernel
theorem dX6_clear_1 : decode cX6_clear 1 = .ok (.invokestatic 126, 3) := by decide +kernel
theorem dX6_clear_4 : decode cX6_clear 4 = .ok (.ifCond .eq 14, 3) := by decide +kernel
theorem dX6_clear_7 : decode cX6_clear 7 = .ok (.aload_n 0, 1) := by decide +kernel
theorem dX6_clear_8 : decode cX6_clear 8 = .ok (.getfield 19, 3) := by decide +kernel
theorem dX6_clear_11 : decode cX6_clear 11 = .ok (.iload_n 1, 1) := by decide +kernel
theorem dX6_clear_12 : decode cX6_clear 12 = .ok (.invokevirtual 136, 3) := by decide +kernel
theorem dX6_clear_15 : decode cX6_clear 15 = .ok (.goto 4, 3) := by decide +kernel
theorem dX6_clear_18 : decode cX6_clear 18 = .ok (.iconst (-1), 1) := by decide +kernel
theorem dX6_clear_19 : decode cX6_clear 19 = .ok (.ireturn, 1) := by decide +kernel
set_option maxRecDepth 20000 in
theorem ggX6_curve_X6_isTable : GoodIn wsX6_curve wsX6_isTable := goodIn_r _ [6, 7, 8, 5, 9] (by decide +kernel) (by decide +kernel)
set_option maxRecDepth 20000 in
theorem gX6_curve_X6_isTable : GoodIn wsX6_curve (va_wsS RX6 126 yX6_isTable wsX6_isTable) := goodIn_app (goodIn_of _ (by decide +kernel)) ggX6_curve_X6_isTable
set_option maxRecDepth 20000 in
theorem ggX6_curve_X6_isWithin : GoodIn wsX6_curve wsX6_isWithin := goodIn_r _ [12, 7, 8, 5, 9] (by decide +kernel) (by decide +kernel)
set_option maxRecDepth 20000 in
theorem gX6_curve_X6_isWithin : GoodIn wsX6_curve (va_wsS RX6 76 yX6_isWithin wsX6_isWithin) := goodIn_app (goodIn_of _ (by decide +kernel)) ggX6_curve_X6_isWithin
set_option maxRecDepth 20000 in
theorem ggX6_curve_X5_sizeOf : GoodIn wsX6_curve wsX5_sizeOf := goodIn_r _ [17, 18, 58, 59, 60] (by decide +kernel) (by decide +kernel)
set_option maxRecDepth 20000 in
theorem gX6_curve_X5_sizeOf : GoodIn wsX6_curve (wsV RX6 132 RX5 yX5_sizeOf wsX5_sizeOf) := goodIn_app (goodIn_of _ (by decide +kernel)) ggX6_curve_X5_sizeOf
set_option maxRecDepth 20000 in
theorem ggX6_curve_X5_commonLower : GoodIn wsX6_curve wsX5_commonLower := goodIn_r _ [22, 18, 23, 24, 25, 26, 16, 27, 28, 5, 29, 30, 31, 32, 33, 34, 35, 36, 58, 59, 60] (by decide +kernel) (by decide +kernel)
set_option maxRecDepth 20000 in
theorem gX6_curve_X5_commonLower : GoodIn wsX6_curve (wsV RX6 139 RX5 yX5_commonLower wsX5_commonLower) := goodIn_app (goodIn_of _ (by decide +kernel)) ggX6_curve_X5_commonLower
set_option maxRecDepth 20000 in
theorem ggX6_curve_X5_worthAt : GoodIn wsX6_curve wsX5_worthAt := goodIn_r _ [40, 18, 23, 41, 24, 25, 26, 16, 27, 58, 59, 60] (by decide +kernel) (by decide +kernel)
set_option maxRecDepth 20000 in
theorem gX6_curve_X5_worthAt : GoodIn wsX6_curve (wsV RX6 143 RX5 yX5_worthAt wsX5_worthAt) := goodIn_app (goodIn_of _ (by decide +kernel)) ggX6_curve_X5_worthAt
set_option maxRecDepth 20000 in
theorem ggX6_curve_X2_tell : GoodIn wsX6_curve wsX2_tell := goodIn_r _ [46, 47, 48, 35, 5, 36, 30, 31, 32, 33, 61, 62] (by decide +kernel) (by decide +kernel)
set_option maxRecDepth 20000 in
theorem gX6_curve_X2_tell : GoodIn wsX6_curve (wsV RX6 122 RX2 yX2_tell wsX2_tell) := goodIn_app (goodIn_of _ (by decide +kernel)) ggX6_curve_X2_tell
theorem dX6_curve_0 : decode cX6_curve 0 = .ok (.iload_n 1, 1) := by decide +kernel
theorem dX6_curve_1 : decode cX6_curve 1 = .ok (.invokestatic 126, 3) := by decide +kernel
theorem dX6_curve_4 : decode cX6_curve 4 = .ok (.ifCond .eq 12, 3) := by decide +kernel
theorem dX6_curve_7 : decode cX6_curve 7 = .ok (.iload_n 2, 1) := by decide +kernel
theorem dX6_curve_8 : decode cX6_curve 8 = .ok (.bipush 20, 2) := by decide +kernel
theorem dX6_curve_10 : decode cX6_curve 10 = .ok (.invokestatic 76, 3) := by decide +kernel
theorem dX6_curve_13 : decode cX6_curve 13 = .ok (.ifCond .ne 5, 3) := by decide +kernel
theorem dX6_curve_16 : decode cX6_curve 16 = .ok (.iconst (-1), 1) := by decide +kernel
theorem dX6_curve_17 : decode cX6_curve 17 = .ok (.ireturn, 1) := by decide +kernel
theorem dX6_curve_18 : decode cX6_curve 18 = .ok (.aload_n 0, 1) := by decide +kernel
theorem dX6_curve_19 : decode cX6_curve 19 = .ok (.getfield 19, 3) := by decide +kernel
theorem dX6_curve_22 : decode cX6_curve 22 = .ok (.iload_n 1, 1) := by decide +kernel
theorem dX6_curve_23 : decode cX6_curve 23 = .ok (.invokevirtual 132, 3) := by decide +kernel
theorem dX6_curve_26 : decode cX6_curve 26 = .ok (.ifCond .ne 6, 3) := by decide +kernel
theorem dX6_curve_29 : decode cX6_curve 29 = .ok (.bipush (-4), 2) := by decide +kernel
theorem dX6_curve_31 : decode cX6_curve 31 = .ok (.ireturn, 1) := by decide +kernel
theorem dX6_curve_32 : decode cX6_curve 32 = .ok (.aload_n 0, 1) := by decide +kernel
theorem dX6_curve_33 : decode cX6_curve 33 = .ok (.getfield 19, 3) := by decide +kernel
theorem dX6_curve_36 : decode cX6_curve 36 = .ok (.iload_n 1, 1) := by decide +kernel
theorem dX6_curve_37 : decode cX6_curve 37 = .ok (.invokevirtual 139, 3) := by decide +kernel
theorem dX6_curve_40 : decode cX6_curve 40 = .ok (.lstore_n 3, 1) := by decide +kernel
theorem dX6_curve_41 : decode cX6_curve 41 = .ok (.aload_n 0, 1) := by decide +kernel
theorem dX6_curve_42 : decode cX6_curve 42 = .ok (.getfield 47, 3) := by decide +kernel
theorem dX6_curve_45 : decode cX6_curve 45 = .ok (.aload_n 0, 1) := by decide +kernel
theorem dX6_curve_46 : decode cX6_curve 46 = .ok (.getfield 19, 3) := by decide +kernel
theorem dX6_curve_49 : decode cX6_curve 49 = .ok (.iload_n 1, 1) := by decide +kernel
theorem dX6_curve_50 : decode cX6_curve 50 = .ok (.iload_n 2, 1) := by decide +kernel
theorem dX6_curve_51 : decode cX6_curve 51 = .ok (.lload_n 3, 1) := by decide +kernel
theorem dX6_curve_52 : decode cX6_curve 52 = .ok (.invokevirtual 143, 3) := by decide +kernel
theorem dX6_curve_55 : decode cX6_curve 55 = .ok (.lload_n 3, 1) := by decide +kernel
theorem dX6_curve_56 : decode cX6_curve 56 = .ok (.invokevirtual 122, 3) := by decide +kernel
theorem dX6_curve_59 : decode cX6_curve 59 = .ok (.iconst 1, 1) := by decide +kernel
theorem dX6_curve_60 : decode cX6_curve 60 = .ok (.ireturn, 1) := by decide +kernel
set_option maxRecDepth 20000 in
theorem ggX6_apart_X6_isTable : GoodIn wsX6_apart wsX6_isTable := goodIn_r _ [11, 12, 13, 10, 14] (by decide +kernel) (by decide +kernel)
set_option maxRecDepth 20000 in
theorem gX6_apart_X6_isTable : GoodIn wsX6_apart (va_wsS RX6 126 yX6_isTable wsX6_isTable) := goodIn_app (goodIn_of _ (by decide +kernel)) ggX6_apart_X6_isTable
set_option maxRecDepth 20000 in
theorem ggX6_apart_X6_isWithin : GoodIn wsX6_apart wsX6_isWithin := goodIn_r _ [17, 12, 13, 10, 14] (by decide +kernel) (by decide +kernel)
set_option maxRecDepth 20000 in
theorem gX6_apart_X6_isWithin : GoodIn wsX6_apart (va_wsS RX6 76 yX6_isWithin wsX6_isWithin) := goodIn_app (goodIn_of _ (by decide +kernel)) ggX6_apart_X6_isWithin
set_option maxRecDepth 20000 in
theorem ggX6_apart_X5_sizeOf : GoodIn wsX6_apart wsX5_sizeOf := goodIn_r _ [22, 23, 60, 61, 62] (by decide +kernel) (by decide +kernel)
set_option maxRecDepth 20000 in
theorem gX6_apart_X5_sizeOf : GoodIn wsX6_apart (wsV RX6 132 RX5 yX5_sizeOf wsX5_sizeOf) := goodIn_app (goodIn_of _ (by decide +kernel)) ggX6_apart_X5_sizeOf
set_option maxRecDepth 20000 in
theorem ggX6_apart_X5_commonLower : GoodIn wsX6_apart wsX5_commonLower := goodIn_r _ [27, 23, 28, 29, 30, 31, 21, 32, 33, 10, 34, 3, 4, 5, 6, 35, 36, 37, 60, 61, 62] (by decide +kernel) (by decide +kernel)
set_option maxRecDepth 20000 in
theorem gX6_apart_X5_commonLower : GoodIn wsX6_apart (wsV RX6 139 RX5 yX5_commonLower wsX5_commonLower) := goodIn_app (goodIn_of _ (by decide +kernel)) ggX6_apart_X5_commonLower
set_option maxRecDepth 20000 in
theorem ggX6_apart_X6_leastMultiple : GoodIn wsX6_apart wsX6_leastMultiple := goodIn_r _ [34, 3, 4, 5, 6, 35, 36, 10, 37] (by decide +kernel) (by decide +kernel)
set_option maxRecDepth 20000 in
theorem gX6_apart_X6_leastMultiple : GoodIn wsX6_apart (va_wsS RX6 147 yX6_leastMultiple wsX6_leastMultiple) := goodIn_app (goodIn_of _ (by decide +kernel)) ggX6_apart_X6_leastMultiple
set_option maxRecDepth 20000 in
theorem ggX6_apart_X5_worthAt : GoodIn wsX6_apart wsX5_worthAt := goodIn_r _ [42, 23, 28, 43, 29, 30, 31, 21, 32, 60, 61, 62] (by decide +kernel) (by decide +kernel)
set_option maxRecDepth 20000 in
theorem gX6_apart_X5_worthAt : GoodIn wsX6_apart (wsV RX6 143 RX5 yX5_worthAt wsX5_worthAt) := goodIn_app (goodIn_of _ (by decide +kernel)) ggX6_apart_X5_worthAt
set_option maxRecDepth 20000 in
theorem ggX6_apart_X2_tell : GoodIn wsX6_apart wsX2_tell := goodIn_r _ [48, 49, 50, 36, 10, 37, 3, 4, 5, 6, 63, 64] (by decide +kernel) (by decide +kernel)
set_option maxRecDepth 20000 in
theorem gX6_apart_X2_tell : GoodIn wsX6_apart (wsV RX6 122 RX2 yX2_tell wsX2_tell) := goodIn_app (goodIn_of _ (by decide +kernel)) ggX6_apart_X2_tell
theorem dX6_apart_0 : decode cX6_apart 0 = .ok (.iload_n 1, 1) := by decide +kernel
theorem dX6_apart_1 : decode cX6_apart 1 = .ok (.invokestatic 126, 3) := by decide +kernel
theorem dX6_apart_4 : decode cX6_apart 4 = .ok (.ifCond .eq 35, 3) := by decide +kernel
theorem dX6_apart_7 : decode cX6_apart 7 = .ok (.iload_n 2, 1) := by decide +kernel
theorem dX6_apart_8 : decode cX6_apart 8 = .ok (.invokestatic 126, 3) := by decide +kernel
theorem dX6_apart_11 : decode cX6_apart 11 = .ok (.ifCond .eq 28, 3) := by decide +kernel
theorem dX6_apart_14 : decode cX6_apart 14 = .ok (.iload_n 3, 1) := by decide +kernel
theorem dX6_apart_15 : decode cX6_apart 15 = .ok (.bipush 20, 2) := by decide +kernel
theorem dX6_apart_17 : decode cX6_apart 17 = .ok (.invokestatic 76, 3) := by decide +kernel
theorem dX6_apart_20 : decode cX6_apart 20 = .ok (.ifCond .eq 19, 3) := by decide +kernel
theorem dX6_apart_23 : decode cX6_apart 23 = .ok (.iload 4, 2) := by decide +kernel
theorem dX6_apart_25 : decode cX6_apart 25 = .ok (.bipush 20, 2) := by decide +kernel
theorem dX6_apart_27 : decode cX6_apart 27 = .ok (.invokestatic 76, 3) := by decide +kernel
theorem dX6_apart_30 : decode cX6_apart 30 = .ok (.ifCond .eq 9, 3) := by decide +kernel
theorem dX6_apart_33 : decode cX6_apart 33 = .ok (.iload_n 3, 1) := by decide +kernel
theorem dX6_apart_34 : decode cX6_apart 34 = .ok (.iload 4, 2) := by decide +kernel
theorem dX6_apart_36 : decode cX6_apart 36 = .ok (.if_icmp .le 5, 3) := by decide +kernel
theorem dX6_apart_39 : decode cX6_apart 39 = .ok (.iconst (-1), 1) := by decide +kernel
theorem dX6_apart_40 : decode cX6_apart 40 = .ok (.ireturn, 1) := by decide +kernel
theorem dX6_apart_41 : decode cX6_apart 41 = .ok (.aload_n 0, 1) := by decide +kernel
theorem dX6_apart_42 : decode cX6_apart 42 = .ok (.getfield 19, 3) := by decide +kernel
theorem dX6_apart_45 : decode cX6_apart 45 = .ok (.iload_n 1, 1) := by decide +kernel
theorem dX6_apart_46 : decode cX6_apart 46 = .ok (.invokevirtual 132, 3) := by decide +kernel
theorem dX6_apart_49 : decode cX6_apart 49 = .ok (.ifCond .eq 14, 3) := by decide +kernel
theorem dX6_apart_52 : decode cX6_apart 52 = .ok (.aload_n 0, 1) := by decide +kernel
theorem dX6_apart_53 : decode cX6_apart 53 = .ok (.getfield 19, 3) := by decide +kernel
theorem dX6_apart_56 : decode cX6_apart 56 = .ok (.iload_n 2, 1) := by decide +kernel
theorem dX6_apart_57 : decode cX6_apart 57 = .ok (.invokevirtual 132, 3) := by decide +kernel
theorem dX6_apart_60 : decode cX6_apart 60 = .ok (.ifCond .ne 6, 3) := by decide +kernel
theorem dX6_apart_63 : decode cX6_apart 63 = .ok (.bipush (-4), 2) := by decide +kernel
theorem dX6_apart_65 : decode cX6_apart 65 = .ok (.ireturn, 1) := by decide +kernel
theorem dX6_apart_66 : decode cX6_apart 66 = .ok (.aload_n 0, 1) := by decide +kernel
theorem dX6_apart_67 : decode cX6_apart 67 = .ok (.getfield 19, 3) := by decide +kernel
theorem dX6_apart_70 : decode cX6_apart 70 = .ok (.iload_n 1, 1) := by decide +kernel
theorem dX6_apart_71 : decode cX6_apart 71 = .ok (.invokevirtual 139, 3) := by decide +kernel
theorem dX6_apart_74 : decode cX6_apart 74 = .ok (.aload_n 0, 1) := by decide +kernel
theorem dX6_apart_75 : decode cX6_apart 75 = .ok (.getfield 19, 3) := by decide +kernel
theorem dX6_apart_78 : decode cX6_apart 78 = .ok (.iload_n 2, 1) := by decide +kernel
theorem dX6_apart_79 : decode cX6_apart 79 = .ok (.invokevirtual 139, 3) := by decide +kernel
theorem dX6_apart_82 : decode cX6_apart 82 = .ok (.invokestatic 147, 3) := by decide +kernel
theorem dX6_apart_85 : decode cX6_apart 85 = .ok (.lstore 5, 2) := by decide +kernel
theorem dX6_apart_87 : decode cX6_apart 87 = .ok (.iload_n 3, 1) := by decide +kernel
theorem dX6_apart_88 : decode cX6_apart 88 = .ok (.istore 7, 2) := by decide +kernel
theorem dX6_apart_90 : decode cX6_apart 90 = .ok (.ldc2_w 151, 3) := by decide +kernel
theorem dX6_apart_93 : decode cX6_apart 93 = .ok (.lstore 8, 2) := by decide +kernel
theorem dX6_apart_95 : decode cX6_apart 95 = .ok (.iload_n 3, 1) := by decide +kernel
theorem dX6_apart_96 : decode cX6_apart 96 = .ok (.istore 10, 2) := by decide +kernel
theorem dX6_apart_98 : decode cX6_apart 98 = .ok (.iload 10, 2) := by decide +kernel
theorem dX6_apart_100 : decode cX6_apart 100 = .ok (.iload 4, 2) := by decide +kernel
theorem dX6_apart_102 : decode cX6_apart 102 = .ok (.if_icmp .gt 55, 3) := by decide +kernel
theorem dX6_apart_105 : decode cX6_apart 105 = .ok (.aload_n 0, 1) := by decide +kernel
theorem dX6_apart_106 : decode cX6_apart 106 = .ok (.getfield 19, 3) := by decide +kernel
theorem dX6_apart_109 : decode cX6_apart 109 = .ok (.iload_n 1, 1) := by decide +kernel
theorem dX6_apart_110 : decode cX6_apart 110 = .ok (.iload 10, 2) := by decide +kernel
theorem dX6_apart_112 : decode cX6_apart 112 = .ok (.lload 5, 2) := by decide +kernel
theorem dX6_apart_114 : decode cX6_apart 114 = .ok (.invokevirtual 143, 3) := by decide +kernel
theorem dX6_apart_117 : decode cX6_apart 117 = .ok (.aload_n 0, 1) := by decide +kernel
theorem dX6_apart_118 : decode cX6_apart 118 = .ok (.getfield 19, 3) := by decide +kernel
theorem dX6_apart_121 : decode cX6_apart 121 = .ok (.iload_n 2, 1) := by decide +kernel
theorem dX6_apart_122 : decode cX6_apart 122 = .ok (.iload 10, 2) := by decide +kernel
theorem dX6_apart_124 : decode cX6_apart 124 = .ok (.lload 5, 2) := by decide +kernel
theorem dX6_apart_126 : decode cX6_apart 126 = .ok (.invokevirtual 143, 3) := by decide +kernel
theorem dX6_apart_129 : decode cX6_apart 129 = .ok (.lsub, 1) := by decide +kernel
theorem dX6_apart_130 : decode cX6_apart 130 = .ok (.invokestatic 153, 3) := by decide +kernel
theorem dX6_apart_133 : decode cX6_apart 133 = .ok (.lstore 11, 2) := by decide +kernel
theorem dX6_apart_135 : decode cX6_apart 135 = .ok (.lload 11, 2) := by decide +kernel
theorem dX6_apart_137 : decode cX6_apart 137 = .ok (.lload 8, 2) := by decide +kernel
theorem dX6_apart_139 : decode cX6_apart 139 = .ok (.lcmp, 1) := by decide +kernel
theorem dX6_apart_140 : decode cX6_apart 140 = .ok (.ifCond .le 11, 3) := by decide +kernel
theorem dX6_apart_143 : decode cX6_apart 143 = .ok (.lload 11, 2) := by decide +kernel
theorem dX6_apart_145 : decode cX6_apart 145 = .ok (.lstore 8, 2) := by decide +kernel
theorem dX6_apart_147 : decode cX6_apart 147 = .ok (.iload 10, 2) := by decide +kernel
theorem dX6_apart_149 : decode cX6_apart 149 = .ok (.istore 7, 2) := by decide +kernel
theorem dX6_apart_151 : decode cX6_apart 151 = .ok (.iinc 10 1, 3) := by decide +kernel
theorem dX6_apart_154 : decode cX6_apart 154 = .ok (.goto (-56), 3) := by decide +kernel
theorem dX6_apart_157 : decode cX6_apart 157 = .ok (.aload_n 0, 1) := by decide +kernel
theorem dX6_apart_158 : decode cX6_apart 158 = .ok (.getfield 47, 3) := by decide +kernel
theorem dX6_apart_161 : decode cX6_apart 161 = .ok (.lload 8, 2) := by decide +kernel
theorem dX6_apart_163 : decode cX6_apart 163 = .ok (.lload 5, 2) := by decide +kernel
theorem dX6_apart_165 : decode cX6_apart 165 = .ok (.invokevirtual 122, 3) := by decide +kernel
theorem dX6_apart_168 : decode cX6_apart 168 = .ok (.iload 7, 2) := by decide +kernel
theorem dX6_apart_170 : decode cX6_apart 170 = .ok (.bipush 100, 2) := by decide +kernel
theorem dX6_apart_172 : decode cX6_apart 172 = .ok (.iadd, 1) := by decide +kernel
theorem dX6_apart_173 : decode cX6_apart 173 = .ok (.ireturn, 1) := by decide +kernel
set_option maxRecDepth 20000 in
theorem ggX6_bulb_X6_isBetween : GoodIn wsX6_bulb wsX6_isBetween := goodIn_r _ [5] (by decide +kernel) (by decide +kernel)
set_option maxRecDepth 20000 in
theorem gX6_bulb_X6_isBetween : GoodIn wsX6_bulb (va_wsS RX6 113 yX6_isBetween wsX6_isBetween) := goodIn_app (goodIn_of _ (by decide +kernel)) ggX6_bulb_X6_isBetween
set_option maxRecDepth 20000 in
theorem ggX6_bulb_X0_size : GoodIn wsX6_bulb wsX0_size := goodIn_r _ [10, 11, 27, 28, 29] (by decide +kernel) (by decide +kernel)
set_option maxRecDepth 20000 in
theorem gX6_bulb_X0_size : GoodIn wsX6_bulb (wsV RX6 159 RX0 yX0_size wsX0_size) := goodIn_app (goodIn_of _ (by decide +kernel)) ggX6_bulb_X0_size
set_option maxRecDepth 20000 in
theorem ggX6_bulb_X0_add : GoodIn wsX6_bulb wsX0_add := goodIn_r _ [15, 16, 11, 17, 27, 28, 29] (by decide +kernel) (by decide +kernel)
set_option maxRecDepth 20000 in
theorem gX6_bulb_X0_add : GoodIn wsX6_bulb (wsV RX6 163 RX0 yX0_add wsX0_add) := goodIn_app (goodIn_of _ (by decide +kernel)) ggX6_bulb_X0_add
theorem dX6_bulb_0 : decode cX6_bulb 0 = .ok (.iload_n 1, 1) := by decide +kernel
theorem dX6_bulb_1 : decode cX6_bulb 1 = .ok (.iconst 0, 1) := by decide +kernel
theorem dX6_bulb_2 : decode cX6_bulb 2 = .ok (.iconst 3, 1) := by decide +kernel
theorem dX6_bulb_3 : decode cX6_bulb 3 = .ok (.invokestatic 113, 3) := by decide +kernel
theorem dX6_bulb_6 : decode cX6_bulb 6 = .ok (.ifCond .eq 14, 3) := by decide +kernel
theorem dX6_bulb_9 : decode cX6_bulb 9 = .ok (.iload_n 2, 1) := by decide +kernel
theorem dX6_bulb_10 : decode cX6_bulb 10 = .ok (.iconst 0, 1) := by decide +kernel
theorem dX6_bulb_11 : decode cX6_bulb 11 = .ok (.sipush 10000, 3) := by decide +kernel
theorem dX6_bulb_14 : decode cX6_bulb 14 = .ok (.invokestatic 113, 3) := by decide +kernel
theorem dX6_bulb_17 : decode cX6_bulb 17 = .ok (.ifCond .ne 5, 3) := by decide +kernel
theorem dX6_bulb_20 : decode cX6_bulb 20 = .ok (.iconst (-1), 1) := by decide +kernel
theorem dX6_bulb_21 : decode cX6_bulb 21 = .ok (.ireturn, 1) := by decide +kernel
theorem dX6_bulb_22 : decode cX6_bulb 22 = .ok (.aload_n 0, 1) := by decide +kernel
theorem dX6_bulb_23 : decode cX6_bulb 23 = .ok (.getfield 26, 3) := by decide +kernel
theorem dX6_bulb_26 : decode cX6_bulb 26 = .ok (.invokevirtual 159, 3) := by decide +kernel
theorem dX6_bulb_29 : decode cX6_bulb 29 = .ok (.bipush 16, 2) := by decide +kernel
theorem dX6_bulb_31 : decode cX6_bulb 31 = .ok (.if_icmp .lt 8, 3) := by decide +kernel
theorem dX6_bulb_34 : decode cX6_bulb 34 = .ok (.bipush (-2), 2) := by decide +kernel
theorem dX6_bulb_36 : decode cX6_bulb 36 = .ok (.goto 12, 3) := by decide +kernel
theorem dX6_bulb_39 : decode cX6_bulb 39 = .ok (.aload_n 0, 1) := by decide +kernel
theorem dX6_bulb_40 : decode cX6_bulb 40 = .ok (.getfield 26, 3) := by decide +kernel
theorem dX6_bulb_43 : decode cX6_bulb 43 = .ok (.iload_n 1, 1) := by decide +kernel
theorem dX6_bulb_44 : decode cX6_bulb 44 = .ok (.iload_n 2, 1) := by decide +kernel
theorem dX6_bulb_45 : decode cX6_bulb 45 = .ok (.invokevirtual 163, 3) := by decide +kernel
theorem dX6_bulb_48 : decode cX6_bulb 48 = .ok (.ireturn, 1) := by decide +kernel
set_option maxRecDepth 20000 in
theorem ggX6_told_X0_has : GoodIn wsX6_told wsX0_has := goodIn_r _ [7, 8, 9, 10, 11, 51, 52, 53] (by decide +kernel) (by decide +kernel)
set_option maxRecDepth 20000 in
theorem gX6_told_X0_has : GoodIn wsX6_told (wsV RX6 165 RX0 yX0_has wsX0_has) := goodIn_app (goodIn_of _ (by decide +kernel)) ggX6_told_X0_has
set_option maxRecDepth 20000 in
theorem ggX6_told_X0_kindOf : GoodIn wsX6_told wsX0_kindOf := goodIn_r _ [15, 16, 51, 52, 53] (by decide +kernel) (by decide +kernel)
set_option maxRecDepth 20000 in
theorem gX6_told_X0_kindOf : GoodIn wsX6_told (wsV RX6 168 RX0 yX0_kindOf wsX0_kindOf) := goodIn_app (goodIn_of _ (by decide +kernel)) ggX6_told_X0_kindOf
set_option maxRecDepth 20000 in
theorem ggX6_told_X0_toleranceOf : GoodIn wsX6_told wsX0_toleranceOf := goodIn_r _ [20, 21, 51, 52, 53] (by decide +kernel) (by decide +kernel)
set_option maxRecDepth 20000 in
theorem gX6_told_X0_toleranceOf : GoodIn wsX6_told (wsV RX6 171 RX0 yX0_toleranceOf wsX0_toleranceOf) := goodIn_app (goodIn_of _ (by decide +kernel)) ggX6_told_X0_toleranceOf
set_option maxRecDepth 20000 in
theorem ggX6_told_X1_countOf : GoodIn wsX6_told wsX1_countOf := goodIn_r _ [26, 27, 28, 54, 55] (by decide +kernel) (by decide +kernel)
set_option maxRecDepth 20000 in
theorem gX6_told_X1_countOf : GoodIn wsX6_told (wsV RX6 174 RX1 yX1_countOf wsX1_countOf) := goodIn_app (goodIn_of _ (by decide +kernel)) ggX6_told_X1_countOf
set_option maxRecDepth 20000 in
theorem ggX6_told_X1_latestOf : GoodIn wsX6_told wsX1_latestOf := goodIn_r _ [32, 33, 27, 34, 35, 36, 25, 37, 38, 39, 40, 41, 28, 54, 55] (by decide +kernel) (by decide +kernel)
set_option maxRecDepth 20000 in
theorem gX6_told_X1_latestOf : GoodIn wsX6_told (wsV RX6 178 RX1 yX1_latestOf wsX1_latestOf) := goodIn_app (goodIn_of _ (by decide +kernel)) ggX6_told_X1_latestOf
theorem dX6_told_0 : decode cX6_told 0 = .ok (.aload_n 0, 1) := by decide +kernel
theorem dX6_told_1 : decode cX6_told 1 = .ok (.getfield 26, 3) := by decide +kernel
theorem dX6_told_4 : decode cX6_told 4 = .ok (.iload_n 1, 1) := by decide +kernel
theorem dX6_told_5 : decode cX6_told 5 = .ok (.invokevirtual 165, 3) := by decide +kernel
theorem dX6_told_8 : decode cX6_told 8 = .ok (.ifCond .ne 5, 3) := by decide +kernel
theorem dX6_told_11 : decode cX6_told 11 = .ok (.iconst (-1), 1) := by decide +kernel
theorem dX6_told_12 : decode cX6_told 12 = .ok (.ireturn, 1) := by decide +kernel
theorem dX6_told_13 : decode cX6_told 13 = .ok (.iload_n 2, 1) := by decide +kernel
theorem dX6_told_14 : decode cX6_told 14 = .ok (.tableswitch 94 0 4 #[34, 43, 52, 63, 85], 34) := by decide +kernel
theorem dX6_told_48 : decode cX6_told 48 = .ok (.aload_n 0, 1) := by decide +kernel
theorem dX6_told_49 : decode cX6_told 49 = .ok (.getfield 26, 3) := by decide +kernel
theorem dX6_told_52 : decode cX6_told 52 = .ok (.iload_n 1, 1) := by decide +kernel
theorem dX6_told_53 : decode cX6_told 53 = .ok (.invokevirtual 168, 3) := by decide +kernel
theorem dX6_told_56 : decode cX6_told 56 = .ok (.ireturn, 1) := by decide +kernel
theorem dX6_told_57 : decode cX6_told 57 = .ok (.aload_n 0, 1) := by decide +kernel
theorem dX6_told_58 : decode cX6_told 58 = .ok (.getfield 26, 3) := by decide +kernel
theorem dX6_told_61 : decode cX6_told 61 = .ok (.iload_n 1, 1) := by decide +kernel
theorem dX6_told_62 : decode cX6_told 62 = .ok (.invokevirtual 171, 3) := by decide +kernel
theorem dX6_told_65 : decode cX6_told 65 = .ok (.ireturn, 1) := by decide +kernel
theorem dX6_told_66 : decode cX6_told 66 = .ok (.aload_n 0, 1) := by decide +kernel
theorem dX6_told_67 : decode cX6_told 67 = .ok (.getfield 33, 3) := by decide +kernel
theorem dX6_told_70 : decode cX6_told 70 = .ok (.iconst 0, 1) := by decide +kernel
theorem dX6_told_71 : decode cX6_told 71 = .ok (.iload_n 1, 1) := by decide +kernel
theorem dX6_told_72 : decode cX6_told 72 = .ok (.iconst 0, 1) := by decide +kernel
theorem dX6_told_73 : decode cX6_told 73 = .ok (.invokevirtual 174, 3) := by decide +kernel
theorem dX6_told_76 : decode cX6_told 76 = .ok (.ireturn, 1) := by decide +kernel
theorem dX6_told_77 : decode cX6_told 77 = .ok (.aload_n 0, 1) := by decide +kernel
theorem dX6_told_78 : decode cX6_told 78 = .ok (.getfield 33, 3) := by decide +kernel
theorem dX6_told_81 : decode cX6_told 81 = .ok (.iconst 0, 1) := by decide +kernel
theorem dX6_told_82 : decode cX6_told 82 = .ok (.iload_n 1, 1) := by decide +kernel
theorem dX6_told_83 : decode cX6_told 83 = .ok (.iconst 0, 1) := by decide +kernel
theorem dX6_told_84 : decode cX6_told 84 = .ok (.invokevirtual 174, 3) := by decide +kernel
theorem dX6_told_87 : decode cX6_told 87 = .ok (.aload_n 0, 1) := by decide +kernel
theorem dX6_told_88 : decode cX6_told 88 = .ok (.getfield 33, 3) := by decide +kernel
theorem dX6_told_91 : decode cX6_told 91 = .ok (.iconst 0, 1) := by decide +kernel
theorem dX6_told_92 : decode cX6_told 92 = .ok (.iload_n 1, 1) := by decide +kernel
theorem dX6_told_93 : decode cX6_told 93 = .ok (.iconst 1, 1) := by decide +kernel
theorem dX6_told_94 : decode cX6_told 94 = .ok (.invokevirtual 174, 3) := by decide +kernel
theorem dX6_told_97 : decode cX6_told 97 = .ok (.isub, 1) := by decide +kernel
theorem dX6_told_98 : decode cX6_told 98 = .ok (.ireturn, 1) := by decide +kernel
theorem dX6_told_99 : decode cX6_told 99 = .ok (.aload_n 0, 1) := by decide +kernel
theorem dX6_told_100 : decode cX6_told 100 = .ok (.getfield 33, 3) := by decide +kernel
theorem dX6_told_103 : decode cX6_told 103 = .ok (.iload_n 1, 1) := by decide +kernel
theorem dX6_told_104 : decode cX6_told 104 = .ok (.invokevirtual 178, 3) := by decide +kernel
theorem dX6_told_107 : decode cX6_told 107 = .ok (.ireturn, 1) := by decide +kernel
theorem dX6_told_108 : decode cX6_told 108 = .ok (.iconst (-1), 1) := by decide +kernel
theorem dX6_told_109 : decode cX6_told 109 = .ok (.ireturn, 1) := by decide +kernel
set_option maxRecDepth 20000 in
theorem ggX6_mark_X0_has : GoodIn wsX6_mark wsX0_has := goodIn_r _ [7, 8, 9, 10, 11, 57, 58, 59] (by decide +kernel) (by decide +kernel)
set_option maxRecDepth 20000 in
theorem gX6_mark_X0_has : GoodIn wsX6_mark (wsV RX6 165 RX0 yX0_has wsX0_has) := goodIn_app (goodIn_of _ (by decide +kernel)) ggX6_mark_X0_has
set_option maxRecDepth 20000 in
theorem ggX6_mark_X6_isBetween : GoodIn wsX6_mark wsX6_isBetween := goodIn_r _ [11] (by decide +kernel) (by decide +kernel)
set_option maxRecDepth 20000 in
theorem gX6_mark_X6_isBetween : GoodIn wsX6_mark (va_wsS RX6 113 yX6_isBetween wsX6_isBetween) := goodIn_app (goodIn_of _ (by decide +kernel)) ggX6_mark_X6_isBetween
set_option maxRecDepth 20000 in
theorem ggX6_mark_X0_isOf : GoodIn wsX6_mark wsX0_isOf := goodIn_r _ [16, 17, 57, 58, 59] (by decide +kernel) (by decide +kernel)
set_option maxRecDepth 20000 in
theorem gX6_mark_X0_isOf : GoodIn wsX6_mark (wsV RX6 181 RX0 yX0_isOf wsX0_isOf) := goodIn_app (goodIn_of _ (by decide +kernel)) ggX6_mark_X0_isOf
set_option maxRecDepth 20000 in
theorem ggX6_mark_X6_refuse : GoodIn wsX6_mark wsX6_refuse := goodIn_r _ [21, 22, 23, 12, 9, 10, 11, 48, 49, 50, 51, 52, 53, 54, 55, 56] (by decide +kernel) (by decide +kernel)
set_option maxRecDepth 20000 in
theorem gX6_mark_X6_refuse : GoodIn wsX6_mark (wsV RX6 67 RX6 yX6_refuse wsX6_refuse) := goodIn_app (goodIn_of _ (by decide +kernel)) ggX6_mark_X6_refuse
set_option maxRecDepth 20000 in
theorem ggX6_mark_X0_toleranceOf : GoodIn wsX6_mark wsX0_toleranceOf := goodIn_r _ [27, 28, 57, 58, 59] (by decide +kernel) (by decide +kernel)
set_option maxRecDepth 20000 in
theorem gX6_mark_X0_toleranceOf : GoodIn wsX6_mark (wsV RX6 171 RX0 yX0_toleranceOf wsX0_toleranceOf) := goodIn_app (goodIn_of _ (by decide +kernel)) ggX6_mark_X0_toleranceOf
set_option maxRecDepth 20000 in
theorem ggX6_mark_X1_countOf : GoodIn wsX6_mark wsX1_countOf := goodIn_r _ [33, 34, 35, 60, 61] (by decide +kernel) (by decide +kernel)
set_option maxRecDepth 20000 in
theorem gX6_mark_X1_countOf : GoodIn wsX6_mark (wsV RX6 174 RX1 yX1_countOf wsX1_countOf) := goodIn_app (goodIn_of _ (by decide +kernel)) ggX6_mark_X1_countOf
set_option maxRecDepth 20000 in
theorem ggX6_mark_X1_countOverBulb : GoodIn wsX6_mark wsX1_countOverBulb := goodIn_r _ [39, 34, 35, 40, 41, 42, 32, 43, 44, 45, 46, 47, 9, 10, 11, 60, 61] (by decide +kernel) (by decide +kernel)
set_option maxRecDepth 20000 in
theorem gX6_mark_X1_countOverBulb : GoodIn wsX6_mark (wsV RX6 184 RX1 yX1_countOverBulb wsX1_countOverBulb) := goodIn_app (goodIn_of _ (by decide +kernel)) ggX6_mark_X1_countOverBulb
theorem dX6_mark_0 : decode cX6_mark 0 = .ok (.aload_n 0, 1) := by decide +kernel
theorem dX6_mark_1 : decode cX6_mark 1 = .ok (.getfield 26, 3) := by decide +kernel
theorem dX6_mark_4 : decode cX6_mark 4 = .ok (.iload_n 1, 1) := by decide +kernel
theorem dX6_mark_5 : decode cX6_mark 5 = .ok (.invokevirtual 165, 3) := by decide +kernel
theorem dX6_mark_8 : decode cX6_mark 8 = .ok (.ifCond .eq 12, 3) := by decide +kernel
theorem dX6_mark_11 : decode cX6_mark 11 = .ok (.iload_n 2, 1) := by decide +kernel
theorem dX6_mark_12 : decode cX6_mark 12 = .ok (.iconst 1, 1) := by decide +kernel
theorem dX6_mark_13 : decode cX6_mark 13 = .ok (.iconst 3, 1) := by decide +kernel
theorem dX6_mark_14 : decode cX6_mark 14 = .ok (.invokestatic 113, 3) := by decide +kernel
theorem dX6_mark_17 : decode cX6_mark 17 = .ok (.ifCond .ne 5, 3) := by decide +kernel
theorem dX6_mark_20 : decode cX6_mark 20 = .ok (.iconst (-1), 1) := by decide +kernel
theorem dX6_mark_21 : decode cX6_mark 21 = .ok (.ireturn, 1) := by decide +kernel
theorem dX6_mark_22 : decode cX6_mark 22 = .ok (.aload_n 0, 1) := by decide +kernel
theorem dX6_mark_23 : decode cX6_mark 23 = .ok (.getfield 26, 3) := by decide +kernel
theorem dX6_mark_26 : decode cX6_mark 26 = .ok (.iload_n 1, 1) := by decide +kernel
theorem dX6_mark_27 : decode cX6_mark 27 = .ok (.iload_n 2, 1) := by decide +kernel
theorem dX6_mark_28 : decode cX6_mark 28 = .ok (.invokevirtual 181, 3) := by decide +kernel
theorem dX6_mark_31 : decode cX6_mark 31 = .ok (.ifCond .ne 9, 3) := by decide +kernel
theorem dX6_mark_34 : decode cX6_mark 34 = .ok (.aload_n 0, 1) := by decide +kernel
theorem dX6_mark_35 : decode cX6_mark 35 = .ok (.iconst 3, 1) := by decide +kernel
theorem dX6_mark_36 : decode cX6_mark 36 = .ok (.invokevirtual 67, 3) := by decide +kernel
theorem dX6_mark_39 : decode cX6_mark 39 = .ok (.ireturn, 1) := by decide +kernel
theorem dX6_mark_40 : decode cX6_mark 40 = .ok (.iload_n 2, 1) := by decide +kernel
theorem dX6_mark_41 : decode cX6_mark 41 = .ok (.iconst 1, 1) := by decide +kernel
theorem dX6_mark_42 : decode cX6_mark 42 = .ok (.if_icmp .ne 12, 3) := by decide +kernel
theorem dX6_mark_45 : decode cX6_mark 45 = .ok (.aload_n 0, 1) := by decide +kernel
theorem dX6_mark_46 : decode cX6_mark 46 = .ok (.getfield 26, 3) := by decide +kernel
theorem dX6_mark_49 : decode cX6_mark 49 = .ok (.iload_n 1, 1) := by decide +kernel
theorem dX6_mark_50 : decode cX6_mark 50 = .ok (.invokevirtual 171, 3) := by decide +kernel
theorem dX6_mark_53 : decode cX6_mark 53 = .ok (.ireturn, 1) := by decide +kernel
theorem dX6_mark_54 : decode cX6_mark 54 = .ok (.iload_n 2, 1) := by decide +kernel
theorem dX6_mark_55 : decode cX6_mark 55 = .ok (.iconst 2, 1) := by decide +kernel
theorem dX6_mark_56 : decode cX6_mark 56 = .ok (.if_icmp .ne 16, 3) := by decide +kernel
theorem dX6_mark_59 : decode cX6_mark 59 = .ok (.aload_n 0, 1) := by decide +kernel
theorem dX6_mark_60 : decode cX6_mark 60 = .ok (.getfield 33, 3) := by decide +kernel
theorem dX6_mark_63 : decode cX6_mark 63 = .ok (.iconst 1, 1) := by decide +kernel
theorem dX6_mark_64 : decode cX6_mark 64 = .ok (.iload_n 1, 1) := by decide +kernel
theorem dX6_mark_65 : decode cX6_mark 65 = .ok (.iconst 1, 1) := by decide +kernel
theorem dX6_mark_66 : decode cX6_mark 66 = .ok (.invokevirtual 174, 3) := by decide +kernel
theorem dX6_mark_69 : decode cX6_mark 69 = .ok (.goto 11, 3) := by decide +kernel
theorem dX6_mark_72 : decode cX6_mark 72 = .ok (.aload_n 0, 1) := by decide +kernel
theorem dX6_mark_73 : decode cX6_mark 73 = .ok (.getfield 33, 3) := by decide +kernel
theorem dX6_mark_76 : decode cX6_mark 76 = .ok (.iload_n 1, 1) := by decide +kernel
theorem dX6_mark_77 : decode cX6_mark 77 = .ok (.invokevirtual 184, 3) := by decide +kernel
theorem dX6_mark_80 : decode cX6_mark 80 = .ok (.ireturn, 1) := by decide +kernel
set_option maxRecDepth 20000 in
theorem ggX6_stem_X0_has : GoodIn wsX6_stem wsX0_has := goodIn_r _ [10, 11, 12, 13, 14, 52, 53, 54] (by decide +kernel) (by decide +kernel)
set_option maxRecDepth 20000 in
theorem gX6_stem_X0_has : GoodIn wsX6_stem (wsV RX6 165 RX0 yX0_has wsX0_has) := goodIn_app (goodIn_of _ (by decide +kernel)) ggX6_stem_X0_has
set_option maxRecDepth 20000 in
theorem ggX6_stem_X6_isWithin : GoodIn wsX6_stem wsX6_isWithin := goodIn_r _ [17, 18, 12, 13, 14] (by decide +kernel) (by decide +kernel)
set_option maxRecDepth 20000 in
theorem gX6_stem_X6_isWithin : GoodIn wsX6_stem (va_wsS RX6 76 yX6_isWithin wsX6_isWithin) := goodIn_app (goodIn_of _ (by decide +kernel)) ggX6_stem_X6_isWithin
set_option maxRecDepth 20000 in
theorem ggX6_stem_X6_isBetween : GoodIn wsX6_stem wsX6_isBetween := goodIn_r _ [14] (by decide +kernel) (by decide +kernel)
set_option maxRecDepth 20000 in
theorem gX6_stem_X6_isBetween : GoodIn wsX6_stem (va_wsS RX6 113 yX6_isBetween wsX6_isBetween) := goodIn_app (goodIn_of _ (by decide +kernel)) ggX6_stem_X6_isBetween
set_option maxRecDepth 20000 in
theorem ggX6_stem_X0_isOf : GoodIn wsX6_stem wsX0_isOf := goodIn_r _ [22, 23, 52, 53, 54] (by decide +kernel) (by decide +kernel)
set_option maxRecDepth 20000 in
theorem gX6_stem_X0_isOf : GoodIn wsX6_stem (wsV RX6 181 RX0 yX0_isOf wsX0_isOf) := goodIn_app (goodIn_of _ (by decide +kernel)) ggX6_stem_X0_isOf
set_option maxRecDepth 20000 in
theorem ggX6_stem_X6_refuse : GoodIn wsX6_stem wsX6_refuse := goodIn_r _ [27, 28, 29, 18, 12, 13, 14, 43, 44, 45, 46, 47, 48, 49, 50, 51] (by decide +kernel) (by decide +kernel)
set_option maxRecDepth 20000 in
theorem gX6_stem_X6_refuse : GoodIn wsX6_stem (wsV RX6 67 RX6 yX6_refuse wsX6_refuse) := goodIn_app (goodIn_of _ (by decide +kernel)) ggX6_stem_X6_refuse
set_option maxRecDepth 20000 in
theorem ggX6_stem_X2_tell : GoodIn wsX6_stem wsX2_tell := goodIn_r _ [34, 35, 36, 37, 13, 38, 39, 40, 41, 42, 55, 56] (by decide +kernel) (by decide +kernel)
set_option maxRecDepth 20000 in
theorem gX6_stem_X2_tell : GoodIn wsX6_stem (wsV RX6 122 RX2 yX2_tell wsX2_tell) := goodIn_app (goodIn_of _ (by decide +kernel)) ggX6_stem_X2_tell
theorem dX6_stem_0 : decode cX6_stem 0 = .ok (.aload_n 0, 1) := by decide +kernel
theorem dX6_stem_1 : decode cX6_stem 1 = .ok (.getfield 26, 3) := by decide +kernel
theorem dX6_stem_4 : decode cX6_stem 4 = .ok (.iload_n 1, 1) := by decide +kernel
theorem dX6_stem_5 : decode cX6_stem 5 = .ok (.invokevirtual 165, 3) := by decide +kernel
theorem dX6_stem_8 : decode cX6_stem 8 = .ok (.ifCond .eq 43, 3) := by decide +kernel
theorem dX6_stem_11 : decode cX6_stem 11 = .ok (.iload_n 2, 1) := by decide +kernel
theorem dX6_stem_12 : decode cX6_stem 12 = .ok (.ldc 75, 2) := by decide +kernel
theorem dX6_stem_14 : decode cX6_stem 14 = .ok (.invokestatic 76, 3) := by decide +kernel
theorem dX6_stem_17 : decode cX6_stem 17 = .ok (.ifCond .eq 34, 3) := by decide +kernel
theorem dX6_stem_20 : decode cX6_stem 20 = .ok (.iload_n 3, 1) := by decide +kernel
theorem dX6_stem_21 : decode cX6_stem 21 = .ok (.iconst 0, 1) := by decide +kernel
theorem dX6_stem_22 : decode cX6_stem 22 = .ok (.sipush 1000, 3) := by decide +kernel
theorem dX6_stem_25 : decode cX6_stem 25 = .ok (.invokestatic 113, 3) := by decide +kernel
theorem dX6_stem_28 : decode cX6_stem 28 = .ok (.ifCond .eq 23, 3) := by decide +kernel
theorem dX6_stem_31 : decode cX6_stem 31 = .ok (.iload 4, 2) := by decide +kernel
theorem dX6_stem_33 : decode cX6_stem 33 = .ok (.ldc 75, 2) := by decide +kernel
theorem dX6_stem_35 : decode cX6_stem 35 = .ok (.invokestatic 76, 3) := by decide +kernel
theorem dX6_stem_38 : decode cX6_stem 38 = .ok (.ifCond .eq 13, 3) := by decide +kernel
theorem dX6_stem_41 : decode cX6_stem 41 = .ok (.iload 5, 2) := by decide +kernel
theorem dX6_stem_43 : decode cX6_stem 43 = .ok (.ldc 75, 2) := by decide +kernel
theorem dX6_stem_45 : decode cX6_stem 45 = .ok (.invokestatic 76, 3) := by decide +kernel
theorem dX6_stem_48 : decode cX6_stem 48 = .ok (.ifCond .ne 5, 3) := by decide +kernel
theorem dX6_stem_51 : decode cX6_stem 51 = .ok (.iconst (-1), 1) := by decide +kernel
theorem dX6_stem_52 : decode cX6_stem 52 = .ok (.ireturn, 1) := by decide +kernel
theorem dX6_stem_53 : decode cX6_stem 53 = .ok (.aload_n 0, 1) := by decide +kernel
theorem dX6_stem_54 : decode cX6_stem 54 = .ok (.getfield 26, 3) := by decide +kernel
theorem dX6_stem_57 : decode cX6_stem 57 = .ok (.iload_n 1, 1) := by decide +kernel
theorem dX6_stem_58 : decode cX6_stem 58 = .ok (.iconst 1, 1) := by decide +kernel
theorem dX6_stem_59 : decode cX6_stem 59 = .ok (.invokevirtual 181, 3) := by decide +kernel
theorem dX6_stem_62 : decode cX6_stem 62 = .ok (.ifCond .ne 9, 3) := by decide +kernel
theorem dX6_stem_65 : decode cX6_stem 65 = .ok (.aload_n 0, 1) := by decide +kernel
theorem dX6_stem_66 : decode cX6_stem 66 = .ok (.iconst 3, 1) := by decide +kernel
theorem dX6_stem_67 : decode cX6_stem 67 = .ok (.invokevirtual 67, 3) := by decide +kernel
theorem dX6_stem_70 : decode cX6_stem 70 = .ok (.ireturn, 1) := by decide +kernel
theorem dX6_stem_71 : decode cX6_stem 71 = .ok (.aload_n 0, 1) := by decide +kernel
theorem dX6_stem_72 : decode cX6_stem 72 = .ok (.getfield 47, 3) := by decide +kernel
theorem dX6_stem_75 : decode cX6_stem 75 = .ok (.iload_n 2, 1) := by decide +kernel
theorem dX6_stem_76 : decode cX6_stem 76 = .ok (.i2l, 1) := by decide +kernel
theorem dX6_stem_77 : decode cX6_stem 77 = .ok (.ldc2_w 187, 3) := by decide +kernel
theorem dX6_stem_80 : decode cX6_stem 80 = .ok (.lmul, 1) := by decide +kernel
theorem dX6_stem_81 : decode cX6_stem 81 = .ok (.ldc2_w 189, 3) := by decide +kernel
theorem dX6_stem_84 : decode cX6_stem 84 = .ok (.iload_n 3, 1) := by decide +kernel
theorem dX6_stem_85 : decode cX6_stem 85 = .ok (.i2l, 1) := by decide +kernel
theorem dX6_stem_86 : decode cX6_stem 86 = .ok (.lmul, 1) := by decide +kernel
theorem dX6_stem_87 : decode cX6_stem 87 = .ok (.iload 4, 2) := by decide +kernel
theorem dX6_stem_89 : decode cX6_stem 89 = .ok (.iload 5, 2) := by decide +kernel
theorem dX6_stem_91 : decode cX6_stem 91 = .ok (.isub, 1) := by decide +kernel
theorem dX6_stem_92 : decode cX6_stem 92 = .ok (.i2l, 1) := by decide +kernel
theorem dX6_stem_93 : decode cX6_stem 93 = .ok (.lmul, 1) := by decide +kernel
theorem dX6_stem_94 : decode cX6_stem 94 = .ok (.ladd, 1) := by decide +kernel
theorem dX6_stem_95 : decode cX6_stem 95 = .ok (.ldc2_w 187, 3) := by decide +kernel
theorem dX6_stem_98 : decode cX6_stem 98 = .ok (.invokevirtual 122, 3) := by decide +kernel
theorem dX6_stem_101 : decode cX6_stem 101 = .ok (.iconst 1, 1) := by decide +kernel
theorem dX6_stem_102 : decode cX6_stem 102 = .ok (.ireturn, 1) := by decide +kernel
set_option maxRecDepth 20000 in
theorem ggX6_currents_X0_has : GoodIn wsX6_currents wsX0_has := goodIn_r _ [8, 9, 10, 11, 12, 50, 51, 52] (by decide +kernel) (by decide +kernel)
set_option maxRecDepth 20000 in
theorem gX6_currents_X0_has : GoodIn wsX6_currents (wsV RX6 165 RX0 yX0_has wsX0_has) := goodIn_app (goodIn_of _ (by decide +kernel)) ggX6_currents_X0_has
set_option maxRecDepth 20000 in
theorem ggX6_currents_X6_isWithin : GoodIn wsX6_currents wsX6_isWithin := goodIn_r _ [15, 16, 10, 11, 12] (by decide +kernel) (by decide +kernel)
set_option maxRecDepth 20000 in
theorem gX6_currents_X6_isWithin : GoodIn wsX6_currents (va_wsS RX6 76 yX6_isWithin wsX6_isWithin) := goodIn_app (goodIn_of _ (by decide +kernel)) ggX6_currents_X6_isWithin
set_option maxRecDepth 20000 in
theorem ggX6_currents_X6_isBetween : GoodIn wsX6_currents wsX6_isBetween := goodIn_r _ [12] (by decide +kernel) (by decide +kernel)
set_option maxRecDepth 20000 in
theorem gX6_currents_X6_isBetween : GoodIn wsX6_currents (va_wsS RX6 113 yX6_isBetween wsX6_isBetween) := goodIn_app (goodIn_of _ (by decide +kernel)) ggX6_currents_X6_isBetween
set_option maxRecDepth 20000 in
theorem ggX6_currents_X0_isOf : GoodIn wsX6_currents wsX0_isOf := goodIn_r _ [20, 21, 50, 51, 52] (by decide +kernel) (by decide +kernel)
set_option maxRecDepth 20000 in
theorem gX6_currents_X0_isOf : GoodIn wsX6_currents (wsV RX6 181 RX0 yX0_isOf wsX0_isOf) := goodIn_app (goodIn_of _ (by decide +kernel)) ggX6_currents_X0_isOf
set_option maxRecDepth 20000 in
theorem ggX6_currents_X6_refuse : GoodIn wsX6_currents wsX6_refuse := goodIn_r _ [25, 26, 27, 16, 10, 11, 12, 41, 42, 43, 44, 45, 46, 47, 48, 49] (by decide +kernel) (by decide +kernel)
set_option maxRecDepth 20000 in
theorem gX6_currents_X6_refuse : GoodIn wsX6_currents (wsV RX6 67 RX6 yX6_refuse wsX6_refuse) := goodIn_app (goodIn_of _ (by decide +kernel)) ggX6_currents_X6_refuse
set_option maxRecDepth 20000 in
theorem ggX6_currents_X2_tell : GoodIn wsX6_currents wsX2_tell := goodIn_r _ [32, 33, 34, 35, 11, 36, 37, 38, 39, 40, 53, 54] (by decide +kernel) (by decide +kernel)
set_option maxRecDepth 20000 in
theorem gX6_currents_X2_tell : GoodIn wsX6_currents (wsV RX6 122 RX2 yX2_tell wsX2_tell) := goodIn_app (goodIn_of _ (by decide +kernel)) ggX6_currents_X2_tell
theorem dX6_currents_0 : decode cX6_currents 0 = .ok (.aload_n 0, 1) := by decide +kernel
theorem dX6_currents_1 : decode cX6_currents 1 = .ok (.getfield 26, 3) := by decide +kernel
theorem dX6_currents_4 : decode cX6_currents 4 = .ok (.iload_n 1, 1) := by decide +kernel
theorem dX6_currents_5 : decode cX6_currents 5 = .ok (.invokevirtual 165, 3) := by decide +kernel
theorem dX6_currents_8 : decode cX6_currents 8 = .ok (.ifCond .eq 43, 3) := by decide +kernel
theorem dX6_currents_11 : decode cX6_currents 11 = .ok (.iload_n 2, 1) := by decide +kernel
theorem dX6_currents_12 : decode cX6_currents 12 = .ok (.ldc 75, 2) := by decide +kernel
theorem dX6_currents_14 : decode cX6_currents 14 = .ok (.invokestatic 76, 3) := by decide +kernel
theorem dX6_currents_17 : decode cX6_currents 17 = .ok (.ifCond .eq 34, 3) := by decide +kernel
theorem dX6_currents_20 : decode cX6_currents 20 = .ok (.iload 4, 2) := by decide +kernel
theorem dX6_currents_22 : decode cX6_currents 22 = .ok (.ldc 75, 2) := by decide +kernel
theorem dX6_currents_24 : decode cX6_currents 24 = .ok (.invokestatic 76, 3) := by decide +kernel
theorem dX6_currents_27 : decode cX6_currents 27 = .ok (.ifCond .eq 24, 3) := by decide +kernel
theorem dX6_currents_30 : decode cX6_currents 30 = .ok (.iload_n 3, 1) := by decide +kernel
theorem dX6_currents_31 : decode cX6_currents 31 = .ok (.iconst 1, 1) := by decide +kernel
theorem dX6_currents_32 : decode cX6_currents 32 = .ok (.bipush 100, 2) := by decide +kernel
theorem dX6_currents_34 : decode cX6_currents 34 = .ok (.invokestatic 113, 3) := by decide +kernel
theorem dX6_currents_37 : decode cX6_currents 37 = .ok (.ifCond .eq 14, 3) := by decide +kernel
theorem dX6_currents_40 : decode cX6_currents 40 = .ok (.iload 5, 2) := by decide +kernel
theorem dX6_currents_42 : decode cX6_currents 42 = .ok (.iconst 1, 1) := by decide +kernel
theorem dX6_currents_43 : decode cX6_currents 43 = .ok (.bipush 100, 2) := by decide +kernel
theorem dX6_currents_45 : decode cX6_currents 45 = .ok (.invokestatic 113, 3) := by decide +kernel
theorem dX6_currents_48 : decode cX6_currents 48 = .ok (.ifCond .ne 5, 3) := by decide +kernel
theorem dX6_currents_51 : decode cX6_currents 51 = .ok (.iconst (-1), 1) := by decide +kernel
theorem dX6_currents_52 : decode cX6_currents 52 = .ok (.ireturn, 1) := by decide +kernel
theorem dX6_currents_53 : decode cX6_currents 53 = .ok (.aload_n 0, 1) := by decide +kernel
theorem dX6_currents_54 : decode cX6_currents 54 = .ok (.getfield 26, 3) := by decide +kernel
theorem dX6_currents_57 : decode cX6_currents 57 = .ok (.iload_n 1, 1) := by decide +kernel
theorem dX6_currents_58 : decode cX6_currents 58 = .ok (.iconst 2, 1) := by decide +kernel
theorem dX6_currents_59 : decode cX6_currents 59 = .ok (.invokevirtual 181, 3) := by decide +kernel
theorem dX6_currents_62 : decode cX6_currents 62 = .ok (.ifCond .ne 9, 3) := by decide +kernel
theorem dX6_currents_65 : decode cX6_currents 65 = .ok (.aload_n 0, 1) := by decide +kernel
theorem dX6_currents_66 : decode cX6_currents 66 = .ok (.iconst 3, 1) := by decide +kernel
theorem dX6_currents_67 : decode cX6_currents 67 = .ok (.invokevirtual 67, 3) := by decide +kernel
theorem dX6_currents_70 : decode cX6_currents 70 = .ok (.ireturn, 1) := by decide +kernel
theorem dX6_currents_71 : decode cX6_currents 71 = .ok (.iload_n 3, 1) := by decide +kernel
theorem dX6_currents_72 : decode cX6_currents 72 = .ok (.iload 5, 2) := by decide +kernel
theorem dX6_currents_74 : decode cX6_currents 74 = .ok (.if_icmp .ne 9, 3) := by decide +kernel
theorem dX6_currents_77 : decode cX6_currents 77 = .ok (.aload_n 0, 1) := by decide +kernel
theorem dX6_currents_78 : decode cX6_currents 78 = .ok (.iconst 4, 1) := by decide +kernel
theorem dX6_currents_79 : decode cX6_currents 79 = .ok (.invokevirtual 67, 3) := by decide +kernel
theorem dX6_currents_82 : decode cX6_currents 82 = .ok (.ireturn, 1) := by decide +kernel
theorem dX6_currents_83 : decode cX6_currents 83 = .ok (.iload_n 3, 1) := by decide +kernel
theorem dX6_currents_84 : decode cX6_currents 84 = .ok (.i2l, 1) := by decide +kernel
theorem dX6_currents_85 : decode cX6_currents 85 = .ok (.iload_n 3, 1) := by decide +kernel
theorem dX6_currents_86 : decode cX6_currents 86 = .ok (.i2l, 1) := by decide +kernel
theorem dX6_currents_87 : decode cX6_currents 87 = .ok (.lmul, 1) := by decide +kernel
theorem dX6_currents_88 : decode cX6_currents 88 = .ok (.lstore 6, 2) := by decide +kernel
theorem dX6_currents_90 : decode cX6_currents 90 = .ok (.iload 5, 2) := by decide +kernel
theorem dX6_currents_92 : decode cX6_currents 92 = .ok (.i2l, 1) := by decide +kernel
theorem dX6_currents_93 : decode cX6_currents 93 = .ok (.iload 5, 2) := by decide +kernel
theorem dX6_currents_95 : decode cX6_currents 95 = .ok (.i2l, 1) := by decide +kernel
theorem dX6_currents_96 : decode cX6_currents 96 = .ok (.lmul, 1) := by decide +kernel
theorem dX6_currents_97 : decode cX6_currents 97 = .ok (.lstore 8, 2) := by decide +kernel
theorem dX6_currents_99 : decode cX6_currents 99 = .ok (.aload_n 0, 1) := by decide +kernel
theorem dX6_currents_100 : decode cX6_currents 100 = .ok (.getfield 47, 3) := by decide +kernel
theorem dX6_currents_103 : decode cX6_currents 103 = .ok (.iload_n 2, 1) := by decide +kernel
theorem dX6_currents_104 : decode cX6_currents 104 = .ok (.i2l, 1) := by decide +kernel
theorem dX6_currents_105 : decode cX6_currents 105 = .ok (.lload 8, 2) := by decide +kernel
theorem dX6_currents_107 : decode cX6_currents 107 = .ok (.lmul, 1) := by decide +kernel
theorem dX6_currents_108 : decode cX6_currents 108 = .ok (.iload 4, 2) := by decide +kernel
theorem dX6_currents_110 : decode cX6_currents 110 = .ok (.i2l, 1) := by decide +kernel
theorem dX6_currents_111 : decode cX6_currents 111 = .ok (.lload 6, 2) := by decide +kernel
theorem dX6_currents_113 : decode cX6_currents 113 = .ok (.lmul, 1) := by decide +kernel
theorem dX6_currents_114 : decode cX6_currents 114 = .ok (.lsub, 1) := by decide +kernel
theorem dX6_currents_115 : decode cX6_currents 115 = .ok (.lload 8, 2) := by decide +kernel
theorem dX6_currents_117 : decode cX6_currents 117 = .ok (.lload 6, 2) := by decide +kernel
theorem dX6_currents_119 : decode cX6_currents 119 = .ok (.lsub, 1) := by decide +kernel
theorem dX6_currents_120 : decode cX6_currents 120 = .ok (.invokevirtual 122, 3) := by decide +kernel
theorem dX6_currents_123 : decode cX6_currents 123 = .ok (.iconst 1, 1) := by decide +kernel
theorem dX6_currents_124 : decode cX6_currents 124 = .ok (.ireturn, 1) := by decide +kernel
set_option maxRecDepth 20000 in
theorem ggX6_compare_X6_isRow : GoodIn wsX6_compare wsX6_isRow := goodIn_r _ [7, 8, 9, 6, 10] (by decide +kernel) (by decide +kernel)
set_option maxRecDepth 20000 in
theorem gX6_compare_X6_isRow : GoodIn wsX6_compare (va_wsS RX6 63 yX6_isRow wsX6_isRow) := goodIn_app (goodIn_of _ (by decide +kernel)) ggX6_compare_X6_isRow
set_option maxRecDepth 20000 in
theorem ggX6_compare_X4_isMissing : GoodIn wsX6_compare wsX4_isMissing := goodIn_r _ [15, 16, 58, 59] (by decide +kernel) (by decide +kernel)
set_option maxRecDepth 20000 in
theorem gX6_compare_X4_isMissing : GoodIn wsX6_compare (wsV RX6 80 RX4 yX4_isMissing wsX4_isMissing) := goodIn_app (goodIn_of _ (by decide +kernel)) ggX6_compare_X4_isMissing
set_option maxRecDepth 20000 in
theorem ggX6_compare_X6_refuse : GoodIn wsX6_compare wsX6_refuse := goodIn_r _ [20, 21, 22, 8, 9, 6, 10, 49, 50, 51, 52, 53, 54, 55, 56, 57] (by decide +kernel) (by decide +kernel)
set_option maxRecDepth 20000 in
theorem gX6_compare_X6_refuse : GoodIn wsX6_compare (wsV RX6 67 RX6 yX6_refuse wsX6_refuse) := goodIn_app (goodIn_of _ (by decide +kernel)) ggX6_compare_X6_refuse
set_option maxRecDepth 20000 in
theorem ggX6_compare_X4_sizeOf : GoodIn wsX6_compare wsX4_sizeOf := goodIn_r _ [26, 16, 58, 59] (by decide +kernel) (by decide +kernel)
set_option maxRecDepth 20000 in
theorem gX6_compare_X4_sizeOf : GoodIn wsX6_compare (wsV RX6 106 RX4 yX4_sizeOf wsX4_sizeOf) := goodIn_app (goodIn_of _ (by decide +kernel)) ggX6_compare_X4_sizeOf
set_option maxRecDepth 20000 in
theorem ggX6_compare_X4_heldCount : GoodIn wsX6_compare wsX4_heldCount := goodIn_r _ [30, 16, 31, 58, 59] (by decide +kernel) (by decide +kernel)
set_option maxRecDepth 20000 in
theorem gX6_compare_X4_heldCount : GoodIn wsX6_compare (wsV RX6 103 RX4 yX4_heldCount wsX4_heldCount) := goodIn_app (goodIn_of _ (by decide +kernel)) ggX6_compare_X4_heldCount
set_option maxRecDepth 20000 in
theorem ggX6_compare_X6_isBetween : GoodIn wsX6_compare wsX6_isBetween := goodIn_r _ [10] (by decide +kernel) (by decide +kernel)
set_option maxRecDepth 20000 in
theorem gX6_compare_X6_isBetween : GoodIn wsX6_compare (va_wsS RX6 113 yX6_isBetween wsX6_isBetween) := goodIn_app (goodIn_of _ (by decide +kernel)) ggX6_compare_X6_isBetween
set_option maxRecDepth 20000 in
theorem ggX6_compare_X4_mirrorSum : GoodIn wsX6_compare wsX4_mirrorSum := goodIn_r _ [35, 31, 16, 58, 59] (by decide +kernel) (by decide +kernel)
set_option maxRecDepth 20000 in
theorem gX6_compare_X4_mirrorSum : GoodIn wsX6_compare (wsV RX6 191 RX4 yX4_mirrorSum wsX4_mirrorSum) := goodIn_app (goodIn_of _ (by decide +kernel)) ggX6_compare_X4_mirrorSum
set_option maxRecDepth 20000 in
theorem ggX6_compare_X2_tell : GoodIn wsX6_compare wsX2_tell := goodIn_r _ [40, 41, 42, 43, 6, 44, 45, 46, 47, 48, 60, 61] (by decide +kernel) (by decide +kernel)
set_option maxRecDepth 20000 in
theorem gX6_compare_X2_tell : GoodIn wsX6_compare (wsV RX6 122 RX2 yX2_tell wsX2_tell) := goodIn_app (goodIn_of _ (by decide +kernel)) ggX6_compare_X2_tell
theorem dX6_compare_0 : decode cX6_compare 0 = .ok (.iload_n 1, 1) := by decide +kernel
theorem dX6_compare_1 : decode cX6_compare 1 = .ok (.invokestatic 63, 3) := by decide +kernel
theorem dX6_compare_4 : decode cX6_compare 4 = .ok (.ifCond .ne 5, 3) := by decide +kernel
theorem dX6_compare_7 : decode cX6_compare 7 = .ok (.iconst (-1), 1) := by decide +kernel
theorem dX6_compare_8 : decode cX6_compare 8 = .ok (.ireturn, 1) := by decide +kernel
theorem dX6_compare_9 : decode cX6_compare 9 = .ok (.aload_n 0, 1) := by decide +kernel
theorem dX6_compare_10 : decode cX6_compare 10 = .ok (.getfield 10, 3) := by decide +kernel
theorem dX6_compare_13 : decode cX6_compare 13 = .ok (.iload_n 1, 1) := by decide +kernel
theorem dX6_compare_14 : decode cX6_compare 14 = .ok (.invokevirtual 80, 3) := by decide +kernel
theorem dX6_compare_17 : decode cX6_compare 17 = .ok (.ifCond .eq 9, 3) := by decide +kernel
theorem dX6_compare_20 : decode cX6_compare 20 = .ok (.aload_n 0, 1) := by decide +kernel
theorem dX6_compare_21 : decode cX6_compare 21 = .ok (.iconst 1, 1) := by decide +kernel
theorem dX6_compare_22 : decode cX6_compare 22 = .ok (.invokevirtual 67, 3) := by decide +kernel
theorem dX6_compare_25 : decode cX6_compare 25 = .ok (.ireturn, 1) := by decide +kernel
theorem dX6_compare_26 : decode cX6_compare 26 = .ok (.aload_n 0, 1) := by decide +kernel
theorem dX6_compare_27 : decode cX6_compare 27 = .ok (.getfield 10, 3) := by decide +kernel
theorem dX6_compare_30 : decode cX6_compare 30 = .ok (.iload_n 1, 1) := by decide +kernel
theorem dX6_compare_31 : decode cX6_compare 31 = .ok (.invokevirtual 106, 3) := by decide +kernel
theorem dX6_compare_34 : decode cX6_compare 34 = .ok (.istore_n 3, 1) := by decide +kernel
theorem dX6_compare_35 : decode cX6_compare 35 = .ok (.iload_n 3, 1) := by decide +kernel
theorem dX6_compare_36 : decode cX6_compare 36 = .ok (.iconst 4, 1) := by decide +kernel
theorem dX6_compare_37 : decode cX6_compare 37 = .ok (.if_icmp .lt 21, 3) := by decide +kernel
theorem dX6_compare_40 : decode cX6_compare 40 = .ok (.iload_n 3, 1) := by decide +kernel
theorem dX6_compare_41 : decode cX6_compare 41 = .ok (.iconst 2, 1) := by decide +kernel
theorem dX6_compare_42 : decode cX6_compare 42 = .ok (.irem, 1) := by decide +kernel
theorem dX6_compare_43 : decode cX6_compare 43 = .ok (.ifCond .ne 15, 3) := by decide +kernel
theorem dX6_compare_46 : decode cX6_compare 46 = .ok (.aload_n 0, 1) := by decide +kernel
theorem dX6_compare_47 : decode cX6_compare 47 = .ok (.getfield 10, 3) := by decide +kernel
theorem dX6_compare_50 : decode cX6_compare 50 = .ok (.iload_n 1, 1) := by decide +kernel
theorem dX6_compare_51 : decode cX6_compare 51 = .ok (.invokevirtual 103, 3) := by decide +kernel
theorem dX6_compare_54 : decode cX6_compare 54 = .ok (.iload_n 3, 1) := by decide +kernel
theorem dX6_compare_55 : decode cX6_compare 55 = .ok (.if_icmp .eq 9, 3) := by decide +kernel
theorem dX6_compare_58 : decode cX6_compare 58 = .ok (.aload_n 0, 1) := by decide +kernel
theorem dX6_compare_59 : decode cX6_compare 59 = .ok (.iconst 5, 1) := by decide +kernel
theorem dX6_compare_60 : decode cX6_compare 60 = .ok (.invokevirtual 67, 3) := by decide +kernel
theorem dX6_compare_63 : decode cX6_compare 63 = .ok (.ireturn, 1) := by decide +kernel
theorem dX6_compare_64 : decode cX6_compare 64 = .ok (.iload_n 3, 1) := by decide +kernel
theorem dX6_compare_65 : decode cX6_compare 65 = .ok (.iconst 2, 1) := by decide +kernel
theorem dX6_compare_66 : decode cX6_compare 66 = .ok (.idiv, 1) := by decide +kernel
theorem dX6_compare_67 : decode cX6_compare 67 = .ok (.iconst 1, 1) := by decide +kernel
theorem dX6_compare_68 : decode cX6_compare 68 = .ok (.isub, 1) := by decide +kernel
theorem dX6_compare_69 : decode cX6_compare 69 = .ok (.istore 4, 2) := by decide +kernel
theorem dX6_compare_71 : decode cX6_compare 71 = .ok (.iload_n 2, 1) := by decide +kernel
theorem dX6_compare_72 : decode cX6_compare 72 = .ok (.iconst 0, 1) := by decide +kernel
theorem dX6_compare_73 : decode cX6_compare 73 = .ok (.iload 4, 2) := by decide +kernel
theorem dX6_compare_75 : decode cX6_compare 75 = .ok (.iconst 1, 1) := by decide +kernel
theorem dX6_compare_76 : decode cX6_compare 76 = .ok (.isub, 1) := by decide +kernel
theorem dX6_compare_77 : decode cX6_compare 77 = .ok (.invokestatic 113, 3) := by decide +kernel
theorem dX6_compare_80 : decode cX6_compare 80 = .ok (.ifCond .ne 6, 3) := by decide +kernel
theorem dX6_compare_83 : decode cX6_compare 83 = .ok (.bipush (-9), 2) := by decide +kernel
theorem dX6_compare_85 : decode cX6_compare 85 = .ok (.ireturn, 1) := by decide +kernel
theorem dX6_compare_86 : decode cX6_compare 86 = .ok (.aload_n 0, 1) := by decide +kernel
theorem dX6_compare_87 : decode cX6_compare 87 = .ok (.getfield 47, 3) := by decide +kernel
theorem dX6_compare_90 : decode cX6_compare 90 = .ok (.aload_n 0, 1) := by decide +kernel
theorem dX6_compare_91 : decode cX6_compare 91 = .ok (.getfield 10, 3) := by decide +kernel
theorem dX6_compare_94 : decode cX6_compare 94 = .ok (.iload_n 1, 1) := by decide +kernel
theorem dX6_compare_95 : decode cX6_compare 95 = .ok (.iload_n 2, 1) := by decide +kernel
theorem dX6_compare_96 : decode cX6_compare 96 = .ok (.iconst 1, 1) := by decide +kernel
theorem dX6_compare_97 : decode cX6_compare 97 = .ok (.iadd, 1) := by decide +kernel
theorem dX6_compare_98 : decode cX6_compare 98 = .ok (.invokevirtual 191, 3) := by decide +kernel
theorem dX6_compare_101 : decode cX6_compare 101 = .ok (.aload_n 0, 1) := by decide +kernel
theorem dX6_compare_102 : decode cX6_compare 102 = .ok (.getfield 10, 3) := by decide +kernel
theorem dX6_compare_105 : decode cX6_compare 105 = .ok (.iload_n 1, 1) := by decide +kernel
theorem dX6_compare_106 : decode cX6_compare 106 = .ok (.iconst 0, 1) := by decide +kernel
theorem dX6_compare_107 : decode cX6_compare 107 = .ok (.invokevirtual 191, 3) := by decide +kernel
theorem dX6_compare_110 : decode cX6_compare 110 = .ok (.isub, 1) := by decide +kernel
theorem dX6_compare_111 : decode cX6_compare 111 = .ok (.i2l, 1) := by decide +kernel
theorem dX6_compare_112 : decode cX6_compare 112 = .ok (.ldc2_w 194, 3) := by decide +kernel
theorem dX6_compare_115 : decode cX6_compare 115 = .ok (.invokevirtual 122, 3) := by decide +kernel
theorem dX6_compare_118 : decode cX6_compare 118 = .ok (.iconst 1, 1) := by decide +kernel
theorem dX6_compare_119 : decode cX6_compare 119 = .ok (.ireturn, 1) := by decide +kernel
set_option maxRecDepth 20000 in
theorem ggX6_certify_X0_has : GoodIn wsX6_certify wsX0_has := goodIn_r _ [7, 8, 9, 10, 11, 51, 52, 53] (by decide +kernel) (by decide +kernel)
set_option maxRecDepth 20000 in
theorem gX6_certify_X0_has : GoodIn wsX6_certify (wsV RX6 165 RX0 yX0_has wsX0_has) := goodIn_app (goodIn_of _ (by decide +kernel)) ggX6_certify_X0_has
set_option maxRecDepth 20000 in
theorem ggX6_certify_X6_isBath : GoodIn wsX6_certify wsX6_isBath := goodIn_r _ [14, 15, 9, 10, 11] (by decide +kernel) (by decide +kernel)
set_option maxRecDepth 20000 in
theorem gX6_certify_X6_isBath : GoodIn wsX6_certify (va_wsS RX6 196 yX6_isBath wsX6_isBath) := goodIn_app (goodIn_of _ (by decide +kernel)) ggX6_certify_X6_isBath
set_option maxRecDepth 20000 in
theorem ggX6_certify_X6_isDay : GoodIn wsX6_certify wsX6_isDay := goodIn_r _ [18, 19, 15, 9, 10, 11] (by decide +kernel) (by decide +kernel)
set_option maxRecDepth 20000 in
theorem gX6_certify_X6_isDay : GoodIn wsX6_certify (va_wsS RX6 199 yX6_isDay wsX6_isDay) := goodIn_app (goodIn_of _ (by decide +kernel)) ggX6_certify_X6_isDay
set_option maxRecDepth 20000 in
theorem ggX6_certify_X6_isWithin : GoodIn wsX6_certify wsX6_isWithin := goodIn_r _ [22, 15, 9, 10, 11] (by decide +kernel) (by decide +kernel)
set_option maxRecDepth 20000 in
theorem gX6_certify_X6_isWithin : GoodIn wsX6_certify (va_wsS RX6 76 yX6_isWithin wsX6_isWithin) := goodIn_app (goodIn_of _ (by decide +kernel)) ggX6_certify_X6_isWithin
set_option maxRecDepth 20000 in
theorem ggX6_certify_X6_isBetween : GoodIn wsX6_certify wsX6_isBetween := goodIn_r _ [11] (by decide +kernel) (by decide +kernel)
set_option maxRecDepth 20000 in
theorem gX6_certify_X6_isBetween : GoodIn wsX6_certify (va_wsS RX6 113 yX6_isBetween wsX6_isBetween) := goodIn_app (goodIn_of _ (by decide +kernel)) ggX6_certify_X6_isBetween
set_option maxRecDepth 20000 in
theorem ggX6_certify_X1_size : GoodIn wsX6_certify wsX1_size := goodIn_r _ [27, 28, 54, 55] (by decide +kernel) (by decide +kernel)
set_option maxRecDepth 20000 in
theorem gX6_certify_X1_size : GoodIn wsX6_certify (wsV RX6 202 RX1 yX1_size wsX1_size) := goodIn_app (goodIn_of _ (by decide +kernel)) ggX6_certify_X1_size
set_option maxRecDepth 20000 in
theorem ggX6_certify_X1_lastUntil : GoodIn wsX6_certify wsX1_lastUntil := goodIn_r _ [32, 28, 33, 34, 35, 36, 37, 54, 55] (by decide +kernel) (by decide +kernel)
set_option maxRecDepth 20000 in
theorem gX6_certify_X1_lastUntil : GoodIn wsX6_certify (wsV RX6 203 RX1 yX1_lastUntil wsX1_lastUntil) := goodIn_app (goodIn_of _ (by decide +kernel)) ggX6_certify_X1_lastUntil
set_option maxRecDepth 20000 in
theorem ggX6_certify_X1_add : GoodIn wsX6_certify wsX1_add := goodIn_r _ [41, 37, 28, 54, 55] (by decide +kernel) (by decide +kernel)
set_option maxRecDepth 20000 in
theorem gX6_certify_X1_add : GoodIn wsX6_certify (wsV RX6 206 RX1 yX1_add wsX1_add) := goodIn_app (goodIn_of _ (by decide +kernel)) ggX6_certify_X1_add
theorem dX6_certify_0 : decode cX6_certify 0 = .ok (.aload_n 0, 1) := by decide +kernel
theorem dX6_certify_1 : decode cX6_certify 1 = .ok (.getfield 26, 3) := by decide +kernel
theorem dX6_certify_4 : decode cX6_certify 4 = .ok (.iload_n 1, 1) := by decide +kernel
theorem dX6_certify_5 : decode cX6_certify 5 = .ok (.invokevirtual 165, 3) := by decide +kernel
theorem dX6_certify_8 : decode cX6_certify 8 = .ok (.ifCond .eq 63, 3) := by decide +kernel
theorem dX6_certify_11 : decode cX6_certify 11 = .ok (.iload_n 2, 1) := by decide +kernel
theorem dX6_certify_12 : decode cX6_certify 12 = .ok (.bipush (-9), 2) := by decide +kernel
theorem dX6_certify_14 : decode cX6_certify 14 = .ok (.if_icmp .eq 14, 3) := by decide +kernel
theorem dX6_certify_17 : decode cX6_certify 17 = .ok (.aload_n 0, 1) := by decide +kernel
theorem dX6_certify_18 : decode cX6_certify 18 = .ok (.getfield 26, 3) := by decide +kernel
theorem dX6_certify_21 : decode cX6_certify 21 = .ok (.iload_n 2, 1) := by decide +kernel
theorem dX6_certify_22 : decode cX6_certify 22 = .ok (.invokevirtual 165, 3) := by decide +kernel
theorem dX6_certify_25 : decode cX6_certify 25 = .ok (.ifCond .eq 46, 3) := by decide +kernel
theorem dX6_certify_28 : decode cX6_certify 28 = .ok (.iload_n 2, 1) := by decide +kernel
theorem dX6_certify_29 : decode cX6_certify 29 = .ok (.iload_n 1, 1) := by decide +kernel
theorem dX6_certify_30 : decode cX6_certify 30 = .ok (.if_icmp .eq 41, 3) := by decide +kernel
theorem dX6_certify_33 : decode cX6_certify 33 = .ok (.iload_n 3, 1) := by decide +kernel
theorem dX6_certify_34 : decode cX6_certify 34 = .ok (.invokestatic 196, 3) := by decide +kernel
theorem dX6_certify_37 : decode cX6_certify 37 = .ok (.ifCond .eq 34, 3) := by decide +kernel
theorem dX6_certify_40 : decode cX6_certify 40 = .ok (.iload 4, 2) := by decide +kernel
theorem dX6_certify_42 : decode cX6_certify 42 = .ok (.invokestatic 199, 3) := by decide +kernel
theorem dX6_certify_45 : decode cX6_certify 45 = .ok (.ifCond .eq 26, 3) := by decide +kernel
theorem dX6_certify_48 : decode cX6_certify 48 = .ok (.iload 5, 2) := by decide +kernel
theorem dX6_certify_50 : decode cX6_certify 50 = .ok (.sipush 10000, 3) := by decide +kernel
theorem dX6_certify_53 : decode cX6_certify 53 = .ok (.invokestatic 76, 3) := by decide +kernel
theorem dX6_certify_56 : decode cX6_certify 56 = .ok (.ifCond .eq 15, 3) := by decide +kernel
theorem dX6_certify_59 : decode cX6_certify 59 = .ok (.iload 6, 2) := by decide +kernel
theorem dX6_certify_61 : decode cX6_certify 61 = .ok (.iconst 0, 1) := by decide +kernel
theorem dX6_certify_62 : decode cX6_certify 62 = .ok (.sipush 10000, 3) := by decide +kernel
theorem dX6_certify_65 : decode cX6_certify 65 = .ok (.invokestatic 113, 3) := by decide +kernel
theorem dX6_certify_68 : decode cX6_certify 68 = .ok (.ifCond .ne 5, 3) := by decide +kernel
theorem dX6_certify_71 : decode cX6_certify 71 = .ok (.iconst (-1), 1) := by decide +kernel
theorem dX6_certify_72 : decode cX6_certify 72 = .ok (.ireturn, 1) := by decide +kernel
theorem dX6_certify_73 : decode cX6_certify 73 = .ok (.aload_n 0, 1) := by decide +kernel
theorem dX6_certify_74 : decode cX6_certify 74 = .ok (.getfield 33, 3) := by decide +kernel
theorem dX6_certify_77 : decode cX6_certify 77 = .ok (.invokevirtual 202, 3) := by decide +kernel
theorem dX6_certify_80 : decode cX6_certify 80 = .ok (.bipush 40, 2) := by decide +kernel
theorem dX6_certify_82 : decode cX6_certify 82 = .ok (.if_icmp .lt 6, 3) := by decide +kernel
theorem dX6_certify_85 : decode cX6_certify 85 = .ok (.bipush (-2), 2) := by decide +kernel
theorem dX6_certify_87 : decode cX6_certify 87 = .ok (.ireturn, 1) := by decide +kernel
theorem dX6_certify_88 : decode cX6_certify 88 = .ok (.iload_n 2, 1) := by decide +kernel
theorem dX6_certify_89 : decode cX6_certify 89 = .ok (.bipush (-9), 2) := by decide +kernel
theorem dX6_certify_91 : decode cX6_certify 91 = .ok (.if_icmp .ne 8, 3) := by decide +kernel
theorem dX6_certify_94 : decode cX6_certify 94 = .ok (.bipush (-9), 2) := by decide +kernel
theorem dX6_certify_96 : decode cX6_certify 96 = .ok (.goto 20, 3) := by decide +kernel
theorem dX6_certify_99 : decode cX6_certify 99 = .ok (.aload_n 0, 1) := by decide +kernel
theorem dX6_certify_100 : decode cX6_certify 100 = .ok (.getfield 33, 3) := by decide +kernel
theorem dX6_certify_103 : decode cX6_certify 103 = .ok (.iload_n 2, 1) := by decide +kernel
theorem dX6_certify_104 : decode cX6_certify 104 = .ok (.iload 4, 2) := by decide +kernel
theorem dX6_certify_106 : decode cX6_certify 106 = .ok (.aload_n 0, 1) := by decide +kernel
theorem dX6_certify_107 : decode cX6_certify 107 = .ok (.getfield 33, 3) := by decide +kernel
theorem dX6_certify_110 : decode cX6_certify 110 = .ok (.invokevirtual 202, 3) := by decide +kernel
theorem dX6_certify_113 : decode cX6_certify 113 = .ok (.invokevirtual 203, 3) := by decide +kernel
theorem dX6_certify_116 : decode cX6_certify 116 = .ok (.istore 7, 2) := by decide +kernel
theorem dX6_certify_118 : decode cX6_certify 118 = .ok (.iload_n 2, 1) := by decide +kernel
theorem dX6_certify_119 : decode cX6_certify 119 = .ok (.bipush (-9), 2) := by decide +kernel
theorem dX6_certify_121 : decode cX6_certify 121 = .ok (.if_icmp .eq 13, 3) := by decide +kernel
theorem dX6_certify_124 : decode cX6_certify 124 = .ok (.iload 7, 2) := by decide +kernel
theorem dX6_certify_126 : decode cX6_certify 126 = .ok (.bipush (-9), 2) := by decide +kernel
theorem dX6_certify_128 : decode cX6_certify 128 = .ok (.if_icmp .ne 6, 3) := by decide +kernel
theorem dX6_certify_131 : decode cX6_certify 131 = .ok (.bipush (-4), 2) := by decide +kernel
theorem dX6_certify_133 : decode cX6_certify 133 = .ok (.ireturn, 1) := by decide +kernel
theorem dX6_certify_134 : decode cX6_certify 134 = .ok (.aload_n 0, 1) := by decide +kernel
theorem dX6_certify_135 : decode cX6_certify 135 = .ok (.getfield 33, 3) := by decide +kernel
theorem dX6_certify_138 : decode cX6_certify 138 = .ok (.iload_n 1, 1) := by decide +kernel
theorem dX6_certify_139 : decode cX6_certify 139 = .ok (.iload_n 2, 1) := by decide +kernel
theorem dX6_certify_140 : decode cX6_certify 140 = .ok (.iload_n 3, 1) := by decide +kernel
theorem dX6_certify_141 : decode cX6_certify 141 = .ok (.iload 4, 2) := by decide +kernel
theorem dX6_certify_143 : decode cX6_certify 143 = .ok (.iload 5, 2) := by decide +kernel
theorem dX6_certify_145 : decode cX6_certify 145 = .ok (.iload 6, 2) := by decide +kernel
theorem dX6_certify_147 : decode cX6_certify 147 = .ok (.iload 7, 2) := by decide +kernel
theorem dX6_certify_149 : decode cX6_certify 149 = .ok (.invokevirtual 206, 3) := by decide +kernel
theorem dX6_certify_152 : decode cX6_certify 152 = .ok (.ireturn, 1) := by decide +kernel
set_option maxRecDepth 20000 in
theorem ggX6_certificate_X1_has : GoodIn wsX6_certificate wsX1_has := goodIn_r _ [6, 7, 8, 9, 10, 26, 27] (by decide +kernel) (by decide +kernel)
set_option maxRecDepth 20000 in
theorem gX6_certificate_X1_has : GoodIn wsX6_certificate (wsV RX6 209 RX1 yX1_has wsX1_has) := goodIn_app (goodIn_of _ (by decide +kernel)) ggX6_certificate_X1_has
set_option maxRecDepth 20000 in
theorem ggX6_certificate_X6_isBetween : GoodIn wsX6_certificate wsX6_isBetween := goodIn_r _ [10] (by decide +kernel) (by decide +kernel)
set_option maxRecDepth 20000 in
theorem gX6_certificate_X6_isBetween : GoodIn wsX6_certificate (va_wsS RX6 113 yX6_isBetween wsX6_isBetween) := goodIn_app (goodIn_of _ (by decide +kernel)) ggX6_certificate_X6_isBetween
set_option maxRecDepth 20000 in
theorem ggX6_certificate_X1_fact : GoodIn wsX6_certificate wsX1_fact := goodIn_r _ [15, 16, 26, 27] (by decide +kernel) (by decide +kernel)
set_option maxRecDepth 20000 in
theorem gX6_certificate_X1_fact : GoodIn wsX6_certificate (wsV RX6 210 RX1 yX1_fact wsX1_fact) := goodIn_app (goodIn_of _ (by decide +kernel)) ggX6_certificate_X1_fact
theorem dX6_certificate_0 : decode cX6_certificate 0 = .ok (.aload_n 0, 1) := by decide +kernel
theorem dX6_certificate_1 : decode cX6_certificate 1 = .ok (.getfield 33, 3) := by decide +kernel
theorem dX6_certificate_4 : decode cX6_certificate 4 = .ok (.iload_n 1, 1) := by decide +kernel
theorem dX6_certificate_5 : decode cX6_certificate 5 = .ok (.invokevirtual 209, 3) := by decide +kernel
theorem dX6_certificate_8 : decode cX6_certificate 8 = .ok (.ifCond .eq 13, 3) := by decide +kernel
theorem dX6_certificate_11 : decode cX6_certificate 11 = .ok (.iload_n 2, 1) := by decide +kernel
theorem dX6_certificate_12 : decode cX6_certificate 12 = .ok (.iconst 0, 1) := by decide +kernel
theorem dX6_certificate_13 : decode cX6_certificate 13 = .ok (.bipush 6, 2) := by decide +kernel
theorem dX6_certificate_15 : decode cX6_certificate 15 = .ok (.invokestatic 113, 3) := by decide +kernel
theorem dX6_certificate_18 : decode cX6_certificate 18 = .ok (.ifCond .ne 5, 3) := by decide +kernel
theorem dX6_certificate_21 : decode cX6_certificate 21 = .ok (.iconst (-1), 1) := by decide +kernel
theorem dX6_certificate_22 : decode cX6_certificate 22 = .ok (.ireturn, 1) := by decide +kernel
theorem dX6_certificate_23 : decode cX6_certificate 23 = .ok (.aload_n 0, 1) := by decide +kernel
theorem dX6_certificate_24 : decode cX6_certificate 24 = .ok (.getfield 33, 3) := by decide +kernel
theorem dX6_certificate_27 : decode cX6_certificate 27 = .ok (.iload_n 1, 1) := by decide +kernel
theorem dX6_certificate_28 : decode cX6_certificate 28 = .ok (.iload_n 2, 1) := by decide +kernel
theorem dX6_certificate_29 : decode cX6_certificate 29 = .ok (.invokevirtual 210, 3) := by decide +kernel
theorem dX6_certificate_32 : decode cX6_certificate 32 = .ok (.ireturn, 1) := by decide +kernel
set_option maxRecDepth 20000 in
theorem ggX6_offset_X1_has : GoodIn wsX6_offset wsX1_has := goodIn_r _ [7, 8, 9, 10, 11, 26, 27] (by decide +kernel) (by decide +kernel)
set_option maxRecDepth 20000 in
theorem gX6_offset_X1_has : GoodIn wsX6_offset (wsV RX6 209 RX1 yX1_has wsX1_has) := goodIn_app (goodIn_of _ (by decide +kernel)) ggX6_offset_X1_has
set_option maxRecDepth 20000 in
theorem ggX6_offset_X1_fact : GoodIn wsX6_offset wsX1_fact := goodIn_r _ [15, 16, 26, 27] (by decide +kernel) (by decide +kernel)
set_option maxRecDepth 20000 in
theorem gX6_offset_X1_fact : GoodIn wsX6_offset (wsV RX6 210 RX1 yX1_fact wsX1_fact) := goodIn_app (goodIn_of _ (by decide +kernel)) ggX6_offset_X1_fact
theorem dX6_offset_0 : decode cX6_offset 0 = .ok (.aload_n 0, 1) := by decide +kernel
theorem dX6_offset_1 : decode cX6_offset 1 = .ok (.getfield 33, 3) := by decide +kernel
theorem dX6_offset_4 : decode cX6_offset 4 = .ok (.iload_n 1, 1) := by decide +kernel
theorem dX6_offset_5 : decode cX6_offset 5 = .ok (.invokevirtual 209, 3) := by decide +kernel
theorem dX6_offset_8 : decode cX6_offset 8 = .ok (.ifCond .ne 5, 3) := by decide +kernel
theorem dX6_offset_11 : decode cX6_offset 11 = .ok (.iconst (-1), 1) := by decide +kernel
theorem dX6_offset_12 : decode cX6_offset 12 = .ok (.ireturn, 1) := by decide +kernel
theorem dX6_offset_13 : decode cX6_offset 13 = .ok (.aload_n 0, 1) := by decide +kernel
theorem dX6_offset_14 : decode cX6_offset 14 = .ok (.aload_n 0, 1) := by decide +kernel
theorem dX6_offset_15 : decode cX6_offset 15 = .ok (.getfield 33, 3) := by decide +kernel
theorem dX6_offset_18 : decode cX6_offset 18 = .ok (.iload_n 1, 1) := by decide +kernel
theorem dX6_offset_19 : decode cX6_offset 19 = .ok (.bipush 7, 2) := by decide +kernel
theorem dX6_offset_21 : decode cX6_offset 21 = .ok (.invokevirtual 210, 3) := by decide +kernel
theorem dX6_offset_24 : decode cX6_offset 24 = .ok (.i2l, 1) := by decide +kernel
theorem dX6_offset_25 : decode cX6_offset 25 = .ok (.putfield 59, 3) := by decide +kernel
theorem dX6_offset_28 : decode cX6_offset 28 = .ok (.iconst 1, 1) := by decide +kernel
theorem dX6_offset_29 : decode cX6_offset 29 = .ok (.ireturn, 1) := by decide +kernel
set_option maxRecDepth 20000 in
theorem ggX6_wrong_X6_isBath : GoodIn wsX6_wrong wsX6_isBath := goodIn_r _ [5, 6, 7, 4, 8] (by decide +kernel) (by decide +kernel)
set_option maxRecDepth 20000 in
theorem gX6_wrong_X6_isBath : GoodIn wsX6_wrong (va_wsS RX6 196 yX6_isBath wsX6_isBath) := goodIn_app (goodIn_of _ (by decide +kernel)) ggX6_wrong_X6_isBath
set_option maxRecDepth 20000 in
theorem ggX6_wrong_X6_isDay : GoodIn wsX6_wrong wsX6_isDay := goodIn_r _ [11, 12, 6, 7, 4, 8] (by decide +kernel) (by decide +kernel)
set_option maxRecDepth 20000 in
theorem gX6_wrong_X6_isDay : GoodIn wsX6_wrong (va_wsS RX6 199 yX6_isDay wsX6_isDay) := goodIn_app (goodIn_of _ (by decide +kernel)) ggX6_wrong_X6_isDay
set_option maxRecDepth 20000 in
theorem ggX6_wrong_X1_makeVoid : GoodIn wsX6_wrong wsX1_makeVoid := goodIn_r _ [17, 18, 19, 7, 4, 8, 20, 21, 22, 16, 23, 24, 25, 26, 27, 37, 38] (by decide +kernel) (by decide +kernel)
set_option maxRecDepth 20000 in
theorem gX6_wrong_X1_makeVoid : GoodIn wsX6_wrong (wsV RX6 213 RX1 yX1_makeVoid wsX1_makeVoid) := goodIn_app (goodIn_of _ (by decide +kernel)) ggX6_wrong_X1_makeVoid
theorem dX6_wrong_0 : decode cX6_wrong 0 = .ok (.iload_n 1, 1) := by decide +kernel
theorem dX6_wrong_1 : decode cX6_wrong 1 = .ok (.invokestatic 196, 3) := by decide +kernel
theorem dX6_wrong_4 : decode cX6_wrong 4 = .ok (.ifCond .eq 22, 3) := by decide +kernel
theorem dX6_wrong_7 : decode cX6_wrong 7 = .ok (.iload_n 2, 1) := by decide +kernel
theorem dX6_wrong_8 : decode cX6_wrong 8 = .ok (.invokestatic 199, 3) := by decide +kernel
theorem dX6_wrong_11 : decode cX6_wrong 11 = .ok (.ifCond .eq 15, 3) := by decide +kernel
theorem dX6_wrong_14 : decode cX6_wrong 14 = .ok (.iload_n 3, 1) := by decide +kernel
theorem dX6_wrong_15 : decode cX6_wrong 15 = .ok (.invokestatic 199, 3) := by decide +kernel
theorem dX6_wrong_18 : decode cX6_wrong 18 = .ok (.ifCond .eq 8, 3) := by decide +kernel
theorem dX6_wrong_21 : decode cX6_wrong 21 = .ok (.iload_n 2, 1) := by decide +kernel
theorem dX6_wrong_22 : decode cX6_wrong 22 = .ok (.iload_n 3, 1) := by decide +kernel
theorem dX6_wrong_23 : decode cX6_wrong 23 = .ok (.if_icmp .le 5, 3) := by decide +kernel
theorem dX6_wrong_26 : decode cX6_wrong 26 = .ok (.iconst (-1), 1) := by decide +kernel
theorem dX6_wrong_27 : decode cX6_wrong 27 = .ok (.ireturn, 1) := by decide +kernel
theorem dX6_wrong_28 : decode cX6_wrong 28 = .ok (.aload_n 0, 1) := by decide +kernel
theorem dX6_wrong_29 : decode cX6_wrong 29 = .ok (.getfield 33, 3) := by decide +kernel
theorem dX6_wrong_32 : decode cX6_wrong 32 = .ok (.iload_n 1, 1) := by decide +kernel
theorem dX6_wrong_33 : decode cX6_wrong 33 = .ok (.iload_n 2, 1) := by decide +kernel
theorem dX6_wrong_34 : decode cX6_wrong 34 = .ok (.iload_n 3, 1) := by decide +kernel
theorem dX6_wrong_35 : decode cX6_wrong 35 = .ok (.invokevirtual 213, 3) := by decide +kernel
theorem dX6_wrong_38 : decode cX6_wrong 38 = .ok (.ireturn, 1) := by decide +kernel
set_option maxRecDepth 20000 in
theorem ggX6_passes_X0_has : GoodIn wsX6_passes wsX0_has := goodIn_r _ [11, 12, 13, 14, 15, 49, 50, 51] (by decide +kernel) (by decide +kernel)
set_option maxRecDepth 20000 in
theorem gX6_passes_X0_has : GoodIn wsX6_passes (wsV RX6 165 RX0 yX0_has wsX0_has) := goodIn_app (goodIn_of _ (by decide +kernel)) ggX6_passes_X0_has
set_option maxRecDepth 20000 in
theorem ggX6_passes_X1_latestOf : GoodIn wsX6_passes wsX1_latestOf := goodIn_r _ [20, 21, 22, 23, 24, 25, 19, 26, 27, 28, 5, 29, 30, 52, 53] (by decide +kernel) (by decide +kernel)
set_option maxRecDepth 20000 in
theorem gX6_passes_X1_latestOf : GoodIn wsX6_passes (wsV RX6 178 RX1 yX1_latestOf wsX1_latestOf) := goodIn_app (goodIn_of _ (by decide +kernel)) ggX6_passes_X1_latestOf
set_option maxRecDepth 20000 in
theorem ggX6_passes_X1_fact : GoodIn wsX6_passes wsX1_fact := goodIn_r _ [34, 30, 52, 53] (by decide +kernel) (by decide +kernel)
set_option maxRecDepth 20000 in
theorem gX6_passes_X1_fact : GoodIn wsX6_passes (wsV RX6 210 RX1 yX1_fact wsX1_fact) := goodIn_app (goodIn_of _ (by decide +kernel)) ggX6_passes_X1_fact
set_option maxRecDepth 20000 in
theorem ggX6_passes_X0_toleranceOf : GoodIn wsX6_passes wsX0_toleranceOf := goodIn_r _ [38, 39, 49, 50, 51] (by decide +kernel) (by decide +kernel)
set_option maxRecDepth 20000 in
theorem gX6_passes_X0_toleranceOf : GoodIn wsX6_passes (wsV RX6 171 RX0 yX0_toleranceOf wsX0_toleranceOf) := goodIn_app (goodIn_of _ (by decide +kernel)) ggX6_passes_X0_toleranceOf
theorem dX6_passes_0 : decode cX6_passes 0 = .ok (.aload_n 0, 1) := by decide +kernel
theorem dX6_passes_1 : decode cX6_passes 1 = .ok (.getfield 26, 3) := by decide +kernel
theorem dX6_passes_4 : decode cX6_passes 4 = .ok (.iload_n 1, 1) := by decide +kernel
theorem dX6_passes_5 : decode cX6_passes 5 = .ok (.invokevirtual 165, 3) := by decide +kernel
theorem dX6_passes_8 : decode cX6_passes 8 = .ok (.ifCond .ne 5, 3) := by decide +kernel
theorem dX6_passes_11 : decode cX6_passes 11 = .ok (.iconst (-1), 1) := by decide +kernel
theorem dX6_passes_12 : decode cX6_passes 12 = .ok (.ireturn, 1) := by decide +kernel
theorem dX6_passes_13 : decode cX6_passes 13 = .ok (.aload_n 0, 1) := by decide +kernel
theorem dX6_passes_14 : decode cX6_passes 14 = .ok (.getfield 33, 3) := by decide +kernel
theorem dX6_passes_17 : decode cX6_passes 17 = .ok (.iload_n 1, 1) := by decide +kernel
theorem dX6_passes_18 : decode cX6_passes 18 = .ok (.invokevirtual 178, 3) := by decide +kernel
theorem dX6_passes_21 : decode cX6_passes 21 = .ok (.istore_n 2, 1) := by decide +kernel
theorem dX6_passes_22 : decode cX6_passes 22 = .ok (.iload_n 2, 1) := by decide +kernel
theorem dX6_passes_23 : decode cX6_passes 23 = .ok (.bipush (-9), 2) := by decide +kernel
theorem dX6_passes_25 : decode cX6_passes 25 = .ok (.if_icmp .ne 6, 3) := by decide +kernel
theorem dX6_passes_28 : decode cX6_passes 28 = .ok (.bipush (-4), 2) := by decide +kernel
theorem dX6_passes_30 : decode cX6_passes 30 = .ok (.ireturn, 1) := by decide +kernel
theorem dX6_passes_31 : decode cX6_passes 31 = .ok (.aload_n 0, 1) := by decide +kernel
theorem dX6_passes_32 : decode cX6_passes 32 = .ok (.getfield 33, 3) := by decide +kernel
theorem dX6_passes_35 : decode cX6_passes 35 = .ok (.iload_n 2, 1) := by decide +kernel
theorem dX6_passes_36 : decode cX6_passes 36 = .ok (.bipush 7, 2) := by decide +kernel
theorem dX6_passes_38 : decode cX6_passes 38 = .ok (.invokevirtual 210, 3) := by decide +kernel
theorem dX6_passes_41 : decode cX6_passes 41 = .ok (.invokestatic 216, 3) := by decide +kernel
theorem dX6_passes_44 : decode cX6_passes 44 = .ok (.aload_n 0, 1) := by decide +kernel
theorem dX6_passes_45 : decode cX6_passes 45 = .ok (.getfield 33, 3) := by decide +kernel
theorem dX6_passes_48 : decode cX6_passes 48 = .ok (.iload_n 2, 1) := by decide +kernel
theorem dX6_passes_49 : decode cX6_passes 49 = .ok (.iconst 4, 1) := by decide +kernel
theorem dX6_passes_50 : decode cX6_passes 50 = .ok (.invokevirtual 210, 3) := by decide +kernel
theorem dX6_passes_53 : decode cX6_passes 53 = .ok (.iadd, 1) := by decide +kernel
theorem dX6_passes_54 : decode cX6_passes 54 = .ok (.istore_n 3, 1) := by decide +kernel
theorem dX6_passes_55 : decode cX6_passes 55 = .ok (.iload_n 3, 1) := by decide +kernel
theorem dX6_passes_56 : decode cX6_passes 56 = .ok (.aload_n 0, 1) := by decide +kernel
theorem dX6_passes_57 : decode cX6_passes 57 = .ok (.getfield 26, 3) := by decide +kernel
theorem dX6_passes_60 : decode cX6_passes 60 = .ok (.iload_n 1, 1) := by decide +kernel
theorem dX6_passes_61 : decode cX6_passes 61 = .ok (.invokevirtual 171, 3) := by decide +kernel
theorem dX6_passes_64 : decode cX6_passes 64 = .ok (.if_icmp .gt 7, 3) := by decide +kernel
theorem dX6_passes_67 : decode cX6_passes 67 = .ok (.iconst 1, 1) := by decide +kernel
theorem dX6_passes_68 : decode cX6_passes 68 = .ok (.goto 4, 3) := by decide +kernel
theorem dX6_passes_71 : decode cX6_passes 71 = .ok (.iconst 0, 1) := by decide +kernel
theorem dX6_passes_72 : decode cX6_passes 72 = .ok (.ireturn, 1) := by decide +kernel
set_option maxRecDepth 20000 in
theorem ggX6_whole_X1_has : GoodIn wsX6_whole wsX1_has := goodIn_r _ [7, 8, 9, 10, 11, 31, 32] (by decide +kernel) (by decide +kernel)
set_option maxRecDepth 20000 in
theorem gX6_whole_X1_has : GoodIn wsX6_whole (wsV RX6 209 RX1 yX1_has wsX1_has) := goodIn_app (goodIn_of _ (by decide +kernel)) ggX6_whole_X1_has
set_option maxRecDepth 20000 in
theorem ggX6_whole_X1_squaredEnds : GoodIn wsX6_whole wsX1_squaredEnds := goodIn_r _ [15, 16, 17, 4, 5, 6, 7, 8, 9, 10, 11, 31, 32] (by decide +kernel) (by decide +kernel)
set_option maxRecDepth 20000 in
theorem gX6_whole_X1_squaredEnds : GoodIn wsX6_whole (wsV RX6 218 RX1 yX1_squaredEnds wsX1_squaredEnds) := goodIn_app (goodIn_of _ (by decide +kernel)) ggX6_whole_X1_squaredEnds
set_option maxRecDepth 20000 in
theorem ggX6_whole_X1_chainLength : GoodIn wsX6_whole wsX1_chainLength := goodIn_r _ [21, 16, 17, 4, 5, 6, 7, 8, 9, 10, 11, 31, 32] (by decide +kernel) (by decide +kernel)
set_option maxRecDepth 20000 in
theorem gX6_whole_X1_chainLength : GoodIn wsX6_whole (wsV RX6 221 RX1 yX1_chainLength wsX1_chainLength) := goodIn_app (goodIn_of _ (by decide +kernel)) ggX6_whole_X1_chainLength
theorem dX6_whole_0 : decode cX6_whole 0 = .ok (.aload_n 0, 1) := by decide +kernel
theorem dX6_whole_1 : decode cX6_whole 1 = .ok (.getfield 33, 3) := by decide +kernel
theorem dX6_whole_4 : decode cX6_whole 4 = .ok (.iload_n 1, 1) := by decide +kernel
theorem dX6_whole_5 : decode cX6_whole 5 = .ok (.invokevirtual 209, 3) := by decide +kernel
theorem dX6_whole_8 : decode cX6_whole 8 = .ok (.ifCond .ne 5, 3) := by decide +kernel
theorem dX6_whole_11 : decode cX6_whole 11 = .ok (.iconst (-1), 1) := by decide +kernel
theorem dX6_whole_12 : decode cX6_whole 12 = .ok (.ireturn, 1) := by decide +kernel
theorem dX6_whole_13 : decode cX6_whole 13 = .ok (.aload_n 0, 1) := by decide +kernel
theorem dX6_whole_14 : decode cX6_whole 14 = .ok (.aload_n 0, 1) := by decide +kernel
theorem dX6_whole_15 : decode cX6_whole 15 = .ok (.getfield 33, 3) := by decide +kernel
theorem dX6_whole_18 : decode cX6_whole 18 = .ok (.iload_n 1, 1) := by decide +kernel
theorem dX6_whole_19 : decode cX6_whole 19 = .ok (.invokevirtual 218, 3) := by decide +kernel
theorem dX6_whole_22 : decode cX6_whole 22 = .ok (.putfield 59, 3) := by decide +kernel
theorem dX6_whole_25 : decode cX6_whole 25 = .ok (.aload_n 0, 1) := by decide +kernel
theorem dX6_whole_26 : decode cX6_whole 26 = .ok (.getfield 33, 3) := by decide +kernel
theorem dX6_whole_29 : decode cX6_whole 29 = .ok (.iload_n 1, 1) := by decide +kernel
theorem dX6_whole_30 : decode cX6_whole 30 = .ok (.invokevirtual 221, 3) := by decide +kernel
theorem dX6_whole_33 : decode cX6_whole 33 = .ok (.ireturn, 1) := by decide +kernel
set_option maxRecDepth 20000 in
theorem ggX6_drift_X6_driftRefusal : GoodIn wsX6_drift wsX6_driftRefusal := goodIn_r _ [8, 9, 1, 2, 10, 11, 12, 13, 14, 15, 16, 7, 17, 18, 19, 20, 21, 22, 23, 24, 25, 26, 27, 28, 29, 30, 31, 32, 33, 34, 35, 36, 37, 38, 39, 40, 41, 42, 43, 44, 45, 58, 59, 60, 61, 62, 63, 64, 65, 66, 67, 68, 69, 70, 71] (by decide +kernel) (by decide +kernel)
set_option maxRecDepth 20000 in
theorem gX6_drift_X6_driftRefusal : GoodIn wsX6_drift (wsV RX6 224 RX6 yX6_driftRefusal wsX6_driftRefusal) := goodIn_app (goodIn_of _ (by decide +kernel)) ggX6_drift_X6_driftRefusal
set_option maxRecDepth 20000 in
theorem ggX6_drift_X1_latestOf : GoodIn wsX6_drift wsX1_latestOf := goodIn_r _ [22, 23, 24, 25, 26, 27, 21, 28, 29, 30, 31, 32, 33, 70, 71] (by decide +kernel) (by decide +kernel)
set_option maxRecDepth 20000 in
theorem gX6_drift_X1_latestOf : GoodIn wsX6_drift (wsV RX6 178 RX1 yX1_latestOf wsX1_latestOf) := goodIn_app (goodIn_of _ (by decide +kernel)) ggX6_drift_X1_latestOf
set_option maxRecDepth 20000 in
theorem ggX6_drift_X1_lastUntil : GoodIn wsX6_drift wsX1_lastUntil := goodIn_r _ [28, 24, 29, 30, 31, 32, 33, 70, 71] (by decide +kernel) (by decide +kernel)
set_option maxRecDepth 20000 in
theorem gX6_drift_X1_lastUntil : GoodIn wsX6_drift (wsV RX6 203 RX1 yX1_lastUntil wsX1_lastUntil) := goodIn_app (goodIn_of _ (by decide +kernel)) ggX6_drift_X1_lastUntil
set_option maxRecDepth 20000 in
theorem ggX6_drift_X1_rise : GoodIn wsX6_drift wsX1_rise := goodIn_r _ [38, 33, 70, 71] (by decide +kernel) (by decide +kernel)
set_option maxRecDepth 20000 in
theorem gX6_drift_X1_rise : GoodIn wsX6_drift (wsV RX6 227 RX1 yX1_rise wsX1_rise) := goodIn_app (goodIn_of _ (by decide +kernel)) ggX6_drift_X1_rise
set_option maxRecDepth 20000 in
theorem ggX6_drift_X2_tell : GoodIn wsX6_drift wsX2_tell := goodIn_r _ [50, 51, 52, 53, 7, 54, 55, 56, 31, 57, 72, 73] (by decide +kernel) (by decide +kernel)
set_option maxRecDepth 20000 in
theorem gX6_drift_X2_tell : GoodIn wsX6_drift (wsV RX6 122 RX2 yX2_tell wsX2_tell) := goodIn_app (goodIn_of _ (by decide +kernel)) ggX6_drift_X2_tell
theorem dX6_drift_0 : decode cX6_drift 0 = .ok (.aload_n 0, 1) := by decide +kernel
theorem dX6_drift_1 : decode cX6_drift 1 = .ok (.iload_n 1, 1) := by decide +kernel
theorem dX6_drift_2 : decode cX6_drift 2 = .ok (.invokevirtual 224, 3) := by decide +kernel
theorem dX6_drift_5 : decode cX6_drift 5 = .ok (.istore_n 2, 1) := by decide +kernel
theorem dX6_drift_6 : decode cX6_drift 6 = .ok (.iload_n 2, 1) := by decide +kernel
theorem dX6_drift_7 : decode cX6_drift 7 = .ok (.ifCond .eq 5, 3) := by decide +kernel
theorem dX6_drift_10 : decode cX6_drift 10 = .ok (.iload_n 2, 1) := by decide +kernel
theorem dX6_drift_11 : decode cX6_drift 11 = .ok (.ireturn, 1) := by decide +kernel
theorem dX6_drift_12 : decode cX6_drift 12 = .ok (.aload_n 0, 1) := by decide +kernel
theorem dX6_drift_13 : decode cX6_drift 13 = .ok (.getfield 33, 3) := by decide +kernel
theorem dX6_drift_16 : decode cX6_drift 16 = .ok (.iload_n 1, 1) := by decide +kernel
theorem dX6_drift_17 : decode cX6_drift 17 = .ok (.invokevirtual 178, 3) := by decide +kernel
theorem dX6_drift_20 : decode cX6_drift 20 = .ok (.istore_n 3, 1) := by decide +kernel
theorem dX6_drift_21 : decode cX6_drift 21 = .ok (.aload_n 0, 1) := by decide +kernel
theorem dX6_drift_22 : decode cX6_drift 22 = .ok (.getfield 33, 3) := by decide +kernel
theorem dX6_drift_25 : decode cX6_drift 25 = .ok (.iload_n 1, 1) := by decide +kernel
theorem dX6_drift_26 : decode cX6_drift 26 = .ok (.ldc 75, 2) := by decide +kernel
theorem dX6_drift_28 : decode cX6_drift 28 = .ok (.iload_n 3, 1) := by decide +kernel
theorem dX6_drift_29 : decode cX6_drift 29 = .ok (.invokevirtual 203, 3) := by decide +kernel
theorem dX6_drift_32 : decode cX6_drift 32 = .ok (.istore 4, 2) := by decide +kernel
theorem dX6_drift_34 : decode cX6_drift 34 = .ok (.aload_n 0, 1) := by decide +kernel
theorem dX6_drift_35 : decode cX6_drift 35 = .ok (.getfield 47, 3) := by decide +kernel
theorem dX6_drift_38 : decode cX6_drift 38 = .ok (.aload_n 0, 1) := by decide +kernel
theorem dX6_drift_39 : decode cX6_drift 39 = .ok (.getfield 33, 3) := by decide +kernel
theorem dX6_drift_42 : decode cX6_drift 42 = .ok (.bipush 7, 2) := by decide +kernel
theorem dX6_drift_44 : decode cX6_drift 44 = .ok (.iload 4, 2) := by decide +kernel
theorem dX6_drift_46 : decode cX6_drift 46 = .ok (.iload_n 3, 1) := by decide +kernel
theorem dX6_drift_47 : decode cX6_drift 47 = .ok (.invokevirtual 227, 3) := by decide +kernel
theorem dX6_drift_50 : decode cX6_drift 50 = .ok (.i2l, 1) := by decide +kernel
theorem dX6_drift_51 : decode cX6_drift 51 = .ok (.aload_n 0, 1) := by decide +kernel
theorem dX6_drift_52 : decode cX6_drift 52 = .ok (.getfield 33, 3) := by decide +kernel
theorem dX6_drift_55 : decode cX6_drift 55 = .ok (.iconst 3, 1) := by decide +kernel
theorem dX6_drift_56 : decode cX6_drift 56 = .ok (.iload 4, 2) := by decide +kernel
theorem dX6_drift_58 : decode cX6_drift 58 = .ok (.iload_n 3, 1) := by decide +kernel
theorem dX6_drift_59 : decode cX6_drift 59 = .ok (.invokevirtual 227, 3) := by decide +kernel
theorem dX6_drift_62 : decode cX6_drift 62 = .ok (.i2l, 1) := by decide +kernel
theorem dX6_drift_63 : decode cX6_drift 63 = .ok (.invokevirtual 122, 3) := by decide +kernel
theorem dX6_drift_66 : decode cX6_drift 66 = .ok (.iconst 1, 1) := by decide +kernel
theorem dX6_drift_67 : decode cX6_drift 67 = .ok (.ireturn, 1) := by decide +kernel
set_option maxRecDepth 20000 in
theorem ggX6_due_X6_driftRefusal : GoodIn wsX6_due wsX6_driftRefusal := goodIn_r _ [13, 3, 1, 2, 14, 15, 16, 17, 18, 19, 20, 12, 21, 22, 23, 24, 25, 26, 27, 28, 29, 30, 31, 32, 33, 34, 7, 35, 36, 37, 38, 39, 40, 41, 42, 43, 44, 45, 46, 47, 48, 64, 65, 66, 67, 68, 69, 70, 71, 72, 73, 74, 75, 76, 77] (by decide +kernel) (by decide +kernel)
set_option maxRecDepth 20000 in
theorem gX6_due_X6_driftRefusal : GoodIn wsX6_due (wsV RX6 224 RX6 yX6_driftRefusal wsX6_driftRefusal) := goodIn_app (goodIn_of _ (by decide +kernel)) ggX6_due_X6_driftRefusal
set_option maxRecDepth 20000 in
theorem ggX6_due_X1_latestOf : GoodIn wsX6_due wsX1_latestOf := goodIn_r _ [26, 27, 28, 29, 30, 31, 25, 32, 33, 34, 7, 35, 36, 76, 77] (by decide +kernel) (by decide +kernel)
set_option maxRecDepth 20000 in
theorem gX6_due_X1_latestOf : GoodIn wsX6_due (wsV RX6 178 RX1 yX1_latestOf wsX1_latestOf) := goodIn_app (goodIn_of _ (by decide +kernel)) ggX6_due_X1_latestOf
set_option maxRecDepth 20000 in
theorem ggX6_due_X1_lastUntil : GoodIn wsX6_due wsX1_lastUntil := goodIn_r _ [32, 28, 33, 34, 7, 35, 36, 76, 77] (by decide +kernel) (by decide +kernel)
set_option maxRecDepth 20000 in
theorem gX6_due_X1_lastUntil : GoodIn wsX6_due (wsV RX6 203 RX1 yX1_lastUntil wsX1_lastUntil) := goodIn_app (goodIn_of _ (by decide +kernel)) ggX6_due_X1_lastUntil
set_option maxRecDepth 20000 in
theorem ggX6_due_X1_rise : GoodIn wsX6_due wsX1_rise := goodIn_r _ [41, 36, 76, 77] (by decide +kernel) (by decide +kernel)
set_option maxRecDepth 20000 in
theorem gX6_due_X1_rise : GoodIn wsX6_due (wsV RX6 227 RX1 yX1_rise wsX1_rise) := goodIn_app (goodIn_of _ (by decide +kernel)) ggX6_due_X1_rise
set_option maxRecDepth 20000 in
theorem ggX6_due_X0_toleranceOf : GoodIn wsX6_due wsX0_toleranceOf := goodIn_r _ [52, 53, 73, 74, 75] (by decide +kernel) (by decide +kernel)
set_option maxRecDepth 20000 in
theorem gX6_due_X0_toleranceOf : GoodIn wsX6_due (wsV RX6 171 RX0 yX0_toleranceOf wsX0_toleranceOf) := goodIn_app (goodIn_of _ (by decide +kernel)) ggX6_due_X0_toleranceOf
set_option maxRecDepth 20000 in
theorem ggX6_due_X1_fact : GoodIn wsX6_due wsX1_fact := goodIn_r _ [57, 36, 76, 77] (by decide +kernel) (by decide +kernel)
set_option maxRecDepth 20000 in
theorem gX6_due_X1_fact : GoodIn wsX6_due (wsV RX6 210 RX1 yX1_fact wsX1_fact) := goodIn_app (goodIn_of _ (by decide +kernel)) ggX6_due_X1_fact
set_option maxRecDepth 20000 in
theorem ggX6_due_X6_daysWithin : GoodIn wsX6_due wsX6_daysWithin := goodIn_r _ [60, 61, 62, 7, 63, 4] (by decide +kernel) (by decide +kernel)
set_option maxRecDepth 20000 in
theorem gX6_due_X6_daysWithin : GoodIn wsX6_due (va_wsS RX6 230 yX6_daysWithin wsX6_daysWithin) := goodIn_app (goodIn_of _ (by decide +kernel)) ggX6_due_X6_daysWithin
theorem dX6_due_0 : decode cX6_due 0 = .ok (.aload_n 0, 1) := by decide +kernel
theorem dX6_due_1 : decode cX6_due 1 = .ok (.iload_n 1, 1) := by decide +kernel
theorem dX6_due_2 : decode cX6_due 2 = .ok (.invokevirtual 224, 3) := by decide +kernel
theorem dX6_due_5 : decode cX6_due 5 = .ok (.istore_n 2, 1) := by decide +kernel
theorem dX6_due_6 : decode cX6_due 6 = .ok (.iload_n 2, 1) := by decide +kernel
theorem dX6_due_7 : decode cX6_due 7 = .ok (.ifCond .eq 5, 3) := by decide +kernel
theorem dX6_due_10 : decode cX6_due 10 = .ok (.iload_n 2, 1) := by decide +kernel
theorem dX6_due_11 : decode cX6_due 11 = .ok (.ireturn, 1) := by decide +kernel
theorem dX6_due_12 : decode cX6_due 12 = .ok (.aload_n 0, 1) := by decide +kernel
theorem dX6_due_13 : decode cX6_due 13 = .ok (.getfield 33, 3) := by decide +kernel
theorem dX6_due_16 : decode cX6_due 16 = .ok (.iload_n 1, 1) := by decide +kernel
theorem dX6_due_17 : decode cX6_due 17 = .ok (.invokevirtual 178, 3) := by decide +kernel
theorem dX6_due_20 : decode cX6_due 20 = .ok (.istore_n 3, 1) := by decide +kernel
theorem dX6_due_21 : decode cX6_due 21 = .ok (.aload_n 0, 1) := by decide +kernel
theorem dX6_due_22 : decode cX6_due 22 = .ok (.getfield 33, 3) := by decide +kernel
theorem dX6_due_25 : decode cX6_due 25 = .ok (.iload_n 1, 1) := by decide +kernel
theorem dX6_due_26 : decode cX6_due 26 = .ok (.ldc 75, 2) := by decide +kernel
theorem dX6_due_28 : decode cX6_due 28 = .ok (.iload_n 3, 1) := by decide +kernel
theorem dX6_due_29 : decode cX6_due 29 = .ok (.invokevirtual 203, 3) := by decide +kernel
theorem dX6_due_32 : decode cX6_due 32 = .ok (.istore 4, 2) := by decide +kernel
theorem dX6_due_34 : decode cX6_due 34 = .ok (.aload_n 0, 1) := by decide +kernel
theorem dX6_due_35 : decode cX6_due 35 = .ok (.getfield 33, 3) := by decide +kernel
theorem dX6_due_38 : decode cX6_due 38 = .ok (.bipush 7, 2) := by decide +kernel
theorem dX6_due_40 : decode cX6_due 40 = .ok (.iload 4, 2) := by decide +kernel
theorem dX6_due_42 : decode cX6_due 42 = .ok (.iload_n 3, 1) := by decide +kernel
theorem dX6_due_43 : decode cX6_due 43 = .ok (.invokevirtual 227, 3) := by decide +kernel
theorem dX6_due_46 : decode cX6_due 46 = .ok (.i2l, 1) := by decide +kernel
theorem dX6_due_47 : decode cX6_due 47 = .ok (.lstore 5, 2) := by decide +kernel
theorem dX6_due_49 : decode cX6_due 49 = .ok (.aload_n 0, 1) := by decide +kernel
theorem dX6_due_50 : decode cX6_due 50 = .ok (.getfield 33, 3) := by decide +kernel
theorem dX6_due_53 : decode cX6_due 53 = .ok (.iconst 3, 1) := by decide +kernel
theorem dX6_due_54 : decode cX6_due 54 = .ok (.iload 4, 2) := by decide +kernel
theorem dX6_due_56 : decode cX6_due 56 = .ok (.iload_n 3, 1) := by decide +kernel
theorem dX6_due_57 : decode cX6_due 57 = .ok (.invokevirtual 227, 3) := by decide +kernel
theorem dX6_due_60 : decode cX6_due 60 = .ok (.i2l, 1) := by decide +kernel
theorem dX6_due_61 : decode cX6_due 61 = .ok (.lstore 7, 2) := by decide +kernel
theorem dX6_due_63 : decode cX6_due 63 = .ok (.aload_n 0, 1) := by decide +kernel
theorem dX6_due_64 : decode cX6_due 64 = .ok (.getfield 26, 3) := by decide +kernel
theorem dX6_due_67 : decode cX6_due 67 = .ok (.iload_n 1, 1) := by decide +kernel
theorem dX6_due_68 : decode cX6_due 68 = .ok (.invokevirtual 171, 3) := by decide +kernel
theorem dX6_due_71 : decode cX6_due 71 = .ok (.aload_n 0, 1) := by decide +kernel
theorem dX6_due_72 : decode cX6_due 72 = .ok (.getfield 33, 3) := by decide +kernel
theorem dX6_due_75 : decode cX6_due 75 = .ok (.iload_n 3, 1) := by decide +kernel
theorem dX6_due_76 : decode cX6_due 76 = .ok (.iconst 4, 1) := by decide +kernel
theorem dX6_due_77 : decode cX6_due 77 = .ok (.invokevirtual 210, 3) := by decide +kernel
theorem dX6_due_80 : decode cX6_due 80 = .ok (.isub, 1) := by decide +kernel
theorem dX6_due_81 : decode cX6_due 81 = .ok (.i2l, 1) := by decide +kernel
theorem dX6_due_82 : decode cX6_due 82 = .ok (.lstore 9, 2) := by decide +kernel
theorem dX6_due_84 : decode cX6_due 84 = .ok (.lload 7, 2) := by decide +kernel
theorem dX6_due_86 : decode cX6_due 86 = .ok (.lconst 0, 1) := by decide +kernel
theorem dX6_due_87 : decode cX6_due 87 = .ok (.lcmp, 1) := by decide +kernel
theorem dX6_due_88 : decode cX6_due 88 = .ok (.ifCond .ge 28, 3) := by decide +kernel
theorem dX6_due_91 : decode cX6_due 91 = .ok (.aload_n 0, 1) := by decide +kernel
theorem dX6_due_92 : decode cX6_due 92 = .ok (.getfield 33, 3) := by decide +kernel
theorem dX6_due_95 : decode cX6_due 95 = .ok (.iload_n 3, 1) := by decide +kernel
theorem dX6_due_96 : decode cX6_due 96 = .ok (.bipush 7, 2) := by decide +kernel
theorem dX6_due_98 : decode cX6_due 98 = .ok (.invokevirtual 210, 3) := by decide +kernel
theorem dX6_due_101 : decode cX6_due 101 = .ok (.i2l, 1) := by decide +kernel
theorem dX6_due_102 : decode cX6_due 102 = .ok (.lload 9, 2) := by decide +kernel
theorem dX6_due_104 : decode cX6_due 104 = .ok (.lload 5, 2) := by decide +kernel
theorem dX6_due_106 : decode cX6_due 106 = .ok (.lneg, 1) := by decide +kernel
theorem dX6_due_107 : decode cX6_due 107 = .ok (.lload 7, 2) := by decide +kernel
theorem dX6_due_109 : decode cX6_due 109 = .ok (.lneg, 1) := by decide +kernel
theorem dX6_due_110 : decode cX6_due 110 = .ok (.invokestatic 230, 3) := by decide +kernel
theorem dX6_due_113 : decode cX6_due 113 = .ok (.goto 23, 3) := by decide +kernel
theorem dX6_due_116 : decode cX6_due 116 = .ok (.aload_n 0, 1) := by decide +kernel
theorem dX6_due_117 : decode cX6_due 117 = .ok (.getfield 33, 3) := by decide +kernel
theorem dX6_due_120 : decode cX6_due 120 = .ok (.iload_n 3, 1) := by decide +kernel
theorem dX6_due_121 : decode cX6_due 121 = .ok (.bipush 7, 2) := by decide +kernel
theorem dX6_due_123 : decode cX6_due 123 = .ok (.invokevirtual 210, 3) := by decide +kernel
theorem dX6_due_126 : decode cX6_due 126 = .ok (.i2l, 1) := by decide +kernel
theorem dX6_due_127 : decode cX6_due 127 = .ok (.lload 9, 2) := by decide +kernel
theorem dX6_due_129 : decode cX6_due 129 = .ok (.lload 5, 2) := by decide +kernel
theorem dX6_due_131 : decode cX6_due 131 = .ok (.lload 7, 2) := by decide +kernel
theorem dX6_due_133 : decode cX6_due 133 = .ok (.invokestatic 230, 3) := by decide +kernel
theorem dX6_due_136 : decode cX6_due 136 = .ok (.lstore 11, 2) := by decide +kernel
theorem dX6_due_138 : decode cX6_due 138 = .ok (.aload_n 0, 1) := by decide +kernel
theorem dX6_due_139 : decode cX6_due 139 = .ok (.getfield 33, 3) := by decide +kernel
theorem dX6_due_142 : decode cX6_due 142 = .ok (.iload_n 3, 1) := by decide +kernel
theorem dX6_due_143 : decode cX6_due 143 = .ok (.iconst 3, 1) := by decide +kernel
theorem dX6_due_144 : decode cX6_due 144 = .ok (.invokevirtual 210, 3) := by decide +kernel
theorem dX6_due_147 : decode cX6_due 147 = .ok (.i2l, 1) := by decide +kernel
theorem dX6_due_148 : decode cX6_due 148 = .ok (.lload 11, 2) := by decide +kernel
theorem dX6_due_150 : decode cX6_due 150 = .ok (.ladd, 1) := by decide +kernel
theorem dX6_due_151 : decode cX6_due 151 = .ok (.ldc2_w 234, 3) := by decide +kernel
theorem dX6_due_154 : decode cX6_due 154 = .ok (.invokestatic 236, 3) := by decide +kernel
theorem dX6_due_157 : decode cX6_due 157 = .ok (.l2i, 1) := by decide +kernel
theorem dX6_due_158 : decode cX6_due 158 = .ok (.ireturn, 1) := by decide +kernel
set_option maxRecDepth 20000 in
theorem ggX6_resting_X1_has : GoodIn wsX6_resting wsX1_has := goodIn_r _ [6, 7, 8, 9, 10, 30, 31] (by decide +kernel) (by decide +kernel)
set_option maxRecDepth 20000 in
theorem gX6_resting_X1_has : GoodIn wsX6_resting (wsV RX6 209 RX1 yX1_has wsX1_has) := goodIn_app (goodIn_of _ (by decide +kernel)) ggX6_resting_X1_has
set_option maxRecDepth 20000 in
theorem ggX6_resting_X1_countOver : GoodIn wsX6_resting wsX1_countOver := goodIn_r _ [14, 7, 15, 16, 17, 5, 18, 19, 20, 3, 4, 6, 8, 9, 10, 30, 31] (by decide +kernel) (by decide +kernel)
set_option maxRecDepth 20000 in
theorem gX6_resting_X1_countOver : GoodIn wsX6_resting (wsV RX6 239 RX1 yX1_countOver wsX1_countOver) := goodIn_app (goodIn_of _ (by decide +kernel)) ggX6_resting_X1_countOver
theorem dX6_resting_0 : decode cX6_resting 0 = .ok (.aload_n 0, 1) := by decide +kernel
theorem dX6_resting_1 : decode cX6_resting 1 = .ok (.getfield 33, 3) := by decide +kernel
theorem dX6_resting_4 : decode cX6_resting 4 = .ok (.iload_n 1, 1) := by decide +kernel
theorem dX6_resting_5 : decode cX6_resting 5 = .ok (.invokevirtual 209, 3) := by decide +kernel
theorem dX6_resting_8 : decode cX6_resting 8 = .ok (.ifCond .eq 14, 3) := by decide +kernel
theorem dX6_resting_11 : decode cX6_resting 11 = .ok (.aload_n 0, 1) := by decide +kernel
theorem dX6_resting_12 : decode cX6_resting 12 = .ok (.getfield 33, 3) := by decide +kernel
theorem dX6_resting_15 : decode cX6_resting 15 = .ok (.iload_n 1, 1) := by decide +kernel
theorem dX6_resting_16 : decode cX6_resting 16 = .ok (.invokevirtual 239, 3) := by decide +kernel
theorem dX6_resting_19 : decode cX6_resting 19 = .ok (.goto 4, 3) := by decide +kernel
theorem dX6_resting_22 : decode cX6_resting 22 = .ok (.iconst (-1), 1) := by decide +kernel
theorem dX6_resting_23 : decode cX6_resting 23 = .ok (.ireturn, 1) := by decide +kernel
set_option maxRecDepth 20000 in
theorem ggX6_lab_X6_isLab : GoodIn wsX6_lab wsX6_isLab := goodIn_r _ [5, 6, 7, 4, 8] (by decide +kernel) (by decide +kernel)
set_option maxRecDepth 20000 in
theorem gX6_lab_X6_isLab : GoodIn wsX6_lab (va_wsS RX6 242 yX6_isLab wsX6_isLab) := goodIn_app (goodIn_of _ (by decide +kernel)) ggX6_lab_X6_isLab
set_option maxRecDepth 20000 in
theorem ggX6_lab_X6_isWithin : GoodIn wsX6_lab wsX6_isWithin := goodIn_r _ [11, 6, 7, 4, 8] (by decide +kernel) (by decide +kernel)
set_option maxRecDepth 20000 in
theorem gX6_lab_X6_isWithin : GoodIn wsX6_lab (va_wsS RX6 76 yX6_isWithin wsX6_isWithin) := goodIn_app (goodIn_of _ (by decide +kernel)) ggX6_lab_X6_isWithin
set_option maxRecDepth 20000 in
theorem ggX6_lab_X6_isBetween : GoodIn wsX6_lab wsX6_isBetween := goodIn_r _ [8] (by decide +kernel) (by decide +kernel)
set_option maxRecDepth 20000 in
theorem gX6_lab_X6_isBetween : GoodIn wsX6_lab (va_wsS RX6 113 yX6_isBetween wsX6_isBetween) := goodIn_app (goodIn_of _ (by decide +kernel)) ggX6_lab_X6_isBetween
set_option maxRecDepth 20000 in
theorem ggX6_lab_X3_put : GoodIn wsX6_lab wsX3_put := goodIn_r _ [16, 17, 18, 28, 29] (by decide +kernel) (by decide +kernel)
set_option maxRecDepth 20000 in
theorem gX6_lab_X3_put : GoodIn wsX6_lab (wsV RX6 245 RX3 yX3_put wsX3_put) := goodIn_app (goodIn_of _ (by decide +kernel)) ggX6_lab_X3_put
theorem dX6_lab_0 : decode cX6_lab 0 = .ok (.iload_n 1, 1) := by decide +kernel
theorem dX6_lab_1 : decode cX6_lab 1 = .ok (.invokestatic 242, 3) := by decide +kernel
theorem dX6_lab_4 : decode cX6_lab 4 = .ok (.ifCond .eq 37, 3) := by decide +kernel
theorem dX6_lab_7 : decode cX6_lab 7 = .ok (.iload_n 2, 1) := by decide +kernel
theorem dX6_lab_8 : decode cX6_lab 8 = .ok (.invokestatic 242, 3) := by decide +kernel
theorem dX6_lab_11 : decode cX6_lab 11 = .ok (.ifCond .eq 30, 3) := by decide +kernel
theorem dX6_lab_14 : decode cX6_lab 14 = .ok (.iload_n 1, 1) := by decide +kernel
theorem dX6_lab_15 : decode cX6_lab 15 = .ok (.iload_n 2, 1) := by decide +kernel
theorem dX6_lab_16 : decode cX6_lab 16 = .ok (.if_icmp .eq 25, 3) := by decide +kernel
theorem dX6_lab_19 : decode cX6_lab 19 = .ok (.iload_n 3, 1) := by decide +kernel
theorem dX6_lab_20 : decode cX6_lab 20 = .ok (.sipush 10000, 3) := by decide +kernel
theorem dX6_lab_23 : decode cX6_lab 23 = .ok (.invokestatic 76, 3) := by decide +kernel
theorem dX6_lab_26 : decode cX6_lab 26 = .ok (.ifCond .eq 15, 3) := by decide +kernel
theorem dX6_lab_29 : decode cX6_lab 29 = .ok (.iload 4, 2) := by decide +kernel
theorem dX6_lab_31 : decode cX6_lab 31 = .ok (.iconst 0, 1) := by decide +kernel
theorem dX6_lab_32 : decode cX6_lab 32 = .ok (.sipush 10000, 3) := by decide +kernel
theorem dX6_lab_35 : decode cX6_lab 35 = .ok (.invokestatic 113, 3) := by decide +kernel
theorem dX6_lab_38 : decode cX6_lab 38 = .ok (.ifCond .ne 5, 3) := by decide +kernel
theorem dX6_lab_41 : decode cX6_lab 41 = .ok (.iconst (-1), 1) := by decide +kernel
theorem dX6_lab_42 : decode cX6_lab 42 = .ok (.ireturn, 1) := by decide +kernel
theorem dX6_lab_43 : decode cX6_lab 43 = .ok (.aload_n 0, 1) := by decide +kernel
theorem dX6_lab_44 : decode cX6_lab 44 = .ok (.getfield 40, 3) := by decide +kernel
theorem dX6_lab_47 : decode cX6_lab 47 = .ok (.iload_n 1, 1) := by decide +kernel
theorem dX6_lab_48 : decode cX6_lab 48 = .ok (.iload_n 2, 1) := by decide +kernel
theorem dX6_lab_49 : decode cX6_lab 49 = .ok (.iload_n 3, 1) := by decide +kernel
theorem dX6_lab_50 : decode cX6_lab 50 = .ok (.iload 4, 2) := by decide +kernel
theorem dX6_lab_52 : decode cX6_lab 52 = .ok (.invokevirtual 245, 3) := by decide +kernel
theorem dX6_lab_55 : decode cX6_lab 55 = .ok (.iconst 1, 1) := by decide +kernel
theorem dX6_lab_56 : decode cX6_lab 56 = .ok (.ireturn, 1) := by decide +kernel
set_option maxRecDepth 20000 in
theorem ggX6_closes_X6_isLab : GoodIn wsX6_closes wsX6_isLab := goodIn_r _ [6, 7, 8, 5, 9] (by decide +kernel) (by decide +kernel)
set_option maxRecDepth 20000 in
theorem gX6_closes_X6_isLab : GoodIn wsX6_closes (va_wsS RX6 242 yX6_isLab wsX6_isLab) := goodIn_app (goodIn_of _ (by decide +kernel)) ggX6_closes_X6_isLab
set_option maxRecDepth 20000 in
theorem ggX6_closes_X3_isKnown : GoodIn wsX6_closes wsX3_isKnown := goodIn_r _ [14, 15, 39, 40] (by decide +kernel) (by decide +kernel)
set_option maxRecDepth 20000 in
theorem gX6_closes_X3_isKnown : GoodIn wsX6_closes (wsV RX6 248 RX3 yX3_isKnown wsX3_isKnown) := goodIn_app (goodIn_of _ (by decide +kernel)) ggX6_closes_X3_isKnown
set_option maxRecDepth 20000 in
theorem ggX6_closes_X3_gap : GoodIn wsX6_closes wsX3_gap := goodIn_r _ [19, 20, 39, 40] (by decide +kernel) (by decide +kernel)
set_option maxRecDepth 20000 in
theorem gX6_closes_X3_gap : GoodIn wsX6_closes (wsV RX6 251 RX3 yX3_gap wsX3_gap) := goodIn_app (goodIn_of _ (by decide +kernel)) ggX6_closes_X3_gap
set_option maxRecDepth 20000 in
theorem ggX6_closes_X3_isShut : GoodIn wsX6_closes wsX3_isShut := goodIn_r _ [24, 25, 26, 27, 28, 15, 29, 17, 18, 13, 19, 20, 39, 40] (by decide +kernel) (by decide +kernel)
set_option maxRecDepth 20000 in
theorem gX6_closes_X3_isShut : GoodIn wsX6_closes (wsV RX6 254 RX3 yX3_isShut wsX3_isShut) := goodIn_app (goodIn_of _ (by decide +kernel)) ggX6_closes_X3_isShut
theorem dX6_closes_0 : decode cX6_closes 0 = .ok (.iload_n 1, 1) := by decide +kernel
theorem dX6_closes_1 : decode cX6_closes 1 = .ok (.invokestatic 242, 3) := by decide +kernel
theorem dX6_closes_4 : decode cX6_closes 4 = .ok (.ifCond .eq 32, 3) := by decide +kernel
theorem dX6_closes_7 : decode cX6_closes 7 = .ok (.iload_n 2, 1) := by decide +kernel
theorem dX6_closes_8 : decode cX6_closes 8 = .ok (.invokestatic 242, 3) := by decide +kernel
theorem dX6_closes_11 : decode cX6_closes 11 = .ok (.ifCond .eq 25, 3) := by decide +kernel
theorem dX6_closes_14 : decode cX6_closes 14 = .ok (.iload_n 3, 1) := by decide +kernel
theorem dX6_closes_15 : decode cX6_closes 15 = .ok (.invokestatic 242, 3) := by decide +kernel
theorem dX6_closes_18 : decode cX6_closes 18 = .ok (.ifCond .eq 18, 3) := by decide +kernel
theorem dX6_closes_21 : decode cX6_closes 21 = .ok (.iload_n 1, 1) := by decide +kernel
theorem dX6_closes_22 : decode cX6_closes 22 = .ok (.iload_n 2, 1) := by decide +kernel
theorem dX6_closes_23 : decode cX6_closes 23 = .ok (.if_icmp .eq 13, 3) := by decide +kernel
theorem dX6_closes_26 : decode cX6_closes 26 = .ok (.iload_n 2, 1) := by decide +kernel
theorem dX6_closes_27 : decode cX6_closes 27 = .ok (.iload_n 3, 1) := by decide +kernel
theorem dX6_closes_28 : decode cX6_closes 28 = .ok (.if_icmp .eq 8, 3) := by decide +kernel
theorem dX6_closes_31 : decode cX6_closes 31 = .ok (.iload_n 3, 1) := by decide +kernel
theorem dX6_closes_32 : decode cX6_closes 32 = .ok (.iload_n 1, 1) := by decide +kernel
theorem dX6_closes_33 : decode cX6_closes 33 = .ok (.if_icmp .ne 5, 3) := by decide +kernel
theorem dX6_closes_36 : decode cX6_closes 36 = .ok (.iconst (-1), 1) := by decide +kernel
theorem dX6_closes_37 : decode cX6_closes 37 = .ok (.ireturn, 1) := by decide +kernel
theorem dX6_closes_38 : decode cX6_closes 38 = .ok (.aload_n 0, 1) := by decide +kernel
theorem dX6_closes_39 : decode cX6_closes 39 = .ok (.getfield 40, 3) := by decide +kernel
theorem dX6_closes_42 : decode cX6_closes 42 = .ok (.iload_n 1, 1) := by decide +kernel
theorem dX6_closes_43 : decode cX6_closes 43 = .ok (.iload_n 2, 1) := by decide +kernel
theorem dX6_closes_44 : decode cX6_closes 44 = .ok (.iload_n 3, 1) := by decide +kernel
theorem dX6_closes_45 : decode cX6_closes 45 = .ok (.invokevirtual 248, 3) := by decide +kernel
theorem dX6_closes_48 : decode cX6_closes 48 = .ok (.ifCond .ne 6, 3) := by decide +kernel
theorem dX6_closes_51 : decode cX6_closes 51 = .ok (.bipush (-4), 2) := by decide +kernel
theorem dX6_closes_53 : decode cX6_closes 53 = .ok (.ireturn, 1) := by decide +kernel
theorem dX6_closes_54 : decode cX6_closes 54 = .ok (.aload_n 0, 1) := by decide +kernel
theorem dX6_closes_55 : decode cX6_closes 55 = .ok (.aload_n 0, 1) := by decide +kernel
theorem dX6_closes_56 : decode cX6_closes 56 = .ok (.getfield 40, 3) := by decide +kernel
theorem dX6_closes_59 : decode cX6_closes 59 = .ok (.iload_n 1, 1) := by decide +kernel
theorem dX6_closes_60 : decode cX6_closes 60 = .ok (.iload_n 2, 1) := by decide +kernel
theorem dX6_closes_61 : decode cX6_closes 61 = .ok (.iload_n 3, 1) := by decide +kernel
theorem dX6_closes_62 : decode cX6_closes 62 = .ok (.invokevirtual 251, 3) := by decide +kernel
theorem dX6_closes_65 : decode cX6_closes 65 = .ok (.i2l, 1) := by decide +kernel
theorem dX6_closes_66 : decode cX6_closes 66 = .ok (.putfield 59, 3) := by decide +kernel
theorem dX6_closes_69 : decode cX6_closes 69 = .ok (.aload_n 0, 1) := by decide +kernel
theorem dX6_closes_70 : decode cX6_closes 70 = .ok (.getfield 40, 3) := by decide +kernel
theorem dX6_closes_73 : decode cX6_closes 73 = .ok (.iload_n 1, 1) := by decide +kernel
theorem dX6_closes_74 : decode cX6_closes 74 = .ok (.iload_n 2, 1) := by decide +kernel
theorem dX6_closes_75 : decode cX6_closes 75 = .ok (.iload_n 3, 1) := by decide +kernel
theorem dX6_closes_76 : decode cX6_closes 76 = .ok (.invokevirtual 254, 3) := by decide +kernel
theorem dX6_closes_79 : decode cX6_closes 79 = .ok (.ifCond .eq 7, 3) := by decide +kernel
theorem dX6_closes_82 : decode cX6_closes 82 = .ok (.iconst 1, 1) := by decide +kernel
theorem dX6_closes_83 : decode cX6_closes 83 = .ok (.goto 4, 3) := by decide +kernel
theorem dX6_closes_86 : decode cX6_closes 86 = .ok (.iconst 0, 1) := by decide +kernel
theorem dX6_closes_87 : decode cX6_closes 87 = .ok (.ireturn, 1) := by decide +kernel
set_option maxRecDepth 20000 in
theorem ggX6_open_X3_isKnown : GoodIn wsX6_open wsX3_isKnown := goodIn_r _ [6, 7, 30, 31] (by decide +kernel) (by decide +kernel)
set_option maxRecDepth 20000 in
theorem gX6_open_X3_isKnown : GoodIn wsX6_open (wsV RX6 248 RX3 yX3_isKnown wsX3_isKnown) := goodIn_app (goodIn_of _ (by decide +kernel)) ggX6_open_X3_isKnown
set_option maxRecDepth 20000 in
theorem ggX6_open_X3_isShut : GoodIn wsX6_open wsX3_isShut := goodIn_r _ [11, 12, 13, 14, 15, 7, 16, 17, 18, 5, 19, 20, 30, 31] (by decide +kernel) (by decide +kernel)
set_option maxRecDepth 20000 in
theorem gX6_open_X3_isShut : GoodIn wsX6_open (wsV RX6 254 RX3 yX3_isShut wsX3_isShut) := goodIn_app (goodIn_of _ (by decide +kernel)) ggX6_open_X3_isShut
theorem dX6_open_0 : decode cX6_open 0 = .ok (.iconst 0, 1) := by decide +kernel
theorem dX6_open_1 : decode cX6_open 1 = .ok (.istore_n 1, 1) := by decide +kernel
theorem dX6_open_2 : decode cX6_open 2 = .ok (.iconst 0, 1) := by decide +kernel
theorem dX6_open_3 : decode cX6_open 3 = .ok (.istore_n 2, 1) := by decide +kernel
theorem dX6_open_4 : decode cX6_open 4 = .ok (.iload_n 2, 1) := by decide +kernel
theorem dX6_open_5 : decode cX6_open 5 = .ok (.bipush 6, 2) := by decide +kernel
theorem dX6_open_7 : decode cX6_open 7 = .ok (.if_icmp .ge 74, 3) := by decide +kernel
theorem dX6_open_10 : decode cX6_open 10 = .ok (.iload_n 2, 1) := by decide +kernel
theorem dX6_open_11 : decode cX6_open 11 = .ok (.iconst 1, 1) := by decide +kernel
theorem dX6_open_12 : decode cX6_open 12 = .ok (.iadd, 1) := by decide +kernel
theorem dX6_open_13 : decode cX6_open 13 = .ok (.istore_n 3, 1) := by decide +kernel
theorem dX6_open_14 : decode cX6_open 14 = .ok (.iload_n 3, 1) := by decide +kernel
theorem dX6_open_15 : decode cX6_open 15 = .ok (.bipush 6, 2) := by decide +kernel
theorem dX6_open_17 : decode cX6_open 17 = .ok (.if_icmp .ge 58, 3) := by decide +kernel
theorem dX6_open_20 : decode cX6_open 20 = .ok (.iload_n 3, 1) := by decide +kernel
theorem dX6_open_21 : decode cX6_open 21 = .ok (.iconst 1, 1) := by decide +kernel
theorem dX6_open_22 : decode cX6_open 22 = .ok (.iadd, 1) := by decide +kernel
theorem dX6_open_23 : decode cX6_open 23 = .ok (.istore 4, 2) := by decide +kernel
theorem dX6_open_25 : decode cX6_open 25 = .ok (.iload 4, 2) := by decide +kernel
theorem dX6_open_27 : decode cX6_open 27 = .ok (.bipush 6, 2) := by decide +kernel
theorem dX6_open_29 : decode cX6_open 29 = .ok (.if_icmp .ge 40, 3) := by decide +kernel
theorem dX6_open_32 : decode cX6_open 32 = .ok (.aload_n 0, 1) := by decide +kernel
theorem dX6_open_33 : decode cX6_open 33 = .ok (.getfield 40, 3) := by decide +kernel
theorem dX6_open_36 : decode cX6_open 36 = .ok (.iload_n 2, 1) := by decide +kernel
theorem dX6_open_37 : decode cX6_open 37 = .ok (.iload_n 3, 1) := by decide +kernel
theorem dX6_open_38 : decode cX6_open 38 = .ok (.iload 4, 2) := by decide +kernel
theorem dX6_open_40 : decode cX6_open 40 = .ok (.invokevirtual 248, 3) := by decide +kernel
theorem dX6_open_43 : decode cX6_open 43 = .ok (.ifCond .eq 20, 3) := by decide +kernel
theorem dX6_open_46 : decode cX6_open 46 = .ok (.aload_n 0, 1) := by decide +kernel
theorem dX6_open_47 : decode cX6_open 47 = .ok (.getfield 40, 3) := by decide +kernel
theorem dX6_open_50 : decode cX6_open 50 = .ok (.iload_n 2, 1) := by decide +kernel
theorem dX6_open_51 : decode cX6_open 51 = .ok (.iload_n 3, 1) := by decide +kernel
theorem dX6_open_52 : decode cX6_open 52 = .ok (.iload 4, 2) := by decide +kernel
theorem dX6_open_54 : decode cX6_open 54 = .ok (.invokevirtual 254, 3) := by decide +kernel
theorem dX6_open_57 : decode cX6_open 57 = .ok (.ifCond .ne 6, 3) := by decide +kernel
theorem dX6_open_60 : decode cX6_open 60 = .ok (.iinc 1 1, 3) := by decide +kernel
theorem dX6_open_63 : decode cX6_open 63 = .ok (.iinc 4 1, 3) := by decide +kernel
theorem dX6_open_66 : decode cX6_open 66 = .ok (.goto (-41), 3) := by decide +kernel
theorem dX6_open_69 : decode cX6_open 69 = .ok (.iinc 3 1, 3) := by decide +kernel
theorem dX6_open_72 : decode cX6_open 72 = .ok (.goto (-58), 3) := by decide +kernel
theorem dX6_open_75 : decode cX6_open 75 = .ok (.iinc 2 1, 3) := by decide +kernel
theorem dX6_open_78 : decode cX6_open 78 = .ok (.goto (-74), 3) := by decide +kernel
theorem dX6_open_81 : decode cX6_open 81 = .ok (.iload_n 1, 1) := by decide +kernel
theorem dX6_open_82 : decode cX6_open 82 = .ok (.ireturn, 1) := by decide +kernel
theorem dX6_asked_0 : decode cX6_asked 0 = .ok (.aload_n 0, 1) := by decide +kernel
theorem dX6_asked_1 : decode cX6_asked 1 = .ok (.getfield 59, 3) := by decide +kernel
theorem dX6_asked_4 : decode cX6_asked 4 = .ok (.lreturn, 1) := by decide +kernel
theorem dX6_upper_0 : decode cX6_upper 0 = .ok (.aload_n 0, 1) := by decide +kernel
theorem dX6_upper_1 : decode cX6_upper 1 = .ok (.getfield 47, 3) := by decide +kernel
theorem dX6_upper_4 : decode cX6_upper 4 = .ok (.getfield 257, 3) := by decide +kernel
theorem dX6_upper_7 : decode cX6_upper 7 = .ok (.lreturn, 1) := by decide +kernel
theorem dX6_lower_0 : decode cX6_lower 0 = .ok (.aload_n 0, 1) := by decide +kernel
theorem dX6_lower_1 : decode cX6_lower 1 = .ok (.getfield 47, 3) := by decide +kernel
theorem dX6_lower_4 : decode cX6_lower 4 = .ok (.getfield 260, 3) := by decide +kernel
theorem dX6_lower_7 : decode cX6_lower 7 = .ok (.lreturn, 1) := by decide +kernel
set_option maxRecDepth 20000 in
theorem ggX6_count_X4_presentCount : GoodIn wsX6_count wsX4_presentCount := goodIn_r _ [9, 10, 43, 44] (by decide +kernel) (by decide +kernel)
set_option maxRecDepth 20000 in
theorem gX6_count_X4_presentCount : GoodIn wsX6_count (wsV RX6 263 RX4 yX4_presentCount wsX4_presentCount) := goodIn_app (goodIn_of _ (by decide +kernel)) ggX6_count_X4_presentCount
set_option maxRecDepth 20000 in
theorem ggX6_count_X5_pointCount : GoodIn wsX6_count wsX5_pointCount := goodIn_r _ [15, 16, 45, 46, 47] (by decide +kernel) (by decide +kernel)
set_option maxRecDepth 20000 in
theorem gX6_count_X5_pointCount : GoodIn wsX6_count (wsV RX6 266 RX5 yX5_pointCount wsX5_pointCount) := goodIn_app (goodIn_of _ (by decide +kernel)) ggX6_count_X5_pointCount
set_option maxRecDepth 20000 in
theorem ggX6_count_X0_size : GoodIn wsX6_count wsX0_size := goodIn_r _ [21, 22, 48, 49, 50] (by decide +kernel) (by decide +kernel)
set_option maxRecDepth 20000 in
theorem gX6_count_X0_size : GoodIn wsX6_count (wsV RX6 159 RX0 yX0_size wsX0_size) := goodIn_app (goodIn_of _ (by decide +kernel)) ggX6_count_X0_size
set_option maxRecDepth 20000 in
theorem ggX6_count_X1_size : GoodIn wsX6_count wsX1_size := goodIn_r _ [27, 28, 51, 52] (by decide +kernel) (by decide +kernel)
set_option maxRecDepth 20000 in
theorem gX6_count_X1_size : GoodIn wsX6_count (wsV RX6 202 RX1 yX1_size wsX1_size) := goodIn_app (goodIn_of _ (by decide +kernel)) ggX6_count_X1_size
set_option maxRecDepth 20000 in
theorem ggX6_count_X1_countOf : GoodIn wsX6_count wsX1_countOf := goodIn_r _ [32, 28, 33, 51, 52] (by decide +kernel) (by decide +kernel)
set_option maxRecDepth 20000 in
theorem gX6_count_X1_countOf : GoodIn wsX6_count (wsV RX6 174 RX1 yX1_countOf wsX1_countOf) := goodIn_app (goodIn_of _ (by decide +kernel)) ggX6_count_X1_countOf
theorem dX6_count_0 : decode cX6_count 0 = .ok (.iload_n 1, 1) := by decide +kernel
theorem dX6_count_1 : decode cX6_count 1 = .ok (.tableswitch 78 0 4 #[35, 43, 51, 59, 67], 35) := by decide +kernel
theorem dX6_count_36 : decode cX6_count 36 = .ok (.aload_n 0, 1) := by decide +kernel
theorem dX6_count_37 : decode cX6_count 37 = .ok (.getfield 10, 3) := by decide +kernel
theorem dX6_count_40 : decode cX6_count 40 = .ok (.invokevirtual 263, 3) := by decide +kernel
theorem dX6_count_43 : decode cX6_count 43 = .ok (.ireturn, 1) := by decide +kernel
theorem dX6_count_44 : decode cX6_count 44 = .ok (.aload_n 0, 1) := by decide +kernel
theorem dX6_count_45 : decode cX6_count 45 = .ok (.getfield 19, 3) := by decide +kernel
theorem dX6_count_48 : decode cX6_count 48 = .ok (.invokevirtual 266, 3) := by decide +kernel
theorem dX6_count_51 : decode cX6_count 51 = .ok (.ireturn, 1) := by decide +kernel
theorem dX6_count_52 : decode cX6_count 52 = .ok (.aload_n 0, 1) := by decide +kernel
theorem dX6_count_53 : decode cX6_count 53 = .ok (.getfield 26, 3) := by decide +kernel
theorem dX6_count_56 : decode cX6_count 56 = .ok (.invokevirtual 159, 3) := by decide +kernel
theorem dX6_count_59 : decode cX6_count 59 = .ok (.ireturn, 1) := by decide +kernel
theorem dX6_count_60 : decode cX6_count 60 = .ok (.aload_n 0, 1) := by decide +kernel
theorem dX6_count_61 : decode cX6_count 61 = .ok (.getfield 33, 3) := by decide +kernel
theorem dX6_count_64 : decode cX6_count 64 = .ok (.invokevirtual 202, 3) := by decide +kernel
theorem dX6_count_67 : decode cX6_count 67 = .ok (.ireturn, 1) := by decide +kernel
theorem dX6_count_68 : decode cX6_count 68 = .ok (.aload_n 0, 1) := by decide +kernel
theorem dX6_count_69 : decode cX6_count 69 = .ok (.getfield 33, 3) := by decide +kernel
theorem dX6_count_72 : decode cX6_count 72 = .ok (.iconst 5, 1) := by decide +kernel
theorem dX6_count_73 : decode cX6_count 73 = .ok (.iconst 1, 1) := by decide +kernel
theorem dX6_count_74 : decode cX6_count 74 = .ok (.iconst 0, 1) := by decide +kernel
theorem dX6_count_75 : decode cX6_count 75 = .ok (.invokevirtual 174, 3) := by decide +kernel
theorem dX6_count_78 : decode cX6_count 78 = .ok (.ireturn, 1) := by decide +kernel
theorem dX6_count_79 : decode cX6_count 79 = .ok (.iconst (-1), 1) := by decide +kernel
theorem dX6_count_80 : decode cX6_count 80 = .ok (.ireturn, 1) := by decide +kernel
theorem dX6_finding_0 : decode cX6_finding 0 = .ok (.aload_n 0, 1) := by decide +kernel
theorem dX6_finding_1 : decode cX6_finding 1 = .ok (.getfield 55, 3) := by decide +kernel
theorem dX6_finding_4 : decode cX6_finding 4 = .ok (.ireturn, 1) := by decide +kernel
set_option maxRecDepth 20000 in
theorem ggX6_findings_X6_isBetween : GoodIn wsX6_findings wsX6_isBetween := goodIn_r _ [5] (by decide +kernel) (by decide +kernel)
set_option maxRecDepth 20000 in
theorem gX6_findings_X6_isBetween : GoodIn wsX6_findings (va_wsS RX6 113 yX6_isBetween wsX6_isBetween) := goodIn_app (goodIn_of _ (by decide +kernel)) ggX6_findings_X6_isBetween
theorem dX6_findings_0 : decode cX6_findings 0 = .ok (.iload_n 1, 1) := by decide +kernel
theorem dX6_findings_1 : decode cX6_findings 1 = .ok (.iconst 1, 1) := by decide +kernel
theorem dX6_findings_2 : decode cX6_findings 2 = .ok (.iconst 5, 1) := by decide +kernel
theorem dX6_findings_3 : decode cX6_findings 3 = .ok (.invokestatic 113, 3) := by decide +kernel
theorem dX6_findings_6 : decode cX6_findings 6 = .ok (.ifCond .eq 12, 3) := by decide +kernel
theorem dX6_findings_9 : decode cX6_findings 9 = .ok (.aload_n 0, 1) := by decide +kernel
theorem dX6_findings_10 : decode cX6_findings 10 = .ok (.getfield 51, 3) := by decide +kernel
theorem dX6_findings_13 : decode cX6_findings 13 = .ok (.iload_n 1, 1) := by decide +kernel
theorem dX6_findings_14 : decode cX6_findings 14 = .ok (.iaload, 1) := by decide +kernel
theorem dX6_findings_15 : decode cX6_findings 15 = .ok (.goto 4, 3) := by decide +kernel
theorem dX6_findings_18 : decode cX6_findings 18 = .ok (.iconst (-1), 1) := by decide +kernel
theorem dX6_findings_19 : decode cX6_findings 19 = .ok (.ireturn, 1) := by decide +kernel
set_option maxRecDepth 20000 in
theorem ggX6_digest_X6_count : GoodIn wsX6_digest wsX6_count := goodIn_r _ [10, 5, 11, 3, 4, 12, 13, 14, 15, 16, 17, 18, 19, 20, 21, 22, 23, 24, 25, 26, 27, 28, 29, 30, 31, 32, 33, 34, 35, 36, 37, 38, 39, 40, 84, 85, 86, 87, 88, 89, 90, 91, 92, 93, 94, 95, 96, 97, 98, 99, 100, 101, 102] (by decide +kernel) (by decide +kernel)
set_option maxRecDepth 20000 in
theorem gX6_digest_X6_count : GoodIn wsX6_digest (wsV RX6 273 RX6 yX6_count wsX6_count) := goodIn_app (goodIn_of _ (by decide +kernel)) ggX6_digest_X6_count
set_option maxRecDepth 20000 in
theorem ggX6_digest_X0_size : GoodIn wsX6_digest wsX0_size := goodIn_r _ [28, 29, 98, 99, 100] (by decide +kernel) (by decide +kernel)
set_option maxRecDepth 20000 in
theorem gX6_digest_X0_size : GoodIn wsX6_digest (wsV RX6 159 RX0 yX0_size wsX0_size) := goodIn_app (goodIn_of _ (by decide +kernel)) ggX6_digest_X0_size
set_option maxRecDepth 20000 in
theorem ggX6_digest_X6_told : GoodIn wsX6_digest wsX6_told := goodIn_r _ [44, 3, 4, 45, 46, 47, 27, 48, 29, 49, 9, 50, 51, 52, 53, 54, 55, 56, 57, 58, 59, 60, 36, 37, 38, 33, 39, 35, 40, 61, 62, 63, 64, 65, 66, 67, 68, 69, 70, 71, 72, 73, 84, 85, 86, 87, 88, 89, 90, 91, 92, 98, 99, 100, 101, 102] (by decide +kernel) (by decide +kernel)
set_option maxRecDepth 20000 in
theorem gX6_digest_X6_told : GoodIn wsX6_digest (wsV RX6 276 RX6 yX6_told wsX6_told) := goodIn_app (goodIn_of _ (by decide +kernel)) ggX6_digest_X6_told
set_option maxRecDepth 20000 in
theorem ggX6_digest_X1_size : GoodIn wsX6_digest wsX1_size := goodIn_r _ [34, 35, 101, 102] (by decide +kernel) (by decide +kernel)
set_option maxRecDepth 20000 in
theorem gX6_digest_X1_size : GoodIn wsX6_digest (wsV RX6 202 RX1 yX1_size wsX1_size) := goodIn_app (goodIn_of _ (by decide +kernel)) ggX6_digest_X1_size
set_option maxRecDepth 20000 in
theorem ggX6_digest_X1_fact : GoodIn wsX6_digest wsX1_fact := goodIn_r _ [77, 40, 101, 102] (by decide +kernel) (by decide +kernel)
set_option maxRecDepth 20000 in
theorem gX6_digest_X1_fact : GoodIn wsX6_digest (wsV RX6 210 RX1 yX1_fact wsX1_fact) := goodIn_app (goodIn_of _ (by decide +kernel)) ggX6_digest_X1_fact
set_option maxRecDepth 20000 in
theorem ggX6_digest_X4_digestOn : GoodIn wsX6_digest wsX4_digestOn := goodIn_r _ [81, 82, 17, 83, 93, 94] (by decide +kernel) (by decide +kernel)
set_option maxRecDepth 20000 in
theorem gX6_digest_X4_digestOn : GoodIn wsX6_digest (wsV RX6 279 RX4 yX4_digestOn wsX4_digestOn) := goodIn_app (goodIn_of _ (by decide +kernel)) ggX6_digest_X4_digestOn
theorem dX6_digest_0 : decode cX6_digest 0 = .ok (.ldc2_w 269, 3) := by decide +kernel
theorem dX6_digest_3 : decode cX6_digest 3 = .ok (.lstore_n 1, 1) := by decide +kernel
theorem dX6_digest_4 : decode cX6_digest 4 = .ok (.iconst 0, 1) := by decide +kernel
theorem dX6_digest_5 : decode cX6_digest 5 = .ok (.istore_n 3, 1) := by decide +kernel
theorem dX6_digest_6 : decode cX6_digest 6 = .ok (.iload_n 3, 1) := by decide +kernel
theorem dX6_digest_7 : decode cX6_digest 7 = .ok (.iconst 5, 1) := by decide +kernel
theorem dX6_digest_8 : decode cX6_digest 8 = .ok (.if_icmp .ge 22, 3) := by decide +kernel
theorem dX6_digest_11 : decode cX6_digest 11 = .ok (.ldc2_w 271, 3) := by decide +kernel
theorem dX6_digest_14 : decode cX6_digest 14 = .ok (.lload_n 1, 1) := by decide +kernel
theorem dX6_digest_15 : decode cX6_digest 15 = .ok (.lmul, 1) := by decide +kernel
theorem dX6_digest_16 : decode cX6_digest 16 = .ok (.aload_n 0, 1) := by decide +kernel
theorem dX6_digest_17 : decode cX6_digest 17 = .ok (.iload_n 3, 1) := by decide +kernel
theorem dX6_digest_18 : decode cX6_digest 18 = .ok (.invokevirtual 273, 3) := by decide +kernel
theorem dX6_digest_21 : decode cX6_digest 21 = .ok (.i2l, 1) := by decide +kernel
theorem dX6_digest_22 : decode cX6_digest 22 = .ok (.ladd, 1) := by decide +kernel
theorem dX6_digest_23 : decode cX6_digest 23 = .ok (.lstore_n 1, 1) := by decide +kernel
theorem dX6_digest_24 : decode cX6_digest 24 = .ok (.iinc 3 1, 3) := by decide +kernel
theorem dX6_digest_27 : decode cX6_digest 27 = .ok (.goto (-21), 3) := by decide +kernel
theorem dX6_digest_30 : decode cX6_digest 30 = .ok (.iconst 0, 1) := by decide +kernel
theorem dX6_digest_31 : decode cX6_digest 31 = .ok (.istore_n 3, 1) := by decide +kernel
theorem dX6_digest_32 : decode cX6_digest 32 = .ok (.iload_n 3, 1) := by decide +kernel
theorem dX6_digest_33 : decode cX6_digest 33 = .ok (.aload_n 0, 1) := by decide +kernel
theorem dX6_digest_34 : decode cX6_digest 34 = .ok (.getfield 26, 3) := by decide +kernel
theorem dX6_digest_37 : decode cX6_digest 37 = .ok (.invokevirtual 159, 3) := by decide +kernel
theorem dX6_digest_40 : decode cX6_digest 40 = .ok (.if_icmp .ge 39, 3) := by decide +kernel
theorem dX6_digest_43 : decode cX6_digest 43 = .ok (.iconst 0, 1) := by decide +kernel
theorem dX6_digest_44 : decode cX6_digest 44 = .ok (.istore 4, 2) := by decide +kernel
theorem dX6_digest_46 : decode cX6_digest 46 = .ok (.iload 4, 2) := by decide +kernel
theorem dX6_digest_48 : decode cX6_digest 48 = .ok (.iconst 5, 1) := by decide +kernel
theorem dX6_digest_49 : decode cX6_digest 49 = .ok (.if_icmp .ge 24, 3) := by decide +kernel
theorem dX6_digest_52 : decode cX6_digest 52 = .ok (.ldc2_w 271, 3) := by decide +kernel
theorem dX6_digest_55 : decode cX6_digest 55 = .ok (.lload_n 1, 1) := by decide +kernel
theorem dX6_digest_56 : decode cX6_digest 56 = .ok (.lmul, 1) := by decide +kernel
theorem dX6_digest_57 : decode cX6_digest 57 = .ok (.aload_n 0, 1) := by decide +kernel
theorem dX6_digest_58 : decode cX6_digest 58 = .ok (.iload_n 3, 1) := by decide +kernel
theorem dX6_digest_59 : decode cX6_digest 59 = .ok (.iload 4, 2) := by decide +kernel
theorem dX6_digest_61 : decode cX6_digest 61 = .ok (.invokevirtual 276, 3) := by decide +kernel
theorem dX6_digest_64 : decode cX6_digest 64 = .ok (.i2l, 1) := by decide +kernel
theorem dX6_digest_65 : decode cX6_digest 65 = .ok (.ladd, 1) := by decide +kernel
theorem dX6_digest_66 : decode cX6_digest 66 = .ok (.lstore_n 1, 1) := by decide +kernel
theorem dX6_digest_67 : decode cX6_digest 67 = .ok (.iinc 4 1, 3) := by decide +kernel
theorem dX6_digest_70 : decode cX6_digest 70 = .ok (.goto (-24), 3) := by decide +kernel
theorem dX6_digest_73 : decode cX6_digest 73 = .ok (.iinc 3 1, 3) := by decide +kernel
theorem dX6_digest_76 : decode cX6_digest 76 = .ok (.goto (-44), 3) := by decide +kernel
theorem dX6_digest_79 : decode cX6_digest 79 = .ok (.iconst 0, 1) := by decide +kernel
theorem dX6_digest_80 : decode cX6_digest 80 = .ok (.istore_n 3, 1) := by decide +kernel
theorem dX6_digest_81 : decode cX6_digest 81 = .ok (.iload_n 3, 1) := by decide +kernel
theorem dX6_digest_82 : decode cX6_digest 82 = .ok (.aload_n 0, 1) := by decide +kernel
theorem dX6_digest_83 : decode cX6_digest 83 = .ok (.getfield 33, 3) := by decide +kernel
theorem dX6_digest_86 : decode cX6_digest 86 = .ok (.invokevirtual 202, 3) := by decide +kernel
theorem dX6_digest_89 : decode cX6_digest 89 = .ok (.if_icmp .ge 61, 3) := by decide +kernel
theorem dX6_digest_92 : decode cX6_digest 92 = .ok (.iconst 0, 1) := by decide +kernel
theorem dX6_digest_93 : decode cX6_digest 93 = .ok (.istore 4, 2) := by decide +kernel
theorem dX6_digest_95 : decode cX6_digest 95 = .ok (.iload 4, 2) := by decide +kernel
theorem dX6_digest_97 : decode cX6_digest 97 = .ok (.bipush 7, 2) := by decide +kernel
theorem dX6_digest_99 : decode cX6_digest 99 = .ok (.if_icmp .ge 27, 3) := by decide +kernel
theorem dX6_digest_102 : decode cX6_digest 102 = .ok (.ldc2_w 271, 3) := by decide +kernel
theorem dX6_digest_105 : decode cX6_digest 105 = .ok (.lload_n 1, 1) := by decide +kernel
theorem dX6_digest_106 : decode cX6_digest 106 = .ok (.lmul, 1) := by decide +kernel
theorem dX6_digest_107 : decode cX6_digest 107 = .ok (.aload_n 0, 1) := by decide +kernel
theorem dX6_digest_108 : decode cX6_digest 108 = .ok (.getfield 33, 3) := by decide +kernel
theorem dX6_digest_111 : decode cX6_digest 111 = .ok (.iload_n 3, 1) := by decide +kernel
theorem dX6_digest_112 : decode cX6_digest 112 = .ok (.iload 4, 2) := by decide +kernel
theorem dX6_digest_114 : decode cX6_digest 114 = .ok (.invokevirtual 210, 3) := by decide +kernel
theorem dX6_digest_117 : decode cX6_digest 117 = .ok (.i2l, 1) := by decide +kernel
theorem dX6_digest_118 : decode cX6_digest 118 = .ok (.ladd, 1) := by decide +kernel
theorem dX6_digest_119 : decode cX6_digest 119 = .ok (.lstore_n 1, 1) := by decide +kernel
theorem dX6_digest_120 : decode cX6_digest 120 = .ok (.iinc 4 1, 3) := by decide +kernel
theorem dX6_digest_123 : decode cX6_digest 123 = .ok (.goto (-28), 3) := by decide +kernel
theorem dX6_digest_126 : decode cX6_digest 126 = .ok (.ldc2_w 271, 3) := by decide +kernel
theorem dX6_digest_129 : decode cX6_digest 129 = .ok (.lload_n 1, 1) := by decide +kernel
theorem dX6_digest_130 : decode cX6_digest 130 = .ok (.lmul, 1) := by decide +kernel
theorem dX6_digest_131 : decode cX6_digest 131 = .ok (.aload_n 0, 1) := by decide +kernel
theorem dX6_digest_132 : decode cX6_digest 132 = .ok (.getfield 33, 3) := by decide +kernel
theorem dX6_digest_135 : decode cX6_digest 135 = .ok (.iload_n 3, 1) := by decide +kernel
theorem dX6_digest_136 : decode cX6_digest 136 = .ok (.bipush 7, 2) := by decide +kernel
theorem dX6_digest_138 : decode cX6_digest 138 = .ok (.invokevirtual 210, 3) := by decide +kernel
theorem dX6_digest_141 : decode cX6_digest 141 = .ok (.i2l, 1) := by decide +kernel
theorem dX6_digest_142 : decode cX6_digest 142 = .ok (.ladd, 1) := by decide +kernel
theorem dX6_digest_143 : decode cX6_digest 143 = .ok (.lstore_n 1, 1) := by decide +kernel
theorem dX6_digest_144 : decode cX6_digest 144 = .ok (.iinc 3 1, 3) := by decide +kernel
theorem dX6_digest_147 : decode cX6_digest 147 = .ok (.goto (-66), 3) := by decide +kernel
theorem dX6_digest_150 : decode cX6_digest 150 = .ok (.iconst 0, 1) := by decide +kernel
theorem dX6_digest_151 : decode cX6_digest 151 = .ok (.istore_n 3, 1) := by decide +kernel
theorem dX6_digest_152 : decode cX6_digest 152 = .ok (.iload_n 3, 1) := by decide +kernel
theorem dX6_digest_153 : decode cX6_digest 153 = .ok (.bipush 6, 2) := by decide +kernel
theorem dX6_digest_155 : decode cX6_digest 155 = .ok (.if_icmp .ge 19, 3) := by decide +kernel
theorem dX6_digest_158 : decode cX6_digest 158 = .ok (.aload_n 0, 1) := by decide +kernel
theorem dX6_digest_159 : decode cX6_digest 159 = .ok (.getfield 10, 3) := by decide +kernel
theorem dX6_digest_162 : decode cX6_digest 162 = .ok (.lload_n 1, 1) := by decide +kernel
theorem dX6_digest_163 : decode cX6_digest 163 = .ok (.iload_n 3, 1) := by decide +kernel
theorem dX6_digest_164 : decode cX6_digest 164 = .ok (.invokevirtual 279, 3) := by decide +kernel
theorem dX6_digest_167 : decode cX6_digest 167 = .ok (.lstore_n 1, 1) := by decide +kernel
theorem dX6_digest_168 : decode cX6_digest 168 = .ok (.iinc 3 1, 3) := by decide +kernel
theorem dX6_digest_171 : decode cX6_digest 171 = .ok (.goto (-19), 3) := by decide +kernel
theorem dX6_digest_174 : decode cX6_digest 174 = .ok (.lload_n 1, 1) := by decide +kernel
theorem dX6_digest_175 : decode cX6_digest 175 = .ok (.lreturn, 1) := by decide +kernel
set_option maxRecDepth 20000 in
theorem ggX6_refuse_X6_isBetween : GoodIn wsX6_refuse wsX6_isBetween := goodIn_r _ [6] (by decide +kernel) (by decide +kernel)
set_option maxRecDepth 20000 in
theorem gX6_refuse_X6_isBetween : GoodIn wsX6_refuse (va_wsS RX6 113 yX6_isBetween wsX6_isBetween) := goodIn_app (goodIn_of _ (by decide +kernel)) ggX6_refuse_X6_isBetween
theorem dX6_refuse_0 : decode cX6_refuse 0 = .ok (.iload_n 1, 1) := by decide +kernel
theorem dX6_refuse_1 : decode cX6_refuse 1 = .ok (.iconst 1, 1) := by decide +kernel
theorem dX6_refuse_2 : decode cX6_refuse 2 = .ok (.iconst 5, 1) := by decide +kernel
theorem dX6_refuse_3 : decode cX6_refuse 3 = .ok (.invokestatic 113, 3) := by decide +kernel
theorem dX6_refuse_6 : decode cX6_refuse 6 = .ok (.ifCond .eq 18, 3) := by decide +kernel
theorem dX6_refuse_9 : decode cX6_refuse 9 = .ok (.aload_n 0, 1) := by decide +kernel
theorem dX6_refuse_10 : decode cX6_refuse 10 = .ok (.iload_n 1, 1) := by decide +kernel
theorem dX6_refuse_11 : decode cX6_refuse 11 = .ok (.putfield 55, 3) := by decide +kernel
theorem dX6_refuse_14 : decode cX6_refuse 14 = .ok (.aload_n 0, 1) := by decide +kernel
theorem dX6_refuse_15 : decode cX6_refuse 15 = .ok (.getfield 51, 3) := by decide +kernel
theorem dX6_refuse_18 : decode cX6_refuse 18 = .ok (.iload_n 1, 1) := by decide +kernel
theorem dX6_refuse_19 : decode cX6_refuse 19 = .ok (.dup2, 1) := by decide +kernel
theorem dX6_refuse_20 : decode cX6_refuse 20 = .ok (.iaload, 1) := by decide +kernel
theorem dX6_refuse_21 : decode cX6_refuse 21 = .ok (.iconst 1, 1) := by decide +kernel
theorem dX6_refuse_22 : decode cX6_refuse 22 = .ok (.iadd, 1) := by decide +kernel
theorem dX6_refuse_23 : decode cX6_refuse 23 = .ok (.iastore, 1) := by decide +kernel
theorem dX6_refuse_24 : decode cX6_refuse 24 = .ok (.bipush (-3), 2) := by decide +kernel
theorem dX6_refuse_26 : decode cX6_refuse 26 = .ok (.ireturn, 1) := by decide +kernel
set_option maxRecDepth 20000 in
theorem ggX6_driftRefusal_X0_has : GoodIn wsX6_driftRefusal wsX0_has := goodIn_r _ [8, 9, 10, 11, 12, 50, 51, 52] (by decide +kernel) (by decide +kernel)
set_option maxRecDepth 20000 in
theorem gX6_driftRefusal_X0_has : GoodIn wsX6_driftRefusal (wsV RX6 165 RX0 yX0_has wsX0_has) := goodIn_app (goodIn_of _ (by decide +kernel)) ggX6_driftRefusal_X0_has
set_option maxRecDepth 20000 in
theorem ggX6_driftRefusal_X1_latestOf : GoodIn wsX6_driftRefusal wsX1_latestOf := goodIn_r _ [17, 18, 19, 20, 21, 22, 16, 23, 24, 25, 26, 27, 28, 53, 54] (by decide +kernel) (by decide +kernel)
set_option maxRecDepth 20000 in
theorem gX6_driftRefusal_X1_latestOf : GoodIn wsX6_driftRefusal (wsV RX6 178 RX1 yX1_latestOf wsX1_latestOf) := goodIn_app (goodIn_of _ (by decide +kernel)) ggX6_driftRefusal_X1_latestOf
set_option maxRecDepth 20000 in
theorem ggX6_driftRefusal_X1_lastUntil : GoodIn wsX6_driftRefusal wsX1_lastUntil := goodIn_r _ [23, 19, 24, 25, 26, 27, 28, 53, 54] (by decide +kernel) (by decide +kernel)
set_option maxRecDepth 20000 in
theorem gX6_driftRefusal_X1_lastUntil : GoodIn wsX6_driftRefusal (wsV RX6 203 RX1 yX1_lastUntil wsX1_lastUntil) := goodIn_app (goodIn_of _ (by decide +kernel)) ggX6_driftRefusal_X1_lastUntil
set_option maxRecDepth 20000 in
theorem ggX6_driftRefusal_X1_rise : GoodIn wsX6_driftRefusal wsX1_rise := goodIn_r _ [33, 28, 53, 54] (by decide +kernel) (by decide +kernel)
set_option maxRecDepth 20000 in
theorem gX6_driftRefusal_X1_rise : GoodIn wsX6_driftRefusal (wsV RX6 227 RX1 yX1_rise wsX1_rise) := goodIn_app (goodIn_of _ (by decide +kernel)) ggX6_driftRefusal_X1_rise
set_option maxRecDepth 20000 in
theorem ggX6_driftRefusal_X6_refuse : GoodIn wsX6_driftRefusal wsX6_refuse := goodIn_r _ [37, 38, 39, 40, 10, 11, 12, 41, 42, 43, 44, 45, 46, 47, 48, 49] (by decide +kernel) (by decide +kernel)
set_option maxRecDepth 20000 in
theorem gX6_driftRefusal_X6_refuse : GoodIn wsX6_driftRefusal (wsV RX6 67 RX6 yX6_refuse wsX6_refuse) := goodIn_app (goodIn_of _ (by decide +kernel)) ggX6_driftRefusal_X6_refuse
theorem dX6_driftRefusal_0 : decode cX6_driftRefusal 0 = .ok (.aload_n 0, 1) := by decide +kernel
theorem dX6_driftRefusal_1 : decode cX6_driftRefusal 1 = .ok (.getfield 26, 3) := by decide +kernel
theorem dX6_driftRefusal_4 : decode cX6_driftRefusal 4 = .ok (.iload_n 1, 1) := by decide +kernel
theorem dX6_driftRefusal_5 : decode cX6_driftRefusal 5 = .ok (.invokevirtual 165, 3) := by decide +kernel
theorem dX6_driftRefusal_8 : decode cX6_driftRefusal 8 = .ok (.ifCond .ne 5, 3) := by decide +kernel
theorem dX6_driftRefusal_11 : decode cX6_driftRefusal 11 = .ok (.iconst (-1), 1) := by decide +kernel
theorem dX6_driftRefusal_12 : decode cX6_driftRefusal 12 = .ok (.ireturn, 1) := by decide +kernel
theorem dX6_driftRefusal_13 : decode cX6_driftRefusal 13 = .ok (.aload_n 0, 1) := by decide +kernel
theorem dX6_driftRefusal_14 : decode cX6_driftRefusal 14 = .ok (.getfield 33, 3) := by decide +kernel
theorem dX6_driftRefusal_17 : decode cX6_driftRefusal 17 = .ok (.iload_n 1, 1) := by decide +kernel
theorem dX6_driftRefusal_18 : decode cX6_driftRefusal 18 = .ok (.invokevirtual 178, 3) := by decide +kernel
theorem dX6_driftRefusal_21 : decode cX6_driftRefusal 21 = .ok (.istore_n 2, 1) := by decide +kernel
theorem dX6_driftRefusal_22 : decode cX6_driftRefusal 22 = .ok (.iload_n 2, 1) := by decide +kernel
theorem dX6_driftRefusal_23 : decode cX6_driftRefusal 23 = .ok (.bipush (-9), 2) := by decide +kernel
theorem dX6_driftRefusal_25 : decode cX6_driftRefusal 25 = .ok (.if_icmp .ne 8, 3) := by decide +kernel
theorem dX6_driftRefusal_28 : decode cX6_driftRefusal 28 = .ok (.bipush (-9), 2) := by decide +kernel
theorem dX6_driftRefusal_30 : decode cX6_driftRefusal 30 = .ok (.goto 14, 3) := by decide +kernel
theorem dX6_driftRefusal_33 : decode cX6_driftRefusal 33 = .ok (.aload_n 0, 1) := by decide +kernel
theorem dX6_driftRefusal_34 : decode cX6_driftRefusal 34 = .ok (.getfield 33, 3) := by decide +kernel
theorem dX6_driftRefusal_37 : decode cX6_driftRefusal 37 = .ok (.iload_n 1, 1) := by decide +kernel
theorem dX6_driftRefusal_38 : decode cX6_driftRefusal 38 = .ok (.ldc 75, 2) := by decide +kernel
theorem dX6_driftRefusal_40 : decode cX6_driftRefusal 40 = .ok (.iload_n 2, 1) := by decide +kernel
theorem dX6_driftRefusal_41 : decode cX6_driftRefusal 41 = .ok (.invokevirtual 203, 3) := by decide +kernel
theorem dX6_driftRefusal_44 : decode cX6_driftRefusal 44 = .ok (.istore_n 3, 1) := by decide +kernel
theorem dX6_driftRefusal_45 : decode cX6_driftRefusal 45 = .ok (.iload_n 3, 1) := by decide +kernel
theorem dX6_driftRefusal_46 : decode cX6_driftRefusal 46 = .ok (.bipush (-9), 2) := by decide +kernel
theorem dX6_driftRefusal_48 : decode cX6_driftRefusal 48 = .ok (.if_icmp .ne 6, 3) := by decide +kernel
theorem dX6_driftRefusal_51 : decode cX6_driftRefusal 51 = .ok (.bipush (-4), 2) := by decide +kernel
theorem dX6_driftRefusal_53 : decode cX6_driftRefusal 53 = .ok (.ireturn, 1) := by decide +kernel
theorem dX6_driftRefusal_54 : decode cX6_driftRefusal 54 = .ok (.aload_n 0, 1) := by decide +kernel
theorem dX6_driftRefusal_55 : decode cX6_driftRefusal 55 = .ok (.getfield 33, 3) := by decide +kernel
theorem dX6_driftRefusal_58 : decode cX6_driftRefusal 58 = .ok (.iconst 3, 1) := by decide +kernel
theorem dX6_driftRefusal_59 : decode cX6_driftRefusal 59 = .ok (.iload_n 3, 1) := by decide +kernel
theorem dX6_driftRefusal_60 : decode cX6_driftRefusal 60 = .ok (.iload_n 2, 1) := by decide +kernel
theorem dX6_driftRefusal_61 : decode cX6_driftRefusal 61 = .ok (.invokevirtual 227, 3) := by decide +kernel
theorem dX6_driftRefusal_64 : decode cX6_driftRefusal 64 = .ok (.ifCond .ne 11, 3) := by decide +kernel
theorem dX6_driftRefusal_67 : decode cX6_driftRefusal 67 = .ok (.aload_n 0, 1) := by decide +kernel
theorem dX6_driftRefusal_68 : decode cX6_driftRefusal 68 = .ok (.iconst 4, 1) := by decide +kernel
theorem dX6_driftRefusal_69 : decode cX6_driftRefusal 69 = .ok (.invokevirtual 67, 3) := by decide +kernel
theorem dX6_driftRefusal_72 : decode cX6_driftRefusal 72 = .ok (.goto 4, 3) := by decide +kernel
theorem dX6_driftRefusal_75 : decode cX6_driftRefusal 75 = .ok (.iconst 0, 1) := by decide +kernel
theorem dX6_driftRefusal_76 : decode cX6_driftRefusal 76 = .ok (.ireturn, 1) := by decide +kernel
theorem dX6_daysWithin_0 : decode cX6_daysWithin 0 = .ok (.lload_n 0, 1) := by decide +kernel
theorem dX6_daysWithin_1 : decode cX6_daysWithin 1 = .ok (.lload 6, 2) := by decide +kernel
theorem dX6_daysWithin_3 : decode cX6_daysWithin 3 = .ok (.lmul, 1) := by decide +kernel
theorem dX6_daysWithin_4 : decode cX6_daysWithin 4 = .ok (.lstore 8, 2) := by decide +kernel
theorem dX6_daysWithin_6 : decode cX6_daysWithin 6 = .ok (.lload_n 2, 1) := by decide +kernel
theorem dX6_daysWithin_7 : decode cX6_daysWithin 7 = .ok (.lload 6, 2) := by decide +kernel
theorem dX6_daysWithin_9 : decode cX6_daysWithin 9 = .ok (.lmul, 1) := by decide +kernel
theorem dX6_daysWithin_10 : decode cX6_daysWithin 10 = .ok (.lstore 10, 2) := by decide +kernel
theorem dX6_daysWithin_12 : decode cX6_daysWithin 12 = .ok (.lload 8, 2) := by decide +kernel
theorem dX6_daysWithin_14 : decode cX6_daysWithin 14 = .ok (.invokestatic 153, 3) := by decide +kernel
theorem dX6_daysWithin_17 : decode cX6_daysWithin 17 = .ok (.lload 10, 2) := by decide +kernel
theorem dX6_daysWithin_19 : decode cX6_daysWithin 19 = .ok (.lcmp, 1) := by decide +kernel
theorem dX6_daysWithin_20 : decode cX6_daysWithin 20 = .ok (.ifCond .le 5, 3) := by decide +kernel
theorem dX6_daysWithin_23 : decode cX6_daysWithin 23 = .ok (.lconst 0, 1) := by decide +kernel
theorem dX6_daysWithin_24 : decode cX6_daysWithin 24 = .ok (.lreturn, 1) := by decide +kernel
theorem dX6_daysWithin_25 : decode cX6_daysWithin 25 = .ok (.lload 4, 2) := by decide +kernel
theorem dX6_daysWithin_27 : decode cX6_daysWithin 27 = .ok (.lconst 0, 1) := by decide +kernel
theorem dX6_daysWithin_28 : decode cX6_daysWithin 28 = .ok (.lcmp, 1) := by decide +kernel
theorem dX6_daysWithin_29 : decode cX6_daysWithin 29 = .ok (.ifCond .ne 7, 3) := by decide +kernel
theorem dX6_daysWithin_32 : decode cX6_daysWithin 32 = .ok (.ldc2_w 234, 3) := by decide +kernel
theorem dX6_daysWithin_35 : decode cX6_daysWithin 35 = .ok (.lreturn, 1) := by decide +kernel
theorem dX6_daysWithin_36 : decode cX6_daysWithin 36 = .ok (.lload 4, 2) := by decide +kernel
theorem dX6_daysWithin_38 : decode cX6_daysWithin 38 = .ok (.lconst 0, 1) := by decide +kernel
theorem dX6_daysWithin_39 : decode cX6_daysWithin 39 = .ok (.lcmp, 1) := by decide +kernel
theorem dX6_daysWithin_40 : decode cX6_daysWithin 40 = .ok (.ifCond .le 11, 3) := by decide +kernel
theorem dX6_daysWithin_43 : decode cX6_daysWithin 43 = .ok (.lload 10, 2) := by decide +kernel
theorem dX6_daysWithin_45 : decode cX6_daysWithin 45 = .ok (.lload 8, 2) := by decide +kernel
theorem dX6_daysWithin_47 : decode cX6_daysWithin 47 = .ok (.lsub, 1) := by decide +kernel
theorem dX6_daysWithin_48 : decode cX6_daysWithin 48 = .ok (.goto 8, 3) := by decide +kernel
theorem dX6_daysWithin_51 : decode cX6_daysWithin 51 = .ok (.lload 10, 2) := by decide +kernel
theorem dX6_daysWithin_53 : decode cX6_daysWithin 53 = .ok (.lload 8, 2) := by decide +kernel
theorem dX6_daysWithin_55 : decode cX6_daysWithin 55 = .ok (.ladd, 1) := by decide +kernel
theorem dX6_daysWithin_56 : decode cX6_daysWithin 56 = .ok (.lstore 12, 2) := by decide +kernel
theorem dX6_daysWithin_58 : decode cX6_daysWithin 58 = .ok (.lload 12, 2) := by decide +kernel
theorem dX6_daysWithin_60 : decode cX6_daysWithin 60 = .ok (.lload 4, 2) := by decide +kernel
theorem dX6_daysWithin_62 : decode cX6_daysWithin 62 = .ok (.invokestatic 153, 3) := by decide +kernel
theorem dX6_daysWithin_65 : decode cX6_daysWithin 65 = .ok (.ldiv, 1) := by decide +kernel
theorem dX6_daysWithin_66 : decode cX6_daysWithin 66 = .ok (.lconst 1, 1) := by decide +kernel
theorem dX6_daysWithin_67 : decode cX6_daysWithin 67 = .ok (.ladd, 1) := by decide +kernel
theorem dX6_daysWithin_68 : decode cX6_daysWithin 68 = .ok (.lreturn, 1) := by decide +kernel
theorem dX6_isBetween_0 : decode cX6_isBetween 0 = .ok (.iload_n 0, 1) := by decide +kernel
theorem dX6_isBetween_1 : decode cX6_isBetween 1 = .ok (.iload_n 1, 1) := by decide +kernel
theorem dX6_isBetween_2 : decode cX6_isBetween 2 = .ok (.if_icmp .lt 12, 3) := by decide +kernel
theorem dX6_isBetween_5 : decode cX6_isBetween 5 = .ok (.iload_n 0, 1) := by decide +kernel
theorem dX6_isBetween_6 : decode cX6_isBetween 6 = .ok (.iload_n 2, 1) := by decide +kernel
theorem dX6_isBetween_7 : decode cX6_isBetween 7 = .ok (.if_icmp .gt 7, 3) := by decide +kernel
theorem dX6_isBetween_10 : decode cX6_isBetween 10 = .ok (.iconst 1, 1) := by decide +kernel
theorem dX6_isBetween_11 : decode cX6_isBetween 11 = .ok (.goto 4, 3) := by decide +kernel
theorem dX6_isBetween_14 : decode cX6_isBetween 14 = .ok (.iconst 0, 1) := by decide +kernel
theorem dX6_isBetween_15 : decode cX6_isBetween 15 = .ok (.ireturn, 1) := by decide +kernel
set_option maxRecDepth 20000 in
theorem ggX6_isWithin_X6_isBetween : GoodIn wsX6_isWithin wsX6_isBetween := goodIn_r _ [4] (by decide +kernel) (by decide +kernel)
set_option maxRecDepth 20000 in
theorem gX6_isWithin_X6_isBetween : GoodIn wsX6_isWithin (va_wsS RX6 113 yX6_isBetween wsX6_isBetween) := goodIn_app (goodIn_of _ (by decide +kernel)) ggX6_isWithin_X6_isBetween
theorem dX6_isWithin_0 : decode cX6_isWithin 0 = .ok (.iload_n 0, 1) := by decide +kernel
theorem dX6_isWithin_1 : decode cX6_isWithin 1 = .ok (.iload_n 1, 1) := by decide +kernel
theorem dX6_isWithin_2 : decode cX6_isWithin 2 = .ok (.ineg, 1) := by decide +kernel
theorem dX6_isWithin_3 : decode cX6_isWithin 3 = .ok (.iload_n 1, 1) := by decide +kernel
theorem dX6_isWithin_4 : decode cX6_isWithin 4 = .ok (.invokestatic 113, 3) := by decide +kernel
theorem dX6_isWithin_7 : decode cX6_isWithin 7 = .ok (.ireturn, 1) := by decide +kernel
set_option maxRecDepth 20000 in
theorem ggX6_isRow_X6_isBetween : GoodIn wsX6_isRow wsX6_isBetween := goodIn_r _ [4] (by decide +kernel) (by decide +kernel)
set_option maxRecDepth 20000 in
theorem gX6_isRow_X6_isBetween : GoodIn wsX6_isRow (va_wsS RX6 113 yX6_isBetween wsX6_isBetween) := goodIn_app (goodIn_of _ (by decide +kernel)) ggX6_isRow_X6_isBetween
theorem dX6_isRow_0 : decode cX6_isRow 0 = .ok (.iload_n 0, 1) := by decide +kernel
theorem dX6_isRow_1 : decode cX6_isRow 1 = .ok (.iconst 0, 1) := by decide +kernel
theorem dX6_isRow_2 : decode cX6_isRow 2 = .ok (.iconst 5, 1) := by decide +kernel
theorem dX6_isRow_3 : decode cX6_isRow 3 = .ok (.invokestatic 113, 3) := by decide +kernel
theorem dX6_isRow_6 : decode cX6_isRow 6 = .ok (.ireturn, 1) := by decide +kernel
set_option maxRecDepth 20000 in
theorem ggX6_isTable_X6_isBetween : GoodIn wsX6_isTable wsX6_isBetween := goodIn_r _ [4] (by decide +kernel) (by decide +kernel)
set_option maxRecDepth 20000 in
theorem gX6_isTable_X6_isBetween : GoodIn wsX6_isTable (va_wsS RX6 113 yX6_isBetween wsX6_isBetween) := goodIn_app (goodIn_of _ (by decide +kernel)) ggX6_isTable_X6_isBetween
theorem dX6_isTable_0 : decode cX6_isTable 0 = .ok (.iload_n 0, 1) := by decide +kernel
theorem dX6_isTable_1 : decode cX6_isTable 1 = .ok (.iconst 0, 1) := by decide +kernel
theorem dX6_isTable_2 : decode cX6_isTable 2 = .ok (.iconst 3, 1) := by decide +kernel
theorem dX6_isTable_3 : decode cX6_isTable 3 = .ok (.invokestatic 113, 3) := by decide +kernel
theorem dX6_isTable_6 : decode cX6_isTable 6 = .ok (.ireturn, 1) := by decide +kernel
set_option maxRecDepth 20000 in
theorem ggX6_isBath_X6_isBetween : GoodIn wsX6_isBath wsX6_isBetween := goodIn_r _ [4] (by decide +kernel) (by decide +kernel)
set_option maxRecDepth 20000 in
theorem gX6_isBath_X6_isBetween : GoodIn wsX6_isBath (va_wsS RX6 113 yX6_isBetween wsX6_isBetween) := goodIn_app (goodIn_of _ (by decide +kernel)) ggX6_isBath_X6_isBetween
theorem dX6_isBath_0 : decode cX6_isBath 0 = .ok (.iload_n 0, 1) := by decide +kernel
theorem dX6_isBath_1 : decode cX6_isBath 1 = .ok (.iconst 0, 1) := by decide +kernel
theorem dX6_isBath_2 : decode cX6_isBath 2 = .ok (.bipush 7, 2) := by decide +kernel
theorem dX6_isBath_4 : decode cX6_isBath 4 = .ok (.invokestatic 113, 3) := by decide +kernel
theorem dX6_isBath_7 : decode cX6_isBath 7 = .ok (.ireturn, 1) := by decide +kernel
set_option maxRecDepth 20000 in
theorem ggX6_isDay_X6_isBetween : GoodIn wsX6_isDay wsX6_isBetween := goodIn_r _ [5] (by decide +kernel) (by decide +kernel)
set_option maxRecDepth 20000 in
theorem gX6_isDay_X6_isBetween : GoodIn wsX6_isDay (va_wsS RX6 113 yX6_isBetween wsX6_isBetween) := goodIn_app (goodIn_of _ (by decide +kernel)) ggX6_isDay_X6_isBetween
theorem dX6_isDay_0 : decode cX6_isDay 0 = .ok (.iload_n 0, 1) := by decide +kernel
theorem dX6_isDay_1 : decode cX6_isDay 1 = .ok (.iconst 0, 1) := by decide +kernel
theorem dX6_isDay_2 : decode cX6_isDay 2 = .ok (.ldc 75, 2) := by decide +kernel
theorem dX6_isDay_4 : decode cX6_isDay 4 = .ok (.invokestatic 113, 3) := by decide +kernel
theorem dX6_isDay_7 : decode cX6_isDay 7 = .ok (.ireturn, 1) := by decide +kernel
set_option maxRecDepth 20000 in
theorem ggX6_isLab_X6_isBetween : GoodIn wsX6_isLab wsX6_isBetween := goodIn_r _ [4] (by decide +kernel) (by decide +kernel)
set_option maxRecDepth 20000 in
theorem gX6_isLab_X6_isBetween : GoodIn wsX6_isLab (va_wsS RX6 113 yX6_isBetween wsX6_isBetween) := goodIn_app (goodIn_of _ (by decide +kernel)) ggX6_isLab_X6_isBetween
theorem dX6_isLab_0 : decode cX6_isLab 0 = .ok (.iload_n 0, 1) := by decide +kernel
theorem dX6_isLab_1 : decode cX6_isLab 1 = .ok (.iconst 0, 1) := by decide +kernel
theorem dX6_isLab_2 : decode cX6_isLab 2 = .ok (.iconst 5, 1) := by decide +kernel
theorem dX6_isLab_3 : decode cX6_isLab 3 = .ok (.invokestatic 113, 3) := by decide +kernel
theorem dX6_isLab_6 : decode cX6_isLab 6 = .ok (.ireturn, 1) := by decide +kernel
theorem dX6_greatestDivisor_0 : decode cX6_greatestDivisor 0 = .ok (.lload_n 0, 1) := by decide +kernel
theorem dX6_greatestDivisor_1 : decode cX6_greatestDivisor 1 = .ok (.invokestatic 153, 3) := by decide +kernel
theorem dX6_greatestDivisor_4 : decode cX6_greatestDivisor 4 = .ok (.lstore 4, 2) := by decide +kernel
theorem dX6_greatestDivisor_6 : decode cX6_greatestDivisor 6 = .ok (.lload_n 2, 1) := by decide +kernel
theorem dX6_greatestDivisor_7 : decode cX6_greatestDivisor 7 = .ok (.invokestatic 153, 3) := by decide +kernel
theorem dX6_greatestDivisor_10 : decode cX6_greatestDivisor 10 = .ok (.lstore 6, 2) := by decide +kernel
theorem dX6_greatestDivisor_12 : decode cX6_greatestDivisor 12 = .ok (.iconst 0, 1) := by decide +kernel
theorem dX6_greatestDivisor_13 : decode cX6_greatestDivisor 13 = .ok (.istore 8, 2) := by decide +kernel
theorem dX6_greatestDivisor_15 : decode cX6_greatestDivisor 15 = .ok (.iload 8, 2) := by decide +kernel
theorem dX6_greatestDivisor_17 : decode cX6_greatestDivisor 17 = .ok (.sipush 200, 3) := by decide +kernel
theorem dX6_greatestDivisor_20 : decode cX6_greatestDivisor 20 = .ok (.if_icmp .ge 31, 3) := by decide +kernel
theorem dX6_greatestDivisor_23 : decode cX6_greatestDivisor 23 = .ok (.lload 6, 2) := by decide +kernel
theorem dX6_greatestDivisor_25 : decode cX6_greatestDivisor 25 = .ok (.lconst 0, 1) := by decide +kernel
theorem dX6_greatestDivisor_26 : decode cX6_greatestDivisor 26 = .ok (.lcmp, 1) := by decide +kernel
theorem dX6_greatestDivisor_27 : decode cX6_greatestDivisor 27 = .ok (.ifCond .eq 24, 3) := by decide +kernel
theorem dX6_greatestDivisor_30 : decode cX6_greatestDivisor 30 = .ok (.lload 4, 2) := by decide +kernel
theorem dX6_greatestDivisor_32 : decode cX6_greatestDivisor 32 = .ok (.lload 6, 2) := by decide +kernel
theorem dX6_greatestDivisor_34 : decode cX6_greatestDivisor 34 = .ok (.lrem, 1) := by decide +kernel
theorem dX6_greatestDivisor_35 : decode cX6_greatestDivisor 35 = .ok (.lstore 9, 2) := by decide +kernel
theorem dX6_greatestDivisor_37 : decode cX6_greatestDivisor 37 = .ok (.lload 6, 2) := by decide +kernel
theorem dX6_greatestDivisor_39 : decode cX6_greatestDivisor 39 = .ok (.lstore 4, 2) := by decide +kernel
theorem dX6_greatestDivisor_41 : decode cX6_greatestDivisor 41 = .ok (.lload 9, 2) := by decide +kernel
theorem dX6_greatestDivisor_43 : decode cX6_greatestDivisor 43 = .ok (.lstore 6, 2) := by decide +kernel
theorem dX6_greatestDivisor_45 : decode cX6_greatestDivisor 45 = .ok (.iinc 8 1, 3) := by decide +kernel
theorem dX6_greatestDivisor_48 : decode cX6_greatestDivisor 48 = .ok (.goto (-33), 3) := by decide +kernel
theorem dX6_greatestDivisor_51 : decode cX6_greatestDivisor 51 = .ok (.lload 4, 2) := by decide +kernel
theorem dX6_greatestDivisor_53 : decode cX6_greatestDivisor 53 = .ok (.lreturn, 1) := by decide +kernel
set_option maxRecDepth 20000 in
theorem ggX6_leastMultiple_X6_greatestDivisor : GoodIn wsX6_leastMultiple wsX6_greatestDivisor := goodIn_r _ [8, 1, 2, 3, 4] (by decide +kernel) (by decide +kernel)
set_option maxRecDepth 20000 in
theorem gX6_leastMultiple_X6_greatestDivisor : GoodIn wsX6_leastMultiple (va_wsS RX6 283 yX6_greatestDivisor wsX6_greatestDivisor) := goodIn_app (goodIn_of _ (by decide +kernel)) ggX6_leastMultiple_X6_greatestDivisor
theorem dX6_leastMultiple_0 : decode cX6_leastMultiple 0 = .ok (.lload_n 0, 1) := by decide +kernel
theorem dX6_leastMultiple_1 : decode cX6_leastMultiple 1 = .ok (.lload_n 2, 1) := by decide +kernel
theorem dX6_leastMultiple_2 : decode cX6_leastMultiple 2 = .ok (.invokestatic 283, 3) := by decide +kernel
theorem dX6_leastMultiple_5 : decode cX6_leastMultiple 5 = .ok (.lstore 4, 2) := by decide +kernel
theorem dX6_leastMultiple_7 : decode cX6_leastMultiple 7 = .ok (.lload 4, 2) := by decide +kernel
theorem dX6_leastMultiple_9 : decode cX6_leastMultiple 9 = .ok (.lconst 0, 1) := by decide +kernel
theorem dX6_leastMultiple_10 : decode cX6_leastMultiple 10 = .ok (.lcmp, 1) := by decide +kernel
theorem dX6_leastMultiple_11 : decode cX6_leastMultiple 11 = .ok (.ifCond .ne 7, 3) := by decide +kernel
theorem dX6_leastMultiple_14 : decode cX6_leastMultiple 14 = .ok (.lconst 0, 1) := by decide +kernel
theorem dX6_leastMultiple_15 : decode cX6_leastMultiple 15 = .ok (.goto 12, 3) := by decide +kernel
theorem dX6_leastMultiple_18 : decode cX6_leastMultiple 18 = .ok (.lload_n 0, 1) := by decide +kernel
theorem dX6_leastMultiple_19 : decode cX6_leastMultiple 19 = .ok (.lload 4, 2) := by decide +kernel
theorem dX6_leastMultiple_21 : decode cX6_leastMultiple 21 = .ok (.ldiv, 1) := by decide +kernel
theorem dX6_leastMultiple_22 : decode cX6_leastMultiple 22 = .ok (.lload_n 2, 1) := by decide +kernel
theorem dX6_leastMultiple_23 : decode cX6_leastMultiple 23 = .ok (.lmul, 1) := by decide +kernel
theorem dX6_leastMultiple_24 : decode cX6_leastMultiple 24 = .ok (.invokestatic 153, 3) := by decide +kernel
theorem dX6_leastMultiple_27 : decode cX6_leastMultiple 27 = .ok (.lreturn, 1) := by decide +kernel
end
section
theorem dX7_init_0 : decode cX7_init 0 = .ok (.aload_n 0, 1) := by decide +kernel
theorem dX7_init_1 : decode cX7_init 1 = .ok (.invokespecial 1, 3) := by decide +kernel
theorem dX7_init_4 : decode cX7_init 4 = .ok (.aload_n 0, 1) := by decide +kernel
theorem dX7_init_5 : decode cX7_init 5 = .ok (.bipush 6, 2) := by decide +kernel
theorem dX7_init_7 : decode cX7_init 7 = .ok (.newarray .int, 2) := by decide +kernel
theorem dX7_init_9 : decode cX7_init 9 = .ok (.putfield 7, 3) := by decide +kernel
theorem dX7_init_12 : decode cX7_init 12 = .ok (.aload_n 0, 1) := by decide +kernel
theorem dX7_init_13 : decode cX7_init 13 = .ok (.lconst 1, 1) := by decide +kernel
theorem dX7_init_14 : decode cX7_init 14 = .ok (.putfield 13, 3) := by decide +kernel
theorem dX7_init_17 : decode cX7_init 17 = .ok (.aload_n 0, 1) := by decide +kernel
theorem dX7_init_18 : decode cX7_init 18 = .ok (.bipush 6, 2) := by decide +kernel
theorem dX7_init_20 : decode cX7_init 20 = .ok (.newarray .int, 2) := by decide +kernel
theorem dX7_init_22 : decode cX7_init 22 = .ok (.putfield 17, 3) := by decide +kernel
theorem dX7_init_25 : decode cX7_init 25 = .ok (.aload_n 0, 1) := by decide +kernel
theorem dX7_init_26 : decode cX7_init 26 = .ok (.sipush 240, 3) := by decide +kernel
theorem dX7_init_29 : decode cX7_init 29 = .ok (.newarray .int, 2) := by decide +kernel
theorem dX7_init_31 : decode cX7_init 31 = .ok (.putfield 20, 3) := by decide +kernel
theorem dX7_init_34 : decode cX7_init 34 = .ok (.aload_n 0, 1) := by decide +kernel
theorem dX7_init_35 : decode cX7_init 35 = .ok (.bipush 40, 2) := by decide +kernel
theorem dX7_init_37 : decode cX7_init 37 = .ok (.newarray .int, 2) := by decide +kernel
theorem dX7_init_39 : decode cX7_init 39 = .ok (.putfield 23, 3) := by decide +kernel
theorem dX7_init_42 : decode cX7_init 42 = .ok (.aload_n 0, 1) := by decide +kernel
theorem dX7_init_43 : decode cX7_init 43 = .ok (.iconst 4, 1) := by decide +kernel
theorem dX7_init_44 : decode cX7_init 44 = .ok (.newarray .int, 2) := by decide +kernel
theorem dX7_init_46 : decode cX7_init 46 = .ok (.putfield 26, 3) := by decide +kernel
theorem dX7_init_49 : decode cX7_init 49 = .ok (.aload_n 0, 1) := by decide +kernel
theorem dX7_init_50 : decode cX7_init 50 = .ok (.bipush 16, 2) := by decide +kernel
theorem dX7_init_52 : decode cX7_init 52 = .ok (.newarray .int, 2) := by decide +kernel
theorem dX7_init_54 : decode cX7_init 54 = .ok (.putfield 29, 3) := by decide +kernel
theorem dX7_init_57 : decode cX7_init 57 = .ok (.aload_n 0, 1) := by decide +kernel
theorem dX7_init_58 : decode cX7_init 58 = .ok (.bipush 16, 2) := by decide +kernel
theorem dX7_init_60 : decode cX7_init 60 = .ok (.newarray .int, 2) := by decide +kernel
theorem dX7_init_62 : decode cX7_init 62 = .ok (.putfield 32, 3) := by decide +kernel
theorem dX7_init_65 : decode cX7_init 65 = .ok (.aload_n 0, 1) := by decide +kernel
theorem dX7_init_66 : decode cX7_init 66 = .ok (.bipush 16, 2) := by decide +kernel
theorem dX7_init_68 : decode cX7_init 68 = .ok (.newarray .int, 2) := by decide +kernel
theorem dX7_init_70 : decode cX7_init 70 = .ok (.putfield 35, 3) := by decide +kernel
theorem dX7_init_73 : decode cX7_init 73 = .ok (.aload_n 0, 1) := by decide +kernel
theorem dX7_init_74 : decode cX7_init 74 = .ok (.bipush 16, 2) := by decide +kernel
theorem dX7_init_76 : decode cX7_init 76 = .ok (.newarray .int, 2) := by decide +kernel
theorem dX7_init_78 : decode cX7_init 78 = .ok (.putfield 38, 3) := by decide +kernel
theorem dX7_init_81 : decode cX7_init 81 = .ok (.aload_n 0, 1) := by decide +kernel
theorem dX7_init_82 : decode cX7_init 82 = .ok (.bipush 40, 2) := by decide +kernel
theorem dX7_init_84 : decode cX7_init 84 = .ok (.newarray .int, 2) := by decide +kernel
theorem dX7_init_86 : decode cX7_init 86 = .ok (.putfield 41, 3) := by decide +kernel
theorem dX7_init_89 : decode cX7_init 89 = .ok (.aload_n 0, 1) := by decide +kernel
theorem dX7_init_90 : decode cX7_init 90 = .ok (.bipush 40, 2) := by decide +kernel
theorem dX7_init_92 : decode cX7_init 92 = .ok (.newarray .int, 2) := by decide +kernel
theorem dX7_init_94 : decode cX7_init 94 = .ok (.putfield 44, 3) := by decide +kernel
theorem dX7_init_97 : decode cX7_init 97 = .ok (.aload_n 0, 1) := by decide +kernel
theorem dX7_init_98 : decode cX7_init 98 = .ok (.bipush 40, 2) := by decide +kernel
theorem dX7_init_100 : decode cX7_init 100 = .ok (.newarray .int, 2) := by decide +kernel
theorem dX7_init_102 : decode cX7_init 102 = .ok (.putfield 47, 3) := by decide +kernel
theorem dX7_init_105 : decode cX7_init 105 = .ok (.aload_n 0, 1) := by decide +kernel
theorem dX7_init_106 : decode cX7_init 106 = .ok (.bipush 40, 2) := by decide +kernel
theorem dX7_init_108 : decode cX7_init 108 = .ok (.newarray .int, 2) := by decide +kernel
theorem dX7_init_110 : decode cX7_init 110 = .ok (.putfield 50, 3) := by decide +kernel
theorem dX7_init_113 : decode cX7_init 113 = .ok (.aload_n 0, 1) := by decide +kernel
theorem dX7_init_114 : decode cX7_init 114 = .ok (.bipush 40, 2) := by decide +kernel
theorem dX7_init_116 : decode cX7_init 116 = .ok (.newarray .int, 2) := by decide +kernel
theorem dX7_init_118 : decode cX7_init 118 = .ok (.putfield 53, 3) := by decide +kernel
theorem dX7_init_121 : decode cX7_init 121 = .ok (.aload_n 0, 1) := by decide +kernel
theorem dX7_init_122 : decode cX7_init 122 = .ok (.bipush 40, 2) := by decide +kernel
theorem dX7_init_124 : decode cX7_init 124 = .ok (.newarray .int, 2) := by decide +kernel
theorem dX7_init_126 : decode cX7_init 126 = .ok (.putfield 56, 3) := by decide +kernel
theorem dX7_init_129 : decode cX7_init 129 = .ok (.aload_n 0, 1) := by decide +kernel
theorem dX7_init_130 : decode cX7_init 130 = .ok (.bipush 40, 2) := by decide +kernel
theorem dX7_init_132 : decode cX7_init 132 = .ok (.newarray .int, 2) := by decide +kernel
theorem dX7_init_134 : decode cX7_init 134 = .ok (.putfield 59, 3) := by decide +kernel
theorem dX7_init_137 : decode cX7_init 137 = .ok (.aload_n 0, 1) := by decide +kernel
theorem dX7_init_138 : decode cX7_init 138 = .ok (.bipush 40, 2) := by decide +kernel
theorem dX7_init_140 : decode cX7_init 140 = .ok (.newarray .boolean, 2) := by decide +kernel
theorem dX7_init_142 : decode cX7_init 142 = .ok (.putfield 62, 3) := by decide +kernel
theorem dX7_init_145 : decode cX7_init 145 = .ok (.aload_n 0, 1) := by decide +kernel
theorem dX7_init_146 : decode cX7_init 146 = .ok (.bipush 36, 2) := by decide +kernel
theorem dX7_init_148 : decode cX7_init 148 = .ok (.newarray .boolean, 2) := by decide +kernel
theorem dX7_init_150 : decode cX7_init 150 = .ok (.putfield 66, 3) := by decide +kernel
theorem dX7_init_153 : decode cX7_init 153 = .ok (.aload_n 0, 1) := by decide +kernel
theorem dX7_init_154 : decode cX7_init 154 = .ok (.bipush 36, 2) := by decide +kernel
theorem dX7_init_156 : decode cX7_init 156 = .ok (.newarray .int, 2) := by decide +kernel
theorem dX7_init_158 : decode cX7_init 158 = .ok (.putfield 69, 3) := by decide +kernel
theorem dX7_init_161 : decode cX7_init 161 = .ok (.aload_n 0, 1) := by decide +kernel
theorem dX7_init_162 : decode cX7_init 162 = .ok (.bipush 36, 2) := by decide +kernel
theorem dX7_init_164 : decode cX7_init 164 = .ok (.newarray .int, 2) := by decide +kernel
theorem dX7_init_166 : decode cX7_init 166 = .ok (.putfield 72, 3) := by decide +kernel
theorem dX7_init_169 : decode cX7_init 169 = .ok (.iconst 0, 1) := by decide +kernel
theorem dX7_init_170 : decode cX7_init 170 = .ok (.istore_n 1, 1) := by decide +kernel
theorem dX7_init_171 : decode cX7_init 171 = .ok (.iload_n 1, 1) := by decide +kernel
theorem dX7_init_172 : decode cX7_init 172 = .ok (.bipush 6, 2) := by decide +kernel
theorem dX7_init_174 : decode cX7_init 174 = .ok (.if_icmp .ge 17, 3) := by decide +kernel
theorem dX7_init_177 : decode cX7_init 177 = .ok (.aload_n 0, 1) := by decide +kernel
theorem dX7_init_178 : decode cX7_init 178 = .ok (.getfield 17, 3) := by decide +kernel
theorem dX7_init_181 : decode cX7_init 181 = .ok (.iload_n 1, 1) := by decide +kernel
theorem dX7_init_182 : decode cX7_init 182 = .ok (.bipush (-9), 2) := by decide +kernel
theorem dX7_init_184 : decode cX7_init 184 = .ok (.iastore, 1) := by decide +kernel
theorem dX7_init_185 : decode cX7_init 185 = .ok (.iinc 1 1, 3) := by decide +kernel
theorem dX7_init_188 : decode cX7_init 188 = .ok (.goto (-17), 3) := by decide +kernel
theorem dX7_init_191 : decode cX7_init 191 = .ok (.return_, 1) := by decide +kernel
theorem dX7_in_0 : decode cX7_in 0 = .ok (.iload_n 0, 1) := by decide +kernel
theorem dX7_in_1 : decode cX7_in 1 = .ok (.iload_n 1, 1) := by decide +kernel
theorem dX7_in_2 : decode cX7_in 2 = .ok (.if_icmp .lt 12, 3) := by decide +kernel
theorem dX7_in_5 : decode cX7_in 5 = .ok (.iload_n 0, 1) := by decide +kernel
theorem dX7_in_6 : decode cX7_in 6 = .ok (.iload_n 2, 1) := by decide +kernel
theorem dX7_in_7 : decode cX7_in 7 = .ok (.if_icmp .gt 7, 3) := by decide +kernel
theorem dX7_in_10 : decode cX7_in 10 = .ok (.iconst 1, 1) := by decide +kernel
theorem dX7_in_11 : decode cX7_in 11 = .ok (.goto 4, 3) := by decide +kernel
theorem dX7_in_14 : decode cX7_in 14 = .ok (.iconst 0, 1) := by decide +kernel
theorem dX7_in_15 : decode cX7_in 15 = .ok (.ireturn, 1) := by decide +kernel
theorem dX7_meets_0 : decode cX7_meets 0 = .ok (.aload_n 0, 1) := by decide +kernel
theorem dX7_meets_1 : decode cX7_meets 1 = .ok (.iload_n 1, 1) := by decide +kernel
theorem dX7_meets_2 : decode cX7_meets 2 = .ok (.putfield 75, 3) := by decide +kernel
theorem dX7_meets_5 : decode cX7_meets 5 = .ok (.aload_n 0, 1) := by decide +kernel
theorem dX7_meets_6 : decode cX7_meets 6 = .ok (.getfield 7, 3) := by decide +kernel
theorem dX7_meets_9 : decode cX7_meets 9 = .ok (.iload_n 1, 1) := by decide +kernel
theorem dX7_meets_10 : decode cX7_meets 10 = .ok (.dup2, 1) := by decide +kernel
theorem dX7_meets_11 : decode cX7_meets 11 = .ok (.iaload, 1) := by decide +kernel
theorem dX7_meets_12 : decode cX7_meets 12 = .ok (.iconst 1, 1) := by decide +kernel
theorem dX7_meets_13 : decode cX7_meets 13 = .ok (.iadd, 1) := by decide +kernel
theorem dX7_meets_14 : decode cX7_meets 14 = .ok (.iastore, 1) := by decide +kernel
theorem dX7_meets_15 : decode cX7_meets 15 = .ok (.bipush (-3), 2) := by decide +kernel
theorem dX7_meets_17 : decode cX7_meets 17 = .ok (.ireturn, 1) := by decide +kernel
theorem dX7_size_0 : decode cX7_size 0 = .ok (.lload_n 0, 1) := by decide +kernel
theorem dX7_size_1 : decode cX7_size 1 = .ok (.lconst 0, 1) := by decide +kernel
theorem dX7_size_2 : decode cX7_size 2 = .ok (.lcmp, 1) := by decide +kernel
theorem dX7_size_3 : decode cX7_size 3 = .ok (.ifCond .ge 8, 3) := by decide +kernel
theorem dX7_size_6 : decode cX7_size 6 = .ok (.lload_n 0, 1) := by decide +kernel
theorem dX7_size_7 : decode cX7_size 7 = .ok (.lneg, 1) := by decide +kernel
theorem dX7_size_8 : decode cX7_size 8 = .ok (.goto 4, 3) := by decide +kernel
theorem dX7_size_11 : decode cX7_size 11 = .ok (.lload_n 0, 1) := by decide +kernel
theorem dX7_size_12 : decode cX7_size 12 = .ok (.lreturn, 1) := by decide +kernel
set_option maxRecDepth 20000 in
theorem ggX7_divisor_X7_size : GoodIn wsX7_divisor wsX7_size := goodIn_r _ [4] (by decide +kernel) (by decide +kernel)
set_option maxRecDepth 20000 in
theorem gX7_divisor_X7_size : GoodIn wsX7_divisor (va_wsS RX7 79 yX7_size wsX7_size) := goodIn_app (goodIn_of _ (by decide +kernel)) ggX7_divisor_X7_size
theorem dX7_divisor_0 : decode cX7_divisor 0 = .ok (.lload_n 0, 1) := by decide +kernel
theorem dX7_divisor_1 : decode cX7_divisor 1 = .ok (.invokestatic 79, 3) := by decide +kernel
theorem dX7_divisor_4 : decode cX7_divisor 4 = .ok (.lstore 4, 2) := by decide +kernel
theorem dX7_divisor_6 : decode cX7_divisor 6 = .ok (.lload_n 2, 1) := by decide +kernel
theorem dX7_divisor_7 : decode cX7_divisor 7 = .ok (.invokestatic 79, 3) := by decide +kernel
theorem dX7_divisor_10 : decode cX7_divisor 10 = .ok (.lstore 6, 2) := by decide +kernel
theorem dX7_divisor_12 : decode cX7_divisor 12 = .ok (.lload 6, 2) := by decide +kernel
theorem dX7_divisor_14 : decode cX7_divisor 14 = .ok (.lconst 0, 1) := by decide +kernel
theorem dX7_divisor_15 : decode cX7_divisor 15 = .ok (.lcmp, 1) := by decide +kernel
theorem dX7_divisor_16 : decode cX7_divisor 16 = .ok (.ifCond .eq 21, 3) := by decide +kernel
theorem dX7_divisor_19 : decode cX7_divisor 19 = .ok (.lload 4, 2) := by decide +kernel
theorem dX7_divisor_21 : decode cX7_divisor 21 = .ok (.lload 6, 2) := by decide +kernel
theorem dX7_divisor_23 : decode cX7_divisor 23 = .ok (.lrem, 1) := by decide +kernel
theorem dX7_divisor_24 : decode cX7_divisor 24 = .ok (.lstore 8, 2) := by decide +kernel
theorem dX7_divisor_26 : decode cX7_divisor 26 = .ok (.lload 6, 2) := by decide +kernel
theorem dX7_divisor_28 : decode cX7_divisor 28 = .ok (.lstore 4, 2) := by decide +kernel
theorem dX7_divisor_30 : decode cX7_divisor 30 = .ok (.lload 8, 2) := by decide +kernel
theorem dX7_divisor_32 : decode cX7_divisor 32 = .ok (.lstore 6, 2) := by decide +kernel
theorem dX7_divisor_34 : decode cX7_divisor 34 = .ok (.goto (-22), 3) := by decide +kernel
theorem dX7_divisor_37 : decode cX7_divisor 37 = .ok (.lload 4, 2) := by decide +kernel
theorem dX7_divisor_39 : decode cX7_divisor 39 = .ok (.lreturn, 1) := by decide +kernel
set_option maxRecDepth 20000 in
theorem ggX7_tell_X7_divisor : GoodIn wsX7_tell wsX7_divisor := goodIn_r _ [6, 7, 8, 5, 9] (by decide +kernel) (by decide +kernel)
set_option maxRecDepth 20000 in
theorem gX7_tell_X7_divisor : GoodIn wsX7_tell (va_wsS RX7 83 yX7_divisor wsX7_divisor) := goodIn_app (goodIn_of _ (by decide +kernel)) ggX7_tell_X7_divisor
theorem dX7_tell_0 : decode cX7_tell 0 = .ok (.lload_n 3, 1) := by decide +kernel
theorem dX7_tell_1 : decode cX7_tell 1 = .ok (.lconst 0, 1) := by decide +kernel
theorem dX7_tell_2 : decode cX7_tell 2 = .ok (.lcmp, 1) := by decide +kernel
theorem dX7_tell_3 : decode cX7_tell 3 = .ok (.ifCond .ge 12, 3) := by decide +kernel
theorem dX7_tell_6 : decode cX7_tell 6 = .ok (.lload_n 1, 1) := by decide +kernel
theorem dX7_tell_7 : decode cX7_tell 7 = .ok (.lload_n 3, 1) := by decide +kernel
theorem dX7_tell_8 : decode cX7_tell 8 = .ok (.invokestatic 83, 3) := by decide +kernel
theorem dX7_tell_11 : decode cX7_tell 11 = .ok (.lneg, 1) := by decide +kernel
theorem dX7_tell_12 : decode cX7_tell 12 = .ok (.goto 8, 3) := by decide +kernel
theorem dX7_tell_15 : decode cX7_tell 15 = .ok (.lload_n 1, 1) := by decide +kernel
theorem dX7_tell_16 : decode cX7_tell 16 = .ok (.lload_n 3, 1) := by decide +kernel
theorem dX7_tell_17 : decode cX7_tell 17 = .ok (.invokestatic 83, 3) := by decide +kernel
theorem dX7_tell_20 : decode cX7_tell 20 = .ok (.lstore 6, 2) := by decide +kernel
theorem dX7_tell_22 : decode cX7_tell 22 = .ok (.aload_n 0, 1) := by decide +kernel
theorem dX7_tell_23 : decode cX7_tell 23 = .ok (.lload_n 1, 1) := by decide +kernel
theorem dX7_tell_24 : decode cX7_tell 24 = .ok (.lload 6, 2) := by decide +kernel
theorem dX7_tell_26 : decode cX7_tell 26 = .ok (.ldiv, 1) := by decide +kernel
theorem dX7_tell_27 : decode cX7_tell 27 = .ok (.putfield 87, 3) := by decide +kernel
theorem dX7_tell_30 : decode cX7_tell 30 = .ok (.aload_n 0, 1) := by decide +kernel
theorem dX7_tell_31 : decode cX7_tell 31 = .ok (.lload_n 3, 1) := by decide +kernel
theorem dX7_tell_32 : decode cX7_tell 32 = .ok (.lload 6, 2) := by decide +kernel
theorem dX7_tell_34 : decode cX7_tell 34 = .ok (.ldiv, 1) := by decide +kernel
theorem dX7_tell_35 : decode cX7_tell 35 = .ok (.putfield 13, 3) := by decide +kernel
theorem dX7_tell_38 : decode cX7_tell 38 = .ok (.iload 5, 2) := by decide +kernel
theorem dX7_tell_40 : decode cX7_tell 40 = .ok (.ireturn, 1) := by decide +kernel
theorem dX7_ask_0 : decode cX7_ask 0 = .ok (.aload_n 0, 1) := by decide +kernel
theorem dX7_ask_1 : decode cX7_ask 1 = .ok (.lload_n 1, 1) := by decide +kernel
theorem dX7_ask_2 : decode cX7_ask 2 = .ok (.putfield 90, 3) := by decide +kernel
theorem dX7_ask_5 : decode cX7_ask 5 = .ok (.iload_n 3, 1) := by decide +kernel
theorem dX7_ask_6 : decode cX7_ask 6 = .ok (.ireturn, 1) := by decide +kernel
set_option maxRecDepth 20000 in
theorem ggX7_isRow_X7_in : GoodIn wsX7_isRow wsX7_in := goodIn_r _ [4] (by decide +kernel) (by decide +kernel)
set_option maxRecDepth 20000 in
theorem gX7_isRow_X7_in : GoodIn wsX7_isRow (va_wsS RX7 93 yX7_in wsX7_in) := goodIn_app (goodIn_of _ (by decide +kernel)) ggX7_isRow_X7_in
theorem dX7_isRow_0 : decode cX7_isRow 0 = .ok (.iload_n 0, 1) := by decide +kernel
theorem dX7_isRow_1 : decode cX7_isRow 1 = .ok (.iconst 0, 1) := by decide +kernel
theorem dX7_isRow_2 : decode cX7_isRow 2 = .ok (.iconst 5, 1) := by decide +kernel
theorem dX7_isRow_3 : decode cX7_isRow 3 = .ok (.invokestatic 93, 3) := by decide +kernel
theorem dX7_isRow_6 : decode cX7_isRow 6 = .ok (.ireturn, 1) := by decide +kernel
set_option maxRecDepth 20000 in
theorem ggX7_looked_X7_isRow : GoodIn wsX7_looked wsX7_isRow := goodIn_r _ [5, 6, 7, 4, 8] (by decide +kernel) (by decide +kernel)
set_option maxRecDepth 20000 in
theorem gX7_looked_X7_isRow : GoodIn wsX7_looked (va_wsS RX7 97 yX7_isRow wsX7_isRow) := goodIn_app (goodIn_of _ (by decide +kernel)) ggX7_looked_X7_isRow
set_option maxRecDepth 20000 in
theorem ggX7_looked_X7_meets : GoodIn wsX7_looked wsX7_meets := goodIn_r _ [12, 13, 14, 15, 16, 17, 18, 19, 20, 21, 22, 23, 24, 25, 26, 27, 28, 29, 30, 31, 32, 33, 34, 35, 36, 37, 38, 39, 40, 41, 42, 43, 44] (by decide +kernel) (by decide +kernel)
set_option maxRecDepth 20000 in
theorem gX7_looked_X7_meets : GoodIn wsX7_looked (wsV RX7 101 RX7 yX7_meets wsX7_meets) := goodIn_app (goodIn_of _ (by decide +kernel)) ggX7_looked_X7_meets
theorem dX7_looked_0 : decode cX7_looked 0 = .ok (.iload_n 1, 1) := by decide +kernel
theorem dX7_looked_1 : decode cX7_looked 1 = .ok (.invokestatic 97, 3) := by decide +kernel
theorem dX7_looked_4 : decode cX7_looked 4 = .ok (.ifCond .ne 7, 3) := by decide +kernel
theorem dX7_looked_7 : decode cX7_looked 7 = .ok (.iconst (-1), 1) := by decide +kernel
theorem dX7_looked_8 : decode cX7_looked 8 = .ok (.goto 21, 3) := by decide +kernel
theorem dX7_looked_11 : decode cX7_looked 11 = .ok (.aload_n 0, 1) := by decide +kernel
theorem dX7_looked_12 : decode cX7_looked 12 = .ok (.getfield 17, 3) := by decide +kernel
theorem dX7_looked_15 : decode cX7_looked 15 = .ok (.iload_n 1, 1) := by decide +kernel
theorem dX7_looked_16 : decode cX7_looked 16 = .ok (.iaload, 1) := by decide +kernel
theorem dX7_looked_17 : decode cX7_looked 17 = .ok (.ifCond .ge 11, 3) := by decide +kernel
theorem dX7_looked_20 : decode cX7_looked 20 = .ok (.aload_n 0, 1) := by decide +kernel
theorem dX7_looked_21 : decode cX7_looked 21 = .ok (.iconst 1, 1) := by decide +kernel
theorem dX7_looked_22 : decode cX7_looked 22 = .ok (.invokevirtual 101, 3) := by decide +kernel
theorem dX7_looked_25 : decode cX7_looked 25 = .ok (.goto 4, 3) := by decide +kernel
theorem dX7_looked_28 : decode cX7_looked 28 = .ok (.iconst 0, 1) := by decide +kernel
theorem dX7_looked_29 : decode cX7_looked 29 = .ok (.ireturn, 1) := by decide +kernel
set_option maxRecDepth 20000 in
theorem ggX7_row_X7_isRow : GoodIn wsX7_row wsX7_isRow := goodIn_r _ [6, 7, 8, 5, 9] (by decide +kernel) (by decide +kernel)
set_option maxRecDepth 20000 in
theorem gX7_row_X7_isRow : GoodIn wsX7_row (va_wsS RX7 97 yX7_isRow wsX7_isRow) := goodIn_app (goodIn_of _ (by decide +kernel)) ggX7_row_X7_isRow
set_option maxRecDepth 20000 in
theorem ggX7_row_X7_meets : GoodIn wsX7_row wsX7_meets := goodIn_r _ [13, 14, 15, 16, 17, 18, 19, 20, 21, 22, 23, 24, 25, 26, 27, 28, 29, 30, 31, 32, 33, 34, 35, 36, 37, 38, 39, 40, 41, 42, 43, 44, 45] (by decide +kernel) (by decide +kernel)
set_option maxRecDepth 20000 in
theorem gX7_row_X7_meets : GoodIn wsX7_row (wsV RX7 101 RX7 yX7_meets wsX7_meets) := goodIn_app (goodIn_of _ (by decide +kernel)) ggX7_row_X7_meets
theorem dX7_row_0 : decode cX7_row 0 = .ok (.iload_n 1, 1) := by decide +kernel
theorem dX7_row_1 : decode cX7_row 1 = .ok (.invokestatic 97, 3) := by decide +kernel
theorem dX7_row_4 : decode cX7_row 4 = .ok (.ifCond .eq 9, 3) := by decide +kernel
theorem dX7_row_7 : decode cX7_row 7 = .ok (.iload_n 2, 1) := by decide +kernel
theorem dX7_row_8 : decode cX7_row 8 = .ok (.bipush 40, 2) := by decide +kernel
theorem dX7_row_10 : decode cX7_row 10 = .ok (.if_icmp .le 5, 3) := by decide +kernel
theorem dX7_row_13 : decode cX7_row 13 = .ok (.iconst (-1), 1) := by decide +kernel
theorem dX7_row_14 : decode cX7_row 14 = .ok (.ireturn, 1) := by decide +kernel
theorem dX7_row_15 : decode cX7_row 15 = .ok (.iload_n 2, 1) := by decide +kernel
theorem dX7_row_16 : decode cX7_row 16 = .ok (.ifCond .ge 9, 3) := by decide +kernel
theorem dX7_row_19 : decode cX7_row 19 = .ok (.aload_n 0, 1) := by decide +kernel
theorem dX7_row_20 : decode cX7_row 20 = .ok (.iconst 5, 1) := by decide +kernel
theorem dX7_row_21 : decode cX7_row 21 = .ok (.invokevirtual 101, 3) := by decide +kernel
theorem dX7_row_24 : decode cX7_row 24 = .ok (.ireturn, 1) := by decide +kernel
theorem dX7_row_25 : decode cX7_row 25 = .ok (.aload_n 0, 1) := by decide +kernel
theorem dX7_row_26 : decode cX7_row 26 = .ok (.getfield 17, 3) := by decide +kernel
theorem dX7_row_29 : decode cX7_row 29 = .ok (.iload_n 1, 1) := by decide +kernel
theorem dX7_row_30 : decode cX7_row 30 = .ok (.iload_n 2, 1) := by decide +kernel
theorem dX7_row_31 : decode cX7_row 31 = .ok (.iastore, 1) := by decide +kernel
theorem dX7_row_32 : decode cX7_row 32 = .ok (.iconst 0, 1) := by decide +kernel
theorem dX7_row_33 : decode cX7_row 33 = .ok (.istore_n 3, 1) := by decide +kernel
theorem dX7_row_34 : decode cX7_row 34 = .ok (.iload_n 3, 1) := by decide +kernel
theorem dX7_row_35 : decode cX7_row 35 = .ok (.bipush 40, 2) := by decide +kernel
theorem dX7_row_37 : decode cX7_row 37 = .ok (.if_icmp .ge 21, 3) := by decide +kernel
theorem dX7_row_40 : decode cX7_row 40 = .ok (.aload_n 0, 1) := by decide +kernel
theorem dX7_row_41 : decode cX7_row 41 = .ok (.getfield 20, 3) := by decide +kernel
theorem dX7_row_44 : decode cX7_row 44 = .ok (.bipush 40, 2) := by decide +kernel
theorem dX7_row_46 : decode cX7_row 46 = .ok (.iload_n 1, 1) := by decide +kernel
theorem dX7_row_47 : decode cX7_row 47 = .ok (.imul, 1) := by decide +kernel
theorem dX7_row_48 : decode cX7_row 48 = .ok (.iload_n 3, 1) := by decide +kernel
theorem dX7_row_49 : decode cX7_row 49 = .ok (.iadd, 1) := by decide +kernel
theorem dX7_row_50 : decode cX7_row 50 = .ok (.iconst 0, 1) := by decide +kernel
theorem dX7_row_51 : decode cX7_row 51 = .ok (.iastore, 1) := by decide +kernel
theorem dX7_row_52 : decode cX7_row 52 = .ok (.iinc 3 1, 3) := by decide +kernel
theorem dX7_row_55 : decode cX7_row 55 = .ok (.goto (-21), 3) := by decide +kernel
theorem dX7_row_58 : decode cX7_row 58 = .ok (.iload_n 2, 1) := by decide +kernel
theorem dX7_row_59 : decode cX7_row 59 = .ok (.ireturn, 1) := by decide +kernel
set_option maxRecDepth 20000 in
theorem ggX7_lay_X7_in : GoodIn wsX7_lay wsX7_in := goodIn_r _ [9] (by decide +kernel) (by decide +kernel)
set_option maxRecDepth 20000 in
theorem gX7_lay_X7_in : GoodIn wsX7_lay (va_wsS RX7 93 yX7_in wsX7_in) := goodIn_app (goodIn_of _ (by decide +kernel)) ggX7_lay_X7_in
set_option maxRecDepth 20000 in
theorem ggX7_lay_X7_looked : GoodIn wsX7_lay wsX7_looked := goodIn_r _ [13, 3, 14, 15, 8, 16, 6, 7, 9, 17, 18, 19, 20, 21, 22, 23, 24, 25, 26, 27, 28, 29, 30, 31, 32, 33, 34, 35, 36, 37, 38, 39, 40, 41, 42, 43, 44, 45, 46, 47, 48, 49, 50, 51, 52] (by decide +kernel) (by decide +kernel)
set_option maxRecDepth 20000 in
theorem gX7_lay_X7_looked : GoodIn wsX7_lay (wsV RX7 107 RX7 yX7_looked wsX7_looked) := goodIn_app (goodIn_of _ (by decide +kernel)) ggX7_lay_X7_looked
set_option maxRecDepth 20000 in
theorem ggX7_lay_X7_meets : GoodIn wsX7_lay wsX7_meets := goodIn_r _ [20, 21, 22, 23, 24, 25, 26, 27, 28, 29, 30, 31, 32, 33, 34, 35, 36, 37, 38, 39, 40, 41, 42, 43, 44, 45, 46, 47, 48, 49, 50, 51, 52] (by decide +kernel) (by decide +kernel)
set_option maxRecDepth 20000 in
theorem gX7_lay_X7_meets : GoodIn wsX7_lay (wsV RX7 101 RX7 yX7_meets wsX7_meets) := goodIn_app (goodIn_of _ (by decide +kernel)) ggX7_lay_X7_meets
theorem dX7_lay_0 : decode cX7_lay 0 = .ok (.iload_n 3, 1) := by decide +kernel
theorem dX7_lay_1 : decode cX7_lay 1 = .ok (.ldc 105, 2) := by decide +kernel
theorem dX7_lay_3 : decode cX7_lay 3 = .ok (.ldc 106, 2) := by decide +kernel
theorem dX7_lay_5 : decode cX7_lay 5 = .ok (.invokestatic 93, 3) := by decide +kernel
theorem dX7_lay_8 : decode cX7_lay 8 = .ok (.ifCond .ne 5, 3) := by decide +kernel
theorem dX7_lay_11 : decode cX7_lay 11 = .ok (.iconst (-1), 1) := by decide +kernel
theorem dX7_lay_12 : decode cX7_lay 12 = .ok (.ireturn, 1) := by decide +kernel
theorem dX7_lay_13 : decode cX7_lay 13 = .ok (.aload_n 0, 1) := by decide +kernel
theorem dX7_lay_14 : decode cX7_lay 14 = .ok (.iload_n 1, 1) := by decide +kernel
theorem dX7_lay_15 : decode cX7_lay 15 = .ok (.invokevirtual 107, 3) := by decide +kernel
theorem dX7_lay_18 : decode cX7_lay 18 = .ok (.istore 4, 2) := by decide +kernel
theorem dX7_lay_20 : decode cX7_lay 20 = .ok (.iload 4, 2) := by decide +kernel
theorem dX7_lay_22 : decode cX7_lay 22 = .ok (.ifCond .ge 6, 3) := by decide +kernel
theorem dX7_lay_25 : decode cX7_lay 25 = .ok (.iload 4, 2) := by decide +kernel
theorem dX7_lay_27 : decode cX7_lay 27 = .ok (.ireturn, 1) := by decide +kernel
theorem dX7_lay_28 : decode cX7_lay 28 = .ok (.iload_n 2, 1) := by decide +kernel
theorem dX7_lay_29 : decode cX7_lay 29 = .ok (.iconst 0, 1) := by decide +kernel
theorem dX7_lay_30 : decode cX7_lay 30 = .ok (.aload_n 0, 1) := by decide +kernel
theorem dX7_lay_31 : decode cX7_lay 31 = .ok (.getfield 17, 3) := by decide +kernel
theorem dX7_lay_34 : decode cX7_lay 34 = .ok (.iload_n 1, 1) := by decide +kernel
theorem dX7_lay_35 : decode cX7_lay 35 = .ok (.iaload, 1) := by decide +kernel
theorem dX7_lay_36 : decode cX7_lay 36 = .ok (.iconst 1, 1) := by decide +kernel
theorem dX7_lay_37 : decode cX7_lay 37 = .ok (.isub, 1) := by decide +kernel
theorem dX7_lay_38 : decode cX7_lay 38 = .ok (.invokestatic 93, 3) := by decide +kernel
theorem dX7_lay_41 : decode cX7_lay 41 = .ok (.ifCond .ne 9, 3) := by decide +kernel
theorem dX7_lay_44 : decode cX7_lay 44 = .ok (.aload_n 0, 1) := by decide +kernel
theorem dX7_lay_45 : decode cX7_lay 45 = .ok (.iconst 2, 1) := by decide +kernel
theorem dX7_lay_46 : decode cX7_lay 46 = .ok (.invokevirtual 101, 3) := by decide +kernel
theorem dX7_lay_49 : decode cX7_lay 49 = .ok (.ireturn, 1) := by decide +kernel
theorem dX7_lay_50 : decode cX7_lay 50 = .ok (.aload_n 0, 1) := by decide +kernel
theorem dX7_lay_51 : decode cX7_lay 51 = .ok (.aload_n 0, 1) := by decide +kernel
theorem dX7_lay_52 : decode cX7_lay 52 = .ok (.getfield 20, 3) := by decide +kernel
theorem dX7_lay_55 : decode cX7_lay 55 = .ok (.bipush 40, 2) := by decide +kernel
theorem dX7_lay_57 : decode cX7_lay 57 = .ok (.iload_n 1, 1) := by decide +kernel
theorem dX7_lay_58 : decode cX7_lay 58 = .ok (.imul, 1) := by decide +kernel
theorem dX7_lay_59 : decode cX7_lay 59 = .ok (.iload_n 2, 1) := by decide +kernel
theorem dX7_lay_60 : decode cX7_lay 60 = .ok (.iadd, 1) := by decide +kernel
theorem dX7_lay_61 : decode cX7_lay 61 = .ok (.iaload, 1) := by decide +kernel
theorem dX7_lay_62 : decode cX7_lay 62 = .ok (.i2l, 1) := by decide +kernel
theorem dX7_lay_63 : decode cX7_lay 63 = .ok (.putfield 90, 3) := by decide +kernel
theorem dX7_lay_66 : decode cX7_lay 66 = .ok (.aload_n 0, 1) := by decide +kernel
theorem dX7_lay_67 : decode cX7_lay 67 = .ok (.getfield 20, 3) := by decide +kernel
theorem dX7_lay_70 : decode cX7_lay 70 = .ok (.bipush 40, 2) := by decide +kernel
theorem dX7_lay_72 : decode cX7_lay 72 = .ok (.iload_n 1, 1) := by decide +kernel
theorem dX7_lay_73 : decode cX7_lay 73 = .ok (.imul, 1) := by decide +kernel
theorem dX7_lay_74 : decode cX7_lay 74 = .ok (.iload_n 2, 1) := by decide +kernel
theorem dX7_lay_75 : decode cX7_lay 75 = .ok (.iadd, 1) := by decide +kernel
theorem dX7_lay_76 : decode cX7_lay 76 = .ok (.iload_n 3, 1) := by decide +kernel
theorem dX7_lay_77 : decode cX7_lay 77 = .ok (.iastore, 1) := by decide +kernel
theorem dX7_lay_78 : decode cX7_lay 78 = .ok (.iconst 1, 1) := by decide +kernel
theorem dX7_lay_79 : decode cX7_lay 79 = .ok (.ireturn, 1) := by decide +kernel
set_option maxRecDepth 20000 in
theorem ggX7_tear_X7_looked : GoodIn wsX7_tear wsX7_looked := goodIn_r _ [6, 1, 7, 8, 5, 9, 10, 11, 12, 13, 14, 15, 16, 17, 18, 19, 20, 21, 22, 23, 24, 25, 26, 27, 28, 29, 30, 31, 32, 33, 34, 35, 36, 37, 38, 39, 40, 41, 42, 43, 44, 45, 46, 47, 48] (by decide +kernel) (by decide +kernel)
set_option maxRecDepth 20000 in
theorem gX7_tear_X7_looked : GoodIn wsX7_tear (wsV RX7 107 RX7 yX7_looked wsX7_looked) := goodIn_app (goodIn_of _ (by decide +kernel)) ggX7_tear_X7_looked
theorem dX7_tear_0 : decode cX7_tear 0 = .ok (.aload_n 0, 1) := by decide +kernel
theorem dX7_tear_1 : decode cX7_tear 1 = .ok (.iload_n 1, 1) := by decide +kernel
theorem dX7_tear_2 : decode cX7_tear 2 = .ok (.invokevirtual 107, 3) := by decide +kernel
theorem dX7_tear_5 : decode cX7_tear 5 = .ok (.istore_n 2, 1) := by decide +kernel
theorem dX7_tear_6 : decode cX7_tear 6 = .ok (.iload_n 2, 1) := by decide +kernel
theorem dX7_tear_7 : decode cX7_tear 7 = .ok (.ifCond .ge 5, 3) := by decide +kernel
theorem dX7_tear_10 : decode cX7_tear 10 = .ok (.iload_n 2, 1) := by decide +kernel
theorem dX7_tear_11 : decode cX7_tear 11 = .ok (.ireturn, 1) := by decide +kernel
theorem dX7_tear_12 : decode cX7_tear 12 = .ok (.aload_n 0, 1) := by decide +kernel
theorem dX7_tear_13 : decode cX7_tear 13 = .ok (.getfield 17, 3) := by decide +kernel
theorem dX7_tear_16 : decode cX7_tear 16 = .ok (.iload_n 1, 1) := by decide +kernel
theorem dX7_tear_17 : decode cX7_tear 17 = .ok (.bipush (-9), 2) := by decide +kernel
theorem dX7_tear_19 : decode cX7_tear 19 = .ok (.iastore, 1) := by decide +kernel
theorem dX7_tear_20 : decode cX7_tear 20 = .ok (.iconst 1, 1) := by decide +kernel
theorem dX7_tear_21 : decode cX7_tear 21 = .ok (.ireturn, 1) := by decide +kernel
set_option maxRecDepth 20000 in
theorem ggX7_copy_X7_isRow : GoodIn wsX7_copy wsX7_isRow := goodIn_r _ [7, 8, 9, 6, 10] (by decide +kernel) (by decide +kernel)
set_option maxRecDepth 20000 in
theorem gX7_copy_X7_isRow : GoodIn wsX7_copy (va_wsS RX7 97 yX7_isRow wsX7_isRow) := goodIn_app (goodIn_of _ (by decide +kernel)) ggX7_copy_X7_isRow
set_option maxRecDepth 20000 in
theorem ggX7_copy_X7_meets : GoodIn wsX7_copy wsX7_meets := goodIn_r _ [14, 15, 16, 17, 18, 19, 20, 21, 22, 23, 24, 25, 26, 27, 28, 29, 30, 31, 32, 33, 34, 35, 36, 37, 38, 39, 40, 41, 42, 43, 44, 45, 46] (by decide +kernel) (by decide +kernel)
set_option maxRecDepth 20000 in
theorem gX7_copy_X7_meets : GoodIn wsX7_copy (wsV RX7 101 RX7 yX7_meets wsX7_meets) := goodIn_app (goodIn_of _ (by decide +kernel)) ggX7_copy_X7_meets
theorem dX7_copy_0 : decode cX7_copy 0 = .ok (.iload_n 1, 1) := by decide +kernel
theorem dX7_copy_1 : decode cX7_copy 1 = .ok (.invokestatic 97, 3) := by decide +kernel
theorem dX7_copy_4 : decode cX7_copy 4 = .ok (.ifCond .eq 10, 3) := by decide +kernel
theorem dX7_copy_7 : decode cX7_copy 7 = .ok (.iload_n 3, 1) := by decide +kernel
theorem dX7_copy_8 : decode cX7_copy 8 = .ok (.invokestatic 97, 3) := by decide +kernel
theorem dX7_copy_11 : decode cX7_copy 11 = .ok (.ifCond .ne 5, 3) := by decide +kernel
theorem dX7_copy_14 : decode cX7_copy 14 = .ok (.iconst (-1), 1) := by decide +kernel
theorem dX7_copy_15 : decode cX7_copy 15 = .ok (.ireturn, 1) := by decide +kernel
theorem dX7_copy_16 : decode cX7_copy 16 = .ok (.iload 5, 2) := by decide +kernel
theorem dX7_copy_18 : decode cX7_copy 18 = .ok (.ifCond .ge 9, 3) := by decide +kernel
theorem dX7_copy_21 : decode cX7_copy 21 = .ok (.aload_n 0, 1) := by decide +kernel
theorem dX7_copy_22 : decode cX7_copy 22 = .ok (.iconst 5, 1) := by decide +kernel
theorem dX7_copy_23 : decode cX7_copy 23 = .ok (.invokevirtual 101, 3) := by decide +kernel
theorem dX7_copy_26 : decode cX7_copy 26 = .ok (.ireturn, 1) := by decide +kernel
theorem dX7_copy_27 : decode cX7_copy 27 = .ok (.aload_n 0, 1) := by decide +kernel
theorem dX7_copy_28 : decode cX7_copy 28 = .ok (.getfield 17, 3) := by decide +kernel
theorem dX7_copy_31 : decode cX7_copy 31 = .ok (.iload_n 1, 1) := by decide +kernel
theorem dX7_copy_32 : decode cX7_copy 32 = .ok (.iaload, 1) := by decide +kernel
theorem dX7_copy_33 : decode cX7_copy 33 = .ok (.ifCond .lt 12, 3) := by decide +kernel
theorem dX7_copy_36 : decode cX7_copy 36 = .ok (.aload_n 0, 1) := by decide +kernel
theorem dX7_copy_37 : decode cX7_copy 37 = .ok (.getfield 17, 3) := by decide +kernel
theorem dX7_copy_40 : decode cX7_copy 40 = .ok (.iload_n 3, 1) := by decide +kernel
theorem dX7_copy_41 : decode cX7_copy 41 = .ok (.iaload, 1) := by decide +kernel
theorem dX7_copy_42 : decode cX7_copy 42 = .ok (.ifCond .ge 9, 3) := by decide +kernel
theorem dX7_copy_45 : decode cX7_copy 45 = .ok (.aload_n 0, 1) := by decide +kernel
theorem dX7_copy_46 : decode cX7_copy 46 = .ok (.iconst 1, 1) := by decide +kernel
theorem dX7_copy_47 : decode cX7_copy 47 = .ok (.invokevirtual 101, 3) := by decide +kernel
theorem dX7_copy_50 : decode cX7_copy 50 = .ok (.ireturn, 1) := by decide +kernel
theorem dX7_copy_51 : decode cX7_copy 51 = .ok (.iload_n 2, 1) := by decide +kernel
theorem dX7_copy_52 : decode cX7_copy 52 = .ok (.ifCond .lt 43, 3) := by decide +kernel
theorem dX7_copy_55 : decode cX7_copy 55 = .ok (.iload 4, 2) := by decide +kernel
theorem dX7_copy_57 : decode cX7_copy 57 = .ok (.ifCond .lt 38, 3) := by decide +kernel
theorem dX7_copy_60 : decode cX7_copy 60 = .ok (.iload_n 2, 1) := by decide +kernel
theorem dX7_copy_61 : decode cX7_copy 61 = .ok (.i2l, 1) := by decide +kernel
theorem dX7_copy_62 : decode cX7_copy 62 = .ok (.iload 5, 2) := by decide +kernel
theorem dX7_copy_64 : decode cX7_copy 64 = .ok (.i2l, 1) := by decide +kernel
theorem dX7_copy_65 : decode cX7_copy 65 = .ok (.ladd, 1) := by decide +kernel
theorem dX7_copy_66 : decode cX7_copy 66 = .ok (.aload_n 0, 1) := by decide +kernel
theorem dX7_copy_67 : decode cX7_copy 67 = .ok (.getfield 17, 3) := by decide +kernel
theorem dX7_copy_70 : decode cX7_copy 70 = .ok (.iload_n 1, 1) := by decide +kernel
theorem dX7_copy_71 : decode cX7_copy 71 = .ok (.iaload, 1) := by decide +kernel
theorem dX7_copy_72 : decode cX7_copy 72 = .ok (.i2l, 1) := by decide +kernel
theorem dX7_copy_73 : decode cX7_copy 73 = .ok (.lcmp, 1) := by decide +kernel
theorem dX7_copy_74 : decode cX7_copy 74 = .ok (.ifCond .gt 21, 3) := by decide +kernel
theorem dX7_copy_77 : decode cX7_copy 77 = .ok (.iload 4, 2) := by decide +kernel
theorem dX7_copy_79 : decode cX7_copy 79 = .ok (.i2l, 1) := by decide +kernel
theorem dX7_copy_80 : decode cX7_copy 80 = .ok (.iload 5, 2) := by decide +kernel
theorem dX7_copy_82 : decode cX7_copy 82 = .ok (.i2l, 1) := by decide +kernel
theorem dX7_copy_83 : decode cX7_copy 83 = .ok (.ladd, 1) := by decide +kernel
theorem dX7_copy_84 : decode cX7_copy 84 = .ok (.aload_n 0, 1) := by decide +kernel
theorem dX7_copy_85 : decode cX7_copy 85 = .ok (.getfield 17, 3) := by decide +kernel
theorem dX7_copy_88 : decode cX7_copy 88 = .ok (.iload_n 3, 1) := by decide +kernel
theorem dX7_copy_89 : decode cX7_copy 89 = .ok (.iaload, 1) := by decide +kernel
theorem dX7_copy_90 : decode cX7_copy 90 = .ok (.i2l, 1) := by decide +kernel
theorem dX7_copy_91 : decode cX7_copy 91 = .ok (.lcmp, 1) := by decide +kernel
theorem dX7_copy_92 : decode cX7_copy 92 = .ok (.ifCond .le 9, 3) := by decide +kernel
theorem dX7_copy_95 : decode cX7_copy 95 = .ok (.aload_n 0, 1) := by decide +kernel
theorem dX7_copy_96 : decode cX7_copy 96 = .ok (.iconst 2, 1) := by decide +kernel
theorem dX7_copy_97 : decode cX7_copy 97 = .ok (.invokevirtual 101, 3) := by decide +kernel
theorem dX7_copy_100 : decode cX7_copy 100 = .ok (.ireturn, 1) := by decide +kernel
theorem dX7_copy_101 : decode cX7_copy 101 = .ok (.iconst 0, 1) := by decide +kernel
theorem dX7_copy_102 : decode cX7_copy 102 = .ok (.istore 6, 2) := by decide +kernel
theorem dX7_copy_104 : decode cX7_copy 104 = .ok (.iload 6, 2) := by decide +kernel
theorem dX7_copy_106 : decode cX7_copy 106 = .ok (.iload 5, 2) := by decide +kernel
theorem dX7_copy_108 : decode cX7_copy 108 = .ok (.if_icmp .ge 30, 3) := by decide +kernel
theorem dX7_copy_111 : decode cX7_copy 111 = .ok (.aload_n 0, 1) := by decide +kernel
theorem dX7_copy_112 : decode cX7_copy 112 = .ok (.getfield 23, 3) := by decide +kernel
theorem dX7_copy_115 : decode cX7_copy 115 = .ok (.iload 6, 2) := by decide +kernel
theorem dX7_copy_117 : decode cX7_copy 117 = .ok (.aload_n 0, 1) := by decide +kernel
theorem dX7_copy_118 : decode cX7_copy 118 = .ok (.getfield 20, 3) := by decide +kernel
theorem dX7_copy_121 : decode cX7_copy 121 = .ok (.bipush 40, 2) := by decide +kernel
theorem dX7_copy_123 : decode cX7_copy 123 = .ok (.iload_n 1, 1) := by decide +kernel
theorem dX7_copy_124 : decode cX7_copy 124 = .ok (.imul, 1) := by decide +kernel
theorem dX7_copy_125 : decode cX7_copy 125 = .ok (.iload_n 2, 1) := by decide +kernel
theorem dX7_copy_126 : decode cX7_copy 126 = .ok (.iadd, 1) := by decide +kernel
theorem dX7_copy_127 : decode cX7_copy 127 = .ok (.iload 6, 2) := by decide +kernel
theorem dX7_copy_129 : decode cX7_copy 129 = .ok (.iadd, 1) := by decide +kernel
theorem dX7_copy_130 : decode cX7_copy 130 = .ok (.iaload, 1) := by decide +kernel
theorem dX7_copy_131 : decode cX7_copy 131 = .ok (.iastore, 1) := by decide +kernel
theorem dX7_copy_132 : decode cX7_copy 132 = .ok (.iinc 6 1, 3) := by decide +kernel
theorem dX7_copy_135 : decode cX7_copy 135 = .ok (.goto (-31), 3) := by decide +kernel
theorem dX7_copy_138 : decode cX7_copy 138 = .ok (.iconst 0, 1) := by decide +kernel
theorem dX7_copy_139 : decode cX7_copy 139 = .ok (.istore 6, 2) := by decide +kernel
theorem dX7_copy_141 : decode cX7_copy 141 = .ok (.iload 6, 2) := by decide +kernel
theorem dX7_copy_143 : decode cX7_copy 143 = .ok (.iload 5, 2) := by decide +kernel
theorem dX7_copy_145 : decode cX7_copy 145 = .ok (.if_icmp .ge 31, 3) := by decide +kernel
theorem dX7_copy_148 : decode cX7_copy 148 = .ok (.aload_n 0, 1) := by decide +kernel
theorem dX7_copy_149 : decode cX7_copy 149 = .ok (.getfield 20, 3) := by decide +kernel
theorem dX7_copy_152 : decode cX7_copy 152 = .ok (.bipush 40, 2) := by decide +kernel
theorem dX7_copy_154 : decode cX7_copy 154 = .ok (.iload_n 3, 1) := by decide +kernel
theorem dX7_copy_155 : decode cX7_copy 155 = .ok (.imul, 1) := by decide +kernel
theorem dX7_copy_156 : decode cX7_copy 156 = .ok (.iload 4, 2) := by decide +kernel
theorem dX7_copy_158 : decode cX7_copy 158 = .ok (.iadd, 1) := by decide +kernel
theorem dX7_copy_159 : decode cX7_copy 159 = .ok (.iload 6, 2) := by decide +kernel
theorem dX7_copy_161 : decode cX7_copy 161 = .ok (.iadd, 1) := by decide +kernel
theorem dX7_copy_162 : decode cX7_copy 162 = .ok (.aload_n 0, 1) := by decide +kernel
theorem dX7_copy_163 : decode cX7_copy 163 = .ok (.getfield 23, 3) := by decide +kernel
theorem dX7_copy_166 : decode cX7_copy 166 = .ok (.iload 6, 2) := by decide +kernel
theorem dX7_copy_168 : decode cX7_copy 168 = .ok (.iaload, 1) := by decide +kernel
theorem dX7_copy_169 : decode cX7_copy 169 = .ok (.iastore, 1) := by decide +kernel
theorem dX7_copy_170 : decode cX7_copy 170 = .ok (.iinc 6 1, 3) := by decide +kernel
theorem dX7_copy_173 : decode cX7_copy 173 = .ok (.goto (-32), 3) := by decide +kernel
theorem dX7_copy_176 : decode cX7_copy 176 = .ok (.iconst 1, 1) := by decide +kernel
theorem dX7_copy_177 : decode cX7_copy 177 = .ok (.ireturn, 1) := by decide +kernel
set_option maxRecDepth 20000 in
theorem ggX7_mean_X7_looked : GoodIn wsX7_mean wsX7_looked := goodIn_r _ [7, 1, 8, 9, 6, 10, 11, 12, 13, 14, 15, 16, 17, 18, 19, 25, 26, 27, 28, 29, 30, 31, 32, 33, 34, 35, 36, 37, 38, 39, 40, 41, 42, 43, 44, 45, 46, 47, 48, 49, 50, 51, 52, 53, 54] (by decide +kernel) (by decide +kernel)
set_option maxRecDepth 20000 in
theorem gX7_mean_X7_looked : GoodIn wsX7_mean (wsV RX7 107 RX7 yX7_looked wsX7_looked) := goodIn_app (goodIn_of _ (by decide +kernel)) ggX7_mean_X7_looked
set_option maxRecDepth 20000 in
theorem ggX7_mean_X7_meets : GoodIn wsX7_mean wsX7_meets := goodIn_r _ [17, 18, 19, 25, 26, 27, 28, 29, 30, 31, 32, 33, 34, 35, 36, 37, 38, 39, 40, 41, 42, 43, 44, 45, 46, 47, 48, 49, 50, 51, 52, 53, 54] (by decide +kernel) (by decide +kernel)
set_option maxRecDepth 20000 in
theorem gX7_mean_X7_meets : GoodIn wsX7_mean (wsV RX7 101 RX7 yX7_meets wsX7_meets) := goodIn_app (goodIn_of _ (by decide +kernel)) ggX7_mean_X7_meets
set_option maxRecDepth 20000 in
theorem ggX7_mean_X7_ask : GoodIn wsX7_mean wsX7_ask := goodIn_r _ [23, 24, 25, 26, 27, 28, 29, 30, 31, 32, 33, 34, 35, 36, 37, 38, 39, 40, 41, 42, 43, 44, 45, 46, 47, 48, 49, 50, 51, 52, 53, 54] (by decide +kernel) (by decide +kernel)
set_option maxRecDepth 20000 in
theorem gX7_mean_X7_ask : GoodIn wsX7_mean (wsV RX7 110 RX7 yX7_ask wsX7_ask) := goodIn_app (goodIn_of _ (by decide +kernel)) ggX7_mean_X7_ask
theorem dX7_mean_0 : decode cX7_mean 0 = .ok (.aload_n 0, 1) := by decide +kernel
theorem dX7_mean_1 : decode cX7_mean 1 = .ok (.iload_n 1, 1) := by decide +kernel
theorem dX7_mean_2 : decode cX7_mean 2 = .ok (.invokevirtual 107, 3) := by decide +kernel
theorem dX7_mean_5 : decode cX7_mean 5 = .ok (.istore_n 2, 1) := by decide +kernel
theorem dX7_mean_6 : decode cX7_mean 6 = .ok (.iload_n 2, 1) := by decide +kernel
theorem dX7_mean_7 : decode cX7_mean 7 = .ok (.ifCond .ge 5, 3) := by decide +kernel
theorem dX7_mean_10 : decode cX7_mean 10 = .ok (.iload_n 2, 1) := by decide +kernel
theorem dX7_mean_11 : decode cX7_mean 11 = .ok (.ireturn, 1) := by decide +kernel
theorem dX7_mean_12 : decode cX7_mean 12 = .ok (.lconst 0, 1) := by decide +kernel
theorem dX7_mean_13 : decode cX7_mean 13 = .ok (.lstore_n 3, 1) := by decide +kernel
theorem dX7_mean_14 : decode cX7_mean 14 = .ok (.iconst 0, 1) := by decide +kernel
theorem dX7_mean_15 : decode cX7_mean 15 = .ok (.istore 5, 2) := by decide +kernel
theorem dX7_mean_17 : decode cX7_mean 17 = .ok (.iconst 0, 1) := by decide +kernel
theorem dX7_mean_18 : decode cX7_mean 18 = .ok (.istore 6, 2) := by decide +kernel
theorem dX7_mean_20 : decode cX7_mean 20 = .ok (.iload 6, 2) := by decide +kernel
theorem dX7_mean_22 : decode cX7_mean 22 = .ok (.aload_n 0, 1) := by decide +kernel
theorem dX7_mean_23 : decode cX7_mean 23 = .ok (.getfield 17, 3) := by decide +kernel
theorem dX7_mean_26 : decode cX7_mean 26 = .ok (.iload_n 1, 1) := by decide +kernel
theorem dX7_mean_27 : decode cX7_mean 27 = .ok (.iaload, 1) := by decide +kernel
theorem dX7_mean_28 : decode cX7_mean 28 = .ok (.if_icmp .ge 57, 3) := by decide +kernel
theorem dX7_mean_31 : decode cX7_mean 31 = .ok (.aload_n 0, 1) := by decide +kernel
theorem dX7_mean_32 : decode cX7_mean 32 = .ok (.getfield 20, 3) := by decide +kernel
theorem dX7_mean_35 : decode cX7_mean 35 = .ok (.bipush 40, 2) := by decide +kernel
theorem dX7_mean_37 : decode cX7_mean 37 = .ok (.iload_n 1, 1) := by decide +kernel
theorem dX7_mean_38 : decode cX7_mean 38 = .ok (.imul, 1) := by decide +kernel
theorem dX7_mean_39 : decode cX7_mean 39 = .ok (.iload 6, 2) := by decide +kernel
theorem dX7_mean_41 : decode cX7_mean 41 = .ok (.iadd, 1) := by decide +kernel
theorem dX7_mean_42 : decode cX7_mean 42 = .ok (.iaload, 1) := by decide +kernel
theorem dX7_mean_43 : decode cX7_mean 43 = .ok (.istore 7, 2) := by decide +kernel
theorem dX7_mean_45 : decode cX7_mean 45 = .ok (.lload_n 3, 1) := by decide +kernel
theorem dX7_mean_46 : decode cX7_mean 46 = .ok (.iload 7, 2) := by decide +kernel
theorem dX7_mean_48 : decode cX7_mean 48 = .ok (.bipush (-9), 2) := by decide +kernel
theorem dX7_mean_50 : decode cX7_mean 50 = .ok (.if_icmp .ne 7, 3) := by decide +kernel
theorem dX7_mean_53 : decode cX7_mean 53 = .ok (.lconst 0, 1) := by decide +kernel
theorem dX7_mean_54 : decode cX7_mean 54 = .ok (.goto 6, 3) := by decide +kernel
theorem dX7_mean_57 : decode cX7_mean 57 = .ok (.iload 7, 2) := by decide +kernel
theorem dX7_mean_59 : decode cX7_mean 59 = .ok (.i2l, 1) := by decide +kernel
theorem dX7_mean_60 : decode cX7_mean 60 = .ok (.ladd, 1) := by decide +kernel
theorem dX7_mean_61 : decode cX7_mean 61 = .ok (.lstore_n 3, 1) := by decide +kernel
theorem dX7_mean_62 : decode cX7_mean 62 = .ok (.iload 5, 2) := by decide +kernel
theorem dX7_mean_64 : decode cX7_mean 64 = .ok (.iload 7, 2) := by decide +kernel
theorem dX7_mean_66 : decode cX7_mean 66 = .ok (.bipush (-9), 2) := by decide +kernel
theorem dX7_mean_68 : decode cX7_mean 68 = .ok (.if_icmp .ne 7, 3) := by decide +kernel
theorem dX7_mean_71 : decode cX7_mean 71 = .ok (.iconst 0, 1) := by decide +kernel
theorem dX7_mean_72 : decode cX7_mean 72 = .ok (.goto 4, 3) := by decide +kernel
theorem dX7_mean_75 : decode cX7_mean 75 = .ok (.iconst 1, 1) := by decide +kernel
theorem dX7_mean_76 : decode cX7_mean 76 = .ok (.iadd, 1) := by decide +kernel
theorem dX7_mean_77 : decode cX7_mean 77 = .ok (.istore 5, 2) := by decide +kernel
theorem dX7_mean_79 : decode cX7_mean 79 = .ok (.iinc 6 1, 3) := by decide +kernel
theorem dX7_mean_82 : decode cX7_mean 82 = .ok (.goto (-62), 3) := by decide +kernel
theorem dX7_mean_85 : decode cX7_mean 85 = .ok (.iload 5, 2) := by decide +kernel
theorem dX7_mean_87 : decode cX7_mean 87 = .ok (.ifCond .ne 11, 3) := by decide +kernel
theorem dX7_mean_90 : decode cX7_mean 90 = .ok (.aload_n 0, 1) := by decide +kernel
theorem dX7_mean_91 : decode cX7_mean 91 = .ok (.iconst 4, 1) := by decide +kernel
theorem dX7_mean_92 : decode cX7_mean 92 = .ok (.invokevirtual 101, 3) := by decide +kernel
theorem dX7_mean_95 : decode cX7_mean 95 = .ok (.goto 13, 3) := by decide +kernel
theorem dX7_mean_98 : decode cX7_mean 98 = .ok (.aload_n 0, 1) := by decide +kernel
theorem dX7_mean_99 : decode cX7_mean 99 = .ok (.lload_n 3, 1) := by decide +kernel
theorem dX7_mean_100 : decode cX7_mean 100 = .ok (.iload 5, 2) := by decide +kernel
theorem dX7_mean_102 : decode cX7_mean 102 = .ok (.i2l, 1) := by decide +kernel
theorem dX7_mean_103 : decode cX7_mean 103 = .ok (.ldiv, 1) := by decide +kernel
theorem dX7_mean_104 : decode cX7_mean 104 = .ok (.iconst 1, 1) := by decide +kernel
theorem dX7_mean_105 : decode cX7_mean 105 = .ok (.invokevirtual 110, 3) := by decide +kernel
theorem dX7_mean_108 : decode cX7_mean 108 = .ok (.ireturn, 1) := by decide +kernel
set_option maxRecDepth 20000 in
theorem ggX7_plateau_X7_in : GoodIn wsX7_plateau wsX7_in := goodIn_r _ [8] (by decide +kernel) (by decide +kernel)
set_option maxRecDepth 20000 in
theorem gX7_plateau_X7_in : GoodIn wsX7_plateau (va_wsS RX7 93 yX7_in wsX7_in) := goodIn_app (goodIn_of _ (by decide +kernel)) ggX7_plateau_X7_in
set_option maxRecDepth 20000 in
theorem ggX7_plateau_X7_looked : GoodIn wsX7_plateau wsX7_looked := goodIn_r _ [12, 2, 13, 14, 7, 15, 5, 6, 8, 16, 17, 18, 19, 20, 21, 39, 40, 41, 42, 43, 44, 45, 46, 47, 48, 49, 50, 51, 52, 53, 54, 55, 56, 57, 58, 59, 60, 61, 62, 63, 64, 65, 66, 67, 68] (by decide +kernel) (by decide +kernel)
set_option maxRecDepth 20000 in
theorem gX7_plateau_X7_looked : GoodIn wsX7_plateau (wsV RX7 107 RX7 yX7_looked wsX7_looked) := goodIn_app (goodIn_of _ (by decide +kernel)) ggX7_plateau_X7_looked
set_option maxRecDepth 20000 in
theorem ggX7_plateau_X7_tell : GoodIn wsX7_plateau wsX7_tell := goodIn_r _ [25, 26, 27, 28, 29, 7, 30, 31, 32, 33, 39, 40, 41, 42, 43, 44, 45, 46, 47, 48, 49, 50, 51, 52, 53, 54, 55, 56, 57, 58, 59, 60, 61, 62, 63, 64, 65, 66, 67, 68] (by decide +kernel) (by decide +kernel)
set_option maxRecDepth 20000 in
theorem gX7_plateau_X7_tell : GoodIn wsX7_plateau (wsV RX7 114 RX7 yX7_tell wsX7_tell) := goodIn_app (goodIn_of _ (by decide +kernel)) ggX7_plateau_X7_tell
set_option maxRecDepth 20000 in
theorem ggX7_plateau_X7_ask : GoodIn wsX7_plateau wsX7_ask := goodIn_r _ [37, 38, 39, 40, 41, 42, 43, 44, 45, 46, 47, 48, 49, 50, 51, 52, 53, 54, 55, 56, 57, 58, 59, 60, 61, 62, 63, 64, 65, 66, 67, 68] (by decide +kernel) (by decide +kernel)
set_option maxRecDepth 20000 in
theorem gX7_plateau_X7_ask : GoodIn wsX7_plateau (wsV RX7 110 RX7 yX7_ask wsX7_ask) := goodIn_app (goodIn_of _ (by decide +kernel)) ggX7_plateau_X7_ask
theorem dX7_plateau_0 : decode cX7_plateau 0 = .ok (.iload_n 2, 1) := by decide +kernel
theorem dX7_plateau_1 : decode cX7_plateau 1 = .ok (.iconst 0, 1) := by decide +kernel
theorem dX7_plateau_2 : decode cX7_plateau 2 = .ok (.ldc 106, 2) := by decide +kernel
theorem dX7_plateau_4 : decode cX7_plateau 4 = .ok (.invokestatic 93, 3) := by decide +kernel
theorem dX7_plateau_7 : decode cX7_plateau 7 = .ok (.ifCond .eq 13, 3) := by decide +kernel
theorem dX7_plateau_10 : decode cX7_plateau 10 = .ok (.iload_n 3, 1) := by decide +kernel
theorem dX7_plateau_11 : decode cX7_plateau 11 = .ok (.iconst 1, 1) := by decide +kernel
theorem dX7_plateau_12 : decode cX7_plateau 12 = .ok (.bipush 40, 2) := by decide +kernel
theorem dX7_plateau_14 : decode cX7_plateau 14 = .ok (.invokestatic 93, 3) := by decide +kernel
theorem dX7_plateau_17 : decode cX7_plateau 17 = .ok (.ifCond .ne 5, 3) := by decide +kernel
theorem dX7_plateau_20 : decode cX7_plateau 20 = .ok (.iconst (-1), 1) := by decide +kernel
theorem dX7_plateau_21 : decode cX7_plateau 21 = .ok (.ireturn, 1) := by decide +kernel
theorem dX7_plateau_22 : decode cX7_plateau 22 = .ok (.aload_n 0, 1) := by decide +kernel
theorem dX7_plateau_23 : decode cX7_plateau 23 = .ok (.iload_n 1, 1) := by decide +kernel
theorem dX7_plateau_24 : decode cX7_plateau 24 = .ok (.invokevirtual 107, 3) := by decide +kernel
theorem dX7_plateau_27 : decode cX7_plateau 27 = .ok (.istore 4, 2) := by decide +kernel
theorem dX7_plateau_29 : decode cX7_plateau 29 = .ok (.iload 4, 2) := by decide +kernel
theorem dX7_plateau_31 : decode cX7_plateau 31 = .ok (.ifCond .ge 6, 3) := by decide +kernel
theorem dX7_plateau_34 : decode cX7_plateau 34 = .ok (.iload 4, 2) := by decide +kernel
theorem dX7_plateau_36 : decode cX7_plateau 36 = .ok (.ireturn, 1) := by decide +kernel
theorem dX7_plateau_37 : decode cX7_plateau 37 = .ok (.bipush (-9), 2) := by decide +kernel
theorem dX7_plateau_39 : decode cX7_plateau 39 = .ok (.istore 5, 2) := by decide +kernel
theorem dX7_plateau_41 : decode cX7_plateau 41 = .ok (.iload_n 3, 1) := by decide +kernel
theorem dX7_plateau_42 : decode cX7_plateau 42 = .ok (.iconst 1, 1) := by decide +kernel
theorem dX7_plateau_43 : decode cX7_plateau 43 = .ok (.isub, 1) := by decide +kernel
theorem dX7_plateau_44 : decode cX7_plateau 44 = .ok (.istore 6, 2) := by decide +kernel
theorem dX7_plateau_46 : decode cX7_plateau 46 = .ok (.lconst 0, 1) := by decide +kernel
theorem dX7_plateau_47 : decode cX7_plateau 47 = .ok (.lstore 7, 2) := by decide +kernel
theorem dX7_plateau_49 : decode cX7_plateau 49 = .ok (.iconst 0, 1) := by decide +kernel
theorem dX7_plateau_50 : decode cX7_plateau 50 = .ok (.istore 9, 2) := by decide +kernel
theorem dX7_plateau_52 : decode cX7_plateau 52 = .ok (.iload 9, 2) := by decide +kernel
theorem dX7_plateau_54 : decode cX7_plateau 54 = .ok (.aload_n 0, 1) := by decide +kernel
theorem dX7_plateau_55 : decode cX7_plateau 55 = .ok (.getfield 17, 3) := by decide +kernel
theorem dX7_plateau_58 : decode cX7_plateau 58 = .ok (.iload_n 1, 1) := by decide +kernel
theorem dX7_plateau_59 : decode cX7_plateau 59 = .ok (.iaload, 1) := by decide +kernel
theorem dX7_plateau_60 : decode cX7_plateau 60 = .ok (.if_icmp .ge 150, 3) := by decide +kernel
theorem dX7_plateau_63 : decode cX7_plateau 63 = .ok (.ldc 106, 2) := by decide +kernel
theorem dX7_plateau_65 : decode cX7_plateau 65 = .ok (.istore 10, 2) := by decide +kernel
theorem dX7_plateau_67 : decode cX7_plateau 67 = .ok (.ldc 105, 2) := by decide +kernel
theorem dX7_plateau_69 : decode cX7_plateau 69 = .ok (.istore 11, 2) := by decide +kernel
theorem dX7_plateau_71 : decode cX7_plateau 71 = .ok (.lconst 0, 1) := by decide +kernel
theorem dX7_plateau_72 : decode cX7_plateau 72 = .ok (.lstore 12, 2) := by decide +kernel
theorem dX7_plateau_74 : decode cX7_plateau 74 = .ok (.iload 9, 2) := by decide +kernel
theorem dX7_plateau_76 : decode cX7_plateau 76 = .ok (.istore 14, 2) := by decide +kernel
theorem dX7_plateau_78 : decode cX7_plateau 78 = .ok (.iload 14, 2) := by decide +kernel
theorem dX7_plateau_80 : decode cX7_plateau 80 = .ok (.aload_n 0, 1) := by decide +kernel
theorem dX7_plateau_81 : decode cX7_plateau 81 = .ok (.getfield 17, 3) := by decide +kernel
theorem dX7_plateau_84 : decode cX7_plateau 84 = .ok (.iload_n 1, 1) := by decide +kernel
theorem dX7_plateau_85 : decode cX7_plateau 85 = .ok (.iaload, 1) := by decide +kernel
theorem dX7_plateau_86 : decode cX7_plateau 86 = .ok (.if_icmp .ge 118, 3) := by decide +kernel
theorem dX7_plateau_89 : decode cX7_plateau 89 = .ok (.aload_n 0, 1) := by decide +kernel
theorem dX7_plateau_90 : decode cX7_plateau 90 = .ok (.getfield 20, 3) := by decide +kernel
theorem dX7_plateau_93 : decode cX7_plateau 93 = .ok (.bipush 40, 2) := by decide +kernel
theorem dX7_plateau_95 : decode cX7_plateau 95 = .ok (.iload_n 1, 1) := by decide +kernel
theorem dX7_plateau_96 : decode cX7_plateau 96 = .ok (.imul, 1) := by decide +kernel
theorem dX7_plateau_97 : decode cX7_plateau 97 = .ok (.iload 14, 2) := by decide +kernel
theorem dX7_plateau_99 : decode cX7_plateau 99 = .ok (.iadd, 1) := by decide +kernel
theorem dX7_plateau_100 : decode cX7_plateau 100 = .ok (.iaload, 1) := by decide +kernel
theorem dX7_plateau_101 : decode cX7_plateau 101 = .ok (.bipush (-9), 2) := by decide +kernel
theorem dX7_plateau_103 : decode cX7_plateau 103 = .ok (.if_icmp .eq 101, 3) := by decide +kernel
theorem dX7_plateau_106 : decode cX7_plateau 106 = .ok (.aload_n 0, 1) := by decide +kernel
theorem dX7_plateau_107 : decode cX7_plateau 107 = .ok (.getfield 20, 3) := by decide +kernel
theorem dX7_plateau_110 : decode cX7_plateau 110 = .ok (.bipush 40, 2) := by decide +kernel
theorem dX7_plateau_112 : decode cX7_plateau 112 = .ok (.iload_n 1, 1) := by decide +kernel
theorem dX7_plateau_113 : decode cX7_plateau 113 = .ok (.imul, 1) := by decide +kernel
theorem dX7_plateau_114 : decode cX7_plateau 114 = .ok (.iload 14, 2) := by decide +kernel
theorem dX7_plateau_116 : decode cX7_plateau 116 = .ok (.iadd, 1) := by decide +kernel
theorem dX7_plateau_117 : decode cX7_plateau 117 = .ok (.iaload, 1) := by decide +kernel
theorem dX7_plateau_118 : decode cX7_plateau 118 = .ok (.istore 15, 2) := by decide +kernel
theorem dX7_plateau_120 : decode cX7_plateau 120 = .ok (.iload 15, 2) := by decide +kernel
theorem dX7_plateau_122 : decode cX7_plateau 122 = .ok (.iload 10, 2) := by decide +kernel
theorem dX7_plateau_124 : decode cX7_plateau 124 = .ok (.if_icmp .ge 8, 3) := by decide +kernel
theorem dX7_plateau_127 : decode cX7_plateau 127 = .ok (.iload 15, 2) := by decide +kernel
theorem dX7_plateau_129 : decode cX7_plateau 129 = .ok (.goto 5, 3) := by decide +kernel
theorem dX7_plateau_132 : decode cX7_plateau 132 = .ok (.iload 10, 2) := by decide +kernel
theorem dX7_plateau_134 : decode cX7_plateau 134 = .ok (.istore 10, 2) := by decide +kernel
theorem dX7_plateau_136 : decode cX7_plateau 136 = .ok (.iload 15, 2) := by decide +kernel
theorem dX7_plateau_138 : decode cX7_plateau 138 = .ok (.iload 11, 2) := by decide +kernel
theorem dX7_plateau_140 : decode cX7_plateau 140 = .ok (.if_icmp .le 8, 3) := by decide +kernel
theorem dX7_plateau_143 : decode cX7_plateau 143 = .ok (.iload 15, 2) := by decide +kernel
theorem dX7_plateau_145 : decode cX7_plateau 145 = .ok (.goto 5, 3) := by decide +kernel
theorem dX7_plateau_148 : decode cX7_plateau 148 = .ok (.iload 11, 2) := by decide +kernel
theorem dX7_plateau_150 : decode cX7_plateau 150 = .ok (.istore 11, 2) := by decide +kernel
theorem dX7_plateau_152 : decode cX7_plateau 152 = .ok (.lload 12, 2) := by decide +kernel
theorem dX7_plateau_154 : decode cX7_plateau 154 = .ok (.iload 15, 2) := by decide +kernel
theorem dX7_plateau_156 : decode cX7_plateau 156 = .ok (.i2l, 1) := by decide +kernel
theorem dX7_plateau_157 : decode cX7_plateau 157 = .ok (.ladd, 1) := by decide +kernel
theorem dX7_plateau_158 : decode cX7_plateau 158 = .ok (.lstore 12, 2) := by decide +kernel
theorem dX7_plateau_160 : decode cX7_plateau 160 = .ok (.iload 11, 2) := by decide +kernel
theorem dX7_plateau_162 : decode cX7_plateau 162 = .ok (.iload 10, 2) := by decide +kernel
theorem dX7_plateau_164 : decode cX7_plateau 164 = .ok (.isub, 1) := by decide +kernel
theorem dX7_plateau_165 : decode cX7_plateau 165 = .ok (.iload_n 2, 1) := by decide +kernel
theorem dX7_plateau_166 : decode cX7_plateau 166 = .ok (.if_icmp .gt 32, 3) := by decide +kernel
theorem dX7_plateau_169 : decode cX7_plateau 169 = .ok (.iload 14, 2) := by decide +kernel
theorem dX7_plateau_171 : decode cX7_plateau 171 = .ok (.iload 9, 2) := by decide +kernel
theorem dX7_plateau_173 : decode cX7_plateau 173 = .ok (.isub, 1) := by decide +kernel
theorem dX7_plateau_174 : decode cX7_plateau 174 = .ok (.iconst 1, 1) := by decide +kernel
theorem dX7_plateau_175 : decode cX7_plateau 175 = .ok (.iadd, 1) := by decide +kernel
theorem dX7_plateau_176 : decode cX7_plateau 176 = .ok (.iload 6, 2) := by decide +kernel
theorem dX7_plateau_178 : decode cX7_plateau 178 = .ok (.if_icmp .le 20, 3) := by decide +kernel
theorem dX7_plateau_181 : decode cX7_plateau 181 = .ok (.iload 9, 2) := by decide +kernel
theorem dX7_plateau_183 : decode cX7_plateau 183 = .ok (.istore 5, 2) := by decide +kernel
theorem dX7_plateau_185 : decode cX7_plateau 185 = .ok (.iload 14, 2) := by decide +kernel
theorem dX7_plateau_187 : decode cX7_plateau 187 = .ok (.iload 9, 2) := by decide +kernel
theorem dX7_plateau_189 : decode cX7_plateau 189 = .ok (.isub, 1) := by decide +kernel
theorem dX7_plateau_190 : decode cX7_plateau 190 = .ok (.iconst 1, 1) := by decide +kernel
theorem dX7_plateau_191 : decode cX7_plateau 191 = .ok (.iadd, 1) := by decide +kernel
theorem dX7_plateau_192 : decode cX7_plateau 192 = .ok (.istore 6, 2) := by decide +kernel
theorem dX7_plateau_194 : decode cX7_plateau 194 = .ok (.lload 12, 2) := by decide +kernel
theorem dX7_plateau_196 : decode cX7_plateau 196 = .ok (.lstore 7, 2) := by decide +kernel
theorem dX7_plateau_198 : decode cX7_plateau 198 = .ok (.iinc 14 1, 3) := by decide +kernel
theorem dX7_plateau_201 : decode cX7_plateau 201 = .ok (.goto (-123), 3) := by decide +kernel
theorem dX7_plateau_204 : decode cX7_plateau 204 = .ok (.iinc 9 1, 3) := by decide +kernel
theorem dX7_plateau_207 : decode cX7_plateau 207 = .ok (.goto (-155), 3) := by decide +kernel
theorem dX7_plateau_210 : decode cX7_plateau 210 = .ok (.iload 5, 2) := by decide +kernel
theorem dX7_plateau_212 : decode cX7_plateau 212 = .ok (.ifCond .ge 8, 3) := by decide +kernel
theorem dX7_plateau_215 : decode cX7_plateau 215 = .ok (.bipush (-9), 2) := by decide +kernel
theorem dX7_plateau_217 : decode cX7_plateau 217 = .ok (.goto 21, 3) := by decide +kernel
theorem dX7_plateau_220 : decode cX7_plateau 220 = .ok (.aload_n 0, 1) := by decide +kernel
theorem dX7_plateau_221 : decode cX7_plateau 221 = .ok (.iload 6, 2) := by decide +kernel
theorem dX7_plateau_223 : decode cX7_plateau 223 = .ok (.i2l, 1) := by decide +kernel
theorem dX7_plateau_224 : decode cX7_plateau 224 = .ok (.aload_n 0, 1) := by decide +kernel
theorem dX7_plateau_225 : decode cX7_plateau 225 = .ok (.lload 7, 2) := by decide +kernel
theorem dX7_plateau_227 : decode cX7_plateau 227 = .ok (.iload 6, 2) := by decide +kernel
theorem dX7_plateau_229 : decode cX7_plateau 229 = .ok (.i2l, 1) := by decide +kernel
theorem dX7_plateau_230 : decode cX7_plateau 230 = .ok (.iload 5, 2) := by decide +kernel
theorem dX7_plateau_232 : decode cX7_plateau 232 = .ok (.invokevirtual 114, 3) := by decide +kernel
theorem dX7_plateau_235 : decode cX7_plateau 235 = .ok (.invokevirtual 110, 3) := by decide +kernel
theorem dX7_plateau_238 : decode cX7_plateau 238 = .ok (.ireturn, 1) := by decide +kernel
set_option maxRecDepth 20000 in
theorem ggX7_isTable_X7_in : GoodIn wsX7_isTable wsX7_in := goodIn_r _ [4] (by decide +kernel) (by decide +kernel)
set_option maxRecDepth 20000 in
theorem gX7_isTable_X7_in : GoodIn wsX7_isTable (va_wsS RX7 93 yX7_in wsX7_in) := goodIn_app (goodIn_of _ (by decide +kernel)) ggX7_isTable_X7_in
theorem dX7_isTable_0 : decode cX7_isTable 0 = .ok (.iload_n 0, 1) := by decide +kernel
theorem dX7_isTable_1 : decode cX7_isTable 1 = .ok (.iconst 0, 1) := by decide +kernel
theorem dX7_isTable_2 : decode cX7_isTable 2 = .ok (.iconst 3, 1) := by decide +kernel
theorem dX7_isTable_3 : decode cX7_isTable 3 = .ok (.invokestatic 93, 3) := by decide +kernel
theorem dX7_isTable_6 : decode cX7_isTable 6 = .ok (.ireturn, 1) := by decide +kernel
set_option maxRecDepth 20000 in
theorem ggX7_isX_X7_in : GoodIn wsX7_isX wsX7_in := goodIn_r _ [4] (by decide +kernel) (by decide +kernel)
set_option maxRecDepth 20000 in
theorem gX7_isX_X7_in : GoodIn wsX7_isX (va_wsS RX7 93 yX7_in wsX7_in) := goodIn_app (goodIn_of _ (by decide +kernel)) ggX7_isX_X7_in
theorem dX7_isX_0 : decode cX7_isX 0 = .ok (.iload_n 0, 1) := by decide +kernel
theorem dX7_isX_1 : decode cX7_isX 1 = .ok (.bipush (-20), 2) := by decide +kernel
theorem dX7_isX_3 : decode cX7_isX 3 = .ok (.bipush 20, 2) := by decide +kernel
theorem dX7_isX_5 : decode cX7_isX 5 = .ok (.invokestatic 93, 3) := by decide +kernel
theorem dX7_isX_8 : decode cX7_isX 8 = .ok (.ireturn, 1) := by decide +kernel
set_option maxRecDepth 20000 in
theorem ggX7_point_X7_isTable : GoodIn wsX7_point wsX7_isTable := goodIn_r _ [7, 8, 9, 6, 10] (by decide +kernel) (by decide +kernel)
set_option maxRecDepth 20000 in
theorem gX7_point_X7_isTable : GoodIn wsX7_point (va_wsS RX7 118 yX7_isTable wsX7_isTable) := goodIn_app (goodIn_of _ (by decide +kernel)) ggX7_point_X7_isTable
set_option maxRecDepth 20000 in
theorem ggX7_point_X7_isX : GoodIn wsX7_point wsX7_isX := goodIn_r _ [13, 8, 9, 6, 10] (by decide +kernel) (by decide +kernel)
set_option maxRecDepth 20000 in
theorem gX7_point_X7_isX : GoodIn wsX7_point (va_wsS RX7 121 yX7_isX wsX7_isX) := goodIn_app (goodIn_of _ (by decide +kernel)) ggX7_point_X7_isX
set_option maxRecDepth 20000 in
theorem ggX7_point_X7_in : GoodIn wsX7_point wsX7_in := goodIn_r _ [10] (by decide +kernel) (by decide +kernel)
set_option maxRecDepth 20000 in
theorem gX7_point_X7_in : GoodIn wsX7_point (va_wsS RX7 93 yX7_in wsX7_in) := goodIn_app (goodIn_of _ (by decide +kernel)) ggX7_point_X7_in
theorem dX7_point_0 : decode cX7_point 0 = .ok (.iload_n 1, 1) := by decide +kernel
theorem dX7_point_1 : decode cX7_point 1 = .ok (.invokestatic 118, 3) := by decide +kernel
theorem dX7_point_4 : decode cX7_point 4 = .ok (.ifCond .eq 27, 3) := by decide +kernel
theorem dX7_point_7 : decode cX7_point 7 = .ok (.iload_n 2, 1) := by decide +kernel
theorem dX7_point_8 : decode cX7_point 8 = .ok (.invokestatic 121, 3) := by decide +kernel
theorem dX7_point_11 : decode cX7_point 11 = .ok (.ifCond .eq 20, 3) := by decide +kernel
theorem dX7_point_14 : decode cX7_point 14 = .ok (.iload_n 3, 1) := by decide +kernel
theorem dX7_point_15 : decode cX7_point 15 = .ok (.sipush (-10000), 3) := by decide +kernel
theorem dX7_point_18 : decode cX7_point 18 = .ok (.sipush 10000, 3) := by decide +kernel
theorem dX7_point_21 : decode cX7_point 21 = .ok (.invokestatic 93, 3) := by decide +kernel
theorem dX7_point_24 : decode cX7_point 24 = .ok (.ifCond .eq 7, 3) := by decide +kernel
theorem dX7_point_27 : decode cX7_point 27 = .ok (.iconst 1, 1) := by decide +kernel
theorem dX7_point_28 : decode cX7_point 28 = .ok (.goto 4, 3) := by decide +kernel
theorem dX7_point_31 : decode cX7_point 31 = .ok (.iconst 0, 1) := by decide +kernel
theorem dX7_point_32 : decode cX7_point 32 = .ok (.istore 4, 2) := by decide +kernel
theorem dX7_point_34 : decode cX7_point 34 = .ok (.iconst 0, 1) := by decide +kernel
theorem dX7_point_35 : decode cX7_point 35 = .ok (.istore 5, 2) := by decide +kernel
theorem dX7_point_37 : decode cX7_point 37 = .ok (.iload 4, 2) := by decide +kernel
theorem dX7_point_39 : decode cX7_point 39 = .ok (.ifCond .eq 42, 3) := by decide +kernel
theorem dX7_point_42 : decode cX7_point 42 = .ok (.iload 5, 2) := by decide +kernel
theorem dX7_point_44 : decode cX7_point 44 = .ok (.aload_n 0, 1) := by decide +kernel
theorem dX7_point_45 : decode cX7_point 45 = .ok (.getfield 26, 3) := by decide +kernel
theorem dX7_point_48 : decode cX7_point 48 = .ok (.iload_n 1, 1) := by decide +kernel
theorem dX7_point_49 : decode cX7_point 49 = .ok (.iaload, 1) := by decide +kernel
theorem dX7_point_50 : decode cX7_point 50 = .ok (.if_icmp .ge 31, 3) := by decide +kernel
theorem dX7_point_53 : decode cX7_point 53 = .ok (.aload_n 0, 1) := by decide +kernel
theorem dX7_point_54 : decode cX7_point 54 = .ok (.getfield 29, 3) := by decide +kernel
theorem dX7_point_57 : decode cX7_point 57 = .ok (.iconst 4, 1) := by decide +kernel
theorem dX7_point_58 : decode cX7_point 58 = .ok (.iload_n 1, 1) := by decide +kernel
theorem dX7_point_59 : decode cX7_point 59 = .ok (.imul, 1) := by decide +kernel
theorem dX7_point_60 : decode cX7_point 60 = .ok (.iload 5, 2) := by decide +kernel
theorem dX7_point_62 : decode cX7_point 62 = .ok (.iadd, 1) := by decide +kernel
theorem dX7_point_63 : decode cX7_point 63 = .ok (.iaload, 1) := by decide +kernel
theorem dX7_point_64 : decode cX7_point 64 = .ok (.iload_n 2, 1) := by decide +kernel
theorem dX7_point_65 : decode cX7_point 65 = .ok (.if_icmp .eq 7, 3) := by decide +kernel
theorem dX7_point_68 : decode cX7_point 68 = .ok (.iconst 1, 1) := by decide +kernel
theorem dX7_point_69 : decode cX7_point 69 = .ok (.goto 4, 3) := by decide +kernel
theorem dX7_point_72 : decode cX7_point 72 = .ok (.iconst 0, 1) := by decide +kernel
theorem dX7_point_73 : decode cX7_point 73 = .ok (.istore 4, 2) := by decide +kernel
theorem dX7_point_75 : decode cX7_point 75 = .ok (.iinc 5 1, 3) := by decide +kernel
theorem dX7_point_78 : decode cX7_point 78 = .ok (.goto (-41), 3) := by decide +kernel
theorem dX7_point_81 : decode cX7_point 81 = .ok (.iload 4, 2) := by decide +kernel
theorem dX7_point_83 : decode cX7_point 83 = .ok (.ifCond .ne 5, 3) := by decide +kernel
theorem dX7_point_86 : decode cX7_point 86 = .ok (.iconst (-1), 1) := by decide +kernel
theorem dX7_point_87 : decode cX7_point 87 = .ok (.ireturn, 1) := by decide +kernel
theorem dX7_point_88 : decode cX7_point 88 = .ok (.aload_n 0, 1) := by decide +kernel
theorem dX7_point_89 : decode cX7_point 89 = .ok (.getfield 26, 3) := by decide +kernel
theorem dX7_point_92 : decode cX7_point 92 = .ok (.iload_n 1, 1) := by decide +kernel
theorem dX7_point_93 : decode cX7_point 93 = .ok (.iaload, 1) := by decide +kernel
theorem dX7_point_94 : decode cX7_point 94 = .ok (.iconst 4, 1) := by decide +kernel
theorem dX7_point_95 : decode cX7_point 95 = .ok (.if_icmp .ne 6, 3) := by decide +kernel
theorem dX7_point_98 : decode cX7_point 98 = .ok (.bipush (-2), 2) := by decide +kernel
theorem dX7_point_100 : decode cX7_point 100 = .ok (.ireturn, 1) := by decide +kernel
theorem dX7_point_101 : decode cX7_point 101 = .ok (.aload_n 0, 1) := by decide +kernel
theorem dX7_point_102 : decode cX7_point 102 = .ok (.getfield 29, 3) := by decide +kernel
theorem dX7_point_105 : decode cX7_point 105 = .ok (.iconst 4, 1) := by decide +kernel
theorem dX7_point_106 : decode cX7_point 106 = .ok (.iload_n 1, 1) := by decide +kernel
theorem dX7_point_107 : decode cX7_point 107 = .ok (.imul, 1) := by decide +kernel
theorem dX7_point_108 : decode cX7_point 108 = .ok (.aload_n 0, 1) := by decide +kernel
theorem dX7_point_109 : decode cX7_point 109 = .ok (.getfield 26, 3) := by decide +kernel
theorem dX7_point_112 : decode cX7_point 112 = .ok (.iload_n 1, 1) := by decide +kernel
theorem dX7_point_113 : decode cX7_point 113 = .ok (.iaload, 1) := by decide +kernel
theorem dX7_point_114 : decode cX7_point 114 = .ok (.iadd, 1) := by decide +kernel
theorem dX7_point_115 : decode cX7_point 115 = .ok (.iload_n 2, 1) := by decide +kernel
theorem dX7_point_116 : decode cX7_point 116 = .ok (.iastore, 1) := by decide +kernel
theorem dX7_point_117 : decode cX7_point 117 = .ok (.aload_n 0, 1) := by decide +kernel
theorem dX7_point_118 : decode cX7_point 118 = .ok (.getfield 32, 3) := by decide +kernel
theorem dX7_point_121 : decode cX7_point 121 = .ok (.iconst 4, 1) := by decide +kernel
theorem dX7_point_122 : decode cX7_point 122 = .ok (.iload_n 1, 1) := by decide +kernel
theorem dX7_point_123 : decode cX7_point 123 = .ok (.imul, 1) := by decide +kernel
theorem dX7_point_124 : decode cX7_point 124 = .ok (.aload_n 0, 1) := by decide +kernel
theorem dX7_point_125 : decode cX7_point 125 = .ok (.getfield 26, 3) := by decide +kernel
theorem dX7_point_128 : decode cX7_point 128 = .ok (.iload_n 1, 1) := by decide +kernel
theorem dX7_point_129 : decode cX7_point 129 = .ok (.iaload, 1) := by decide +kernel
theorem dX7_point_130 : decode cX7_point 130 = .ok (.iadd, 1) := by decide +kernel
theorem dX7_point_131 : decode cX7_point 131 = .ok (.iload_n 3, 1) := by decide +kernel
theorem dX7_point_132 : decode cX7_point 132 = .ok (.iastore, 1) := by decide +kernel
theorem dX7_point_133 : decode cX7_point 133 = .ok (.aload_n 0, 1) := by decide +kernel
theorem dX7_point_134 : decode cX7_point 134 = .ok (.getfield 26, 3) := by decide +kernel
theorem dX7_point_137 : decode cX7_point 137 = .ok (.iload_n 1, 1) := by decide +kernel
theorem dX7_point_138 : decode cX7_point 138 = .ok (.dup2, 1) := by decide +kernel
theorem dX7_point_139 : decode cX7_point 139 = .ok (.iaload, 1) := by decide +kernel
theorem dX7_point_140 : decode cX7_point 140 = .ok (.iconst 1, 1) := by decide +kernel
theorem dX7_point_141 : decode cX7_point 141 = .ok (.iadd, 1) := by decide +kernel
theorem dX7_point_142 : decode cX7_point 142 = .ok (.iastore, 1) := by decide +kernel
theorem dX7_point_143 : decode cX7_point 143 = .ok (.aload_n 0, 1) := by decide +kernel
theorem dX7_point_144 : decode cX7_point 144 = .ok (.getfield 26, 3) := by decide +kernel
theorem dX7_point_147 : decode cX7_point 147 = .ok (.iload_n 1, 1) := by decide +kernel
theorem dX7_point_148 : decode cX7_point 148 = .ok (.iaload, 1) := by decide +kernel
theorem dX7_point_149 : decode cX7_point 149 = .ok (.ireturn, 1) := by decide +kernel
set_option maxRecDepth 20000 in
theorem ggX7_clear_X7_isTable : GoodIn wsX7_clear wsX7_isTable := goodIn_r _ [5, 6, 7, 4, 8] (by decide +kernel) (by decide +kernel)
set_option maxRecDepth 20000 in
theorem gX7_clear_X7_isTable : GoodIn wsX7_clear (va_wsS RX7 118 yX7_isTable wsX7_isTable) := goodIn_app (goodIn_of _ (by decide +kernel)) ggX7_clear_X7_isTable
theorem dX7_clear_0 : decode cX7_clear 0 = .ok (.iload_n 1, 1) := by decide +kernel
theorem dX7_clear_1 : decode cX7_clear 1 = .ok (.invokestatic 118, 3) := by decide +kernel
theorem dX7_clear_4 : decode cX7_clear 4 = .ok (.ifCond .ne 5, 3) := by decide +kernel
theorem dX7_clear_7 : decode cX7_clear 7 = .ok (.iconst (-1), 1) := by decide +kernel
theorem dX7_clear_8 : decode cX7_clear 8 = .ok (.ireturn, 1) := by decide +kernel
theorem dX7_clear_9 : decode cX7_clear 9 = .ok (.aload_n 0, 1) := by decide +kernel
theorem dX7_clear_10 : decode cX7_clear 10 = .ok (.getfield 26, 3) := by decide +kernel
theorem dX7_clear_13 : decode cX7_clear 13 = .ok (.iload_n 1, 1) := by decide +kernel
theorem dX7_clear_14 : decode cX7_clear 14 = .ok (.iaload, 1) := by decide +kernel
theorem dX7_clear_15 : decode cX7_clear 15 = .ok (.istore_n 2, 1) := by decide +kernel
theorem dX7_clear_16 : decode cX7_clear 16 = .ok (.aload_n 0, 1) := by decide +kernel
theorem dX7_clear_17 : decode cX7_clear 17 = .ok (.getfield 26, 3) := by decide +kernel
theorem dX7_clear_20 : decode cX7_clear 20 = .ok (.iload_n 1, 1) := by decide +kernel
theorem dX7_clear_21 : decode cX7_clear 21 = .ok (.iconst 0, 1) := by decide +kernel
theorem dX7_clear_22 : decode cX7_clear 22 = .ok (.iastore, 1) := by decide +kernel
theorem dX7_clear_23 : decode cX7_clear 23 = .ok (.iload_n 2, 1) := by decide +kernel
theorem dX7_clear_24 : decode cX7_clear 24 = .ok (.ireturn, 1) := by decide +kernel
set_option maxRecDepth 20000 in
theorem ggX7_add_X7_divisor : GoodIn wsX7_add wsX7_divisor := goodIn_r _ [6, 7, 8, 5, 9] (by decide +kernel) (by decide +kernel)
set_option maxRecDepth 20000 in
theorem gX7_add_X7_divisor : GoodIn wsX7_add (va_wsS RX7 83 yX7_divisor wsX7_divisor) := goodIn_app (goodIn_of _ (by decide +kernel)) ggX7_add_X7_divisor
theorem dX7_add_0 : decode cX7_add 0 = .ok (.aload_n 0, 1) := by decide +kernel
theorem dX7_add_1 : decode cX7_add 1 = .ok (.getfield 124, 3) := by decide +kernel
theorem dX7_add_4 : decode cX7_add 4 = .ok (.lload_n 3, 1) := by decide +kernel
theorem dX7_add_5 : decode cX7_add 5 = .ok (.invokestatic 83, 3) := by decide +kernel
theorem dX7_add_8 : decode cX7_add 8 = .ok (.lstore 5, 2) := by decide +kernel
theorem dX7_add_10 : decode cX7_add 10 = .ok (.aload_n 0, 1) := by decide +kernel
theorem dX7_add_11 : decode cX7_add 11 = .ok (.getfield 127, 3) := by decide +kernel
theorem dX7_add_14 : decode cX7_add 14 = .ok (.lload_n 3, 1) := by decide +kernel
theorem dX7_add_15 : decode cX7_add 15 = .ok (.lload 5, 2) := by decide +kernel
theorem dX7_add_17 : decode cX7_add 17 = .ok (.ldiv, 1) := by decide +kernel
theorem dX7_add_18 : decode cX7_add 18 = .ok (.lmul, 1) := by decide +kernel
theorem dX7_add_19 : decode cX7_add 19 = .ok (.lload_n 1, 1) := by decide +kernel
theorem dX7_add_20 : decode cX7_add 20 = .ok (.aload_n 0, 1) := by decide +kernel
theorem dX7_add_21 : decode cX7_add 21 = .ok (.getfield 124, 3) := by decide +kernel
theorem dX7_add_24 : decode cX7_add 24 = .ok (.lload 5, 2) := by decide +kernel
theorem dX7_add_26 : decode cX7_add 26 = .ok (.ldiv, 1) := by decide +kernel
theorem dX7_add_27 : decode cX7_add 27 = .ok (.lmul, 1) := by decide +kernel
theorem dX7_add_28 : decode cX7_add 28 = .ok (.ladd, 1) := by decide +kernel
theorem dX7_add_29 : decode cX7_add 29 = .ok (.lstore 7, 2) := by decide +kernel
theorem dX7_add_31 : decode cX7_add 31 = .ok (.aload_n 0, 1) := by decide +kernel
theorem dX7_add_32 : decode cX7_add 32 = .ok (.getfield 124, 3) := by decide +kernel
theorem dX7_add_35 : decode cX7_add 35 = .ok (.lload 5, 2) := by decide +kernel
theorem dX7_add_37 : decode cX7_add 37 = .ok (.ldiv, 1) := by decide +kernel
theorem dX7_add_38 : decode cX7_add 38 = .ok (.lload_n 3, 1) := by decide +kernel
theorem dX7_add_39 : decode cX7_add 39 = .ok (.lmul, 1) := by decide +kernel
theorem dX7_add_40 : decode cX7_add 40 = .ok (.lstore 9, 2) := by decide +kernel
theorem dX7_add_42 : decode cX7_add 42 = .ok (.lload 7, 2) := by decide +kernel
theorem dX7_add_44 : decode cX7_add 44 = .ok (.lload 9, 2) := by decide +kernel
theorem dX7_add_46 : decode cX7_add 46 = .ok (.invokestatic 83, 3) := by decide +kernel
theorem dX7_add_49 : decode cX7_add 49 = .ok (.lstore 11, 2) := by decide +kernel
theorem dX7_add_51 : decode cX7_add 51 = .ok (.aload_n 0, 1) := by decide +kernel
theorem dX7_add_52 : decode cX7_add 52 = .ok (.lload 7, 2) := by decide +kernel
theorem dX7_add_54 : decode cX7_add 54 = .ok (.lload 11, 2) := by decide +kernel
theorem dX7_add_56 : decode cX7_add 56 = .ok (.ldiv, 1) := by decide +kernel
theorem dX7_add_57 : decode cX7_add 57 = .ok (.putfield 127, 3) := by decide +kernel
theorem dX7_add_60 : decode cX7_add 60 = .ok (.aload_n 0, 1) := by decide +kernel
theorem dX7_add_61 : decode cX7_add 61 = .ok (.lload 9, 2) := by decide +kernel
theorem dX7_add_63 : decode cX7_add 63 = .ok (.lload 11, 2) := by decide +kernel
theorem dX7_add_65 : decode cX7_add 65 = .ok (.ldiv, 1) := by decide +kernel
theorem dX7_add_66 : decode cX7_add 66 = .ok (.putfield 124, 3) := by decide +kernel
theorem dX7_add_69 : decode cX7_add 69 = .ok (.return_, 1) := by decide +kernel
set_option maxRecDepth 20000 in
theorem ggX7_addCurve_X7_size : GoodIn wsX7_addCurve wsX7_size := goodIn_r _ [7] (by decide +kernel) (by decide +kernel)
set_option maxRecDepth 20000 in
theorem gX7_addCurve_X7_size : GoodIn wsX7_addCurve (va_wsS RX7 79 yX7_size wsX7_size) := goodIn_app (goodIn_of _ (by decide +kernel)) ggX7_addCurve_X7_size
set_option maxRecDepth 20000 in
theorem ggX7_addCurve_X7_add : GoodIn wsX7_addCurve wsX7_add := goodIn_r _ [11, 12, 13, 14, 15, 6, 16, 4, 5, 7, 17, 18, 19, 20, 21, 22, 23, 24, 25, 26, 27, 28, 29, 30, 31, 32, 33, 34, 35, 36, 37, 38, 39, 40, 41, 42, 43, 44, 45, 46] (by decide +kernel) (by decide +kernel)
set_option maxRecDepth 20000 in
theorem gX7_addCurve_X7_add : GoodIn wsX7_addCurve (wsV RX7 130 RX7 yX7_add wsX7_add) := goodIn_app (goodIn_of _ (by decide +kernel)) ggX7_addCurve_X7_add
theorem dX7_addCurve_0 : decode cX7_addCurve 0 = .ok (.iconst 0, 1) := by decide +kernel
theorem dX7_addCurve_1 : decode cX7_addCurve 1 = .ok (.istore 4, 2) := by decide +kernel
theorem dX7_addCurve_3 : decode cX7_addCurve 3 = .ok (.iload 4, 2) := by decide +kernel
theorem dX7_addCurve_5 : decode cX7_addCurve 5 = .ok (.aload_n 0, 1) := by decide +kernel
theorem dX7_addCurve_6 : decode cX7_addCurve 6 = .ok (.getfield 26, 3) := by decide +kernel
theorem dX7_addCurve_9 : decode cX7_addCurve 9 = .ok (.iload_n 1, 1) := by decide +kernel
theorem dX7_addCurve_10 : decode cX7_addCurve 10 = .ok (.iaload, 1) := by decide +kernel
theorem dX7_addCurve_11 : decode cX7_addCurve 11 = .ok (.if_icmp .ge 128, 3) := by decide +kernel
theorem dX7_addCurve_14 : decode cX7_addCurve 14 = .ok (.iload_n 3, 1) := by decide +kernel
theorem dX7_addCurve_15 : decode cX7_addCurve 15 = .ok (.i2l, 1) := by decide +kernel
theorem dX7_addCurve_16 : decode cX7_addCurve 16 = .ok (.aload_n 0, 1) := by decide +kernel
theorem dX7_addCurve_17 : decode cX7_addCurve 17 = .ok (.getfield 32, 3) := by decide +kernel
theorem dX7_addCurve_20 : decode cX7_addCurve 20 = .ok (.iconst 4, 1) := by decide +kernel
theorem dX7_addCurve_21 : decode cX7_addCurve 21 = .ok (.iload_n 1, 1) := by decide +kernel
theorem dX7_addCurve_22 : decode cX7_addCurve 22 = .ok (.imul, 1) := by decide +kernel
theorem dX7_addCurve_23 : decode cX7_addCurve 23 = .ok (.iload 4, 2) := by decide +kernel
theorem dX7_addCurve_25 : decode cX7_addCurve 25 = .ok (.iadd, 1) := by decide +kernel
theorem dX7_addCurve_26 : decode cX7_addCurve 26 = .ok (.iaload, 1) := by decide +kernel
theorem dX7_addCurve_27 : decode cX7_addCurve 27 = .ok (.i2l, 1) := by decide +kernel
theorem dX7_addCurve_28 : decode cX7_addCurve 28 = .ok (.lmul, 1) := by decide +kernel
theorem dX7_addCurve_29 : decode cX7_addCurve 29 = .ok (.lstore 5, 2) := by decide +kernel
theorem dX7_addCurve_31 : decode cX7_addCurve 31 = .ok (.lconst 1, 1) := by decide +kernel
theorem dX7_addCurve_32 : decode cX7_addCurve 32 = .ok (.lstore 7, 2) := by decide +kernel
theorem dX7_addCurve_34 : decode cX7_addCurve 34 = .ok (.iconst 0, 1) := by decide +kernel
theorem dX7_addCurve_35 : decode cX7_addCurve 35 = .ok (.istore 9, 2) := by decide +kernel
theorem dX7_addCurve_37 : decode cX7_addCurve 37 = .ok (.iload 9, 2) := by decide +kernel
theorem dX7_addCurve_39 : decode cX7_addCurve 39 = .ok (.aload_n 0, 1) := by decide +kernel
theorem dX7_addCurve_40 : decode cX7_addCurve 40 = .ok (.getfield 26, 3) := by decide +kernel
theorem dX7_addCurve_43 : decode cX7_addCurve 43 = .ok (.iload_n 1, 1) := by decide +kernel
theorem dX7_addCurve_44 : decode cX7_addCurve 44 = .ok (.iaload, 1) := by decide +kernel
theorem dX7_addCurve_45 : decode cX7_addCurve 45 = .ok (.if_icmp .ge 64, 3) := by decide +kernel
theorem dX7_addCurve_48 : decode cX7_addCurve 48 = .ok (.iload 9, 2) := by decide +kernel
theorem dX7_addCurve_50 : decode cX7_addCurve 50 = .ok (.iload 4, 2) := by decide +kernel
theorem dX7_addCurve_52 : decode cX7_addCurve 52 = .ok (.if_icmp .eq 51, 3) := by decide +kernel
theorem dX7_addCurve_55 : decode cX7_addCurve 55 = .ok (.lload 5, 2) := by decide +kernel
theorem dX7_addCurve_57 : decode cX7_addCurve 57 = .ok (.iload_n 2, 1) := by decide +kernel
theorem dX7_addCurve_58 : decode cX7_addCurve 58 = .ok (.aload_n 0, 1) := by decide +kernel
theorem dX7_addCurve_59 : decode cX7_addCurve 59 = .ok (.getfield 29, 3) := by decide +kernel
theorem dX7_addCurve_62 : decode cX7_addCurve 62 = .ok (.iconst 4, 1) := by decide +kernel
theorem dX7_addCurve_63 : decode cX7_addCurve 63 = .ok (.iload_n 1, 1) := by decide +kernel
theorem dX7_addCurve_64 : decode cX7_addCurve 64 = .ok (.imul, 1) := by decide +kernel
theorem dX7_addCurve_65 : decode cX7_addCurve 65 = .ok (.iload 9, 2) := by decide +kernel
theorem dX7_addCurve_67 : decode cX7_addCurve 67 = .ok (.iadd, 1) := by decide +kernel
theorem dX7_addCurve_68 : decode cX7_addCurve 68 = .ok (.iaload, 1) := by decide +kernel
theorem dX7_addCurve_69 : decode cX7_addCurve 69 = .ok (.isub, 1) := by decide +kernel
theorem dX7_addCurve_70 : decode cX7_addCurve 70 = .ok (.i2l, 1) := by decide +kernel
theorem dX7_addCurve_71 : decode cX7_addCurve 71 = .ok (.lmul, 1) := by decide +kernel
theorem dX7_addCurve_72 : decode cX7_addCurve 72 = .ok (.lstore 5, 2) := by decide +kernel
theorem dX7_addCurve_74 : decode cX7_addCurve 74 = .ok (.lload 7, 2) := by decide +kernel
theorem dX7_addCurve_76 : decode cX7_addCurve 76 = .ok (.aload_n 0, 1) := by decide +kernel
theorem dX7_addCurve_77 : decode cX7_addCurve 77 = .ok (.getfield 29, 3) := by decide +kernel
theorem dX7_addCurve_80 : decode cX7_addCurve 80 = .ok (.iconst 4, 1) := by decide +kernel
theorem dX7_addCurve_81 : decode cX7_addCurve 81 = .ok (.iload_n 1, 1) := by decide +kernel
theorem dX7_addCurve_82 : decode cX7_addCurve 82 = .ok (.imul, 1) := by decide +kernel
theorem dX7_addCurve_83 : decode cX7_addCurve 83 = .ok (.iload 4, 2) := by decide +kernel
theorem dX7_addCurve_85 : decode cX7_addCurve 85 = .ok (.iadd, 1) := by decide +kernel
theorem dX7_addCurve_86 : decode cX7_addCurve 86 = .ok (.iaload, 1) := by decide +kernel
theorem dX7_addCurve_87 : decode cX7_addCurve 87 = .ok (.aload_n 0, 1) := by decide +kernel
theorem dX7_addCurve_88 : decode cX7_addCurve 88 = .ok (.getfield 29, 3) := by decide +kernel
theorem dX7_addCurve_91 : decode cX7_addCurve 91 = .ok (.iconst 4, 1) := by decide +kernel
theorem dX7_addCurve_92 : decode cX7_addCurve 92 = .ok (.iload_n 1, 1) := by decide +kernel
theorem dX7_addCurve_93 : decode cX7_addCurve 93 = .ok (.imul, 1) := by decide +kernel
theorem dX7_addCurve_94 : decode cX7_addCurve 94 = .ok (.iload 9, 2) := by decide +kernel
theorem dX7_addCurve_96 : decode cX7_addCurve 96 = .ok (.iadd, 1) := by decide +kernel
theorem dX7_addCurve_97 : decode cX7_addCurve 97 = .ok (.iaload, 1) := by decide +kernel
theorem dX7_addCurve_98 : decode cX7_addCurve 98 = .ok (.isub, 1) := by decide +kernel
theorem dX7_addCurve_99 : decode cX7_addCurve 99 = .ok (.i2l, 1) := by decide +kernel
theorem dX7_addCurve_100 : decode cX7_addCurve 100 = .ok (.lmul, 1) := by decide +kernel
theorem dX7_addCurve_101 : decode cX7_addCurve 101 = .ok (.lstore 7, 2) := by decide +kernel
theorem dX7_addCurve_103 : decode cX7_addCurve 103 = .ok (.iinc 9 1, 3) := by decide +kernel
theorem dX7_addCurve_106 : decode cX7_addCurve 106 = .ok (.goto (-69), 3) := by decide +kernel
theorem dX7_addCurve_109 : decode cX7_addCurve 109 = .ok (.aload_n 0, 1) := by decide +kernel
theorem dX7_addCurve_110 : decode cX7_addCurve 110 = .ok (.lload 7, 2) := by decide +kernel
theorem dX7_addCurve_112 : decode cX7_addCurve 112 = .ok (.lconst 0, 1) := by decide +kernel
theorem dX7_addCurve_113 : decode cX7_addCurve 113 = .ok (.lcmp, 1) := by decide +kernel
theorem dX7_addCurve_114 : decode cX7_addCurve 114 = .ok (.ifCond .ge 9, 3) := by decide +kernel
theorem dX7_addCurve_117 : decode cX7_addCurve 117 = .ok (.lload 5, 2) := by decide +kernel
theorem dX7_addCurve_119 : decode cX7_addCurve 119 = .ok (.lneg, 1) := by decide +kernel
theorem dX7_addCurve_120 : decode cX7_addCurve 120 = .ok (.goto 5, 3) := by decide +kernel
theorem dX7_addCurve_123 : decode cX7_addCurve 123 = .ok (.lload 5, 2) := by decide +kernel
theorem dX7_addCurve_125 : decode cX7_addCurve 125 = .ok (.lload 7, 2) := by decide +kernel
theorem dX7_addCurve_127 : decode cX7_addCurve 127 = .ok (.invokestatic 79, 3) := by decide +kernel
theorem dX7_addCurve_130 : decode cX7_addCurve 130 = .ok (.invokevirtual 130, 3) := by decide +kernel
theorem dX7_addCurve_133 : decode cX7_addCurve 133 = .ok (.iinc 4 1, 3) := by decide +kernel
theorem dX7_addCurve_136 : decode cX7_addCurve 136 = .ok (.goto (-133), 3) := by decide +kernel
theorem dX7_addCurve_139 : decode cX7_addCurve 139 = .ok (.return_, 1) := by decide +kernel
set_option maxRecDepth 20000 in
theorem ggX7_curve_X7_isTable : GoodIn wsX7_curve wsX7_isTable := goodIn_r _ [7, 8, 9, 6, 10] (by decide +kernel) (by decide +kernel)
set_option maxRecDepth 20000 in
theorem gX7_curve_X7_isTable : GoodIn wsX7_curve (va_wsS RX7 118 yX7_isTable wsX7_isTable) := goodIn_app (goodIn_of _ (by decide +kernel)) ggX7_curve_X7_isTable
set_option maxRecDepth 20000 in
theorem ggX7_curve_X7_isX : GoodIn wsX7_curve wsX7_isX := goodIn_r _ [13, 8, 9, 6, 10] (by decide +kernel) (by decide +kernel)
set_option maxRecDepth 20000 in
theorem gX7_curve_X7_isX : GoodIn wsX7_curve (va_wsS RX7 121 yX7_isX wsX7_isX) := goodIn_app (goodIn_of _ (by decide +kernel)) ggX7_curve_X7_isX
set_option maxRecDepth 20000 in
theorem ggX7_curve_X7_addCurve : GoodIn wsX7_curve wsX7_addCurve := goodIn_r _ [17, 1, 18, 19, 20, 21, 6, 22, 23, 24, 25, 26, 3, 2, 27, 28, 29, 36, 37, 38, 39, 40, 41, 42, 43, 44, 45, 46, 47, 48, 49, 50, 51, 52, 53, 54, 55, 56, 57, 58, 59, 60, 61, 62, 63, 64, 65] (by decide +kernel) (by decide +kernel)
set_option maxRecDepth 20000 in
theorem gX7_curve_X7_addCurve : GoodIn wsX7_curve (wsV RX7 134 RX7 yX7_addCurve wsX7_addCurve) := goodIn_app (goodIn_of _ (by decide +kernel)) ggX7_curve_X7_addCurve
set_option maxRecDepth 20000 in
theorem ggX7_curve_X7_tell : GoodIn wsX7_curve wsX7_tell := goodIn_r _ [33, 34, 35, 27, 28, 6, 29, 20, 21, 22, 36, 37, 38, 39, 40, 41, 42, 43, 44, 45, 46, 47, 48, 49, 50, 51, 52, 53, 54, 55, 56, 57, 58, 59, 60, 61, 62, 63, 64, 65] (by decide +kernel) (by decide +kernel)
set_option maxRecDepth 20000 in
theorem gX7_curve_X7_tell : GoodIn wsX7_curve (wsV RX7 114 RX7 yX7_tell wsX7_tell) := goodIn_app (goodIn_of _ (by decide +kernel)) ggX7_curve_X7_tell
theorem dX7_curve_0 : decode cX7_curve 0 = .ok (.iload_n 1, 1) := by decide +kernel
theorem dX7_curve_1 : decode cX7_curve 1 = .ok (.invokestatic 118, 3) := by decide +kernel
theorem dX7_curve_4 : decode cX7_curve 4 = .ok (.ifCond .eq 10, 3) := by decide +kernel
theorem dX7_curve_7 : decode cX7_curve 7 = .ok (.iload_n 2, 1) := by decide +kernel
theorem dX7_curve_8 : decode cX7_curve 8 = .ok (.invokestatic 121, 3) := by decide +kernel
theorem dX7_curve_11 : decode cX7_curve 11 = .ok (.ifCond .ne 5, 3) := by decide +kernel
theorem dX7_curve_14 : decode cX7_curve 14 = .ok (.iconst (-1), 1) := by decide +kernel
theorem dX7_curve_15 : decode cX7_curve 15 = .ok (.ireturn, 1) := by decide +kernel
theorem dX7_curve_16 : decode cX7_curve 16 = .ok (.aload_n 0, 1) := by decide +kernel
theorem dX7_curve_17 : decode cX7_curve 17 = .ok (.getfield 26, 3) := by decide +kernel
theorem dX7_curve_20 : decode cX7_curve 20 = .ok (.iload_n 1, 1) := by decide +kernel
theorem dX7_curve_21 : decode cX7_curve 21 = .ok (.iaload, 1) := by decide +kernel
theorem dX7_curve_22 : decode cX7_curve 22 = .ok (.ifCond .ne 6, 3) := by decide +kernel
theorem dX7_curve_25 : decode cX7_curve 25 = .ok (.bipush (-4), 2) := by decide +kernel
theorem dX7_curve_27 : decode cX7_curve 27 = .ok (.ireturn, 1) := by decide +kernel
theorem dX7_curve_28 : decode cX7_curve 28 = .ok (.aload_n 0, 1) := by decide +kernel
theorem dX7_curve_29 : decode cX7_curve 29 = .ok (.lconst 0, 1) := by decide +kernel
theorem dX7_curve_30 : decode cX7_curve 30 = .ok (.putfield 127, 3) := by decide +kernel
theorem dX7_curve_33 : decode cX7_curve 33 = .ok (.aload_n 0, 1) := by decide +kernel
theorem dX7_curve_34 : decode cX7_curve 34 = .ok (.lconst 1, 1) := by decide +kernel
theorem dX7_curve_35 : decode cX7_curve 35 = .ok (.putfield 124, 3) := by decide +kernel
theorem dX7_curve_38 : decode cX7_curve 38 = .ok (.aload_n 0, 1) := by decide +kernel
theorem dX7_curve_39 : decode cX7_curve 39 = .ok (.iload_n 1, 1) := by decide +kernel
theorem dX7_curve_40 : decode cX7_curve 40 = .ok (.iload_n 2, 1) := by decide +kernel
theorem dX7_curve_41 : decode cX7_curve 41 = .ok (.iconst 1, 1) := by decide +kernel
theorem dX7_curve_42 : decode cX7_curve 42 = .ok (.invokevirtual 134, 3) := by decide +kernel
theorem dX7_curve_45 : decode cX7_curve 45 = .ok (.aload_n 0, 1) := by decide +kernel
theorem dX7_curve_46 : decode cX7_curve 46 = .ok (.aload_n 0, 1) := by decide +kernel
theorem dX7_curve_47 : decode cX7_curve 47 = .ok (.getfield 127, 3) := by decide +kernel
theorem dX7_curve_50 : decode cX7_curve 50 = .ok (.aload_n 0, 1) := by decide +kernel
theorem dX7_curve_51 : decode cX7_curve 51 = .ok (.getfield 124, 3) := by decide +kernel
theorem dX7_curve_54 : decode cX7_curve 54 = .ok (.iconst 1, 1) := by decide +kernel
theorem dX7_curve_55 : decode cX7_curve 55 = .ok (.invokevirtual 114, 3) := by decide +kernel
theorem dX7_curve_58 : decode cX7_curve 58 = .ok (.ireturn, 1) := by decide +kernel
theorem dX7_isBelow_0 : decode cX7_isBelow 0 = .ok (.lload_n 0, 1) := by decide +kernel
theorem dX7_isBelow_1 : decode cX7_isBelow 1 = .ok (.lstore 8, 2) := by decide +kernel
theorem dX7_isBelow_3 : decode cX7_isBelow 3 = .ok (.lload_n 2, 1) := by decide +kernel
theorem dX7_isBelow_4 : decode cX7_isBelow 4 = .ok (.lstore 10, 2) := by decide +kernel
theorem dX7_isBelow_6 : decode cX7_isBelow 6 = .ok (.lload 4, 2) := by decide +kernel
theorem dX7_isBelow_8 : decode cX7_isBelow 8 = .ok (.lstore 12, 2) := by decide +kernel
theorem dX7_isBelow_10 : decode cX7_isBelow 10 = .ok (.lload 6, 2) := by decide +kernel
theorem dX7_isBelow_12 : decode cX7_isBelow 12 = .ok (.lstore 14, 2) := by decide +kernel
theorem dX7_isBelow_14 : decode cX7_isBelow 14 = .ok (.iconst 0, 1) := by decide +kernel
theorem dX7_isBelow_15 : decode cX7_isBelow 15 = .ok (.istore 16, 2) := by decide +kernel
theorem dX7_isBelow_17 : decode cX7_isBelow 17 = .ok (.lload 8, 2) := by decide +kernel
theorem dX7_isBelow_19 : decode cX7_isBelow 19 = .ok (.lload 10, 2) := by decide +kernel
theorem dX7_isBelow_21 : decode cX7_isBelow 21 = .ok (.ldiv, 1) := by decide +kernel
theorem dX7_isBelow_22 : decode cX7_isBelow 22 = .ok (.lload 12, 2) := by decide +kernel
theorem dX7_isBelow_24 : decode cX7_isBelow 24 = .ok (.lload 14, 2) := by decide +kernel
theorem dX7_isBelow_26 : decode cX7_isBelow 26 = .ok (.ldiv, 1) := by decide +kernel
theorem dX7_isBelow_27 : decode cX7_isBelow 27 = .ok (.lcmp, 1) := by decide +kernel
theorem dX7_isBelow_28 : decode cX7_isBelow 28 = .ok (.ifCond .ne 68, 3) := by decide +kernel
theorem dX7_isBelow_31 : decode cX7_isBelow 31 = .ok (.lload 8, 2) := by decide +kernel
theorem dX7_isBelow_33 : decode cX7_isBelow 33 = .ok (.lload 10, 2) := by decide +kernel
theorem dX7_isBelow_35 : decode cX7_isBelow 35 = .ok (.lrem, 1) := by decide +kernel
theorem dX7_isBelow_36 : decode cX7_isBelow 36 = .ok (.lconst 0, 1) := by decide +kernel
theorem dX7_isBelow_37 : decode cX7_isBelow 37 = .ok (.lcmp, 1) := by decide +kernel
theorem dX7_isBelow_38 : decode cX7_isBelow 38 = .ok (.ifCond .eq 58, 3) := by decide +kernel
theorem dX7_isBelow_41 : decode cX7_isBelow 41 = .ok (.lload 12, 2) := by decide +kernel
theorem dX7_isBelow_43 : decode cX7_isBelow 43 = .ok (.lload 14, 2) := by decide +kernel
theorem dX7_isBelow_45 : decode cX7_isBelow 45 = .ok (.lrem, 1) := by decide +kernel
theorem dX7_isBelow_46 : decode cX7_isBelow 46 = .ok (.lconst 0, 1) := by decide +kernel
theorem dX7_isBelow_47 : decode cX7_isBelow 47 = .ok (.lcmp, 1) := by decide +kernel
theorem dX7_isBelow_48 : decode cX7_isBelow 48 = .ok (.ifCond .eq 48, 3) := by decide +kernel
theorem dX7_isBelow_51 : decode cX7_isBelow 51 = .ok (.lload 8, 2) := by decide +kernel
theorem dX7_isBelow_53 : decode cX7_isBelow 53 = .ok (.lload 10, 2) := by decide +kernel
theorem dX7_isBelow_55 : decode cX7_isBelow 55 = .ok (.lrem, 1) := by decide +kernel
theorem dX7_isBelow_56 : decode cX7_isBelow 56 = .ok (.lstore 17, 2) := by decide +kernel
theorem dX7_isBelow_58 : decode cX7_isBelow 58 = .ok (.lload 12, 2) := by decide +kernel
theorem dX7_isBelow_60 : decode cX7_isBelow 60 = .ok (.lload 14, 2) := by decide +kernel
theorem dX7_isBelow_62 : decode cX7_isBelow 62 = .ok (.lrem, 1) := by decide +kernel
theorem dX7_isBelow_63 : decode cX7_isBelow 63 = .ok (.lstore 19, 2) := by decide +kernel
theorem dX7_isBelow_65 : decode cX7_isBelow 65 = .ok (.lload 10, 2) := by decide +kernel
theorem dX7_isBelow_67 : decode cX7_isBelow 67 = .ok (.lstore 8, 2) := by decide +kernel
theorem dX7_isBelow_69 : decode cX7_isBelow 69 = .ok (.lload 17, 2) := by decide +kernel
theorem dX7_isBelow_71 : decode cX7_isBelow 71 = .ok (.lstore 10, 2) := by decide +kernel
theorem dX7_isBelow_73 : decode cX7_isBelow 73 = .ok (.lload 14, 2) := by decide +kernel
theorem dX7_isBelow_75 : decode cX7_isBelow 75 = .ok (.lstore 12, 2) := by decide +kernel
theorem dX7_isBelow_77 : decode cX7_isBelow 77 = .ok (.lload 19, 2) := by decide +kernel
theorem dX7_isBelow_79 : decode cX7_isBelow 79 = .ok (.lstore 14, 2) := by decide +kernel
theorem dX7_isBelow_81 : decode cX7_isBelow 81 = .ok (.iload 16, 2) := by decide +kernel
theorem dX7_isBelow_83 : decode cX7_isBelow 83 = .ok (.ifCond .ne 7, 3) := by decide +kernel
theorem dX7_isBelow_86 : decode cX7_isBelow 86 = .ok (.iconst 1, 1) := by decide +kernel
theorem dX7_isBelow_87 : decode cX7_isBelow 87 = .ok (.goto 4, 3) := by decide +kernel
theorem dX7_isBelow_90 : decode cX7_isBelow 90 = .ok (.iconst 0, 1) := by decide +kernel
theorem dX7_isBelow_91 : decode cX7_isBelow 91 = .ok (.istore 16, 2) := by decide +kernel
theorem dX7_isBelow_93 : decode cX7_isBelow 93 = .ok (.goto (-76), 3) := by decide +kernel
theorem dX7_isBelow_96 : decode cX7_isBelow 96 = .ok (.lload 8, 2) := by decide +kernel
theorem dX7_isBelow_98 : decode cX7_isBelow 98 = .ok (.lload 10, 2) := by decide +kernel
theorem dX7_isBelow_100 : decode cX7_isBelow 100 = .ok (.ldiv, 1) := by decide +kernel
theorem dX7_isBelow_101 : decode cX7_isBelow 101 = .ok (.lload 12, 2) := by decide +kernel
theorem dX7_isBelow_103 : decode cX7_isBelow 103 = .ok (.lload 14, 2) := by decide +kernel
theorem dX7_isBelow_105 : decode cX7_isBelow 105 = .ok (.ldiv, 1) := by decide +kernel
theorem dX7_isBelow_106 : decode cX7_isBelow 106 = .ok (.lcmp, 1) := by decide +kernel
theorem dX7_isBelow_107 : decode cX7_isBelow 107 = .ok (.ifCond .eq 33, 3) := by decide +kernel
theorem dX7_isBelow_110 : decode cX7_isBelow 110 = .ok (.lload 8, 2) := by decide +kernel
theorem dX7_isBelow_112 : decode cX7_isBelow 112 = .ok (.lload 10, 2) := by decide +kernel
theorem dX7_isBelow_114 : decode cX7_isBelow 114 = .ok (.ldiv, 1) := by decide +kernel
theorem dX7_isBelow_115 : decode cX7_isBelow 115 = .ok (.lload 12, 2) := by decide +kernel
theorem dX7_isBelow_117 : decode cX7_isBelow 117 = .ok (.lload 14, 2) := by decide +kernel
theorem dX7_isBelow_119 : decode cX7_isBelow 119 = .ok (.ldiv, 1) := by decide +kernel
theorem dX7_isBelow_120 : decode cX7_isBelow 120 = .ok (.lcmp, 1) := by decide +kernel
theorem dX7_isBelow_121 : decode cX7_isBelow 121 = .ok (.ifCond .ge 7, 3) := by decide +kernel
theorem dX7_isBelow_124 : decode cX7_isBelow 124 = .ok (.iconst 1, 1) := by decide +kernel
theorem dX7_isBelow_125 : decode cX7_isBelow 125 = .ok (.goto 4, 3) := by decide +kernel
theorem dX7_isBelow_128 : decode cX7_isBelow 128 = .ok (.iconst 0, 1) := by decide +kernel
theorem dX7_isBelow_129 : decode cX7_isBelow 129 = .ok (.iload 16, 2) := by decide +kernel
theorem dX7_isBelow_131 : decode cX7_isBelow 131 = .ok (.if_icmp .eq 7, 3) := by decide +kernel
theorem dX7_isBelow_134 : decode cX7_isBelow 134 = .ok (.iconst 1, 1) := by decide +kernel
theorem dX7_isBelow_135 : decode cX7_isBelow 135 = .ok (.goto 4, 3) := by decide +kernel
theorem dX7_isBelow_138 : decode cX7_isBelow 138 = .ok (.iconst 0, 1) := by decide +kernel
theorem dX7_isBelow_139 : decode cX7_isBelow 139 = .ok (.ireturn, 1) := by decide +kernel
theorem dX7_isBelow_140 : decode cX7_isBelow 140 = .ok (.lload 8, 2) := by decide +kernel
theorem dX7_isBelow_142 : decode cX7_isBelow 142 = .ok (.lload 10, 2) := by decide +kernel
theorem dX7_isBelow_144 : decode cX7_isBelow 144 = .ok (.lrem, 1) := by decide +kernel
theorem dX7_isBelow_145 : decode cX7_isBelow 145 = .ok (.lconst 0, 1) := by decide +kernel
theorem dX7_isBelow_146 : decode cX7_isBelow 146 = .ok (.lcmp, 1) := by decide +kernel
theorem dX7_isBelow_147 : decode cX7_isBelow 147 = .ok (.ifCond .eq 7, 3) := by decide +kernel
theorem dX7_isBelow_150 : decode cX7_isBelow 150 = .ok (.iconst 1, 1) := by decide +kernel
theorem dX7_isBelow_151 : decode cX7_isBelow 151 = .ok (.goto 4, 3) := by decide +kernel
theorem dX7_isBelow_154 : decode cX7_isBelow 154 = .ok (.iconst 0, 1) := by decide +kernel
theorem dX7_isBelow_155 : decode cX7_isBelow 155 = .ok (.istore 17, 2) := by decide +kernel
theorem dX7_isBelow_157 : decode cX7_isBelow 157 = .ok (.lload 12, 2) := by decide +kernel
theorem dX7_isBelow_159 : decode cX7_isBelow 159 = .ok (.lload 14, 2) := by decide +kernel
theorem dX7_isBelow_161 : decode cX7_isBelow 161 = .ok (.lrem, 1) := by decide +kernel
theorem dX7_isBelow_162 : decode cX7_isBelow 162 = .ok (.lconst 0, 1) := by decide +kernel
theorem dX7_isBelow_163 : decode cX7_isBelow 163 = .ok (.lcmp, 1) := by decide +kernel
theorem dX7_isBelow_164 : decode cX7_isBelow 164 = .ok (.ifCond .eq 7, 3) := by decide +kernel
theorem dX7_isBelow_167 : decode cX7_isBelow 167 = .ok (.iconst 1, 1) := by decide +kernel
theorem dX7_isBelow_168 : decode cX7_isBelow 168 = .ok (.goto 4, 3) := by decide +kernel
theorem dX7_isBelow_171 : decode cX7_isBelow 171 = .ok (.iconst 0, 1) := by decide +kernel
theorem dX7_isBelow_172 : decode cX7_isBelow 172 = .ok (.istore 18, 2) := by decide +kernel
theorem dX7_isBelow_174 : decode cX7_isBelow 174 = .ok (.iload 17, 2) := by decide +kernel
theorem dX7_isBelow_176 : decode cX7_isBelow 176 = .ok (.iload 18, 2) := by decide +kernel
theorem dX7_isBelow_178 : decode cX7_isBelow 178 = .ok (.if_icmp .eq 14, 3) := by decide +kernel
theorem dX7_isBelow_181 : decode cX7_isBelow 181 = .ok (.iload 18, 2) := by decide +kernel
theorem dX7_isBelow_183 : decode cX7_isBelow 183 = .ok (.iload 16, 2) := by decide +kernel
theorem dX7_isBelow_185 : decode cX7_isBelow 185 = .ok (.if_icmp .eq 7, 3) := by decide +kernel
theorem dX7_isBelow_188 : decode cX7_isBelow 188 = .ok (.iconst 1, 1) := by decide +kernel
theorem dX7_isBelow_189 : decode cX7_isBelow 189 = .ok (.goto 4, 3) := by decide +kernel
theorem dX7_isBelow_192 : decode cX7_isBelow 192 = .ok (.iconst 0, 1) := by decide +kernel
theorem dX7_isBelow_193 : decode cX7_isBelow 193 = .ok (.ireturn, 1) := by decide +kernel
set_option maxRecDepth 20000 in
theorem ggX7_apart_X7_isTable : GoodIn wsX7_apart wsX7_isTable := goodIn_r _ [8, 9, 10, 7, 11] (by decide +kernel) (by decide +kernel)
set_option maxRecDepth 20000 in
theorem gX7_apart_X7_isTable : GoodIn wsX7_apart (va_wsS RX7 118 yX7_isTable wsX7_isTable) := goodIn_app (goodIn_of _ (by decide +kernel)) ggX7_apart_X7_isTable
set_option maxRecDepth 20000 in
theorem ggX7_apart_X7_isX : GoodIn wsX7_apart wsX7_isX := goodIn_r _ [14, 9, 10, 7, 11] (by decide +kernel) (by decide +kernel)
set_option maxRecDepth 20000 in
theorem gX7_apart_X7_isX : GoodIn wsX7_apart (va_wsS RX7 121 yX7_isX wsX7_isX) := goodIn_app (goodIn_of _ (by decide +kernel)) ggX7_apart_X7_isX
set_option maxRecDepth 20000 in
theorem ggX7_apart_X7_addCurve : GoodIn wsX7_apart wsX7_addCurve := goodIn_r _ [18, 1, 19, 20, 21, 22, 7, 23, 24, 25, 26, 27, 4, 3, 28, 29, 30, 40, 41, 42, 43, 44, 45, 46, 47, 48, 49, 50, 51, 52, 53, 54, 55, 56, 57, 58, 59, 60, 61, 62, 63, 64, 65, 66, 67, 68, 69] (by decide +kernel) (by decide +kernel)
set_option maxRecDepth 20000 in
theorem gX7_apart_X7_addCurve : GoodIn wsX7_apart (wsV RX7 134 RX7 yX7_addCurve wsX7_addCurve) := goodIn_app (goodIn_of _ (by decide +kernel)) ggX7_apart_X7_addCurve
set_option maxRecDepth 20000 in
theorem ggX7_apart_X7_size : GoodIn wsX7_apart wsX7_size := goodIn_r _ [23] (by decide +kernel) (by decide +kernel)
set_option maxRecDepth 20000 in
theorem gX7_apart_X7_size : GoodIn wsX7_apart (va_wsS RX7 79 yX7_size wsX7_size) := goodIn_app (goodIn_of _ (by decide +kernel)) ggX7_apart_X7_size
set_option maxRecDepth 20000 in
theorem ggX7_apart_X7_isBelow : GoodIn wsX7_apart wsX7_isBelow := goodIn_r _ [33] (by decide +kernel) (by decide +kernel)
set_option maxRecDepth 20000 in
theorem gX7_apart_X7_isBelow : GoodIn wsX7_apart (va_wsS RX7 140 yX7_isBelow wsX7_isBelow) := goodIn_app (goodIn_of _ (by decide +kernel)) ggX7_apart_X7_isBelow
set_option maxRecDepth 20000 in
theorem ggX7_apart_X7_tell : GoodIn wsX7_apart wsX7_tell := goodIn_r _ [37, 38, 39, 28, 29, 7, 30, 21, 22, 23, 40, 41, 42, 43, 44, 45, 46, 47, 48, 49, 50, 51, 52, 53, 54, 55, 56, 57, 58, 59, 60, 61, 62, 63, 64, 65, 66, 67, 68, 69] (by decide +kernel) (by decide +kernel)
set_option maxRecDepth 20000 in
theorem gX7_apart_X7_tell : GoodIn wsX7_apart (wsV RX7 114 RX7 yX7_tell wsX7_tell) := goodIn_app (goodIn_of _ (by decide +kernel)) ggX7_apart_X7_tell
theorem dX7_apart_0 : decode cX7_apart 0 = .ok (.iload_n 1, 1) := by decide +kernel
theorem dX7_apart_1 : decode cX7_apart 1 = .ok (.invokestatic 118, 3) := by decide +kernel
theorem dX7_apart_4 : decode cX7_apart 4 = .ok (.ifCond .eq 31, 3) := by decide +kernel
theorem dX7_apart_7 : decode cX7_apart 7 = .ok (.iload_n 2, 1) := by decide +kernel
theorem dX7_apart_8 : decode cX7_apart 8 = .ok (.invokestatic 118, 3) := by decide +kernel
theorem dX7_apart_11 : decode cX7_apart 11 = .ok (.ifCond .eq 24, 3) := by decide +kernel
theorem dX7_apart_14 : decode cX7_apart 14 = .ok (.iload_n 3, 1) := by decide +kernel
theorem dX7_apart_15 : decode cX7_apart 15 = .ok (.invokestatic 121, 3) := by decide +kernel
theorem dX7_apart_18 : decode cX7_apart 18 = .ok (.ifCond .eq 17, 3) := by decide +kernel
theorem dX7_apart_21 : decode cX7_apart 21 = .ok (.iload 4, 2) := by decide +kernel
theorem dX7_apart_23 : decode cX7_apart 23 = .ok (.invokestatic 121, 3) := by decide +kernel
theorem dX7_apart_26 : decode cX7_apart 26 = .ok (.ifCond .eq 9, 3) := by decide +kernel
theorem dX7_apart_29 : decode cX7_apart 29 = .ok (.iload_n 3, 1) := by decide +kernel
theorem dX7_apart_30 : decode cX7_apart 30 = .ok (.iload 4, 2) := by decide +kernel
theorem dX7_apart_32 : decode cX7_apart 32 = .ok (.if_icmp .le 5, 3) := by decide +kernel
theorem dX7_apart_35 : decode cX7_apart 35 = .ok (.iconst (-1), 1) := by decide +kernel
theorem dX7_apart_36 : decode cX7_apart 36 = .ok (.ireturn, 1) := by decide +kernel
theorem dX7_apart_37 : decode cX7_apart 37 = .ok (.aload_n 0, 1) := by decide +kernel
theorem dX7_apart_38 : decode cX7_apart 38 = .ok (.getfield 26, 3) := by decide +kernel
theorem dX7_apart_41 : decode cX7_apart 41 = .ok (.iload_n 1, 1) := by decide +kernel
theorem dX7_apart_42 : decode cX7_apart 42 = .ok (.iaload, 1) := by decide +kernel
theorem dX7_apart_43 : decode cX7_apart 43 = .ok (.ifCond .eq 12, 3) := by decide +kernel
theorem dX7_apart_46 : decode cX7_apart 46 = .ok (.aload_n 0, 1) := by decide +kernel
theorem dX7_apart_47 : decode cX7_apart 47 = .ok (.getfield 26, 3) := by decide +kernel
theorem dX7_apart_50 : decode cX7_apart 50 = .ok (.iload_n 2, 1) := by decide +kernel
theorem dX7_apart_51 : decode cX7_apart 51 = .ok (.iaload, 1) := by decide +kernel
theorem dX7_apart_52 : decode cX7_apart 52 = .ok (.ifCond .ne 6, 3) := by decide +kernel
theorem dX7_apart_55 : decode cX7_apart 55 = .ok (.bipush (-4), 2) := by decide +kernel
theorem dX7_apart_57 : decode cX7_apart 57 = .ok (.ireturn, 1) := by decide +kernel
theorem dX7_apart_58 : decode cX7_apart 58 = .ok (.iload_n 3, 1) := by decide +kernel
theorem dX7_apart_59 : decode cX7_apart 59 = .ok (.istore 5, 2) := by decide +kernel
theorem dX7_apart_61 : decode cX7_apart 61 = .ok (.ldc2_w 138, 3) := by decide +kernel
theorem dX7_apart_64 : decode cX7_apart 64 = .ok (.lstore 6, 2) := by decide +kernel
theorem dX7_apart_66 : decode cX7_apart 66 = .ok (.lconst 1, 1) := by decide +kernel
theorem dX7_apart_67 : decode cX7_apart 67 = .ok (.lstore 8, 2) := by decide +kernel
theorem dX7_apart_69 : decode cX7_apart 69 = .ok (.iload_n 3, 1) := by decide +kernel
theorem dX7_apart_70 : decode cX7_apart 70 = .ok (.istore 10, 2) := by decide +kernel
theorem dX7_apart_72 : decode cX7_apart 72 = .ok (.iload 10, 2) := by decide +kernel
theorem dX7_apart_74 : decode cX7_apart 74 = .ok (.iload 4, 2) := by decide +kernel
theorem dX7_apart_76 : decode cX7_apart 76 = .ok (.if_icmp .gt 82, 3) := by decide +kernel
theorem dX7_apart_79 : decode cX7_apart 79 = .ok (.aload_n 0, 1) := by decide +kernel
theorem dX7_apart_80 : decode cX7_apart 80 = .ok (.lconst 0, 1) := by decide +kernel
theorem dX7_apart_81 : decode cX7_apart 81 = .ok (.putfield 127, 3) := by decide +kernel
theorem dX7_apart_84 : decode cX7_apart 84 = .ok (.aload_n 0, 1) := by decide +kernel
theorem dX7_apart_85 : decode cX7_apart 85 = .ok (.lconst 1, 1) := by decide +kernel
theorem dX7_apart_86 : decode cX7_apart 86 = .ok (.putfield 124, 3) := by decide +kernel
theorem dX7_apart_89 : decode cX7_apart 89 = .ok (.aload_n 0, 1) := by decide +kernel
theorem dX7_apart_90 : decode cX7_apart 90 = .ok (.iload_n 1, 1) := by decide +kernel
theorem dX7_apart_91 : decode cX7_apart 91 = .ok (.iload 10, 2) := by decide +kernel
theorem dX7_apart_93 : decode cX7_apart 93 = .ok (.iconst 1, 1) := by decide +kernel
theorem dX7_apart_94 : decode cX7_apart 94 = .ok (.invokevirtual 134, 3) := by decide +kernel
theorem dX7_apart_97 : decode cX7_apart 97 = .ok (.aload_n 0, 1) := by decide +kernel
theorem dX7_apart_98 : decode cX7_apart 98 = .ok (.iload_n 2, 1) := by decide +kernel
theorem dX7_apart_99 : decode cX7_apart 99 = .ok (.iload 10, 2) := by decide +kernel
theorem dX7_apart_101 : decode cX7_apart 101 = .ok (.iconst (-1), 1) := by decide +kernel
theorem dX7_apart_102 : decode cX7_apart 102 = .ok (.invokevirtual 134, 3) := by decide +kernel
theorem dX7_apart_105 : decode cX7_apart 105 = .ok (.lload 6, 2) := by decide +kernel
theorem dX7_apart_107 : decode cX7_apart 107 = .ok (.lconst 0, 1) := by decide +kernel
theorem dX7_apart_108 : decode cX7_apart 108 = .ok (.lcmp, 1) := by decide +kernel
theorem dX7_apart_109 : decode cX7_apart 109 = .ok (.ifCond .lt 24, 3) := by decide +kernel
theorem dX7_apart_112 : decode cX7_apart 112 = .ok (.lload 6, 2) := by decide +kernel
theorem dX7_apart_114 : decode cX7_apart 114 = .ok (.lload 8, 2) := by decide +kernel
theorem dX7_apart_116 : decode cX7_apart 116 = .ok (.aload_n 0, 1) := by decide +kernel
theorem dX7_apart_117 : decode cX7_apart 117 = .ok (.getfield 127, 3) := by decide +kernel
theorem dX7_apart_120 : decode cX7_apart 120 = .ok (.invokestatic 79, 3) := by decide +kernel
theorem dX7_apart_123 : decode cX7_apart 123 = .ok (.aload_n 0, 1) := by decide +kernel
theorem dX7_apart_124 : decode cX7_apart 124 = .ok (.getfield 124, 3) := by decide +kernel
theorem dX7_apart_127 : decode cX7_apart 127 = .ok (.invokestatic 140, 3) := by decide +kernel
theorem dX7_apart_130 : decode cX7_apart 130 = .ok (.ifCond .eq 22, 3) := by decide +kernel
theorem dX7_apart_133 : decode cX7_apart 133 = .ok (.iload 10, 2) := by decide +kernel
theorem dX7_apart_135 : decode cX7_apart 135 = .ok (.istore 5, 2) := by decide +kernel
theorem dX7_apart_137 : decode cX7_apart 137 = .ok (.aload_n 0, 1) := by decide +kernel
theorem dX7_apart_138 : decode cX7_apart 138 = .ok (.getfield 127, 3) := by decide +kernel
theorem dX7_apart_141 : decode cX7_apart 141 = .ok (.invokestatic 79, 3) := by decide +kernel
theorem dX7_apart_144 : decode cX7_apart 144 = .ok (.lstore 6, 2) := by decide +kernel
theorem dX7_apart_146 : decode cX7_apart 146 = .ok (.aload_n 0, 1) := by decide +kernel
theorem dX7_apart_147 : decode cX7_apart 147 = .ok (.getfield 124, 3) := by decide +kernel
theorem dX7_apart_150 : decode cX7_apart 150 = .ok (.lstore 8, 2) := by decide +kernel
theorem dX7_apart_152 : decode cX7_apart 152 = .ok (.iinc 10 1, 3) := by decide +kernel
theorem dX7_apart_155 : decode cX7_apart 155 = .ok (.goto (-83), 3) := by decide +kernel
theorem dX7_apart_158 : decode cX7_apart 158 = .ok (.aload_n 0, 1) := by decide +kernel
theorem dX7_apart_159 : decode cX7_apart 159 = .ok (.lload 6, 2) := by decide +kernel
theorem dX7_apart_161 : decode cX7_apart 161 = .ok (.lload 8, 2) := by decide +kernel
theorem dX7_apart_163 : decode cX7_apart 163 = .ok (.bipush 100, 2) := by decide +kernel
theorem dX7_apart_165 : decode cX7_apart 165 = .ok (.iload 5, 2) := by decide +kernel
theorem dX7_apart_167 : decode cX7_apart 167 = .ok (.iadd, 1) := by decide +kernel
theorem dX7_apart_168 : decode cX7_apart 168 = .ok (.invokevirtual 114, 3) := by decide +kernel
theorem dX7_apart_171 : decode cX7_apart 171 = .ok (.ireturn, 1) := by decide +kernel
set_option maxRecDepth 20000 in
theorem ggX7_isBulb_X7_in : GoodIn wsX7_isBulb wsX7_in := goodIn_r _ [5] (by decide +kernel) (by decide +kernel)
set_option maxRecDepth 20000 in
theorem gX7_isBulb_X7_in : GoodIn wsX7_isBulb (va_wsS RX7 93 yX7_in wsX7_in) := goodIn_app (goodIn_of _ (by decide +kernel)) ggX7_isBulb_X7_in
theorem dX7_isBulb_0 : decode cX7_isBulb 0 = .ok (.iload_n 1, 1) := by decide +kernel
theorem dX7_isBulb_1 : decode cX7_isBulb 1 = .ok (.iconst 0, 1) := by decide +kernel
theorem dX7_isBulb_2 : decode cX7_isBulb 2 = .ok (.aload_n 0, 1) := by decide +kernel
theorem dX7_isBulb_3 : decode cX7_isBulb 3 = .ok (.getfield 144, 3) := by decide +kernel
theorem dX7_isBulb_6 : decode cX7_isBulb 6 = .ok (.iconst 1, 1) := by decide +kernel
theorem dX7_isBulb_7 : decode cX7_isBulb 7 = .ok (.isub, 1) := by decide +kernel
theorem dX7_isBulb_8 : decode cX7_isBulb 8 = .ok (.invokestatic 93, 3) := by decide +kernel
theorem dX7_isBulb_11 : decode cX7_isBulb 11 = .ok (.ireturn, 1) := by decide +kernel
set_option maxRecDepth 20000 in
theorem ggX7_bulb_X7_in : GoodIn wsX7_bulb wsX7_in := goodIn_r _ [7] (by decide +kernel) (by decide +kernel)
set_option maxRecDepth 20000 in
theorem gX7_bulb_X7_in : GoodIn wsX7_bulb (va_wsS RX7 93 yX7_in wsX7_in) := goodIn_app (goodIn_of _ (by decide +kernel)) ggX7_bulb_X7_in
theorem dX7_bulb_0 : decode cX7_bulb 0 = .ok (.iload_n 1, 1) := by decide +kernel
theorem dX7_bulb_1 : decode cX7_bulb 1 = .ok (.iconst 0, 1) := by decide +kernel
theorem dX7_bulb_2 : decode cX7_bulb 2 = .ok (.iconst 3, 1) := by decide +kernel
theorem dX7_bulb_3 : decode cX7_bulb 3 = .ok (.invokestatic 93, 3) := by decide +kernel
theorem dX7_bulb_6 : decode cX7_bulb 6 = .ok (.ifCond .eq 14, 3) := by decide +kernel
theorem dX7_bulb_9 : decode cX7_bulb 9 = .ok (.iload_n 2, 1) := by decide +kernel
theorem dX7_bulb_10 : decode cX7_bulb 10 = .ok (.iconst 0, 1) := by decide +kernel
theorem dX7_bulb_11 : decode cX7_bulb 11 = .ok (.sipush 10000, 3) := by decide +kernel
theorem dX7_bulb_14 : decode cX7_bulb 14 = .ok (.invokestatic 93, 3) := by decide +kernel
theorem dX7_bulb_17 : decode cX7_bulb 17 = .ok (.ifCond .ne 5, 3) := by decide +kernel
theorem dX7_bulb_20 : decode cX7_bulb 20 = .ok (.iconst (-1), 1) := by decide +kernel
theorem dX7_bulb_21 : decode cX7_bulb 21 = .ok (.ireturn, 1) := by decide +kernel
theorem dX7_bulb_22 : decode cX7_bulb 22 = .ok (.aload_n 0, 1) := by decide +kernel
theorem dX7_bulb_23 : decode cX7_bulb 23 = .ok (.getfield 144, 3) := by decide +kernel
theorem dX7_bulb_26 : decode cX7_bulb 26 = .ok (.bipush 16, 2) := by decide +kernel
theorem dX7_bulb_28 : decode cX7_bulb 28 = .ok (.if_icmp .ne 6, 3) := by decide +kernel
theorem dX7_bulb_31 : decode cX7_bulb 31 = .ok (.bipush (-2), 2) := by decide +kernel
theorem dX7_bulb_33 : decode cX7_bulb 33 = .ok (.ireturn, 1) := by decide +kernel
theorem dX7_bulb_34 : decode cX7_bulb 34 = .ok (.aload_n 0, 1) := by decide +kernel
theorem dX7_bulb_35 : decode cX7_bulb 35 = .ok (.getfield 35, 3) := by decide +kernel
theorem dX7_bulb_38 : decode cX7_bulb 38 = .ok (.aload_n 0, 1) := by decide +kernel
theorem dX7_bulb_39 : decode cX7_bulb 39 = .ok (.getfield 144, 3) := by decide +kernel
theorem dX7_bulb_42 : decode cX7_bulb 42 = .ok (.iload_n 1, 1) := by decide +kernel
theorem dX7_bulb_43 : decode cX7_bulb 43 = .ok (.iastore, 1) := by decide +kernel
theorem dX7_bulb_44 : decode cX7_bulb 44 = .ok (.aload_n 0, 1) := by decide +kernel
theorem dX7_bulb_45 : decode cX7_bulb 45 = .ok (.getfield 38, 3) := by decide +kernel
theorem dX7_bulb_48 : decode cX7_bulb 48 = .ok (.aload_n 0, 1) := by decide +kernel
theorem dX7_bulb_49 : decode cX7_bulb 49 = .ok (.getfield 144, 3) := by decide +kernel
theorem dX7_bulb_52 : decode cX7_bulb 52 = .ok (.iload_n 2, 1) := by decide +kernel
theorem dX7_bulb_53 : decode cX7_bulb 53 = .ok (.iastore, 1) := by decide +kernel
theorem dX7_bulb_54 : decode cX7_bulb 54 = .ok (.aload_n 0, 1) := by decide +kernel
theorem dX7_bulb_55 : decode cX7_bulb 55 = .ok (.dup, 1) := by decide +kernel
theorem dX7_bulb_56 : decode cX7_bulb 56 = .ok (.getfield 144, 3) := by decide +kernel
theorem dX7_bulb_59 : decode cX7_bulb 59 = .ok (.iconst 1, 1) := by decide +kernel
theorem dX7_bulb_60 : decode cX7_bulb 60 = .ok (.iadd, 1) := by decide +kernel
theorem dX7_bulb_61 : decode cX7_bulb 61 = .ok (.putfield 144, 3) := by decide +kernel
theorem dX7_bulb_64 : decode cX7_bulb 64 = .ok (.aload_n 0, 1) := by decide +kernel
theorem dX7_bulb_65 : decode cX7_bulb 65 = .ok (.getfield 144, 3) := by decide +kernel
theorem dX7_bulb_68 : decode cX7_bulb 68 = .ok (.iconst 1, 1) := by decide +kernel
theorem dX7_bulb_69 : decode cX7_bulb 69 = .ok (.isub, 1) := by decide +kernel
theorem dX7_bulb_70 : decode cX7_bulb 70 = .ok (.ireturn, 1) := by decide +kernel
theorem dX7_lastOf_0 : decode cX7_lastOf 0 = .ok (.bipush (-9), 2) := by decide +kernel
theorem dX7_lastOf_2 : decode cX7_lastOf 2 = .ok (.istore 4, 2) := by decide +kernel
theorem dX7_lastOf_4 : decode cX7_lastOf 4 = .ok (.iconst 0, 1) := by decide +kernel
theorem dX7_lastOf_5 : decode cX7_lastOf 5 = .ok (.istore 5, 2) := by decide +kernel
theorem dX7_lastOf_7 : decode cX7_lastOf 7 = .ok (.iload 5, 2) := by decide +kernel
theorem dX7_lastOf_9 : decode cX7_lastOf 9 = .ok (.iload_n 3, 1) := by decide +kernel
theorem dX7_lastOf_10 : decode cX7_lastOf 10 = .ok (.if_icmp .ge 50, 3) := by decide +kernel
theorem dX7_lastOf_13 : decode cX7_lastOf 13 = .ok (.aload_n 0, 1) := by decide +kernel
theorem dX7_lastOf_14 : decode cX7_lastOf 14 = .ok (.getfield 41, 3) := by decide +kernel
theorem dX7_lastOf_17 : decode cX7_lastOf 17 = .ok (.iload 5, 2) := by decide +kernel
theorem dX7_lastOf_19 : decode cX7_lastOf 19 = .ok (.iaload, 1) := by decide +kernel
theorem dX7_lastOf_20 : decode cX7_lastOf 20 = .ok (.iload_n 1, 1) := by decide +kernel
theorem dX7_lastOf_21 : decode cX7_lastOf 21 = .ok (.if_icmp .ne 29, 3) := by decide +kernel
theorem dX7_lastOf_24 : decode cX7_lastOf 24 = .ok (.aload_n 0, 1) := by decide +kernel
theorem dX7_lastOf_25 : decode cX7_lastOf 25 = .ok (.getfield 62, 3) := by decide +kernel
theorem dX7_lastOf_28 : decode cX7_lastOf 28 = .ok (.iload 5, 2) := by decide +kernel
theorem dX7_lastOf_30 : decode cX7_lastOf 30 = .ok (.baload, 1) := by decide +kernel
theorem dX7_lastOf_31 : decode cX7_lastOf 31 = .ok (.ifCond .ne 19, 3) := by decide +kernel
theorem dX7_lastOf_34 : decode cX7_lastOf 34 = .ok (.aload_n 0, 1) := by decide +kernel
theorem dX7_lastOf_35 : decode cX7_lastOf 35 = .ok (.getfield 50, 3) := by decide +kernel
theorem dX7_lastOf_38 : decode cX7_lastOf 38 = .ok (.iload 5, 2) := by decide +kernel
theorem dX7_lastOf_40 : decode cX7_lastOf 40 = .ok (.iaload, 1) := by decide +kernel
theorem dX7_lastOf_41 : decode cX7_lastOf 41 = .ok (.iload_n 2, 1) := by decide +kernel
theorem dX7_lastOf_42 : decode cX7_lastOf 42 = .ok (.if_icmp .gt 8, 3) := by decide +kernel
theorem dX7_lastOf_45 : decode cX7_lastOf 45 = .ok (.iload 5, 2) := by decide +kernel
theorem dX7_lastOf_47 : decode cX7_lastOf 47 = .ok (.goto 5, 3) := by decide +kernel
theorem dX7_lastOf_50 : decode cX7_lastOf 50 = .ok (.iload 4, 2) := by decide +kernel
theorem dX7_lastOf_52 : decode cX7_lastOf 52 = .ok (.istore 4, 2) := by decide +kernel
theorem dX7_lastOf_54 : decode cX7_lastOf 54 = .ok (.iinc 5 1, 3) := by decide +kernel
theorem dX7_lastOf_57 : decode cX7_lastOf 57 = .ok (.goto (-50), 3) := by decide +kernel
theorem dX7_lastOf_60 : decode cX7_lastOf 60 = .ok (.iload 4, 2) := by decide +kernel
theorem dX7_lastOf_62 : decode cX7_lastOf 62 = .ok (.ireturn, 1) := by decide +kernel
set_option maxRecDepth 20000 in
theorem ggX7_latestOf_X7_lastOf : GoodIn wsX7_latestOf wsX7_lastOf := goodIn_r _ [7, 8, 9, 10, 11, 12, 13, 14, 15, 16, 17, 18, 19, 20, 21, 22, 23, 24, 25, 26, 27, 28, 29, 30, 31, 32, 33, 34, 35, 36, 37, 38, 39, 40] (by decide +kernel) (by decide +kernel)
set_option maxRecDepth 20000 in
theorem gX7_latestOf_X7_lastOf : GoodIn wsX7_latestOf (wsV RX7 150 RX7 yX7_lastOf wsX7_lastOf) := goodIn_app (goodIn_of _ (by decide +kernel)) ggX7_latestOf_X7_lastOf
theorem dX7_latestOf_0 : decode cX7_latestOf 0 = .ok (.aload_n 0, 1) := by decide +kernel
theorem dX7_latestOf_1 : decode cX7_latestOf 1 = .ok (.iload_n 1, 1) := by decide +kernel
theorem dX7_latestOf_2 : decode cX7_latestOf 2 = .ok (.ldc 106, 2) := by decide +kernel
theorem dX7_latestOf_4 : decode cX7_latestOf 4 = .ok (.aload_n 0, 1) := by decide +kernel
theorem dX7_latestOf_5 : decode cX7_latestOf 5 = .ok (.getfield 147, 3) := by decide +kernel
theorem dX7_latestOf_8 : decode cX7_latestOf 8 = .ok (.invokevirtual 150, 3) := by decide +kernel
theorem dX7_latestOf_11 : decode cX7_latestOf 11 = .ok (.ireturn, 1) := by decide +kernel
set_option maxRecDepth 20000 in
theorem ggX7_tells_X7_latestOf : GoodIn wsX7_tells wsX7_latestOf := goodIn_r _ [10, 11, 1, 12, 13, 14, 9, 15, 2, 3, 16, 17, 18, 19, 20, 21, 22, 23, 24, 25, 26, 27, 28, 29, 30, 31, 32, 33, 34, 35, 36, 37, 38, 39, 40, 41, 42, 43, 44, 45, 46] (by decide +kernel) (by decide +kernel)
set_option maxRecDepth 20000 in
theorem gX7_tells_X7_latestOf : GoodIn wsX7_tells (wsV RX7 154 RX7 yX7_latestOf wsX7_latestOf) := goodIn_app (goodIn_of _ (by decide +kernel)) ggX7_tells_X7_latestOf
theorem dX7_tells_0 : decode cX7_tells 0 = .ok (.iconst 0, 1) := by decide +kernel
theorem dX7_tells_1 : decode cX7_tells 1 = .ok (.istore_n 3, 1) := by decide +kernel
theorem dX7_tells_2 : decode cX7_tells 2 = .ok (.iconst 0, 1) := by decide +kernel
theorem dX7_tells_3 : decode cX7_tells 3 = .ok (.istore 4, 2) := by decide +kernel
theorem dX7_tells_5 : decode cX7_tells 5 = .ok (.iconst 0, 1) := by decide +kernel
theorem dX7_tells_6 : decode cX7_tells 6 = .ok (.istore 5, 2) := by decide +kernel
theorem dX7_tells_8 : decode cX7_tells 8 = .ok (.iload 5, 2) := by decide +kernel
theorem dX7_tells_10 : decode cX7_tells 10 = .ok (.aload_n 0, 1) := by decide +kernel
theorem dX7_tells_11 : decode cX7_tells 11 = .ok (.getfield 147, 3) := by decide +kernel
theorem dX7_tells_14 : decode cX7_tells 14 = .ok (.if_icmp .ge 59, 3) := by decide +kernel
theorem dX7_tells_17 : decode cX7_tells 17 = .ok (.iload_n 3, 1) := by decide +kernel
theorem dX7_tells_18 : decode cX7_tells 18 = .ok (.aload_n 0, 1) := by decide +kernel
theorem dX7_tells_19 : decode cX7_tells 19 = .ok (.getfield 41, 3) := by decide +kernel
theorem dX7_tells_22 : decode cX7_tells 22 = .ok (.iload 5, 2) := by decide +kernel
theorem dX7_tells_24 : decode cX7_tells 24 = .ok (.iaload, 1) := by decide +kernel
theorem dX7_tells_25 : decode cX7_tells 25 = .ok (.iload_n 1, 1) := by decide +kernel
theorem dX7_tells_26 : decode cX7_tells 26 = .ok (.if_icmp .ne 7, 3) := by decide +kernel
theorem dX7_tells_29 : decode cX7_tells 29 = .ok (.iconst 1, 1) := by decide +kernel
theorem dX7_tells_30 : decode cX7_tells 30 = .ok (.goto 4, 3) := by decide +kernel
theorem dX7_tells_33 : decode cX7_tells 33 = .ok (.iconst 0, 1) := by decide +kernel
theorem dX7_tells_34 : decode cX7_tells 34 = .ok (.iadd, 1) := by decide +kernel
theorem dX7_tells_35 : decode cX7_tells 35 = .ok (.istore_n 3, 1) := by decide +kernel
theorem dX7_tells_36 : decode cX7_tells 36 = .ok (.iload 4, 2) := by decide +kernel
theorem dX7_tells_38 : decode cX7_tells 38 = .ok (.aload_n 0, 1) := by decide +kernel
theorem dX7_tells_39 : decode cX7_tells 39 = .ok (.getfield 41, 3) := by decide +kernel
theorem dX7_tells_42 : decode cX7_tells 42 = .ok (.iload 5, 2) := by decide +kernel
theorem dX7_tells_44 : decode cX7_tells 44 = .ok (.iaload, 1) := by decide +kernel
theorem dX7_tells_45 : decode cX7_tells 45 = .ok (.iload_n 1, 1) := by decide +kernel
theorem dX7_tells_46 : decode cX7_tells 46 = .ok (.if_icmp .ne 17, 3) := by decide +kernel
theorem dX7_tells_49 : decode cX7_tells 49 = .ok (.aload_n 0, 1) := by decide +kernel
theorem dX7_tells_50 : decode cX7_tells 50 = .ok (.getfield 62, 3) := by decide +kernel
theorem dX7_tells_53 : decode cX7_tells 53 = .ok (.iload 5, 2) := by decide +kernel
theorem dX7_tells_55 : decode cX7_tells 55 = .ok (.baload, 1) := by decide +kernel
theorem dX7_tells_56 : decode cX7_tells 56 = .ok (.ifCond .eq 7, 3) := by decide +kernel
theorem dX7_tells_59 : decode cX7_tells 59 = .ok (.iconst 1, 1) := by decide +kernel
theorem dX7_tells_60 : decode cX7_tells 60 = .ok (.goto 4, 3) := by decide +kernel
theorem dX7_tells_63 : decode cX7_tells 63 = .ok (.iconst 0, 1) := by decide +kernel
theorem dX7_tells_64 : decode cX7_tells 64 = .ok (.iadd, 1) := by decide +kernel
theorem dX7_tells_65 : decode cX7_tells 65 = .ok (.istore 4, 2) := by decide +kernel
theorem dX7_tells_67 : decode cX7_tells 67 = .ok (.iinc 5 1, 3) := by decide +kernel
theorem dX7_tells_70 : decode cX7_tells 70 = .ok (.goto (-62), 3) := by decide +kernel
theorem dX7_tells_73 : decode cX7_tells 73 = .ok (.iload_n 2, 1) := by decide +kernel
theorem dX7_tells_74 : decode cX7_tells 74 = .ok (.ifCond .ne 12, 3) := by decide +kernel
theorem dX7_tells_77 : decode cX7_tells 77 = .ok (.aload_n 0, 1) := by decide +kernel
theorem dX7_tells_78 : decode cX7_tells 78 = .ok (.getfield 35, 3) := by decide +kernel
theorem dX7_tells_81 : decode cX7_tells 81 = .ok (.iload_n 1, 1) := by decide +kernel
theorem dX7_tells_82 : decode cX7_tells 82 = .ok (.iaload, 1) := by decide +kernel
theorem dX7_tells_83 : decode cX7_tells 83 = .ok (.goto 41, 3) := by decide +kernel
theorem dX7_tells_86 : decode cX7_tells 86 = .ok (.iload_n 2, 1) := by decide +kernel
theorem dX7_tells_87 : decode cX7_tells 87 = .ok (.iconst 1, 1) := by decide +kernel
theorem dX7_tells_88 : decode cX7_tells 88 = .ok (.if_icmp .ne 12, 3) := by decide +kernel
theorem dX7_tells_91 : decode cX7_tells 91 = .ok (.aload_n 0, 1) := by decide +kernel
theorem dX7_tells_92 : decode cX7_tells 92 = .ok (.getfield 38, 3) := by decide +kernel
theorem dX7_tells_95 : decode cX7_tells 95 = .ok (.iload_n 1, 1) := by decide +kernel
theorem dX7_tells_96 : decode cX7_tells 96 = .ok (.iaload, 1) := by decide +kernel
theorem dX7_tells_97 : decode cX7_tells 97 = .ok (.goto 27, 3) := by decide +kernel
theorem dX7_tells_100 : decode cX7_tells 100 = .ok (.iload_n 2, 1) := by decide +kernel
theorem dX7_tells_101 : decode cX7_tells 101 = .ok (.iconst 2, 1) := by decide +kernel
theorem dX7_tells_102 : decode cX7_tells 102 = .ok (.if_icmp .ne 7, 3) := by decide +kernel
theorem dX7_tells_105 : decode cX7_tells 105 = .ok (.iload_n 3, 1) := by decide +kernel
theorem dX7_tells_106 : decode cX7_tells 106 = .ok (.goto 18, 3) := by decide +kernel
theorem dX7_tells_109 : decode cX7_tells 109 = .ok (.iload_n 2, 1) := by decide +kernel
theorem dX7_tells_110 : decode cX7_tells 110 = .ok (.iconst 3, 1) := by decide +kernel
theorem dX7_tells_111 : decode cX7_tells 111 = .ok (.if_icmp .ne 8, 3) := by decide +kernel
theorem dX7_tells_114 : decode cX7_tells 114 = .ok (.iload 4, 2) := by decide +kernel
theorem dX7_tells_116 : decode cX7_tells 116 = .ok (.goto 8, 3) := by decide +kernel
theorem dX7_tells_119 : decode cX7_tells 119 = .ok (.aload_n 0, 1) := by decide +kernel
theorem dX7_tells_120 : decode cX7_tells 120 = .ok (.iload_n 1, 1) := by decide +kernel
theorem dX7_tells_121 : decode cX7_tells 121 = .ok (.invokevirtual 154, 3) := by decide +kernel
theorem dX7_tells_124 : decode cX7_tells 124 = .ok (.ireturn, 1) := by decide +kernel
set_option maxRecDepth 20000 in
theorem ggX7_told_X7_isBulb : GoodIn wsX7_told wsX7_isBulb := goodIn_r _ [5, 6, 7, 8, 4, 9, 29, 30, 31, 32, 33, 34, 35, 36, 37, 38, 39, 40, 41, 42, 43, 44, 45, 46, 47, 48, 49, 50, 51, 52, 53, 54, 55, 56, 57, 58] (by decide +kernel) (by decide +kernel)
set_option maxRecDepth 20000 in
theorem gX7_told_X7_isBulb : GoodIn wsX7_told (wsV RX7 157 RX7 yX7_isBulb wsX7_isBulb) := goodIn_app (goodIn_of _ (by decide +kernel)) ggX7_told_X7_isBulb
set_option maxRecDepth 20000 in
theorem ggX7_told_X7_in : GoodIn wsX7_told wsX7_in := goodIn_r _ [9] (by decide +kernel) (by decide +kernel)
set_option maxRecDepth 20000 in
theorem gX7_told_X7_in : GoodIn wsX7_told (va_wsS RX7 93 yX7_in wsX7_in) := goodIn_app (goodIn_of _ (by decide +kernel)) ggX7_told_X7_in
set_option maxRecDepth 20000 in
theorem ggX7_told_X7_tells : GoodIn wsX7_told wsX7_tells := goodIn_r _ [13, 14, 15, 16, 17, 18, 19, 20, 21, 4, 22, 23, 24, 25, 26, 27, 28, 29, 30, 31, 32, 33, 34, 35, 36, 37, 38, 39, 40, 41, 42, 43, 44, 45, 46, 47, 48, 49, 50, 51, 52, 53, 54, 55, 56, 57, 58] (by decide +kernel) (by decide +kernel)
set_option maxRecDepth 20000 in
theorem gX7_told_X7_tells : GoodIn wsX7_told (wsV RX7 160 RX7 yX7_tells wsX7_tells) := goodIn_app (goodIn_of _ (by decide +kernel)) ggX7_told_X7_tells
theorem dX7_told_0 : decode cX7_told 0 = .ok (.aload_n 0, 1) := by decide +kernel
theorem dX7_told_1 : decode cX7_told 1 = .ok (.iload_n 1, 1) := by decide +kernel
theorem dX7_told_2 : decode cX7_told 2 = .ok (.invokevirtual 157, 3) := by decide +kernel
theorem dX7_told_5 : decode cX7_told 5 = .ok (.ifCond .eq 21, 3) := by decide +kernel
theorem dX7_told_8 : decode cX7_told 8 = .ok (.iload_n 2, 1) := by decide +kernel
theorem dX7_told_9 : decode cX7_told 9 = .ok (.iconst 0, 1) := by decide +kernel
theorem dX7_told_10 : decode cX7_told 10 = .ok (.iconst 4, 1) := by decide +kernel
theorem dX7_told_11 : decode cX7_told 11 = .ok (.invokestatic 93, 3) := by decide +kernel
theorem dX7_told_14 : decode cX7_told 14 = .ok (.ifCond .eq 12, 3) := by decide +kernel
theorem dX7_told_17 : decode cX7_told 17 = .ok (.aload_n 0, 1) := by decide +kernel
theorem dX7_told_18 : decode cX7_told 18 = .ok (.iload_n 1, 1) := by decide +kernel
theorem dX7_told_19 : decode cX7_told 19 = .ok (.iload_n 2, 1) := by decide +kernel
theorem dX7_told_20 : decode cX7_told 20 = .ok (.invokevirtual 160, 3) := by decide +kernel
theorem dX7_told_23 : decode cX7_told 23 = .ok (.goto 4, 3) := by decide +kernel
theorem dX7_told_26 : decode cX7_told 26 = .ok (.iconst (-1), 1) := by decide +kernel
theorem dX7_told_27 : decode cX7_told 27 = .ok (.ireturn, 1) := by decide +kernel
theorem dX7_is_0 : decode cX7_is 0 = .ok (.aload_n 0, 1) := by decide +kernel
theorem dX7_is_1 : decode cX7_is 1 = .ok (.getfield 35, 3) := by decide +kernel
theorem dX7_is_4 : decode cX7_is 4 = .ok (.iload_n 1, 1) := by decide +kernel
theorem dX7_is_5 : decode cX7_is 5 = .ok (.iaload, 1) := by decide +kernel
theorem dX7_is_6 : decode cX7_is 6 = .ok (.iload_n 2, 1) := by decide +kernel
theorem dX7_is_7 : decode cX7_is 7 = .ok (.if_icmp .eq 18, 3) := by decide +kernel
theorem dX7_is_10 : decode cX7_is 10 = .ok (.iload_n 2, 1) := by decide +kernel
theorem dX7_is_11 : decode cX7_is 11 = .ok (.iconst 2, 1) := by decide +kernel
theorem dX7_is_12 : decode cX7_is 12 = .ok (.if_icmp .ne 17, 3) := by decide +kernel
theorem dX7_is_15 : decode cX7_is 15 = .ok (.aload_n 0, 1) := by decide +kernel
theorem dX7_is_16 : decode cX7_is 16 = .ok (.getfield 35, 3) := by decide +kernel
theorem dX7_is_19 : decode cX7_is 19 = .ok (.iload_n 1, 1) := by decide +kernel
theorem dX7_is_20 : decode cX7_is 20 = .ok (.iaload, 1) := by decide +kernel
theorem dX7_is_21 : decode cX7_is 21 = .ok (.iconst 3, 1) := by decide +kernel
theorem dX7_is_22 : decode cX7_is 22 = .ok (.if_icmp .ne 7, 3) := by decide +kernel
theorem dX7_is_25 : decode cX7_is 25 = .ok (.iconst 1, 1) := by decide +kernel
theorem dX7_is_26 : decode cX7_is 26 = .ok (.goto 4, 3) := by decide +kernel
theorem dX7_is_29 : decode cX7_is 29 = .ok (.iconst 0, 1) := by decide +kernel
theorem dX7_is_30 : decode cX7_is 30 = .ok (.ireturn, 1) := by decide +kernel
theorem dX7_restsOn_0 : decode cX7_restsOn 0 = .ok (.iconst 0, 1) := by decide +kernel
theorem dX7_restsOn_1 : decode cX7_restsOn 1 = .ok (.istore_n 3, 1) := by decide +kernel
theorem dX7_restsOn_2 : decode cX7_restsOn 2 = .ok (.aload_n 0, 1) := by decide +kernel
theorem dX7_restsOn_3 : decode cX7_restsOn 3 = .ok (.getfield 59, 3) := by decide +kernel
theorem dX7_restsOn_6 : decode cX7_restsOn 6 = .ok (.iload_n 1, 1) := by decide +kernel
theorem dX7_restsOn_7 : decode cX7_restsOn 7 = .ok (.iaload, 1) := by decide +kernel
theorem dX7_restsOn_8 : decode cX7_restsOn 8 = .ok (.istore 4, 2) := by decide +kernel
theorem dX7_restsOn_10 : decode cX7_restsOn 10 = .ok (.iload 4, 2) := by decide +kernel
theorem dX7_restsOn_12 : decode cX7_restsOn 12 = .ok (.ifCond .lt 36, 3) := by decide +kernel
theorem dX7_restsOn_15 : decode cX7_restsOn 15 = .ok (.iload_n 3, 1) := by decide +kernel
theorem dX7_restsOn_16 : decode cX7_restsOn 16 = .ok (.ifCond .ne 14, 3) := by decide +kernel
theorem dX7_restsOn_19 : decode cX7_restsOn 19 = .ok (.aload_n 0, 1) := by decide +kernel
theorem dX7_restsOn_20 : decode cX7_restsOn 20 = .ok (.getfield 41, 3) := by decide +kernel
theorem dX7_restsOn_23 : decode cX7_restsOn 23 = .ok (.iload 4, 2) := by decide +kernel
theorem dX7_restsOn_25 : decode cX7_restsOn 25 = .ok (.iaload, 1) := by decide +kernel
theorem dX7_restsOn_26 : decode cX7_restsOn 26 = .ok (.iload_n 2, 1) := by decide +kernel
theorem dX7_restsOn_27 : decode cX7_restsOn 27 = .ok (.if_icmp .ne 7, 3) := by decide +kernel
theorem dX7_restsOn_30 : decode cX7_restsOn 30 = .ok (.iconst 1, 1) := by decide +kernel
theorem dX7_restsOn_31 : decode cX7_restsOn 31 = .ok (.goto 4, 3) := by decide +kernel
theorem dX7_restsOn_34 : decode cX7_restsOn 34 = .ok (.iconst 0, 1) := by decide +kernel
theorem dX7_restsOn_35 : decode cX7_restsOn 35 = .ok (.istore_n 3, 1) := by decide +kernel
theorem dX7_restsOn_36 : decode cX7_restsOn 36 = .ok (.aload_n 0, 1) := by decide +kernel
theorem dX7_restsOn_37 : decode cX7_restsOn 37 = .ok (.getfield 59, 3) := by decide +kernel
theorem dX7_restsOn_40 : decode cX7_restsOn 40 = .ok (.iload 4, 2) := by decide +kernel
theorem dX7_restsOn_42 : decode cX7_restsOn 42 = .ok (.iaload, 1) := by decide +kernel
theorem dX7_restsOn_43 : decode cX7_restsOn 43 = .ok (.istore 4, 2) := by decide +kernel
theorem dX7_restsOn_45 : decode cX7_restsOn 45 = .ok (.goto (-35), 3) := by decide +kernel
theorem dX7_restsOn_48 : decode cX7_restsOn 48 = .ok (.iload_n 3, 1) := by decide +kernel
theorem dX7_restsOn_49 : decode cX7_restsOn 49 = .ok (.ireturn, 1) := by decide +kernel
set_option maxRecDepth 20000 in
theorem ggX7_mark_X7_isBulb : GoodIn wsX7_mark wsX7_isBulb := goodIn_r _ [9, 10, 11, 12, 8, 13, 31, 32, 33, 34, 35, 36, 37, 38, 39, 40, 41, 42, 43, 44, 45, 46, 47, 48, 49, 50, 51, 52, 53, 54, 55, 56, 57, 58, 59, 60] (by decide +kernel) (by decide +kernel)
set_option maxRecDepth 20000 in
theorem gX7_mark_X7_isBulb : GoodIn wsX7_mark (wsV RX7 157 RX7 yX7_isBulb wsX7_isBulb) := goodIn_app (goodIn_of _ (by decide +kernel)) ggX7_mark_X7_isBulb
set_option maxRecDepth 20000 in
theorem ggX7_mark_X7_in : GoodIn wsX7_mark wsX7_in := goodIn_r _ [13] (by decide +kernel) (by decide +kernel)
set_option maxRecDepth 20000 in
theorem gX7_mark_X7_in : GoodIn wsX7_mark (va_wsS RX7 93 yX7_in wsX7_in) := goodIn_app (goodIn_of _ (by decide +kernel)) ggX7_mark_X7_in
set_option maxRecDepth 20000 in
theorem ggX7_mark_X7_is : GoodIn wsX7_mark wsX7_is := goodIn_r _ [17, 18, 31, 32, 33, 34, 35, 36, 37, 38, 39, 40, 41, 42, 43, 44, 45, 46, 47, 48, 49, 50, 51, 52, 53, 54, 55, 56, 57, 58, 59, 60] (by decide +kernel) (by decide +kernel)
set_option maxRecDepth 20000 in
theorem gX7_mark_X7_is : GoodIn wsX7_mark (wsV RX7 164 RX7 yX7_is wsX7_is) := goodIn_app (goodIn_of _ (by decide +kernel)) ggX7_mark_X7_is
set_option maxRecDepth 20000 in
theorem ggX7_mark_X7_meets : GoodIn wsX7_mark wsX7_meets := goodIn_r _ [22, 23, 24, 31, 32, 33, 34, 35, 36, 37, 38, 39, 40, 41, 42, 43, 44, 45, 46, 47, 48, 49, 50, 51, 52, 53, 54, 55, 56, 57, 58, 59, 60] (by decide +kernel) (by decide +kernel)
set_option maxRecDepth 20000 in
theorem gX7_mark_X7_meets : GoodIn wsX7_mark (wsV RX7 101 RX7 yX7_meets wsX7_meets) := goodIn_app (goodIn_of _ (by decide +kernel)) ggX7_mark_X7_meets
set_option maxRecDepth 20000 in
theorem ggX7_mark_X7_restsOn : GoodIn wsX7_mark wsX7_restsOn := goodIn_r _ [28, 29, 30, 31, 32, 33, 34, 35, 36, 37, 38, 39, 40, 41, 42, 43, 44, 45, 46, 47, 48, 49, 50, 51, 52, 53, 54, 55, 56, 57, 58, 59, 60] (by decide +kernel) (by decide +kernel)
set_option maxRecDepth 20000 in
theorem gX7_mark_X7_restsOn : GoodIn wsX7_mark (wsV RX7 168 RX7 yX7_restsOn wsX7_restsOn) := goodIn_app (goodIn_of _ (by decide +kernel)) ggX7_mark_X7_restsOn
theorem dX7_mark_0 : decode cX7_mark 0 = .ok (.aload_n 0, 1) := by decide +kernel
theorem dX7_mark_1 : decode cX7_mark 1 = .ok (.iload_n 1, 1) := by decide +kernel
theorem dX7_mark_2 : decode cX7_mark 2 = .ok (.invokevirtual 157, 3) := by decide +kernel
theorem dX7_mark_5 : decode cX7_mark 5 = .ok (.ifCond .eq 12, 3) := by decide +kernel
theorem dX7_mark_8 : decode cX7_mark 8 = .ok (.iload_n 2, 1) := by decide +kernel
theorem dX7_mark_9 : decode cX7_mark 9 = .ok (.iconst 1, 1) := by decide +kernel
theorem dX7_mark_10 : decode cX7_mark 10 = .ok (.iconst 3, 1) := by decide +kernel
theorem dX7_mark_11 : decode cX7_mark 11 = .ok (.invokestatic 93, 3) := by decide +kernel
theorem dX7_mark_14 : decode cX7_mark 14 = .ok (.ifCond .ne 5, 3) := by decide +kernel
theorem dX7_mark_17 : decode cX7_mark 17 = .ok (.iconst (-1), 1) := by decide +kernel
theorem dX7_mark_18 : decode cX7_mark 18 = .ok (.ireturn, 1) := by decide +kernel
theorem dX7_mark_19 : decode cX7_mark 19 = .ok (.aload_n 0, 1) := by decide +kernel
theorem dX7_mark_20 : decode cX7_mark 20 = .ok (.iload_n 1, 1) := by decide +kernel
theorem dX7_mark_21 : decode cX7_mark 21 = .ok (.iload_n 2, 1) := by decide +kernel
theorem dX7_mark_22 : decode cX7_mark 22 = .ok (.invokevirtual 164, 3) := by decide +kernel
theorem dX7_mark_25 : decode cX7_mark 25 = .ok (.ifCond .ne 9, 3) := by decide +kernel
theorem dX7_mark_28 : decode cX7_mark 28 = .ok (.aload_n 0, 1) := by decide +kernel
theorem dX7_mark_29 : decode cX7_mark 29 = .ok (.iconst 3, 1) := by decide +kernel
theorem dX7_mark_30 : decode cX7_mark 30 = .ok (.invokevirtual 101, 3) := by decide +kernel
theorem dX7_mark_33 : decode cX7_mark 33 = .ok (.ireturn, 1) := by decide +kernel
theorem dX7_mark_34 : decode cX7_mark 34 = .ok (.iload_n 2, 1) := by decide +kernel
theorem dX7_mark_35 : decode cX7_mark 35 = .ok (.iconst 1, 1) := by decide +kernel
theorem dX7_mark_36 : decode cX7_mark 36 = .ok (.if_icmp .ne 10, 3) := by decide +kernel
theorem dX7_mark_39 : decode cX7_mark 39 = .ok (.aload_n 0, 1) := by decide +kernel
theorem dX7_mark_40 : decode cX7_mark 40 = .ok (.getfield 38, 3) := by decide +kernel
theorem dX7_mark_43 : decode cX7_mark 43 = .ok (.iload_n 1, 1) := by decide +kernel
theorem dX7_mark_44 : decode cX7_mark 44 = .ok (.iaload, 1) := by decide +kernel
theorem dX7_mark_45 : decode cX7_mark 45 = .ok (.ireturn, 1) := by decide +kernel
theorem dX7_mark_46 : decode cX7_mark 46 = .ok (.iconst 0, 1) := by decide +kernel
theorem dX7_mark_47 : decode cX7_mark 47 = .ok (.istore_n 3, 1) := by decide +kernel
theorem dX7_mark_48 : decode cX7_mark 48 = .ok (.iconst 0, 1) := by decide +kernel
theorem dX7_mark_49 : decode cX7_mark 49 = .ok (.istore 4, 2) := by decide +kernel
theorem dX7_mark_51 : decode cX7_mark 51 = .ok (.iload 4, 2) := by decide +kernel
theorem dX7_mark_53 : decode cX7_mark 53 = .ok (.aload_n 0, 1) := by decide +kernel
theorem dX7_mark_54 : decode cX7_mark 54 = .ok (.getfield 147, 3) := by decide +kernel
theorem dX7_mark_57 : decode cX7_mark 57 = .ok (.if_icmp .ge 56, 3) := by decide +kernel
theorem dX7_mark_60 : decode cX7_mark 60 = .ok (.iload_n 3, 1) := by decide +kernel
theorem dX7_mark_61 : decode cX7_mark 61 = .ok (.aload_n 0, 1) := by decide +kernel
theorem dX7_mark_62 : decode cX7_mark 62 = .ok (.getfield 62, 3) := by decide +kernel
theorem dX7_mark_65 : decode cX7_mark 65 = .ok (.iload 4, 2) := by decide +kernel
theorem dX7_mark_67 : decode cX7_mark 67 = .ok (.baload, 1) := by decide +kernel
theorem dX7_mark_68 : decode cX7_mark 68 = .ok (.ifCond .ne 36, 3) := by decide +kernel
theorem dX7_mark_71 : decode cX7_mark 71 = .ok (.iload_n 2, 1) := by decide +kernel
theorem dX7_mark_72 : decode cX7_mark 72 = .ok (.iconst 2, 1) := by decide +kernel
theorem dX7_mark_73 : decode cX7_mark 73 = .ok (.if_icmp .ne 17, 3) := by decide +kernel
theorem dX7_mark_76 : decode cX7_mark 76 = .ok (.aload_n 0, 1) := by decide +kernel
theorem dX7_mark_77 : decode cX7_mark 77 = .ok (.getfield 44, 3) := by decide +kernel
theorem dX7_mark_80 : decode cX7_mark 80 = .ok (.iload 4, 2) := by decide +kernel
theorem dX7_mark_82 : decode cX7_mark 82 = .ok (.iaload, 1) := by decide +kernel
theorem dX7_mark_83 : decode cX7_mark 83 = .ok (.iload_n 1, 1) := by decide +kernel
theorem dX7_mark_84 : decode cX7_mark 84 = .ok (.if_icmp .ne 20, 3) := by decide +kernel
theorem dX7_mark_87 : decode cX7_mark 87 = .ok (.goto 13, 3) := by decide +kernel
theorem dX7_mark_90 : decode cX7_mark 90 = .ok (.aload_n 0, 1) := by decide +kernel
theorem dX7_mark_91 : decode cX7_mark 91 = .ok (.iload 4, 2) := by decide +kernel
theorem dX7_mark_93 : decode cX7_mark 93 = .ok (.iload_n 1, 1) := by decide +kernel
theorem dX7_mark_94 : decode cX7_mark 94 = .ok (.invokevirtual 168, 3) := by decide +kernel
theorem dX7_mark_97 : decode cX7_mark 97 = .ok (.ifCond .eq 7, 3) := by decide +kernel
theorem dX7_mark_100 : decode cX7_mark 100 = .ok (.iconst 1, 1) := by decide +kernel
theorem dX7_mark_101 : decode cX7_mark 101 = .ok (.goto 4, 3) := by decide +kernel
theorem dX7_mark_104 : decode cX7_mark 104 = .ok (.iconst 0, 1) := by decide +kernel
theorem dX7_mark_105 : decode cX7_mark 105 = .ok (.iadd, 1) := by decide +kernel
theorem dX7_mark_106 : decode cX7_mark 106 = .ok (.istore_n 3, 1) := by decide +kernel
theorem dX7_mark_107 : decode cX7_mark 107 = .ok (.iinc 4 1, 3) := by decide +kernel
theorem dX7_mark_110 : decode cX7_mark 110 = .ok (.goto (-59), 3) := by decide +kernel
theorem dX7_mark_113 : decode cX7_mark 113 = .ok (.iload_n 3, 1) := by decide +kernel
theorem dX7_mark_114 : decode cX7_mark 114 = .ok (.ireturn, 1) := by decide +kernel
set_option maxRecDepth 20000 in
theorem ggX7_stem_X7_isBulb : GoodIn wsX7_stem wsX7_isBulb := goodIn_r _ [9, 10, 11, 12, 8, 13, 37, 38, 39, 40, 41, 42, 43, 44, 45, 46, 47, 48, 49, 50, 51, 52, 53, 54, 55, 56, 57, 58, 59, 60, 61, 62, 63, 64, 65, 66] (by decide +kernel) (by decide +kernel)
set_option maxRecDepth 20000 in
theorem gX7_stem_X7_isBulb : GoodIn wsX7_stem (wsV RX7 157 RX7 yX7_isBulb wsX7_isBulb) := goodIn_app (goodIn_of _ (by decide +kernel)) ggX7_stem_X7_isBulb
set_option maxRecDepth 20000 in
theorem ggX7_stem_X7_in : GoodIn wsX7_stem wsX7_in := goodIn_r _ [13] (by decide +kernel) (by decide +kernel)
set_option maxRecDepth 20000 in
theorem gX7_stem_X7_in : GoodIn wsX7_stem (va_wsS RX7 93 yX7_in wsX7_in) := goodIn_app (goodIn_of _ (by decide +kernel)) ggX7_stem_X7_in
set_option maxRecDepth 20000 in
theorem ggX7_stem_X7_is : GoodIn wsX7_stem wsX7_is := goodIn_r _ [17, 18, 37, 38, 39, 40, 41, 42, 43, 44, 45, 46, 47, 48, 49, 50, 51, 52, 53, 54, 55, 56, 57, 58, 59, 60, 61, 62, 63, 64, 65, 66] (by decide +kernel) (by decide +kernel)
set_option maxRecDepth 20000 in
theorem gX7_stem_X7_is : GoodIn wsX7_stem (wsV RX7 164 RX7 yX7_is wsX7_is) := goodIn_app (goodIn_of _ (by decide +kernel)) ggX7_stem_X7_is
set_option maxRecDepth 20000 in
theorem ggX7_stem_X7_meets : GoodIn wsX7_stem wsX7_meets := goodIn_r _ [22, 23, 24, 37, 38, 39, 40, 41, 42, 43, 44, 45, 46, 47, 48, 49, 50, 51, 52, 53, 54, 55, 56, 57, 58, 59, 60, 61, 62, 63, 64, 65, 66] (by decide +kernel) (by decide +kernel)
set_option maxRecDepth 20000 in
theorem gX7_stem_X7_meets : GoodIn wsX7_stem (wsV RX7 101 RX7 yX7_meets wsX7_meets) := goodIn_app (goodIn_of _ (by decide +kernel)) ggX7_stem_X7_meets
set_option maxRecDepth 20000 in
theorem ggX7_stem_X7_tell : GoodIn wsX7_stem wsX7_tell := goodIn_r _ [28, 29, 30, 31, 32, 8, 33, 34, 35, 36, 37, 38, 39, 40, 41, 42, 43, 44, 45, 46, 47, 48, 49, 50, 51, 52, 53, 54, 55, 56, 57, 58, 59, 60, 61, 62, 63, 64, 65, 66] (by decide +kernel) (by decide +kernel)
set_option maxRecDepth 20000 in
theorem gX7_stem_X7_tell : GoodIn wsX7_stem (wsV RX7 114 RX7 yX7_tell wsX7_tell) := goodIn_app (goodIn_of _ (by decide +kernel)) ggX7_stem_X7_tell
theorem dX7_stem_0 : decode cX7_stem 0 = .ok (.aload_n 0, 1) := by decide +kernel
theorem dX7_stem_1 : decode cX7_stem 1 = .ok (.iload_n 1, 1) := by decide +kernel
theorem dX7_stem_2 : decode cX7_stem 2 = .ok (.invokevirtual 157, 3) := by decide +kernel
theorem dX7_stem_5 : decode cX7_stem 5 = .ok (.ifCond .eq 49, 3) := by decide +kernel
theorem dX7_stem_8 : decode cX7_stem 8 = .ok (.iload_n 2, 1) := by decide +kernel
theorem dX7_stem_9 : decode cX7_stem 9 = .ok (.ldc 105, 2) := by decide +kernel
theorem dX7_stem_11 : decode cX7_stem 11 = .ok (.ldc 106, 2) := by decide +kernel
theorem dX7_stem_13 : decode cX7_stem 13 = .ok (.invokestatic 93, 3) := by decide +kernel
theorem dX7_stem_16 : decode cX7_stem 16 = .ok (.ifCond .eq 38, 3) := by decide +kernel
theorem dX7_stem_19 : decode cX7_stem 19 = .ok (.iload_n 3, 1) := by decide +kernel
theorem dX7_stem_20 : decode cX7_stem 20 = .ok (.iconst 0, 1) := by decide +kernel
theorem dX7_stem_21 : decode cX7_stem 21 = .ok (.sipush 1000, 3) := by decide +kernel
theorem dX7_stem_24 : decode cX7_stem 24 = .ok (.invokestatic 93, 3) := by decide +kernel
theorem dX7_stem_27 : decode cX7_stem 27 = .ok (.ifCond .eq 27, 3) := by decide +kernel
theorem dX7_stem_30 : decode cX7_stem 30 = .ok (.iload 4, 2) := by decide +kernel
theorem dX7_stem_32 : decode cX7_stem 32 = .ok (.ldc 105, 2) := by decide +kernel
theorem dX7_stem_34 : decode cX7_stem 34 = .ok (.ldc 106, 2) := by decide +kernel
theorem dX7_stem_36 : decode cX7_stem 36 = .ok (.invokestatic 93, 3) := by decide +kernel
theorem dX7_stem_39 : decode cX7_stem 39 = .ok (.ifCond .eq 15, 3) := by decide +kernel
theorem dX7_stem_42 : decode cX7_stem 42 = .ok (.iload 5, 2) := by decide +kernel
theorem dX7_stem_44 : decode cX7_stem 44 = .ok (.ldc 105, 2) := by decide +kernel
theorem dX7_stem_46 : decode cX7_stem 46 = .ok (.ldc 106, 2) := by decide +kernel
theorem dX7_stem_48 : decode cX7_stem 48 = .ok (.invokestatic 93, 3) := by decide +kernel
theorem dX7_stem_51 : decode cX7_stem 51 = .ok (.ifCond .ne 5, 3) := by decide +kernel
theorem dX7_stem_54 : decode cX7_stem 54 = .ok (.iconst (-1), 1) := by decide +kernel
theorem dX7_stem_55 : decode cX7_stem 55 = .ok (.ireturn, 1) := by decide +kernel
theorem dX7_stem_56 : decode cX7_stem 56 = .ok (.aload_n 0, 1) := by decide +kernel
theorem dX7_stem_57 : decode cX7_stem 57 = .ok (.iload_n 1, 1) := by decide +kernel
theorem dX7_stem_58 : decode cX7_stem 58 = .ok (.iconst 1, 1) := by decide +kernel
theorem dX7_stem_59 : decode cX7_stem 59 = .ok (.invokevirtual 164, 3) := by decide +kernel
theorem dX7_stem_62 : decode cX7_stem 62 = .ok (.ifCond .ne 9, 3) := by decide +kernel
theorem dX7_stem_65 : decode cX7_stem 65 = .ok (.aload_n 0, 1) := by decide +kernel
theorem dX7_stem_66 : decode cX7_stem 66 = .ok (.iconst 3, 1) := by decide +kernel
theorem dX7_stem_67 : decode cX7_stem 67 = .ok (.invokevirtual 101, 3) := by decide +kernel
theorem dX7_stem_70 : decode cX7_stem 70 = .ok (.ireturn, 1) := by decide +kernel
theorem dX7_stem_71 : decode cX7_stem 71 = .ok (.aload_n 0, 1) := by decide +kernel
theorem dX7_stem_72 : decode cX7_stem 72 = .ok (.ldc2_w 171, 3) := by decide +kernel
theorem dX7_stem_75 : decode cX7_stem 75 = .ok (.iload_n 2, 1) := by decide +kernel
theorem dX7_stem_76 : decode cX7_stem 76 = .ok (.i2l, 1) := by decide +kernel
theorem dX7_stem_77 : decode cX7_stem 77 = .ok (.lmul, 1) := by decide +kernel
theorem dX7_stem_78 : decode cX7_stem 78 = .ok (.ldc2_w 173, 3) := by decide +kernel
theorem dX7_stem_81 : decode cX7_stem 81 = .ok (.iload_n 3, 1) := by decide +kernel
theorem dX7_stem_82 : decode cX7_stem 82 = .ok (.i2l, 1) := by decide +kernel
theorem dX7_stem_83 : decode cX7_stem 83 = .ok (.lmul, 1) := by decide +kernel
theorem dX7_stem_84 : decode cX7_stem 84 = .ok (.iload 4, 2) := by decide +kernel
theorem dX7_stem_86 : decode cX7_stem 86 = .ok (.iload 5, 2) := by decide +kernel
theorem dX7_stem_88 : decode cX7_stem 88 = .ok (.isub, 1) := by decide +kernel
theorem dX7_stem_89 : decode cX7_stem 89 = .ok (.i2l, 1) := by decide +kernel
theorem dX7_stem_90 : decode cX7_stem 90 = .ok (.lmul, 1) := by decide +kernel
theorem dX7_stem_91 : decode cX7_stem 91 = .ok (.ladd, 1) := by decide +kernel
theorem dX7_stem_92 : decode cX7_stem 92 = .ok (.ldc2_w 171, 3) := by decide +kernel
theorem dX7_stem_95 : decode cX7_stem 95 = .ok (.iconst 1, 1) := by decide +kernel
theorem dX7_stem_96 : decode cX7_stem 96 = .ok (.invokevirtual 114, 3) := by decide +kernel
theorem dX7_stem_99 : decode cX7_stem 99 = .ok (.ireturn, 1) := by decide +kernel
set_option maxRecDepth 20000 in
theorem ggX7_currents_X7_isBulb : GoodIn wsX7_currents wsX7_isBulb := goodIn_r _ [7, 8, 9, 10, 6, 11, 35, 36, 37, 38, 39, 40, 41, 42, 43, 44, 45, 46, 47, 48, 49, 50, 51, 52, 53, 54, 55, 56, 57, 58, 59, 60, 61, 62, 63, 64] (by decide +kernel) (by decide +kernel)
set_option maxRecDepth 20000 in
theorem gX7_currents_X7_isBulb : GoodIn wsX7_currents (wsV RX7 157 RX7 yX7_isBulb wsX7_isBulb) := goodIn_app (goodIn_of _ (by decide +kernel)) ggX7_currents_X7_isBulb
set_option maxRecDepth 20000 in
theorem ggX7_currents_X7_in : GoodIn wsX7_currents wsX7_in := goodIn_r _ [11] (by decide +kernel) (by decide +kernel)
set_option maxRecDepth 20000 in
theorem gX7_currents_X7_in : GoodIn wsX7_currents (va_wsS RX7 93 yX7_in wsX7_in) := goodIn_app (goodIn_of _ (by decide +kernel)) ggX7_currents_X7_in
set_option maxRecDepth 20000 in
theorem ggX7_currents_X7_is : GoodIn wsX7_currents wsX7_is := goodIn_r _ [15, 16, 35, 36, 37, 38, 39, 40, 41, 42, 43, 44, 45, 46, 47, 48, 49, 50, 51, 52, 53, 54, 55, 56, 57, 58, 59, 60, 61, 62, 63, 64] (by decide +kernel) (by decide +kernel)
set_option maxRecDepth 20000 in
theorem gX7_currents_X7_is : GoodIn wsX7_currents (wsV RX7 164 RX7 yX7_is wsX7_is) := goodIn_app (goodIn_of _ (by decide +kernel)) ggX7_currents_X7_is
set_option maxRecDepth 20000 in
theorem ggX7_currents_X7_meets : GoodIn wsX7_currents wsX7_meets := goodIn_r _ [20, 21, 22, 35, 36, 37, 38, 39, 40, 41, 42, 43, 44, 45, 46, 47, 48, 49, 50, 51, 52, 53, 54, 55, 56, 57, 58, 59, 60, 61, 62, 63, 64] (by decide +kernel) (by decide +kernel)
set_option maxRecDepth 20000 in
theorem gX7_currents_X7_meets : GoodIn wsX7_currents (wsV RX7 101 RX7 yX7_meets wsX7_meets) := goodIn_app (goodIn_of _ (by decide +kernel)) ggX7_currents_X7_meets
set_option maxRecDepth 20000 in
theorem ggX7_currents_X7_tell : GoodIn wsX7_currents wsX7_tell := goodIn_r _ [26, 27, 28, 29, 30, 6, 31, 32, 33, 34, 35, 36, 37, 38, 39, 40, 41, 42, 43, 44, 45, 46, 47, 48, 49, 50, 51, 52, 53, 54, 55, 56, 57, 58, 59, 60, 61, 62, 63, 64] (by decide +kernel) (by decide +kernel)
set_option maxRecDepth 20000 in
theorem gX7_currents_X7_tell : GoodIn wsX7_currents (wsV RX7 114 RX7 yX7_tell wsX7_tell) := goodIn_app (goodIn_of _ (by decide +kernel)) ggX7_currents_X7_tell
theorem dX7_currents_0 : decode cX7_currents 0 = .ok (.aload_n 0, 1) := by decide +kernel
theorem dX7_currents_1 : decode cX7_currents 1 = .ok (.iload_n 1, 1) := by decide +kernel
theorem dX7_currents_2 : decode cX7_currents 2 = .ok (.invokevirtual 157, 3) := by decide +kernel
theorem dX7_currents_5 : decode cX7_currents 5 = .ok (.ifCond .eq 47, 3) := by decide +kernel
theorem dX7_currents_8 : decode cX7_currents 8 = .ok (.iload_n 2, 1) := by decide +kernel
theorem dX7_currents_9 : decode cX7_currents 9 = .ok (.ldc 105, 2) := by decide +kernel
theorem dX7_currents_11 : decode cX7_currents 11 = .ok (.ldc 106, 2) := by decide +kernel
theorem dX7_currents_13 : decode cX7_currents 13 = .ok (.invokestatic 93, 3) := by decide +kernel
theorem dX7_currents_16 : decode cX7_currents 16 = .ok (.ifCond .eq 36, 3) := by decide +kernel
theorem dX7_currents_19 : decode cX7_currents 19 = .ok (.iload 4, 2) := by decide +kernel
theorem dX7_currents_21 : decode cX7_currents 21 = .ok (.ldc 105, 2) := by decide +kernel
theorem dX7_currents_23 : decode cX7_currents 23 = .ok (.ldc 106, 2) := by decide +kernel
theorem dX7_currents_25 : decode cX7_currents 25 = .ok (.invokestatic 93, 3) := by decide +kernel
theorem dX7_currents_28 : decode cX7_currents 28 = .ok (.ifCond .eq 24, 3) := by decide +kernel
theorem dX7_currents_31 : decode cX7_currents 31 = .ok (.iload_n 3, 1) := by decide +kernel
theorem dX7_currents_32 : decode cX7_currents 32 = .ok (.iconst 1, 1) := by decide +kernel
theorem dX7_currents_33 : decode cX7_currents 33 = .ok (.bipush 100, 2) := by decide +kernel
theorem dX7_currents_35 : decode cX7_currents 35 = .ok (.invokestatic 93, 3) := by decide +kernel
theorem dX7_currents_38 : decode cX7_currents 38 = .ok (.ifCond .eq 14, 3) := by decide +kernel
theorem dX7_currents_41 : decode cX7_currents 41 = .ok (.iload 5, 2) := by decide +kernel
theorem dX7_currents_43 : decode cX7_currents 43 = .ok (.iconst 1, 1) := by decide +kernel
theorem dX7_currents_44 : decode cX7_currents 44 = .ok (.bipush 100, 2) := by decide +kernel
theorem dX7_currents_46 : decode cX7_currents 46 = .ok (.invokestatic 93, 3) := by decide +kernel
theorem dX7_currents_49 : decode cX7_currents 49 = .ok (.ifCond .ne 5, 3) := by decide +kernel
theorem dX7_currents_52 : decode cX7_currents 52 = .ok (.iconst (-1), 1) := by decide +kernel
theorem dX7_currents_53 : decode cX7_currents 53 = .ok (.ireturn, 1) := by decide +kernel
theorem dX7_currents_54 : decode cX7_currents 54 = .ok (.aload_n 0, 1) := by decide +kernel
theorem dX7_currents_55 : decode cX7_currents 55 = .ok (.iload_n 1, 1) := by decide +kernel
theorem dX7_currents_56 : decode cX7_currents 56 = .ok (.iconst 2, 1) := by decide +kernel
theorem dX7_currents_57 : decode cX7_currents 57 = .ok (.invokevirtual 164, 3) := by decide +kernel
theorem dX7_currents_60 : decode cX7_currents 60 = .ok (.ifCond .ne 9, 3) := by decide +kernel
theorem dX7_currents_63 : decode cX7_currents 63 = .ok (.aload_n 0, 1) := by decide +kernel
theorem dX7_currents_64 : decode cX7_currents 64 = .ok (.iconst 3, 1) := by decide +kernel
theorem dX7_currents_65 : decode cX7_currents 65 = .ok (.invokevirtual 101, 3) := by decide +kernel
theorem dX7_currents_68 : decode cX7_currents 68 = .ok (.ireturn, 1) := by decide +kernel
theorem dX7_currents_69 : decode cX7_currents 69 = .ok (.iload_n 3, 1) := by decide +kernel
theorem dX7_currents_70 : decode cX7_currents 70 = .ok (.iload 5, 2) := by decide +kernel
theorem dX7_currents_72 : decode cX7_currents 72 = .ok (.if_icmp .ne 11, 3) := by decide +kernel
theorem dX7_currents_75 : decode cX7_currents 75 = .ok (.aload_n 0, 1) := by decide +kernel
theorem dX7_currents_76 : decode cX7_currents 76 = .ok (.iconst 4, 1) := by decide +kernel
theorem dX7_currents_77 : decode cX7_currents 77 = .ok (.invokevirtual 101, 3) := by decide +kernel
theorem dX7_currents_80 : decode cX7_currents 80 = .ok (.goto 38, 3) := by decide +kernel
theorem dX7_currents_83 : decode cX7_currents 83 = .ok (.aload_n 0, 1) := by decide +kernel
theorem dX7_currents_84 : decode cX7_currents 84 = .ok (.iload_n 2, 1) := by decide +kernel
theorem dX7_currents_85 : decode cX7_currents 85 = .ok (.i2l, 1) := by decide +kernel
theorem dX7_currents_86 : decode cX7_currents 86 = .ok (.iload 5, 2) := by decide +kernel
theorem dX7_currents_88 : decode cX7_currents 88 = .ok (.i2l, 1) := by decide +kernel
theorem dX7_currents_89 : decode cX7_currents 89 = .ok (.lmul, 1) := by decide +kernel
theorem dX7_currents_90 : decode cX7_currents 90 = .ok (.iload 5, 2) := by decide +kernel
theorem dX7_currents_92 : decode cX7_currents 92 = .ok (.i2l, 1) := by decide +kernel
theorem dX7_currents_93 : decode cX7_currents 93 = .ok (.lmul, 1) := by decide +kernel
theorem dX7_currents_94 : decode cX7_currents 94 = .ok (.iload 4, 2) := by decide +kernel
theorem dX7_currents_96 : decode cX7_currents 96 = .ok (.i2l, 1) := by decide +kernel
theorem dX7_currents_97 : decode cX7_currents 97 = .ok (.iload_n 3, 1) := by decide +kernel
theorem dX7_currents_98 : decode cX7_currents 98 = .ok (.i2l, 1) := by decide +kernel
theorem dX7_currents_99 : decode cX7_currents 99 = .ok (.lmul, 1) := by decide +kernel
theorem dX7_currents_100 : decode cX7_currents 100 = .ok (.iload_n 3, 1) := by decide +kernel
theorem dX7_currents_101 : decode cX7_currents 101 = .ok (.i2l, 1) := by decide +kernel
theorem dX7_currents_102 : decode cX7_currents 102 = .ok (.lmul, 1) := by decide +kernel
theorem dX7_currents_103 : decode cX7_currents 103 = .ok (.lsub, 1) := by decide +kernel
theorem dX7_currents_104 : decode cX7_currents 104 = .ok (.iload 5, 2) := by decide +kernel
theorem dX7_currents_106 : decode cX7_currents 106 = .ok (.iload 5, 2) := by decide +kernel
theorem dX7_currents_108 : decode cX7_currents 108 = .ok (.imul, 1) := by decide +kernel
theorem dX7_currents_109 : decode cX7_currents 109 = .ok (.iload_n 3, 1) := by decide +kernel
theorem dX7_currents_110 : decode cX7_currents 110 = .ok (.iload_n 3, 1) := by decide +kernel
theorem dX7_currents_111 : decode cX7_currents 111 = .ok (.imul, 1) := by decide +kernel
theorem dX7_currents_112 : decode cX7_currents 112 = .ok (.isub, 1) := by decide +kernel
theorem dX7_currents_113 : decode cX7_currents 113 = .ok (.i2l, 1) := by decide +kernel
theorem dX7_currents_114 : decode cX7_currents 114 = .ok (.iconst 1, 1) := by decide +kernel
theorem dX7_currents_115 : decode cX7_currents 115 = .ok (.invokevirtual 114, 3) := by decide +kernel
theorem dX7_currents_118 : decode cX7_currents 118 = .ok (.ireturn, 1) := by decide +kernel
set_option maxRecDepth 20000 in
theorem ggX7_compare_X7_looked : GoodIn wsX7_compare wsX7_looked := goodIn_r _ [8, 1, 9, 10, 7, 11, 12, 13, 14, 15, 16, 17, 18, 19, 20, 33, 34, 35, 36, 37, 38, 39, 40, 41, 42, 43, 44, 45, 46, 47, 48, 49, 50, 51, 52, 53, 54, 55, 56, 57, 58, 59, 60, 61, 62] (by decide +kernel) (by decide +kernel)
set_option maxRecDepth 20000 in
theorem gX7_compare_X7_looked : GoodIn wsX7_compare (wsV RX7 107 RX7 yX7_looked wsX7_looked) := goodIn_app (goodIn_of _ (by decide +kernel)) ggX7_compare_X7_looked
set_option maxRecDepth 20000 in
theorem ggX7_compare_X7_meets : GoodIn wsX7_compare wsX7_meets := goodIn_r _ [18, 19, 20, 33, 34, 35, 36, 37, 38, 39, 40, 41, 42, 43, 44, 45, 46, 47, 48, 49, 50, 51, 52, 53, 54, 55, 56, 57, 58, 59, 60, 61, 62] (by decide +kernel) (by decide +kernel)
set_option maxRecDepth 20000 in
theorem gX7_compare_X7_meets : GoodIn wsX7_compare (wsV RX7 101 RX7 yX7_meets wsX7_meets) := goodIn_app (goodIn_of _ (by decide +kernel)) ggX7_compare_X7_meets
set_option maxRecDepth 20000 in
theorem ggX7_compare_X7_in : GoodIn wsX7_compare wsX7_in := goodIn_r _ [14] (by decide +kernel) (by decide +kernel)
set_option maxRecDepth 20000 in
theorem gX7_compare_X7_in : GoodIn wsX7_compare (va_wsS RX7 93 yX7_in wsX7_in) := goodIn_app (goodIn_of _ (by decide +kernel)) ggX7_compare_X7_in
set_option maxRecDepth 20000 in
theorem ggX7_compare_X7_tell : GoodIn wsX7_compare wsX7_tell := goodIn_r _ [24, 25, 26, 27, 28, 7, 29, 30, 31, 32, 33, 34, 35, 36, 37, 38, 39, 40, 41, 42, 43, 44, 45, 46, 47, 48, 49, 50, 51, 52, 53, 54, 55, 56, 57, 58, 59, 60, 61, 62] (by decide +kernel) (by decide +kernel)
set_option maxRecDepth 20000 in
theorem gX7_compare_X7_tell : GoodIn wsX7_compare (wsV RX7 114 RX7 yX7_tell wsX7_tell) := goodIn_app (goodIn_of _ (by decide +kernel)) ggX7_compare_X7_tell
theorem dX7_compare_0 : decode cX7_compare 0 = .ok (.aload_n 0, 1) := by decide +kernel
theorem dX7_compare_1 : decode cX7_compare 1 = .ok (.iload_n 1, 1) := by decide +kernel
theorem dX7_compare_2 : decode cX7_compare 2 = .ok (.invokevirtual 107, 3) := by decide +kernel
theorem dX7_compare_5 : decode cX7_compare 5 = .ok (.istore_n 3, 1) := by decide +kernel
theorem dX7_compare_6 : decode cX7_compare 6 = .ok (.iload_n 3, 1) := by decide +kernel
theorem dX7_compare_7 : decode cX7_compare 7 = .ok (.ifCond .ge 5, 3) := by decide +kernel
theorem dX7_compare_10 : decode cX7_compare 10 = .ok (.iload_n 3, 1) := by decide +kernel
theorem dX7_compare_11 : decode cX7_compare 11 = .ok (.ireturn, 1) := by decide +kernel
theorem dX7_compare_12 : decode cX7_compare 12 = .ok (.aload_n 0, 1) := by decide +kernel
theorem dX7_compare_13 : decode cX7_compare 13 = .ok (.getfield 17, 3) := by decide +kernel
theorem dX7_compare_16 : decode cX7_compare 16 = .ok (.iload_n 1, 1) := by decide +kernel
theorem dX7_compare_17 : decode cX7_compare 17 = .ok (.iaload, 1) := by decide +kernel
theorem dX7_compare_18 : decode cX7_compare 18 = .ok (.istore 4, 2) := by decide +kernel
theorem dX7_compare_20 : decode cX7_compare 20 = .ok (.iload 4, 2) := by decide +kernel
theorem dX7_compare_22 : decode cX7_compare 22 = .ok (.iconst 4, 1) := by decide +kernel
theorem dX7_compare_23 : decode cX7_compare 23 = .ok (.if_icmp .lt 14, 3) := by decide +kernel
theorem dX7_compare_26 : decode cX7_compare 26 = .ok (.iload 4, 2) := by decide +kernel
theorem dX7_compare_28 : decode cX7_compare 28 = .ok (.iconst 2, 1) := by decide +kernel
theorem dX7_compare_29 : decode cX7_compare 29 = .ok (.irem, 1) := by decide +kernel
theorem dX7_compare_30 : decode cX7_compare 30 = .ok (.ifCond .ne 7, 3) := by decide +kernel
theorem dX7_compare_33 : decode cX7_compare 33 = .ok (.iconst 1, 1) := by decide +kernel
theorem dX7_compare_34 : decode cX7_compare 34 = .ok (.goto 4, 3) := by decide +kernel
theorem dX7_compare_37 : decode cX7_compare 37 = .ok (.iconst 0, 1) := by decide +kernel
theorem dX7_compare_38 : decode cX7_compare 38 = .ok (.istore 5, 2) := by decide +kernel
theorem dX7_compare_40 : decode cX7_compare 40 = .ok (.iconst 0, 1) := by decide +kernel
theorem dX7_compare_41 : decode cX7_compare 41 = .ok (.istore 6, 2) := by decide +kernel
theorem dX7_compare_43 : decode cX7_compare 43 = .ok (.iload 6, 2) := by decide +kernel
theorem dX7_compare_45 : decode cX7_compare 45 = .ok (.iload 4, 2) := by decide +kernel
theorem dX7_compare_47 : decode cX7_compare 47 = .ok (.if_icmp .ge 38, 3) := by decide +kernel
theorem dX7_compare_50 : decode cX7_compare 50 = .ok (.iload 5, 2) := by decide +kernel
theorem dX7_compare_52 : decode cX7_compare 52 = .ok (.ifCond .eq 24, 3) := by decide +kernel
theorem dX7_compare_55 : decode cX7_compare 55 = .ok (.aload_n 0, 1) := by decide +kernel
theorem dX7_compare_56 : decode cX7_compare 56 = .ok (.getfield 20, 3) := by decide +kernel
theorem dX7_compare_59 : decode cX7_compare 59 = .ok (.bipush 40, 2) := by decide +kernel
theorem dX7_compare_61 : decode cX7_compare 61 = .ok (.iload_n 1, 1) := by decide +kernel
theorem dX7_compare_62 : decode cX7_compare 62 = .ok (.imul, 1) := by decide +kernel
theorem dX7_compare_63 : decode cX7_compare 63 = .ok (.iload 6, 2) := by decide +kernel
theorem dX7_compare_65 : decode cX7_compare 65 = .ok (.iadd, 1) := by decide +kernel
theorem dX7_compare_66 : decode cX7_compare 66 = .ok (.iaload, 1) := by decide +kernel
theorem dX7_compare_67 : decode cX7_compare 67 = .ok (.bipush (-9), 2) := by decide +kernel
theorem dX7_compare_69 : decode cX7_compare 69 = .ok (.if_icmp .eq 7, 3) := by decide +kernel
theorem dX7_compare_72 : decode cX7_compare 72 = .ok (.iconst 1, 1) := by decide +kernel
theorem dX7_compare_73 : decode cX7_compare 73 = .ok (.goto 4, 3) := by decide +kernel
theorem dX7_compare_76 : decode cX7_compare 76 = .ok (.iconst 0, 1) := by decide +kernel
theorem dX7_compare_77 : decode cX7_compare 77 = .ok (.istore 5, 2) := by decide +kernel
theorem dX7_compare_79 : decode cX7_compare 79 = .ok (.iinc 6 1, 3) := by decide +kernel
theorem dX7_compare_82 : decode cX7_compare 82 = .ok (.goto (-39), 3) := by decide +kernel
theorem dX7_compare_85 : decode cX7_compare 85 = .ok (.iload 5, 2) := by decide +kernel
theorem dX7_compare_87 : decode cX7_compare 87 = .ok (.ifCond .ne 9, 3) := by decide +kernel
theorem dX7_compare_90 : decode cX7_compare 90 = .ok (.aload_n 0, 1) := by decide +kernel
theorem dX7_compare_91 : decode cX7_compare 91 = .ok (.iconst 5, 1) := by decide +kernel
theorem dX7_compare_92 : decode cX7_compare 92 = .ok (.invokevirtual 101, 3) := by decide +kernel
theorem dX7_compare_95 : decode cX7_compare 95 = .ok (.ireturn, 1) := by decide +kernel
theorem dX7_compare_96 : decode cX7_compare 96 = .ok (.iload_n 2, 1) := by decide +kernel
theorem dX7_compare_97 : decode cX7_compare 97 = .ok (.iconst 0, 1) := by decide +kernel
theorem dX7_compare_98 : decode cX7_compare 98 = .ok (.iload 4, 2) := by decide +kernel
theorem dX7_compare_100 : decode cX7_compare 100 = .ok (.iconst 2, 1) := by decide +kernel
theorem dX7_compare_101 : decode cX7_compare 101 = .ok (.idiv, 1) := by decide +kernel
theorem dX7_compare_102 : decode cX7_compare 102 = .ok (.iconst 2, 1) := by decide +kernel
theorem dX7_compare_103 : decode cX7_compare 103 = .ok (.isub, 1) := by decide +kernel
theorem dX7_compare_104 : decode cX7_compare 104 = .ok (.invokestatic 93, 3) := by decide +kernel
theorem dX7_compare_107 : decode cX7_compare 107 = .ok (.ifCond .ne 6, 3) := by decide +kernel
theorem dX7_compare_110 : decode cX7_compare 110 = .ok (.bipush (-9), 2) := by decide +kernel
theorem dX7_compare_112 : decode cX7_compare 112 = .ok (.ireturn, 1) := by decide +kernel
theorem dX7_compare_113 : decode cX7_compare 113 = .ok (.bipush 40, 2) := by decide +kernel
theorem dX7_compare_115 : decode cX7_compare 115 = .ok (.iload_n 1, 1) := by decide +kernel
theorem dX7_compare_116 : decode cX7_compare 116 = .ok (.imul, 1) := by decide +kernel
theorem dX7_compare_117 : decode cX7_compare 117 = .ok (.istore 6, 2) := by decide +kernel
theorem dX7_compare_119 : decode cX7_compare 119 = .ok (.aload_n 0, 1) := by decide +kernel
theorem dX7_compare_120 : decode cX7_compare 120 = .ok (.getfield 20, 3) := by decide +kernel
theorem dX7_compare_123 : decode cX7_compare 123 = .ok (.iload 6, 2) := by decide +kernel
theorem dX7_compare_125 : decode cX7_compare 125 = .ok (.iconst 1, 1) := by decide +kernel
theorem dX7_compare_126 : decode cX7_compare 126 = .ok (.iadd, 1) := by decide +kernel
theorem dX7_compare_127 : decode cX7_compare 127 = .ok (.iload_n 2, 1) := by decide +kernel
theorem dX7_compare_128 : decode cX7_compare 128 = .ok (.iadd, 1) := by decide +kernel
theorem dX7_compare_129 : decode cX7_compare 129 = .ok (.iaload, 1) := by decide +kernel
theorem dX7_compare_130 : decode cX7_compare 130 = .ok (.i2l, 1) := by decide +kernel
theorem dX7_compare_131 : decode cX7_compare 131 = .ok (.aload_n 0, 1) := by decide +kernel
theorem dX7_compare_132 : decode cX7_compare 132 = .ok (.getfield 20, 3) := by decide +kernel
theorem dX7_compare_135 : decode cX7_compare 135 = .ok (.iload 6, 2) := by decide +kernel
theorem dX7_compare_137 : decode cX7_compare 137 = .ok (.iload 4, 2) := by decide +kernel
theorem dX7_compare_139 : decode cX7_compare 139 = .ok (.iadd, 1) := by decide +kernel
theorem dX7_compare_140 : decode cX7_compare 140 = .ok (.iconst 2, 1) := by decide +kernel
theorem dX7_compare_141 : decode cX7_compare 141 = .ok (.isub, 1) := by decide +kernel
theorem dX7_compare_142 : decode cX7_compare 142 = .ok (.iload_n 2, 1) := by decide +kernel
theorem dX7_compare_143 : decode cX7_compare 143 = .ok (.isub, 1) := by decide +kernel
theorem dX7_compare_144 : decode cX7_compare 144 = .ok (.iaload, 1) := by decide +kernel
theorem dX7_compare_145 : decode cX7_compare 145 = .ok (.i2l, 1) := by decide +kernel
theorem dX7_compare_146 : decode cX7_compare 146 = .ok (.ladd, 1) := by decide +kernel
theorem dX7_compare_147 : decode cX7_compare 147 = .ok (.aload_n 0, 1) := by decide +kernel
theorem dX7_compare_148 : decode cX7_compare 148 = .ok (.getfield 20, 3) := by decide +kernel
theorem dX7_compare_151 : decode cX7_compare 151 = .ok (.iload 6, 2) := by decide +kernel
theorem dX7_compare_153 : decode cX7_compare 153 = .ok (.iaload, 1) := by decide +kernel
theorem dX7_compare_154 : decode cX7_compare 154 = .ok (.i2l, 1) := by decide +kernel
theorem dX7_compare_155 : decode cX7_compare 155 = .ok (.lsub, 1) := by decide +kernel
theorem dX7_compare_156 : decode cX7_compare 156 = .ok (.aload_n 0, 1) := by decide +kernel
theorem dX7_compare_157 : decode cX7_compare 157 = .ok (.getfield 20, 3) := by decide +kernel
theorem dX7_compare_160 : decode cX7_compare 160 = .ok (.iload 6, 2) := by decide +kernel
theorem dX7_compare_162 : decode cX7_compare 162 = .ok (.iload 4, 2) := by decide +kernel
theorem dX7_compare_164 : decode cX7_compare 164 = .ok (.iadd, 1) := by decide +kernel
theorem dX7_compare_165 : decode cX7_compare 165 = .ok (.iconst 1, 1) := by decide +kernel
theorem dX7_compare_166 : decode cX7_compare 166 = .ok (.isub, 1) := by decide +kernel
theorem dX7_compare_167 : decode cX7_compare 167 = .ok (.iaload, 1) := by decide +kernel
theorem dX7_compare_168 : decode cX7_compare 168 = .ok (.i2l, 1) := by decide +kernel
theorem dX7_compare_169 : decode cX7_compare 169 = .ok (.lsub, 1) := by decide +kernel
theorem dX7_compare_170 : decode cX7_compare 170 = .ok (.lstore 7, 2) := by decide +kernel
theorem dX7_compare_172 : decode cX7_compare 172 = .ok (.aload_n 0, 1) := by decide +kernel
theorem dX7_compare_173 : decode cX7_compare 173 = .ok (.lload 7, 2) := by decide +kernel
theorem dX7_compare_175 : decode cX7_compare 175 = .ok (.ldc2_w 175, 3) := by decide +kernel
theorem dX7_compare_178 : decode cX7_compare 178 = .ok (.iconst 1, 1) := by decide +kernel
theorem dX7_compare_179 : decode cX7_compare 179 = .ok (.invokevirtual 114, 3) := by decide +kernel
theorem dX7_compare_182 : decode cX7_compare 182 = .ok (.ireturn, 1) := by decide +kernel
set_option maxRecDepth 20000 in
theorem ggX7_isCertificate_X7_in : GoodIn wsX7_isCertificate wsX7_in := goodIn_r _ [5] (by decide +kernel) (by decide +kernel)
set_option maxRecDepth 20000 in
theorem gX7_isCertificate_X7_in : GoodIn wsX7_isCertificate (va_wsS RX7 93 yX7_in wsX7_in) := goodIn_app (goodIn_of _ (by decide +kernel)) ggX7_isCertificate_X7_in
theorem dX7_isCertificate_0 : decode cX7_isCertificate 0 = .ok (.iload_n 1, 1) := by decide +kernel
theorem dX7_isCertificate_1 : decode cX7_isCertificate 1 = .ok (.iconst 0, 1) := by decide +kernel
theorem dX7_isCertificate_2 : decode cX7_isCertificate 2 = .ok (.aload_n 0, 1) := by decide +kernel
theorem dX7_isCertificate_3 : decode cX7_isCertificate 3 = .ok (.getfield 147, 3) := by decide +kernel
theorem dX7_isCertificate_6 : decode cX7_isCertificate 6 = .ok (.iconst 1, 1) := by decide +kernel
theorem dX7_isCertificate_7 : decode cX7_isCertificate 7 = .ok (.isub, 1) := by decide +kernel
theorem dX7_isCertificate_8 : decode cX7_isCertificate 8 = .ok (.invokestatic 93, 3) := by decide +kernel
theorem dX7_isCertificate_11 : decode cX7_isCertificate 11 = .ok (.ireturn, 1) := by decide +kernel
set_option maxRecDepth 20000 in
theorem ggX7_isDay_X7_in : GoodIn wsX7_isDay wsX7_in := goodIn_r _ [5] (by decide +kernel) (by decide +kernel)
set_option maxRecDepth 20000 in
theorem gX7_isDay_X7_in : GoodIn wsX7_isDay (va_wsS RX7 93 yX7_in wsX7_in) := goodIn_app (goodIn_of _ (by decide +kernel)) ggX7_isDay_X7_in
theorem dX7_isDay_0 : decode cX7_isDay 0 = .ok (.iload_n 0, 1) := by decide +kernel
theorem dX7_isDay_1 : decode cX7_isDay 1 = .ok (.iconst 0, 1) := by decide +kernel
theorem dX7_isDay_2 : decode cX7_isDay 2 = .ok (.ldc 106, 2) := by decide +kernel
theorem dX7_isDay_4 : decode cX7_isDay 4 = .ok (.invokestatic 93, 3) := by decide +kernel
theorem dX7_isDay_7 : decode cX7_isDay 7 = .ok (.ireturn, 1) := by decide +kernel
set_option maxRecDepth 20000 in
theorem ggX7_certify_X7_isBulb : GoodIn wsX7_certify wsX7_isBulb := goodIn_r _ [13, 14, 15, 16, 12, 17, 27, 28, 29, 30, 31, 32, 33, 34, 35, 36, 37, 38, 39, 40, 41, 42, 43, 44, 45, 46, 47, 48, 49, 50, 51, 52, 53, 54, 55, 56] (by decide +kernel) (by decide +kernel)
set_option maxRecDepth 20000 in
theorem gX7_certify_X7_isBulb : GoodIn wsX7_certify (wsV RX7 157 RX7 yX7_isBulb wsX7_isBulb) := goodIn_app (goodIn_of _ (by decide +kernel)) ggX7_certify_X7_isBulb
set_option maxRecDepth 20000 in
theorem ggX7_certify_X7_in : GoodIn wsX7_certify wsX7_in := goodIn_r _ [17] (by decide +kernel) (by decide +kernel)
set_option maxRecDepth 20000 in
theorem gX7_certify_X7_in : GoodIn wsX7_certify (va_wsS RX7 93 yX7_in wsX7_in) := goodIn_app (goodIn_of _ (by decide +kernel)) ggX7_certify_X7_in
set_option maxRecDepth 20000 in
theorem ggX7_certify_X7_isDay : GoodIn wsX7_certify wsX7_isDay := goodIn_r _ [20, 21, 15, 16, 12, 17] (by decide +kernel) (by decide +kernel)
set_option maxRecDepth 20000 in
theorem gX7_certify_X7_isDay : GoodIn wsX7_certify (va_wsS RX7 177 yX7_isDay wsX7_isDay) := goodIn_app (goodIn_of _ (by decide +kernel)) ggX7_certify_X7_isDay
set_option maxRecDepth 20000 in
theorem ggX7_certify_X7_lastOf : GoodIn wsX7_certify wsX7_lastOf := goodIn_r _ [25, 2, 26, 5, 27, 28, 29, 30, 31, 32, 33, 34, 35, 36, 37, 38, 39, 40, 41, 42, 43, 44, 45, 46, 47, 48, 49, 50, 51, 52, 53, 54, 55, 56] (by decide +kernel) (by decide +kernel)
set_option maxRecDepth 20000 in
theorem gX7_certify_X7_lastOf : GoodIn wsX7_certify (wsV RX7 150 RX7 yX7_lastOf wsX7_lastOf) := goodIn_app (goodIn_of _ (by decide +kernel)) ggX7_certify_X7_lastOf
theorem dX7_certify_0 : decode cX7_certify 0 = .ok (.aload_n 0, 1) := by decide +kernel
theorem dX7_certify_1 : decode cX7_certify 1 = .ok (.iload_n 1, 1) := by decide +kernel
theorem dX7_certify_2 : decode cX7_certify 2 = .ok (.invokevirtual 157, 3) := by decide +kernel
theorem dX7_certify_5 : decode cX7_certify 5 = .ok (.ifCond .eq 66, 3) := by decide +kernel
theorem dX7_certify_8 : decode cX7_certify 8 = .ok (.iload_n 2, 1) := by decide +kernel
theorem dX7_certify_9 : decode cX7_certify 9 = .ok (.bipush (-9), 2) := by decide +kernel
theorem dX7_certify_11 : decode cX7_certify 11 = .ok (.if_icmp .eq 11, 3) := by decide +kernel
theorem dX7_certify_14 : decode cX7_certify 14 = .ok (.aload_n 0, 1) := by decide +kernel
theorem dX7_certify_15 : decode cX7_certify 15 = .ok (.iload_n 2, 1) := by decide +kernel
theorem dX7_certify_16 : decode cX7_certify 16 = .ok (.invokevirtual 157, 3) := by decide +kernel
theorem dX7_certify_19 : decode cX7_certify 19 = .ok (.ifCond .eq 52, 3) := by decide +kernel
theorem dX7_certify_22 : decode cX7_certify 22 = .ok (.iload_n 2, 1) := by decide +kernel
theorem dX7_certify_23 : decode cX7_certify 23 = .ok (.iload_n 1, 1) := by decide +kernel
theorem dX7_certify_24 : decode cX7_certify 24 = .ok (.if_icmp .eq 47, 3) := by decide +kernel
theorem dX7_certify_27 : decode cX7_certify 27 = .ok (.iload_n 3, 1) := by decide +kernel
theorem dX7_certify_28 : decode cX7_certify 28 = .ok (.iconst 0, 1) := by decide +kernel
theorem dX7_certify_29 : decode cX7_certify 29 = .ok (.bipush 7, 2) := by decide +kernel
theorem dX7_certify_31 : decode cX7_certify 31 = .ok (.invokestatic 93, 3) := by decide +kernel
theorem dX7_certify_34 : decode cX7_certify 34 = .ok (.ifCond .eq 37, 3) := by decide +kernel
theorem dX7_certify_37 : decode cX7_certify 37 = .ok (.iload 4, 2) := by decide +kernel
theorem dX7_certify_39 : decode cX7_certify 39 = .ok (.invokestatic 177, 3) := by decide +kernel
theorem dX7_certify_42 : decode cX7_certify 42 = .ok (.ifCond .eq 29, 3) := by decide +kernel
theorem dX7_certify_45 : decode cX7_certify 45 = .ok (.iload 5, 2) := by decide +kernel
theorem dX7_certify_47 : decode cX7_certify 47 = .ok (.sipush (-10000), 3) := by decide +kernel
theorem dX7_certify_50 : decode cX7_certify 50 = .ok (.sipush 10000, 3) := by decide +kernel
theorem dX7_certify_53 : decode cX7_certify 53 = .ok (.invokestatic 93, 3) := by decide +kernel
theorem dX7_certify_56 : decode cX7_certify 56 = .ok (.ifCond .eq 15, 3) := by decide +kernel
theorem dX7_certify_59 : decode cX7_certify 59 = .ok (.iload 6, 2) := by decide +kernel
theorem dX7_certify_61 : decode cX7_certify 61 = .ok (.iconst 0, 1) := by decide +kernel
theorem dX7_certify_62 : decode cX7_certify 62 = .ok (.sipush 10000, 3) := by decide +kernel
theorem dX7_certify_65 : decode cX7_certify 65 = .ok (.invokestatic 93, 3) := by decide +kernel
theorem dX7_certify_68 : decode cX7_certify 68 = .ok (.ifCond .ne 5, 3) := by decide +kernel
theorem dX7_certify_71 : decode cX7_certify 71 = .ok (.iconst (-1), 1) := by decide +kernel
theorem dX7_certify_72 : decode cX7_certify 72 = .ok (.ireturn, 1) := by decide +kernel
theorem dX7_certify_73 : decode cX7_certify 73 = .ok (.aload_n 0, 1) := by decide +kernel
theorem dX7_certify_74 : decode cX7_certify 74 = .ok (.getfield 147, 3) := by decide +kernel
theorem dX7_certify_77 : decode cX7_certify 77 = .ok (.bipush 40, 2) := by decide +kernel
theorem dX7_certify_79 : decode cX7_certify 79 = .ok (.if_icmp .ne 6, 3) := by decide +kernel
theorem dX7_certify_82 : decode cX7_certify 82 = .ok (.bipush (-2), 2) := by decide +kernel
theorem dX7_certify_84 : decode cX7_certify 84 = .ok (.ireturn, 1) := by decide +kernel
theorem dX7_certify_85 : decode cX7_certify 85 = .ok (.iload_n 2, 1) := by decide +kernel
theorem dX7_certify_86 : decode cX7_certify 86 = .ok (.bipush (-9), 2) := by decide +kernel
theorem dX7_certify_88 : decode cX7_certify 88 = .ok (.if_icmp .ne 8, 3) := by decide +kernel
theorem dX7_certify_91 : decode cX7_certify 91 = .ok (.bipush (-9), 2) := by decide +kernel
theorem dX7_certify_93 : decode cX7_certify 93 = .ok (.goto 14, 3) := by decide +kernel
theorem dX7_certify_96 : decode cX7_certify 96 = .ok (.aload_n 0, 1) := by decide +kernel
theorem dX7_certify_97 : decode cX7_certify 97 = .ok (.iload_n 2, 1) := by decide +kernel
theorem dX7_certify_98 : decode cX7_certify 98 = .ok (.iload 4, 2) := by decide +kernel
theorem dX7_certify_100 : decode cX7_certify 100 = .ok (.aload_n 0, 1) := by decide +kernel
theorem dX7_certify_101 : decode cX7_certify 101 = .ok (.getfield 147, 3) := by decide +kernel
theorem dX7_certify_104 : decode cX7_certify 104 = .ok (.invokevirtual 150, 3) := by decide +kernel
theorem dX7_certify_107 : decode cX7_certify 107 = .ok (.istore 7, 2) := by decide +kernel
theorem dX7_certify_109 : decode cX7_certify 109 = .ok (.iload_n 2, 1) := by decide +kernel
theorem dX7_certify_110 : decode cX7_certify 110 = .ok (.bipush (-9), 2) := by decide +kernel
theorem dX7_certify_112 : decode cX7_certify 112 = .ok (.if_icmp .eq 11, 3) := by decide +kernel
theorem dX7_certify_115 : decode cX7_certify 115 = .ok (.iload 7, 2) := by decide +kernel
theorem dX7_certify_117 : decode cX7_certify 117 = .ok (.ifCond .ge 6, 3) := by decide +kernel
theorem dX7_certify_120 : decode cX7_certify 120 = .ok (.bipush (-4), 2) := by decide +kernel
theorem dX7_certify_122 : decode cX7_certify 122 = .ok (.ireturn, 1) := by decide +kernel
theorem dX7_certify_123 : decode cX7_certify 123 = .ok (.aload_n 0, 1) := by decide +kernel
theorem dX7_certify_124 : decode cX7_certify 124 = .ok (.getfield 41, 3) := by decide +kernel
theorem dX7_certify_127 : decode cX7_certify 127 = .ok (.aload_n 0, 1) := by decide +kernel
theorem dX7_certify_128 : decode cX7_certify 128 = .ok (.getfield 147, 3) := by decide +kernel
theorem dX7_certify_131 : decode cX7_certify 131 = .ok (.iload_n 1, 1) := by decide +kernel
theorem dX7_certify_132 : decode cX7_certify 132 = .ok (.iastore, 1) := by decide +kernel
theorem dX7_certify_133 : decode cX7_certify 133 = .ok (.aload_n 0, 1) := by decide +kernel
theorem dX7_certify_134 : decode cX7_certify 134 = .ok (.getfield 44, 3) := by decide +kernel
theorem dX7_certify_137 : decode cX7_certify 137 = .ok (.aload_n 0, 1) := by decide +kernel
theorem dX7_certify_138 : decode cX7_certify 138 = .ok (.getfield 147, 3) := by decide +kernel
theorem dX7_certify_141 : decode cX7_certify 141 = .ok (.iload_n 2, 1) := by decide +kernel
theorem dX7_certify_142 : decode cX7_certify 142 = .ok (.iastore, 1) := by decide +kernel
theorem dX7_certify_143 : decode cX7_certify 143 = .ok (.aload_n 0, 1) := by decide +kernel
theorem dX7_certify_144 : decode cX7_certify 144 = .ok (.getfield 47, 3) := by decide +kernel
theorem dX7_certify_147 : decode cX7_certify 147 = .ok (.aload_n 0, 1) := by decide +kernel
theorem dX7_certify_148 : decode cX7_certify 148 = .ok (.getfield 147, 3) := by decide +kernel
theorem dX7_certify_151 : decode cX7_certify 151 = .ok (.iload_n 3, 1) := by decide +kernel
theorem dX7_certify_152 : decode cX7_certify 152 = .ok (.iastore, 1) := by decide +kernel
theorem dX7_certify_153 : decode cX7_certify 153 = .ok (.aload_n 0, 1) := by decide +kernel
theorem dX7_certify_154 : decode cX7_certify 154 = .ok (.getfield 50, 3) := by decide +kernel
theorem dX7_certify_157 : decode cX7_certify 157 = .ok (.aload_n 0, 1) := by decide +kernel
theorem dX7_certify_158 : decode cX7_certify 158 = .ok (.getfield 147, 3) := by decide +kernel
theorem dX7_certify_161 : decode cX7_certify 161 = .ok (.iload 4, 2) := by decide +kernel
theorem dX7_certify_163 : decode cX7_certify 163 = .ok (.iastore, 1) := by decide +kernel
theorem dX7_certify_164 : decode cX7_certify 164 = .ok (.aload_n 0, 1) := by decide +kernel
theorem dX7_certify_165 : decode cX7_certify 165 = .ok (.getfield 53, 3) := by decide +kernel
theorem dX7_certify_168 : decode cX7_certify 168 = .ok (.aload_n 0, 1) := by decide +kernel
theorem dX7_certify_169 : decode cX7_certify 169 = .ok (.getfield 147, 3) := by decide +kernel
theorem dX7_certify_172 : decode cX7_certify 172 = .ok (.iload 5, 2) := by decide +kernel
theorem dX7_certify_174 : decode cX7_certify 174 = .ok (.iastore, 1) := by decide +kernel
theorem dX7_certify_175 : decode cX7_certify 175 = .ok (.aload_n 0, 1) := by decide +kernel
theorem dX7_certify_176 : decode cX7_certify 176 = .ok (.getfield 56, 3) := by decide +kernel
theorem dX7_certify_179 : decode cX7_certify 179 = .ok (.aload_n 0, 1) := by decide +kernel
theorem dX7_certify_180 : decode cX7_certify 180 = .ok (.getfield 147, 3) := by decide +kernel
theorem dX7_certify_183 : decode cX7_certify 183 = .ok (.iload 6, 2) := by decide +kernel
theorem dX7_certify_185 : decode cX7_certify 185 = .ok (.iastore, 1) := by decide +kernel
theorem dX7_certify_186 : decode cX7_certify 186 = .ok (.aload_n 0, 1) := by decide +kernel
theorem dX7_certify_187 : decode cX7_certify 187 = .ok (.getfield 59, 3) := by decide +kernel
theorem dX7_certify_190 : decode cX7_certify 190 = .ok (.aload_n 0, 1) := by decide +kernel
theorem dX7_certify_191 : decode cX7_certify 191 = .ok (.getfield 147, 3) := by decide +kernel
theorem dX7_certify_194 : decode cX7_certify 194 = .ok (.iload 7, 2) := by decide +kernel
theorem dX7_certify_196 : decode cX7_certify 196 = .ok (.iastore, 1) := by decide +kernel
theorem dX7_certify_197 : decode cX7_certify 197 = .ok (.aload_n 0, 1) := by decide +kernel
theorem dX7_certify_198 : decode cX7_certify 198 = .ok (.dup, 1) := by decide +kernel
theorem dX7_certify_199 : decode cX7_certify 199 = .ok (.getfield 147, 3) := by decide +kernel
theorem dX7_certify_202 : decode cX7_certify 202 = .ok (.iconst 1, 1) := by decide +kernel
theorem dX7_certify_203 : decode cX7_certify 203 = .ok (.iadd, 1) := by decide +kernel
theorem dX7_certify_204 : decode cX7_certify 204 = .ok (.putfield 147, 3) := by decide +kernel
theorem dX7_certify_207 : decode cX7_certify 207 = .ok (.aload_n 0, 1) := by decide +kernel
theorem dX7_certify_208 : decode cX7_certify 208 = .ok (.getfield 147, 3) := by decide +kernel
theorem dX7_certify_211 : decode cX7_certify 211 = .ok (.iconst 1, 1) := by decide +kernel
theorem dX7_certify_212 : decode cX7_certify 212 = .ok (.isub, 1) := by decide +kernel
theorem dX7_certify_213 : decode cX7_certify 213 = .ok (.ireturn, 1) := by decide +kernel
theorem dX7_tellsOf_0 : decode cX7_tellsOf 0 = .ok (.iload_n 2, 1) := by decide +kernel
theorem dX7_tellsOf_1 : decode cX7_tellsOf 1 = .ok (.tableswitch 89 0 5 #[39, 46, 53, 60, 67, 74], 39) := by decide +kernel
theorem dX7_tellsOf_40 : decode cX7_tellsOf 40 = .ok (.aload_n 0, 1) := by decide +kernel
theorem dX7_tellsOf_41 : decode cX7_tellsOf 41 = .ok (.getfield 41, 3) := by decide +kernel
theorem dX7_tellsOf_44 : decode cX7_tellsOf 44 = .ok (.iload_n 1, 1) := by decide +kernel
theorem dX7_tellsOf_45 : decode cX7_tellsOf 45 = .ok (.iaload, 1) := by decide +kernel
theorem dX7_tellsOf_46 : decode cX7_tellsOf 46 = .ok (.ireturn, 1) := by decide +kernel
theorem dX7_tellsOf_47 : decode cX7_tellsOf 47 = .ok (.aload_n 0, 1) := by decide +kernel
theorem dX7_tellsOf_48 : decode cX7_tellsOf 48 = .ok (.getfield 44, 3) := by decide +kernel
theorem dX7_tellsOf_51 : decode cX7_tellsOf 51 = .ok (.iload_n 1, 1) := by decide +kernel
theorem dX7_tellsOf_52 : decode cX7_tellsOf 52 = .ok (.iaload, 1) := by decide +kernel
theorem dX7_tellsOf_53 : decode cX7_tellsOf 53 = .ok (.ireturn, 1) := by decide +kernel
theorem dX7_tellsOf_54 : decode cX7_tellsOf 54 = .ok (.aload_n 0, 1) := by decide +kernel
theorem dX7_tellsOf_55 : decode cX7_tellsOf 55 = .ok (.getfield 47, 3) := by decide +kernel
theorem dX7_tellsOf_58 : decode cX7_tellsOf 58 = .ok (.iload_n 1, 1) := by decide +kernel
theorem dX7_tellsOf_59 : decode cX7_tellsOf 59 = .ok (.iaload, 1) := by decide +kernel
theorem dX7_tellsOf_60 : decode cX7_tellsOf 60 = .ok (.ireturn, 1) := by decide +kernel
theorem dX7_tellsOf_61 : decode cX7_tellsOf 61 = .ok (.aload_n 0, 1) := by decide +kernel
theorem dX7_tellsOf_62 : decode cX7_tellsOf 62 = .ok (.getfield 50, 3) := by decide +kernel
theorem dX7_tellsOf_65 : decode cX7_tellsOf 65 = .ok (.iload_n 1, 1) := by decide +kernel
theorem dX7_tellsOf_66 : decode cX7_tellsOf 66 = .ok (.iaload, 1) := by decide +kernel
theorem dX7_tellsOf_67 : decode cX7_tellsOf 67 = .ok (.ireturn, 1) := by decide +kernel
theorem dX7_tellsOf_68 : decode cX7_tellsOf 68 = .ok (.aload_n 0, 1) := by decide +kernel
theorem dX7_tellsOf_69 : decode cX7_tellsOf 69 = .ok (.getfield 56, 3) := by decide +kernel
theorem dX7_tellsOf_72 : decode cX7_tellsOf 72 = .ok (.iload_n 1, 1) := by decide +kernel
theorem dX7_tellsOf_73 : decode cX7_tellsOf 73 = .ok (.iaload, 1) := by decide +kernel
theorem dX7_tellsOf_74 : decode cX7_tellsOf 74 = .ok (.ireturn, 1) := by decide +kernel
theorem dX7_tellsOf_75 : decode cX7_tellsOf 75 = .ok (.aload_n 0, 1) := by decide +kernel
theorem dX7_tellsOf_76 : decode cX7_tellsOf 76 = .ok (.getfield 62, 3) := by decide +kernel
theorem dX7_tellsOf_79 : decode cX7_tellsOf 79 = .ok (.iload_n 1, 1) := by decide +kernel
theorem dX7_tellsOf_80 : decode cX7_tellsOf 80 = .ok (.baload, 1) := by decide +kernel
theorem dX7_tellsOf_81 : decode cX7_tellsOf 81 = .ok (.ifCond .eq 7, 3) := by decide +kernel
theorem dX7_tellsOf_84 : decode cX7_tellsOf 84 = .ok (.iconst 1, 1) := by decide +kernel
theorem dX7_tellsOf_85 : decode cX7_tellsOf 85 = .ok (.goto 4, 3) := by decide +kernel
theorem dX7_tellsOf_88 : decode cX7_tellsOf 88 = .ok (.iconst 0, 1) := by decide +kernel
theorem dX7_tellsOf_89 : decode cX7_tellsOf 89 = .ok (.ireturn, 1) := by decide +kernel
theorem dX7_tellsOf_90 : decode cX7_tellsOf 90 = .ok (.aload_n 0, 1) := by decide +kernel
theorem dX7_tellsOf_91 : decode cX7_tellsOf 91 = .ok (.getfield 59, 3) := by decide +kernel
theorem dX7_tellsOf_94 : decode cX7_tellsOf 94 = .ok (.iload_n 1, 1) := by decide +kernel
theorem dX7_tellsOf_95 : decode cX7_tellsOf 95 = .ok (.iaload, 1) := by decide +kernel
theorem dX7_tellsOf_96 : decode cX7_tellsOf 96 = .ok (.ireturn, 1) := by decide +kernel
set_option maxRecDepth 20000 in
theorem ggX7_certificate_X7_isCertificate : GoodIn wsX7_certificate wsX7_isCertificate := goodIn_r _ [5, 6, 7, 8, 4, 9, 21, 22, 23, 24, 25, 26, 27, 28, 29, 30, 31, 32, 33, 34, 35, 36, 37, 38, 39, 40, 41, 42, 43, 44, 45, 46, 47, 48, 49, 50] (by decide +kernel) (by decide +kernel)
set_option maxRecDepth 20000 in
theorem gX7_certificate_X7_isCertificate : GoodIn wsX7_certificate (wsV RX7 180 RX7 yX7_isCertificate wsX7_isCertificate) := goodIn_app (goodIn_of _ (by decide +kernel)) ggX7_certificate_X7_isCertificate
set_option maxRecDepth 20000 in
theorem ggX7_certificate_X7_in : GoodIn wsX7_certificate wsX7_in := goodIn_r _ [9] (by decide +kernel) (by decide +kernel)
set_option maxRecDepth 20000 in
theorem gX7_certificate_X7_in : GoodIn wsX7_certificate (va_wsS RX7 93 yX7_in wsX7_in) := goodIn_app (goodIn_of _ (by decide +kernel)) ggX7_certificate_X7_in
set_option maxRecDepth 20000 in
theorem ggX7_certificate_X7_tellsOf : GoodIn wsX7_certificate wsX7_tellsOf := goodIn_r _ [13, 14, 15, 16, 17, 18, 19, 20, 21, 22, 23, 24, 25, 26, 27, 28, 29, 30, 31, 32, 33, 34, 35, 36, 37, 38, 39, 40, 41, 42, 43, 44, 45, 46, 47, 48, 49, 50] (by decide +kernel) (by decide +kernel)
set_option maxRecDepth 20000 in
theorem gX7_certificate_X7_tellsOf : GoodIn wsX7_certificate (wsV RX7 183 RX7 yX7_tellsOf wsX7_tellsOf) := goodIn_app (goodIn_of _ (by decide +kernel)) ggX7_certificate_X7_tellsOf
theorem dX7_certificate_0 : decode cX7_certificate 0 = .ok (.aload_n 0, 1) := by decide +kernel
theorem dX7_certificate_1 : decode cX7_certificate 1 = .ok (.iload_n 1, 1) := by decide +kernel
theorem dX7_certificate_2 : decode cX7_certificate 2 = .ok (.invokevirtual 180, 3) := by decide +kernel
theorem dX7_certificate_5 : decode cX7_certificate 5 = .ok (.ifCond .eq 22, 3) := by decide +kernel
theorem dX7_certificate_8 : decode cX7_certificate 8 = .ok (.iload_n 2, 1) := by decide +kernel
theorem dX7_certificate_9 : decode cX7_certificate 9 = .ok (.iconst 0, 1) := by decide +kernel
theorem dX7_certificate_10 : decode cX7_certificate 10 = .ok (.bipush 6, 2) := by decide +kernel
theorem dX7_certificate_12 : decode cX7_certificate 12 = .ok (.invokestatic 93, 3) := by decide +kernel
theorem dX7_certificate_15 : decode cX7_certificate 15 = .ok (.ifCond .eq 12, 3) := by decide +kernel
theorem dX7_certificate_18 : decode cX7_certificate 18 = .ok (.aload_n 0, 1) := by decide +kernel
theorem dX7_certificate_19 : decode cX7_certificate 19 = .ok (.iload_n 1, 1) := by decide +kernel
theorem dX7_certificate_20 : decode cX7_certificate 20 = .ok (.iload_n 2, 1) := by decide +kernel
theorem dX7_certificate_21 : decode cX7_certificate 21 = .ok (.invokevirtual 183, 3) := by decide +kernel
theorem dX7_certificate_24 : decode cX7_certificate 24 = .ok (.goto 4, 3) := by decide +kernel
theorem dX7_certificate_27 : decode cX7_certificate 27 = .ok (.iconst (-1), 1) := by decide +kernel
theorem dX7_certificate_28 : decode cX7_certificate 28 = .ok (.ireturn, 1) := by decide +kernel
set_option maxRecDepth 20000 in
theorem ggX7_offset_X7_isCertificate : GoodIn wsX7_offset wsX7_isCertificate := goodIn_r _ [6, 7, 8, 9, 5, 10, 16, 17, 18, 19, 20, 21, 22, 23, 24, 25, 26, 27, 28, 29, 30, 31, 32, 33, 34, 35, 36, 37, 38, 39, 40, 41, 42, 43, 44, 45] (by decide +kernel) (by decide +kernel)
set_option maxRecDepth 20000 in
theorem gX7_offset_X7_isCertificate : GoodIn wsX7_offset (wsV RX7 180 RX7 yX7_isCertificate wsX7_isCertificate) := goodIn_app (goodIn_of _ (by decide +kernel)) ggX7_offset_X7_isCertificate
set_option maxRecDepth 20000 in
theorem ggX7_offset_X7_ask : GoodIn wsX7_offset wsX7_ask := goodIn_r _ [14, 15, 16, 17, 18, 19, 20, 21, 22, 23, 24, 25, 26, 27, 28, 29, 30, 31, 32, 33, 34, 35, 36, 37, 38, 39, 40, 41, 42, 43, 44, 45] (by decide +kernel) (by decide +kernel)
set_option maxRecDepth 20000 in
theorem gX7_offset_X7_ask : GoodIn wsX7_offset (wsV RX7 110 RX7 yX7_ask wsX7_ask) := goodIn_app (goodIn_of _ (by decide +kernel)) ggX7_offset_X7_ask
theorem dX7_offset_0 : decode cX7_offset 0 = .ok (.aload_n 0, 1) := by decide +kernel
theorem dX7_offset_1 : decode cX7_offset 1 = .ok (.iload_n 1, 1) := by decide +kernel
theorem dX7_offset_2 : decode cX7_offset 2 = .ok (.invokevirtual 180, 3) := by decide +kernel
theorem dX7_offset_5 : decode cX7_offset 5 = .ok (.ifCond .eq 18, 3) := by decide +kernel
theorem dX7_offset_8 : decode cX7_offset 8 = .ok (.aload_n 0, 1) := by decide +kernel
theorem dX7_offset_9 : decode cX7_offset 9 = .ok (.aload_n 0, 1) := by decide +kernel
theorem dX7_offset_10 : decode cX7_offset 10 = .ok (.getfield 53, 3) := by decide +kernel
theorem dX7_offset_13 : decode cX7_offset 13 = .ok (.iload_n 1, 1) := by decide +kernel
theorem dX7_offset_14 : decode cX7_offset 14 = .ok (.iaload, 1) := by decide +kernel
theorem dX7_offset_15 : decode cX7_offset 15 = .ok (.i2l, 1) := by decide +kernel
theorem dX7_offset_16 : decode cX7_offset 16 = .ok (.iconst 1, 1) := by decide +kernel
theorem dX7_offset_17 : decode cX7_offset 17 = .ok (.invokevirtual 110, 3) := by decide +kernel
theorem dX7_offset_20 : decode cX7_offset 20 = .ok (.goto 4, 3) := by decide +kernel
theorem dX7_offset_23 : decode cX7_offset 23 = .ok (.iconst (-1), 1) := by decide +kernel
theorem dX7_offset_24 : decode cX7_offset 24 = .ok (.ireturn, 1) := by decide +kernel
set_option maxRecDepth 20000 in
theorem ggX7_wrong_X7_in : GoodIn wsX7_wrong wsX7_in := goodIn_r _ [9] (by decide +kernel) (by decide +kernel)
set_option maxRecDepth 20000 in
theorem gX7_wrong_X7_in : GoodIn wsX7_wrong (va_wsS RX7 93 yX7_in wsX7_in) := goodIn_app (goodIn_of _ (by decide +kernel)) ggX7_wrong_X7_in
set_option maxRecDepth 20000 in
theorem ggX7_wrong_X7_isDay : GoodIn wsX7_wrong wsX7_isDay := goodIn_r _ [12, 13, 6, 7, 8, 9] (by decide +kernel) (by decide +kernel)
set_option maxRecDepth 20000 in
theorem gX7_wrong_X7_isDay : GoodIn wsX7_wrong (va_wsS RX7 177 yX7_isDay wsX7_isDay) := goodIn_app (goodIn_of _ (by decide +kernel)) ggX7_wrong_X7_isDay
theorem dX7_wrong_0 : decode cX7_wrong 0 = .ok (.iload_n 1, 1) := by decide +kernel
theorem dX7_wrong_1 : decode cX7_wrong 1 = .ok (.iconst 0, 1) := by decide +kernel
theorem dX7_wrong_2 : decode cX7_wrong 2 = .ok (.bipush 7, 2) := by decide +kernel
theorem dX7_wrong_4 : decode cX7_wrong 4 = .ok (.invokestatic 93, 3) := by decide +kernel
theorem dX7_wrong_7 : decode cX7_wrong 7 = .ok (.ifCond .eq 22, 3) := by decide +kernel
theorem dX7_wrong_10 : decode cX7_wrong 10 = .ok (.iload_n 2, 1) := by decide +kernel
theorem dX7_wrong_11 : decode cX7_wrong 11 = .ok (.invokestatic 177, 3) := by decide +kernel
theorem dX7_wrong_14 : decode cX7_wrong 14 = .ok (.ifCond .eq 15, 3) := by decide +kernel
theorem dX7_wrong_17 : decode cX7_wrong 17 = .ok (.iload_n 3, 1) := by decide +kernel
theorem dX7_wrong_18 : decode cX7_wrong 18 = .ok (.invokestatic 177, 3) := by decide +kernel
theorem dX7_wrong_21 : decode cX7_wrong 21 = .ok (.ifCond .eq 8, 3) := by decide +kernel
theorem dX7_wrong_24 : decode cX7_wrong 24 = .ok (.iload_n 2, 1) := by decide +kernel
theorem dX7_wrong_25 : decode cX7_wrong 25 = .ok (.iload_n 3, 1) := by decide +kernel
theorem dX7_wrong_26 : decode cX7_wrong 26 = .ok (.if_icmp .le 5, 3) := by decide +kernel
theorem dX7_wrong_29 : decode cX7_wrong 29 = .ok (.iconst (-1), 1) := by decide +kernel
theorem dX7_wrong_30 : decode cX7_wrong 30 = .ok (.ireturn, 1) := by decide +kernel
theorem dX7_wrong_31 : decode cX7_wrong 31 = .ok (.iconst 0, 1) := by decide +kernel
theorem dX7_wrong_32 : decode cX7_wrong 32 = .ok (.istore 4, 2) := by decide +kernel
theorem dX7_wrong_34 : decode cX7_wrong 34 = .ok (.iconst 0, 1) := by decide +kernel
theorem dX7_wrong_35 : decode cX7_wrong 35 = .ok (.istore 5, 2) := by decide +kernel
theorem dX7_wrong_37 : decode cX7_wrong 37 = .ok (.iload 5, 2) := by decide +kernel
theorem dX7_wrong_39 : decode cX7_wrong 39 = .ok (.aload_n 0, 1) := by decide +kernel
theorem dX7_wrong_40 : decode cX7_wrong 40 = .ok (.getfield 147, 3) := by decide +kernel
theorem dX7_wrong_43 : decode cX7_wrong 43 = .ok (.if_icmp .ge 119, 3) := by decide +kernel
theorem dX7_wrong_46 : decode cX7_wrong 46 = .ok (.aload_n 0, 1) := by decide +kernel
theorem dX7_wrong_47 : decode cX7_wrong 47 = .ok (.getfield 47, 3) := by decide +kernel
theorem dX7_wrong_50 : decode cX7_wrong 50 = .ok (.iload 5, 2) := by decide +kernel
theorem dX7_wrong_52 : decode cX7_wrong 52 = .ok (.iaload, 1) := by decide +kernel
theorem dX7_wrong_53 : decode cX7_wrong 53 = .ok (.iload_n 1, 1) := by decide +kernel
theorem dX7_wrong_54 : decode cX7_wrong 54 = .ok (.if_icmp .ne 18, 3) := by decide +kernel
theorem dX7_wrong_57 : decode cX7_wrong 57 = .ok (.aload_n 0, 1) := by decide +kernel
theorem dX7_wrong_58 : decode cX7_wrong 58 = .ok (.getfield 50, 3) := by decide +kernel
theorem dX7_wrong_61 : decode cX7_wrong 61 = .ok (.iload 5, 2) := by decide +kernel
theorem dX7_wrong_63 : decode cX7_wrong 63 = .ok (.iaload, 1) := by decide +kernel
theorem dX7_wrong_64 : decode cX7_wrong 64 = .ok (.iload_n 2, 1) := by decide +kernel
theorem dX7_wrong_65 : decode cX7_wrong 65 = .ok (.iload_n 3, 1) := by decide +kernel
theorem dX7_wrong_66 : decode cX7_wrong 66 = .ok (.invokestatic 93, 3) := by decide +kernel
theorem dX7_wrong_69 : decode cX7_wrong 69 = .ok (.ifCond .ne 28, 3) := by decide +kernel
theorem dX7_wrong_72 : decode cX7_wrong 72 = .ok (.aload_n 0, 1) := by decide +kernel
theorem dX7_wrong_73 : decode cX7_wrong 73 = .ok (.getfield 59, 3) := by decide +kernel
theorem dX7_wrong_76 : decode cX7_wrong 76 = .ok (.iload 5, 2) := by decide +kernel
theorem dX7_wrong_78 : decode cX7_wrong 78 = .ok (.iaload, 1) := by decide +kernel
theorem dX7_wrong_79 : decode cX7_wrong 79 = .ok (.ifCond .lt 22, 3) := by decide +kernel
theorem dX7_wrong_82 : decode cX7_wrong 82 = .ok (.aload_n 0, 1) := by decide +kernel
theorem dX7_wrong_83 : decode cX7_wrong 83 = .ok (.getfield 62, 3) := by decide +kernel
theorem dX7_wrong_86 : decode cX7_wrong 86 = .ok (.aload_n 0, 1) := by decide +kernel
theorem dX7_wrong_87 : decode cX7_wrong 87 = .ok (.getfield 59, 3) := by decide +kernel
theorem dX7_wrong_90 : decode cX7_wrong 90 = .ok (.iload 5, 2) := by decide +kernel
theorem dX7_wrong_92 : decode cX7_wrong 92 = .ok (.iaload, 1) := by decide +kernel
theorem dX7_wrong_93 : decode cX7_wrong 93 = .ok (.baload, 1) := by decide +kernel
theorem dX7_wrong_94 : decode cX7_wrong 94 = .ok (.ifCond .eq 7, 3) := by decide +kernel
theorem dX7_wrong_97 : decode cX7_wrong 97 = .ok (.iconst 1, 1) := by decide +kernel
theorem dX7_wrong_98 : decode cX7_wrong 98 = .ok (.goto 4, 3) := by decide +kernel
theorem dX7_wrong_101 : decode cX7_wrong 101 = .ok (.iconst 0, 1) := by decide +kernel
theorem dX7_wrong_102 : decode cX7_wrong 102 = .ok (.istore 6, 2) := by decide +kernel
theorem dX7_wrong_104 : decode cX7_wrong 104 = .ok (.iload 4, 2) := by decide +kernel
theorem dX7_wrong_106 : decode cX7_wrong 106 = .ok (.iload 6, 2) := by decide +kernel
theorem dX7_wrong_108 : decode cX7_wrong 108 = .ok (.ifCond .eq 17, 3) := by decide +kernel
theorem dX7_wrong_111 : decode cX7_wrong 111 = .ok (.aload_n 0, 1) := by decide +kernel
theorem dX7_wrong_112 : decode cX7_wrong 112 = .ok (.getfield 62, 3) := by decide +kernel
theorem dX7_wrong_115 : decode cX7_wrong 115 = .ok (.iload 5, 2) := by decide +kernel
theorem dX7_wrong_117 : decode cX7_wrong 117 = .ok (.baload, 1) := by decide +kernel
theorem dX7_wrong_118 : decode cX7_wrong 118 = .ok (.ifCond .ne 7, 3) := by decide +kernel
theorem dX7_wrong_121 : decode cX7_wrong 121 = .ok (.iconst 1, 1) := by decide +kernel
theorem dX7_wrong_122 : decode cX7_wrong 122 = .ok (.goto 4, 3) := by decide +kernel
theorem dX7_wrong_125 : decode cX7_wrong 125 = .ok (.iconst 0, 1) := by decide +kernel
theorem dX7_wrong_126 : decode cX7_wrong 126 = .ok (.iadd, 1) := by decide +kernel
theorem dX7_wrong_127 : decode cX7_wrong 127 = .ok (.istore 4, 2) := by decide +kernel
theorem dX7_wrong_129 : decode cX7_wrong 129 = .ok (.aload_n 0, 1) := by decide +kernel
theorem dX7_wrong_130 : decode cX7_wrong 130 = .ok (.getfield 62, 3) := by decide +kernel
theorem dX7_wrong_133 : decode cX7_wrong 133 = .ok (.iload 5, 2) := by decide +kernel
theorem dX7_wrong_135 : decode cX7_wrong 135 = .ok (.aload_n 0, 1) := by decide +kernel
theorem dX7_wrong_136 : decode cX7_wrong 136 = .ok (.getfield 62, 3) := by decide +kernel
theorem dX7_wrong_139 : decode cX7_wrong 139 = .ok (.iload 5, 2) := by decide +kernel
theorem dX7_wrong_141 : decode cX7_wrong 141 = .ok (.baload, 1) := by decide +kernel
theorem dX7_wrong_142 : decode cX7_wrong 142 = .ok (.ifCond .ne 8, 3) := by decide +kernel
theorem dX7_wrong_145 : decode cX7_wrong 145 = .ok (.iload 6, 2) := by decide +kernel
theorem dX7_wrong_147 : decode cX7_wrong 147 = .ok (.ifCond .eq 7, 3) := by decide +kernel
theorem dX7_wrong_150 : decode cX7_wrong 150 = .ok (.iconst 1, 1) := by decide +kernel
theorem dX7_wrong_151 : decode cX7_wrong 151 = .ok (.goto 4, 3) := by decide +kernel
theorem dX7_wrong_154 : decode cX7_wrong 154 = .ok (.iconst 0, 1) := by decide +kernel
theorem dX7_wrong_155 : decode cX7_wrong 155 = .ok (.bastore, 1) := by decide +kernel
theorem dX7_wrong_156 : decode cX7_wrong 156 = .ok (.iinc 5 1, 3) := by decide +kernel
theorem dX7_wrong_159 : decode cX7_wrong 159 = .ok (.goto (-122), 3) := by decide +kernel
theorem dX7_wrong_162 : decode cX7_wrong 162 = .ok (.iload 4, 2) := by decide +kernel
theorem dX7_wrong_164 : decode cX7_wrong 164 = .ok (.ireturn, 1) := by decide +kernel
set_option maxRecDepth 20000 in
theorem ggX7_passes_X7_isBulb : GoodIn wsX7_passes wsX7_isBulb := goodIn_r _ [8, 9, 10, 11, 7, 12, 29, 30, 31, 32, 33, 34, 35, 36, 37, 38, 39, 40, 41, 42, 43, 44, 45, 46, 47, 48, 49, 50, 51, 52, 53, 54, 55, 56, 57, 58] (by decide +kernel) (by decide +kernel)
set_option maxRecDepth 20000 in
theorem gX7_passes_X7_isBulb : GoodIn wsX7_passes (wsV RX7 157 RX7 yX7_isBulb wsX7_isBulb) := goodIn_app (goodIn_of _ (by decide +kernel)) ggX7_passes_X7_isBulb
set_option maxRecDepth 20000 in
theorem ggX7_passes_X7_latestOf : GoodIn wsX7_passes wsX7_latestOf := goodIn_r _ [16, 17, 18, 19, 20, 21, 7, 22, 23, 24, 25, 29, 30, 31, 32, 33, 34, 35, 36, 37, 38, 39, 40, 41, 42, 43, 44, 45, 46, 47, 48, 49, 50, 51, 52, 53, 54, 55, 56, 57, 58] (by decide +kernel) (by decide +kernel)
set_option maxRecDepth 20000 in
theorem gX7_passes_X7_latestOf : GoodIn wsX7_passes (wsV RX7 154 RX7 yX7_latestOf wsX7_latestOf) := goodIn_app (goodIn_of _ (by decide +kernel)) ggX7_passes_X7_latestOf
set_option maxRecDepth 20000 in
theorem ggX7_passes_X7_size : GoodIn wsX7_passes wsX7_size := goodIn_r _ [28] (by decide +kernel) (by decide +kernel)
set_option maxRecDepth 20000 in
theorem gX7_passes_X7_size : GoodIn wsX7_passes (va_wsS RX7 79 yX7_size wsX7_size) := goodIn_app (goodIn_of _ (by decide +kernel)) ggX7_passes_X7_size
theorem dX7_passes_0 : decode cX7_passes 0 = .ok (.aload_n 0, 1) := by decide +kernel
theorem dX7_passes_1 : decode cX7_passes 1 = .ok (.iload_n 1, 1) := by decide +kernel
theorem dX7_passes_2 : decode cX7_passes 2 = .ok (.invokevirtual 157, 3) := by decide +kernel
theorem dX7_passes_5 : decode cX7_passes 5 = .ok (.ifCond .ne 5, 3) := by decide +kernel
theorem dX7_passes_8 : decode cX7_passes 8 = .ok (.iconst (-1), 1) := by decide +kernel
theorem dX7_passes_9 : decode cX7_passes 9 = .ok (.ireturn, 1) := by decide +kernel
theorem dX7_passes_10 : decode cX7_passes 10 = .ok (.aload_n 0, 1) := by decide +kernel
theorem dX7_passes_11 : decode cX7_passes 11 = .ok (.iload_n 1, 1) := by decide +kernel
theorem dX7_passes_12 : decode cX7_passes 12 = .ok (.invokevirtual 154, 3) := by decide +kernel
theorem dX7_passes_15 : decode cX7_passes 15 = .ok (.istore_n 2, 1) := by decide +kernel
theorem dX7_passes_16 : decode cX7_passes 16 = .ok (.iload_n 2, 1) := by decide +kernel
theorem dX7_passes_17 : decode cX7_passes 17 = .ok (.ifCond .ge 8, 3) := by decide +kernel
theorem dX7_passes_20 : decode cX7_passes 20 = .ok (.bipush (-4), 2) := by decide +kernel
theorem dX7_passes_22 : decode cX7_passes 22 = .ok (.goto 37, 3) := by decide +kernel
theorem dX7_passes_25 : decode cX7_passes 25 = .ok (.aload_n 0, 1) := by decide +kernel
theorem dX7_passes_26 : decode cX7_passes 26 = .ok (.getfield 53, 3) := by decide +kernel
theorem dX7_passes_29 : decode cX7_passes 29 = .ok (.iload_n 2, 1) := by decide +kernel
theorem dX7_passes_30 : decode cX7_passes 30 = .ok (.iaload, 1) := by decide +kernel
theorem dX7_passes_31 : decode cX7_passes 31 = .ok (.i2l, 1) := by decide +kernel
theorem dX7_passes_32 : decode cX7_passes 32 = .ok (.invokestatic 79, 3) := by decide +kernel
theorem dX7_passes_35 : decode cX7_passes 35 = .ok (.aload_n 0, 1) := by decide +kernel
theorem dX7_passes_36 : decode cX7_passes 36 = .ok (.getfield 56, 3) := by decide +kernel
theorem dX7_passes_39 : decode cX7_passes 39 = .ok (.iload_n 2, 1) := by decide +kernel
theorem dX7_passes_40 : decode cX7_passes 40 = .ok (.iaload, 1) := by decide +kernel
theorem dX7_passes_41 : decode cX7_passes 41 = .ok (.i2l, 1) := by decide +kernel
theorem dX7_passes_42 : decode cX7_passes 42 = .ok (.ladd, 1) := by decide +kernel
theorem dX7_passes_43 : decode cX7_passes 43 = .ok (.aload_n 0, 1) := by decide +kernel
theorem dX7_passes_44 : decode cX7_passes 44 = .ok (.getfield 38, 3) := by decide +kernel
theorem dX7_passes_47 : decode cX7_passes 47 = .ok (.iload_n 1, 1) := by decide +kernel
theorem dX7_passes_48 : decode cX7_passes 48 = .ok (.iaload, 1) := by decide +kernel
theorem dX7_passes_49 : decode cX7_passes 49 = .ok (.i2l, 1) := by decide +kernel
theorem dX7_passes_50 : decode cX7_passes 50 = .ok (.lcmp, 1) := by decide +kernel
theorem dX7_passes_51 : decode cX7_passes 51 = .ok (.ifCond .gt 7, 3) := by decide +kernel
theorem dX7_passes_54 : decode cX7_passes 54 = .ok (.iconst 1, 1) := by decide +kernel
theorem dX7_passes_55 : decode cX7_passes 55 = .ok (.goto 4, 3) := by decide +kernel
theorem dX7_passes_58 : decode cX7_passes 58 = .ok (.iconst 0, 1) := by decide +kernel
theorem dX7_passes_59 : decode cX7_passes 59 = .ok (.ireturn, 1) := by decide +kernel
set_option maxRecDepth 20000 in
theorem ggX7_whole_X7_isCertificate : GoodIn wsX7_whole wsX7_isCertificate := goodIn_r _ [7, 8, 9, 10, 6, 11, 17, 18, 19, 20, 21, 22, 23, 24, 25, 26, 27, 28, 29, 30, 31, 32, 33, 34, 35, 36, 37, 38, 39, 40, 41, 42, 43, 44, 45, 46] (by decide +kernel) (by decide +kernel)
set_option maxRecDepth 20000 in
theorem gX7_whole_X7_isCertificate : GoodIn wsX7_whole (wsV RX7 180 RX7 yX7_isCertificate wsX7_isCertificate) := goodIn_app (goodIn_of _ (by decide +kernel)) ggX7_whole_X7_isCertificate
set_option maxRecDepth 20000 in
theorem ggX7_whole_X7_ask : GoodIn wsX7_whole wsX7_ask := goodIn_r _ [15, 16, 17, 18, 19, 20, 21, 22, 23, 24, 25, 26, 27, 28, 29, 30, 31, 32, 33, 34, 35, 36, 37, 38, 39, 40, 41, 42, 43, 44, 45, 46] (by decide +kernel) (by decide +kernel)
set_option maxRecDepth 20000 in
theorem gX7_whole_X7_ask : GoodIn wsX7_whole (wsV RX7 110 RX7 yX7_ask wsX7_ask) := goodIn_app (goodIn_of _ (by decide +kernel)) ggX7_whole_X7_ask
theorem dX7_whole_0 : decode cX7_whole 0 = .ok (.aload_n 0, 1) := by decide +kernel
theorem dX7_whole_1 : decode cX7_whole 1 = .ok (.iload_n 1, 1) := by decide +kernel
theorem dX7_whole_2 : decode cX7_whole 2 = .ok (.invokevirtual 180, 3) := by decide +kernel
theorem dX7_whole_5 : decode cX7_whole 5 = .ok (.ifCond .ne 5, 3) := by decide +kernel
theorem dX7_whole_8 : decode cX7_whole 8 = .ok (.iconst (-1), 1) := by decide +kernel
theorem dX7_whole_9 : decode cX7_whole 9 = .ok (.ireturn, 1) := by decide +kernel
theorem dX7_whole_10 : decode cX7_whole 10 = .ok (.iconst 0, 1) := by decide +kernel
theorem dX7_whole_11 : decode cX7_whole 11 = .ok (.istore_n 2, 1) := by decide +kernel
theorem dX7_whole_12 : decode cX7_whole 12 = .ok (.lconst 0, 1) := by decide +kernel
theorem dX7_whole_13 : decode cX7_whole 13 = .ok (.lstore_n 3, 1) := by decide +kernel
theorem dX7_whole_14 : decode cX7_whole 14 = .ok (.iload_n 1, 1) := by decide +kernel
theorem dX7_whole_15 : decode cX7_whole 15 = .ok (.istore 5, 2) := by decide +kernel
theorem dX7_whole_17 : decode cX7_whole 17 = .ok (.iload 5, 2) := by decide +kernel
theorem dX7_whole_19 : decode cX7_whole 19 = .ok (.ifCond .lt 38, 3) := by decide +kernel
theorem dX7_whole_22 : decode cX7_whole 22 = .ok (.iinc 2 1, 3) := by decide +kernel
theorem dX7_whole_25 : decode cX7_whole 25 = .ok (.lload_n 3, 1) := by decide +kernel
theorem dX7_whole_26 : decode cX7_whole 26 = .ok (.aload_n 0, 1) := by decide +kernel
theorem dX7_whole_27 : decode cX7_whole 27 = .ok (.getfield 56, 3) := by decide +kernel
theorem dX7_whole_30 : decode cX7_whole 30 = .ok (.iload 5, 2) := by decide +kernel
theorem dX7_whole_32 : decode cX7_whole 32 = .ok (.iaload, 1) := by decide +kernel
theorem dX7_whole_33 : decode cX7_whole 33 = .ok (.i2l, 1) := by decide +kernel
theorem dX7_whole_34 : decode cX7_whole 34 = .ok (.aload_n 0, 1) := by decide +kernel
theorem dX7_whole_35 : decode cX7_whole 35 = .ok (.getfield 56, 3) := by decide +kernel
theorem dX7_whole_38 : decode cX7_whole 38 = .ok (.iload 5, 2) := by decide +kernel
theorem dX7_whole_40 : decode cX7_whole 40 = .ok (.iaload, 1) := by decide +kernel
theorem dX7_whole_41 : decode cX7_whole 41 = .ok (.i2l, 1) := by decide +kernel
theorem dX7_whole_42 : decode cX7_whole 42 = .ok (.lmul, 1) := by decide +kernel
theorem dX7_whole_43 : decode cX7_whole 43 = .ok (.ladd, 1) := by decide +kernel
theorem dX7_whole_44 : decode cX7_whole 44 = .ok (.lstore_n 3, 1) := by decide +kernel
theorem dX7_whole_45 : decode cX7_whole 45 = .ok (.aload_n 0, 1) := by decide +kernel
theorem dX7_whole_46 : decode cX7_whole 46 = .ok (.getfield 59, 3) := by decide +kernel
theorem dX7_whole_49 : decode cX7_whole 49 = .ok (.iload 5, 2) := by decide +kernel
theorem dX7_whole_51 : decode cX7_whole 51 = .ok (.iaload, 1) := by decide +kernel
theorem dX7_whole_52 : decode cX7_whole 52 = .ok (.istore 5, 2) := by decide +kernel
theorem dX7_whole_54 : decode cX7_whole 54 = .ok (.goto (-37), 3) := by decide +kernel
theorem dX7_whole_57 : decode cX7_whole 57 = .ok (.aload_n 0, 1) := by decide +kernel
theorem dX7_whole_58 : decode cX7_whole 58 = .ok (.lload_n 3, 1) := by decide +kernel
theorem dX7_whole_59 : decode cX7_whole 59 = .ok (.iload_n 2, 1) := by decide +kernel
theorem dX7_whole_60 : decode cX7_whole 60 = .ok (.invokevirtual 110, 3) := by decide +kernel
theorem dX7_whole_63 : decode cX7_whole 63 = .ok (.ireturn, 1) := by decide +kernel
set_option maxRecDepth 20000 in
theorem ggX7_askedTwo_X7_isBulb : GoodIn wsX7_askedTwo wsX7_isBulb := goodIn_r _ [9, 10, 11, 12, 8, 13, 31, 32, 33, 34, 35, 36, 37, 38, 39, 40, 41, 42, 43, 44, 45, 46, 47, 48, 49, 50, 51, 52, 53, 54, 55, 56, 57, 58, 59, 60] (by decide +kernel) (by decide +kernel)
set_option maxRecDepth 20000 in
theorem gX7_askedTwo_X7_isBulb : GoodIn wsX7_askedTwo (wsV RX7 157 RX7 yX7_isBulb wsX7_isBulb) := goodIn_app (goodIn_of _ (by decide +kernel)) ggX7_askedTwo_X7_isBulb
set_option maxRecDepth 20000 in
theorem ggX7_askedTwo_X7_latestOf : GoodIn wsX7_askedTwo wsX7_latestOf := goodIn_r _ [17, 2, 18, 19, 20, 21, 8, 22, 23, 24, 4, 31, 32, 33, 34, 35, 36, 37, 38, 39, 40, 41, 42, 43, 44, 45, 46, 47, 48, 49, 50, 51, 52, 53, 54, 55, 56, 57, 58, 59, 60] (by decide +kernel) (by decide +kernel)
set_option maxRecDepth 20000 in
theorem gX7_askedTwo_X7_latestOf : GoodIn wsX7_askedTwo (wsV RX7 154 RX7 yX7_latestOf wsX7_latestOf) := goodIn_app (goodIn_of _ (by decide +kernel)) ggX7_askedTwo_X7_latestOf
set_option maxRecDepth 20000 in
theorem ggX7_askedTwo_X7_lastOf : GoodIn wsX7_askedTwo wsX7_lastOf := goodIn_r _ [22, 23, 24, 4, 31, 32, 33, 34, 35, 36, 37, 38, 39, 40, 41, 42, 43, 44, 45, 46, 47, 48, 49, 50, 51, 52, 53, 54, 55, 56, 57, 58, 59, 60] (by decide +kernel) (by decide +kernel)
set_option maxRecDepth 20000 in
theorem gX7_askedTwo_X7_lastOf : GoodIn wsX7_askedTwo (wsV RX7 150 RX7 yX7_lastOf wsX7_lastOf) := goodIn_app (goodIn_of _ (by decide +kernel)) ggX7_askedTwo_X7_lastOf
set_option maxRecDepth 20000 in
theorem ggX7_askedTwo_X7_meets : GoodIn wsX7_askedTwo wsX7_meets := goodIn_r _ [28, 29, 30, 31, 32, 33, 34, 35, 36, 37, 38, 39, 40, 41, 42, 43, 44, 45, 46, 47, 48, 49, 50, 51, 52, 53, 54, 55, 56, 57, 58, 59, 60] (by decide +kernel) (by decide +kernel)
set_option maxRecDepth 20000 in
theorem gX7_askedTwo_X7_meets : GoodIn wsX7_askedTwo (wsV RX7 101 RX7 yX7_meets wsX7_meets) := goodIn_app (goodIn_of _ (by decide +kernel)) ggX7_askedTwo_X7_meets
theorem dX7_askedTwo_0 : decode cX7_askedTwo 0 = .ok (.aload_n 0, 1) := by decide +kernel
theorem dX7_askedTwo_1 : decode cX7_askedTwo 1 = .ok (.iload_n 1, 1) := by decide +kernel
theorem dX7_askedTwo_2 : decode cX7_askedTwo 2 = .ok (.invokevirtual 157, 3) := by decide +kernel
theorem dX7_askedTwo_5 : decode cX7_askedTwo 5 = .ok (.ifCond .ne 5, 3) := by decide +kernel
theorem dX7_askedTwo_8 : decode cX7_askedTwo 8 = .ok (.iconst (-1), 1) := by decide +kernel
theorem dX7_askedTwo_9 : decode cX7_askedTwo 9 = .ok (.ireturn, 1) := by decide +kernel
theorem dX7_askedTwo_10 : decode cX7_askedTwo 10 = .ok (.aload_n 0, 1) := by decide +kernel
theorem dX7_askedTwo_11 : decode cX7_askedTwo 11 = .ok (.aload_n 0, 1) := by decide +kernel
theorem dX7_askedTwo_12 : decode cX7_askedTwo 12 = .ok (.iload_n 1, 1) := by decide +kernel
theorem dX7_askedTwo_13 : decode cX7_askedTwo 13 = .ok (.invokevirtual 154, 3) := by decide +kernel
theorem dX7_askedTwo_16 : decode cX7_askedTwo 16 = .ok (.putfield 186, 3) := by decide +kernel
theorem dX7_askedTwo_19 : decode cX7_askedTwo 19 = .ok (.aload_n 0, 1) := by decide +kernel
theorem dX7_askedTwo_20 : decode cX7_askedTwo 20 = .ok (.aload_n 0, 1) := by decide +kernel
theorem dX7_askedTwo_21 : decode cX7_askedTwo 21 = .ok (.getfield 186, 3) := by decide +kernel
theorem dX7_askedTwo_24 : decode cX7_askedTwo 24 = .ok (.ifCond .ge 8, 3) := by decide +kernel
theorem dX7_askedTwo_27 : decode cX7_askedTwo 27 = .ok (.bipush (-9), 2) := by decide +kernel
theorem dX7_askedTwo_29 : decode cX7_askedTwo 29 = .ok (.goto 14, 3) := by decide +kernel
theorem dX7_askedTwo_32 : decode cX7_askedTwo 32 = .ok (.aload_n 0, 1) := by decide +kernel
theorem dX7_askedTwo_33 : decode cX7_askedTwo 33 = .ok (.iload_n 1, 1) := by decide +kernel
theorem dX7_askedTwo_34 : decode cX7_askedTwo 34 = .ok (.ldc 106, 2) := by decide +kernel
theorem dX7_askedTwo_36 : decode cX7_askedTwo 36 = .ok (.aload_n 0, 1) := by decide +kernel
theorem dX7_askedTwo_37 : decode cX7_askedTwo 37 = .ok (.getfield 186, 3) := by decide +kernel
theorem dX7_askedTwo_40 : decode cX7_askedTwo 40 = .ok (.invokevirtual 150, 3) := by decide +kernel
theorem dX7_askedTwo_43 : decode cX7_askedTwo 43 = .ok (.putfield 189, 3) := by decide +kernel
theorem dX7_askedTwo_46 : decode cX7_askedTwo 46 = .ok (.aload_n 0, 1) := by decide +kernel
theorem dX7_askedTwo_47 : decode cX7_askedTwo 47 = .ok (.getfield 189, 3) := by decide +kernel
theorem dX7_askedTwo_50 : decode cX7_askedTwo 50 = .ok (.ifCond .ge 8, 3) := by decide +kernel
theorem dX7_askedTwo_53 : decode cX7_askedTwo 53 = .ok (.bipush (-4), 2) := by decide +kernel
theorem dX7_askedTwo_55 : decode cX7_askedTwo 55 = .ok (.goto 33, 3) := by decide +kernel
theorem dX7_askedTwo_58 : decode cX7_askedTwo 58 = .ok (.aload_n 0, 1) := by decide +kernel
theorem dX7_askedTwo_59 : decode cX7_askedTwo 59 = .ok (.getfield 50, 3) := by decide +kernel
theorem dX7_askedTwo_62 : decode cX7_askedTwo 62 = .ok (.aload_n 0, 1) := by decide +kernel
theorem dX7_askedTwo_63 : decode cX7_askedTwo 63 = .ok (.getfield 186, 3) := by decide +kernel
theorem dX7_askedTwo_66 : decode cX7_askedTwo 66 = .ok (.iaload, 1) := by decide +kernel
theorem dX7_askedTwo_67 : decode cX7_askedTwo 67 = .ok (.aload_n 0, 1) := by decide +kernel
theorem dX7_askedTwo_68 : decode cX7_askedTwo 68 = .ok (.getfield 50, 3) := by decide +kernel
theorem dX7_askedTwo_71 : decode cX7_askedTwo 71 = .ok (.aload_n 0, 1) := by decide +kernel
theorem dX7_askedTwo_72 : decode cX7_askedTwo 72 = .ok (.getfield 189, 3) := by decide +kernel
theorem dX7_askedTwo_75 : decode cX7_askedTwo 75 = .ok (.iaload, 1) := by decide +kernel
theorem dX7_askedTwo_76 : decode cX7_askedTwo 76 = .ok (.if_icmp .ne 11, 3) := by decide +kernel
theorem dX7_askedTwo_79 : decode cX7_askedTwo 79 = .ok (.aload_n 0, 1) := by decide +kernel
theorem dX7_askedTwo_80 : decode cX7_askedTwo 80 = .ok (.iconst 4, 1) := by decide +kernel
theorem dX7_askedTwo_81 : decode cX7_askedTwo 81 = .ok (.invokevirtual 101, 3) := by decide +kernel
theorem dX7_askedTwo_84 : decode cX7_askedTwo 84 = .ok (.goto 4, 3) := by decide +kernel
theorem dX7_askedTwo_87 : decode cX7_askedTwo 87 = .ok (.iconst 0, 1) := by decide +kernel
theorem dX7_askedTwo_88 : decode cX7_askedTwo 88 = .ok (.ireturn, 1) := by decide +kernel
set_option maxRecDepth 20000 in
theorem ggX7_drift_X7_askedTwo : GoodIn wsX7_drift wsX7_askedTwo := goodIn_r _ [9, 2, 10, 3, 4, 11, 12, 13, 8, 14, 15, 16, 17, 18, 19, 20, 21, 22, 23, 24, 25, 26, 27, 28, 29, 30, 31, 32, 33, 34, 35, 48, 49, 50, 51, 52, 53, 54, 55, 56, 57, 58, 59, 60, 61, 62, 63, 64, 65, 66, 67, 68, 69, 70, 71, 72, 73, 74, 75, 76, 77] (by decide +kernel) (by decide +kernel)
set_option maxRecDepth 20000 in
theorem gX7_drift_X7_askedTwo : GoodIn wsX7_drift (wsV RX7 192 RX7 yX7_askedTwo wsX7_askedTwo) := goodIn_app (goodIn_of _ (by decide +kernel)) ggX7_drift_X7_askedTwo
set_option maxRecDepth 20000 in
theorem ggX7_drift_X7_tell : GoodIn wsX7_drift wsX7_tell := goodIn_r _ [39, 40, 41, 42, 43, 8, 44, 45, 46, 47, 48, 49, 50, 51, 52, 53, 54, 55, 56, 57, 58, 59, 60, 61, 62, 63, 64, 65, 66, 67, 68, 69, 70, 71, 72, 73, 74, 75, 76, 77] (by decide +kernel) (by decide +kernel)
set_option maxRecDepth 20000 in
theorem gX7_drift_X7_tell : GoodIn wsX7_drift (wsV RX7 114 RX7 yX7_tell wsX7_tell) := goodIn_app (goodIn_of _ (by decide +kernel)) ggX7_drift_X7_tell
theorem dX7_drift_0 : decode cX7_drift 0 = .ok (.aload_n 0, 1) := by decide +kernel
theorem dX7_drift_1 : decode cX7_drift 1 = .ok (.iload_n 1, 1) := by decide +kernel
theorem dX7_drift_2 : decode cX7_drift 2 = .ok (.invokevirtual 192, 3) := by decide +kernel
theorem dX7_drift_5 : decode cX7_drift 5 = .ok (.istore_n 2, 1) := by decide +kernel
theorem dX7_drift_6 : decode cX7_drift 6 = .ok (.iload_n 2, 1) := by decide +kernel
theorem dX7_drift_7 : decode cX7_drift 7 = .ok (.ifCond .ge 7, 3) := by decide +kernel
theorem dX7_drift_10 : decode cX7_drift 10 = .ok (.iload_n 2, 1) := by decide +kernel
theorem dX7_drift_11 : decode cX7_drift 11 = .ok (.goto 48, 3) := by decide +kernel
theorem dX7_drift_14 : decode cX7_drift 14 = .ok (.aload_n 0, 1) := by decide +kernel
theorem dX7_drift_15 : decode cX7_drift 15 = .ok (.aload_n 0, 1) := by decide +kernel
theorem dX7_drift_16 : decode cX7_drift 16 = .ok (.getfield 53, 3) := by decide +kernel
theorem dX7_drift_19 : decode cX7_drift 19 = .ok (.aload_n 0, 1) := by decide +kernel
theorem dX7_drift_20 : decode cX7_drift 20 = .ok (.getfield 186, 3) := by decide +kernel
theorem dX7_drift_23 : decode cX7_drift 23 = .ok (.iaload, 1) := by decide +kernel
theorem dX7_drift_24 : decode cX7_drift 24 = .ok (.aload_n 0, 1) := by decide +kernel
theorem dX7_drift_25 : decode cX7_drift 25 = .ok (.getfield 53, 3) := by decide +kernel
theorem dX7_drift_28 : decode cX7_drift 28 = .ok (.aload_n 0, 1) := by decide +kernel
theorem dX7_drift_29 : decode cX7_drift 29 = .ok (.getfield 189, 3) := by decide +kernel
theorem dX7_drift_32 : decode cX7_drift 32 = .ok (.iaload, 1) := by decide +kernel
theorem dX7_drift_33 : decode cX7_drift 33 = .ok (.isub, 1) := by decide +kernel
theorem dX7_drift_34 : decode cX7_drift 34 = .ok (.i2l, 1) := by decide +kernel
theorem dX7_drift_35 : decode cX7_drift 35 = .ok (.aload_n 0, 1) := by decide +kernel
theorem dX7_drift_36 : decode cX7_drift 36 = .ok (.getfield 50, 3) := by decide +kernel
theorem dX7_drift_39 : decode cX7_drift 39 = .ok (.aload_n 0, 1) := by decide +kernel
theorem dX7_drift_40 : decode cX7_drift 40 = .ok (.getfield 186, 3) := by decide +kernel
theorem dX7_drift_43 : decode cX7_drift 43 = .ok (.iaload, 1) := by decide +kernel
theorem dX7_drift_44 : decode cX7_drift 44 = .ok (.aload_n 0, 1) := by decide +kernel
theorem dX7_drift_45 : decode cX7_drift 45 = .ok (.getfield 50, 3) := by decide +kernel
theorem dX7_drift_48 : decode cX7_drift 48 = .ok (.aload_n 0, 1) := by decide +kernel
theorem dX7_drift_49 : decode cX7_drift 49 = .ok (.getfield 189, 3) := by decide +kernel
theorem dX7_drift_52 : decode cX7_drift 52 = .ok (.iaload, 1) := by decide +kernel
theorem dX7_drift_53 : decode cX7_drift 53 = .ok (.isub, 1) := by decide +kernel
theorem dX7_drift_54 : decode cX7_drift 54 = .ok (.i2l, 1) := by decide +kernel
theorem dX7_drift_55 : decode cX7_drift 55 = .ok (.iconst 1, 1) := by decide +kernel
theorem dX7_drift_56 : decode cX7_drift 56 = .ok (.invokevirtual 114, 3) := by decide +kernel
theorem dX7_drift_59 : decode cX7_drift 59 = .ok (.ireturn, 1) := by decide +kernel
set_option maxRecDepth 20000 in
theorem ggX7_due_X7_askedTwo : GoodIn wsX7_due wsX7_askedTwo := goodIn_r _ [13, 2, 5, 3, 4, 14, 15, 16, 12, 17, 18, 19, 20, 21, 22, 23, 24, 25, 26, 27, 28, 29, 30, 31, 32, 33, 34, 35, 36, 37, 38, 42, 43, 44, 45, 46, 47, 48, 49, 50, 51, 52, 53, 54, 55, 56, 57, 58, 59, 60, 61, 62, 63, 64, 65, 66, 67, 68, 69, 70, 71] (by decide +kernel) (by decide +kernel)
set_option maxRecDepth 20000 in
theorem gX7_due_X7_askedTwo : GoodIn wsX7_due (wsV RX7 192 RX7 yX7_askedTwo wsX7_askedTwo) := goodIn_app (goodIn_of _ (by decide +kernel)) ggX7_due_X7_askedTwo
set_option maxRecDepth 20000 in
theorem ggX7_due_X7_size : GoodIn wsX7_due wsX7_size := goodIn_r _ [41] (by decide +kernel) (by decide +kernel)
set_option maxRecDepth 20000 in
theorem gX7_due_X7_size : GoodIn wsX7_due (va_wsS RX7 79 yX7_size wsX7_size) := goodIn_app (goodIn_of _ (by decide +kernel)) ggX7_due_X7_size
theorem dX7_due_0 : decode cX7_due 0 = .ok (.aload_n 0, 1) := by decide +kernel
theorem dX7_due_1 : decode cX7_due 1 = .ok (.iload_n 1, 1) := by decide +kernel
theorem dX7_due_2 : decode cX7_due 2 = .ok (.invokevirtual 192, 3) := by decide +kernel
theorem dX7_due_5 : decode cX7_due 5 = .ok (.istore_n 2, 1) := by decide +kernel
theorem dX7_due_6 : decode cX7_due 6 = .ok (.iload_n 2, 1) := by decide +kernel
theorem dX7_due_7 : decode cX7_due 7 = .ok (.ifCond .ge 5, 3) := by decide +kernel
theorem dX7_due_10 : decode cX7_due 10 = .ok (.iload_n 2, 1) := by decide +kernel
theorem dX7_due_11 : decode cX7_due 11 = .ok (.ireturn, 1) := by decide +kernel
theorem dX7_due_12 : decode cX7_due 12 = .ok (.aload_n 0, 1) := by decide +kernel
theorem dX7_due_13 : decode cX7_due 13 = .ok (.getfield 53, 3) := by decide +kernel
theorem dX7_due_16 : decode cX7_due 16 = .ok (.aload_n 0, 1) := by decide +kernel
theorem dX7_due_17 : decode cX7_due 17 = .ok (.getfield 186, 3) := by decide +kernel
theorem dX7_due_20 : decode cX7_due 20 = .ok (.iaload, 1) := by decide +kernel
theorem dX7_due_21 : decode cX7_due 21 = .ok (.aload_n 0, 1) := by decide +kernel
theorem dX7_due_22 : decode cX7_due 22 = .ok (.getfield 53, 3) := by decide +kernel
theorem dX7_due_25 : decode cX7_due 25 = .ok (.aload_n 0, 1) := by decide +kernel
theorem dX7_due_26 : decode cX7_due 26 = .ok (.getfield 189, 3) := by decide +kernel
theorem dX7_due_29 : decode cX7_due 29 = .ok (.iaload, 1) := by decide +kernel
theorem dX7_due_30 : decode cX7_due 30 = .ok (.isub, 1) := by decide +kernel
theorem dX7_due_31 : decode cX7_due 31 = .ok (.i2l, 1) := by decide +kernel
theorem dX7_due_32 : decode cX7_due 32 = .ok (.lstore_n 3, 1) := by decide +kernel
theorem dX7_due_33 : decode cX7_due 33 = .ok (.aload_n 0, 1) := by decide +kernel
theorem dX7_due_34 : decode cX7_due 34 = .ok (.getfield 50, 3) := by decide +kernel
theorem dX7_due_37 : decode cX7_due 37 = .ok (.aload_n 0, 1) := by decide +kernel
theorem dX7_due_38 : decode cX7_due 38 = .ok (.getfield 186, 3) := by decide +kernel
theorem dX7_due_41 : decode cX7_due 41 = .ok (.iaload, 1) := by decide +kernel
theorem dX7_due_42 : decode cX7_due 42 = .ok (.aload_n 0, 1) := by decide +kernel
theorem dX7_due_43 : decode cX7_due 43 = .ok (.getfield 50, 3) := by decide +kernel
theorem dX7_due_46 : decode cX7_due 46 = .ok (.aload_n 0, 1) := by decide +kernel
theorem dX7_due_47 : decode cX7_due 47 = .ok (.getfield 189, 3) := by decide +kernel
theorem dX7_due_50 : decode cX7_due 50 = .ok (.iaload, 1) := by decide +kernel
theorem dX7_due_51 : decode cX7_due 51 = .ok (.isub, 1) := by decide +kernel
theorem dX7_due_52 : decode cX7_due 52 = .ok (.i2l, 1) := by decide +kernel
theorem dX7_due_53 : decode cX7_due 53 = .ok (.lstore 5, 2) := by decide +kernel
theorem dX7_due_55 : decode cX7_due 55 = .ok (.aload_n 0, 1) := by decide +kernel
theorem dX7_due_56 : decode cX7_due 56 = .ok (.getfield 50, 3) := by decide +kernel
theorem dX7_due_59 : decode cX7_due 59 = .ok (.aload_n 0, 1) := by decide +kernel
theorem dX7_due_60 : decode cX7_due 60 = .ok (.getfield 186, 3) := by decide +kernel
theorem dX7_due_63 : decode cX7_due 63 = .ok (.iaload, 1) := by decide +kernel
theorem dX7_due_64 : decode cX7_due 64 = .ok (.istore 7, 2) := by decide +kernel
theorem dX7_due_66 : decode cX7_due 66 = .ok (.iload 7, 2) := by decide +kernel
theorem dX7_due_68 : decode cX7_due 68 = .ok (.ldc 106, 2) := by decide +kernel
theorem dX7_due_70 : decode cX7_due 70 = .ok (.if_icmp .gt 82, 3) := by decide +kernel
theorem dX7_due_73 : decode cX7_due 73 = .ok (.aload_n 0, 1) := by decide +kernel
theorem dX7_due_74 : decode cX7_due 74 = .ok (.getfield 53, 3) := by decide +kernel
theorem dX7_due_77 : decode cX7_due 77 = .ok (.aload_n 0, 1) := by decide +kernel
theorem dX7_due_78 : decode cX7_due 78 = .ok (.getfield 186, 3) := by decide +kernel
theorem dX7_due_81 : decode cX7_due 81 = .ok (.iaload, 1) := by decide +kernel
theorem dX7_due_82 : decode cX7_due 82 = .ok (.i2l, 1) := by decide +kernel
theorem dX7_due_83 : decode cX7_due 83 = .ok (.lload 5, 2) := by decide +kernel
theorem dX7_due_85 : decode cX7_due 85 = .ok (.lmul, 1) := by decide +kernel
theorem dX7_due_86 : decode cX7_due 86 = .ok (.lload_n 3, 1) := by decide +kernel
theorem dX7_due_87 : decode cX7_due 87 = .ok (.iload 7, 2) := by decide +kernel
theorem dX7_due_89 : decode cX7_due 89 = .ok (.aload_n 0, 1) := by decide +kernel
theorem dX7_due_90 : decode cX7_due 90 = .ok (.getfield 50, 3) := by decide +kernel
theorem dX7_due_93 : decode cX7_due 93 = .ok (.aload_n 0, 1) := by decide +kernel
theorem dX7_due_94 : decode cX7_due 94 = .ok (.getfield 186, 3) := by decide +kernel
theorem dX7_due_97 : decode cX7_due 97 = .ok (.iaload, 1) := by decide +kernel
theorem dX7_due_98 : decode cX7_due 98 = .ok (.isub, 1) := by decide +kernel
theorem dX7_due_99 : decode cX7_due 99 = .ok (.i2l, 1) := by decide +kernel
theorem dX7_due_100 : decode cX7_due 100 = .ok (.lmul, 1) := by decide +kernel
theorem dX7_due_101 : decode cX7_due 101 = .ok (.ladd, 1) := by decide +kernel
theorem dX7_due_102 : decode cX7_due 102 = .ok (.invokestatic 79, 3) := by decide +kernel
theorem dX7_due_105 : decode cX7_due 105 = .ok (.lstore 8, 2) := by decide +kernel
theorem dX7_due_107 : decode cX7_due 107 = .ok (.lload 8, 2) := by decide +kernel
theorem dX7_due_109 : decode cX7_due 109 = .ok (.aload_n 0, 1) := by decide +kernel
theorem dX7_due_110 : decode cX7_due 110 = .ok (.getfield 56, 3) := by decide +kernel
theorem dX7_due_113 : decode cX7_due 113 = .ok (.aload_n 0, 1) := by decide +kernel
theorem dX7_due_114 : decode cX7_due 114 = .ok (.getfield 186, 3) := by decide +kernel
theorem dX7_due_117 : decode cX7_due 117 = .ok (.iaload, 1) := by decide +kernel
theorem dX7_due_118 : decode cX7_due 118 = .ok (.i2l, 1) := by decide +kernel
theorem dX7_due_119 : decode cX7_due 119 = .ok (.lload 5, 2) := by decide +kernel
theorem dX7_due_121 : decode cX7_due 121 = .ok (.invokestatic 79, 3) := by decide +kernel
theorem dX7_due_124 : decode cX7_due 124 = .ok (.lmul, 1) := by decide +kernel
theorem dX7_due_125 : decode cX7_due 125 = .ok (.ladd, 1) := by decide +kernel
theorem dX7_due_126 : decode cX7_due 126 = .ok (.aload_n 0, 1) := by decide +kernel
theorem dX7_due_127 : decode cX7_due 127 = .ok (.getfield 38, 3) := by decide +kernel
theorem dX7_due_130 : decode cX7_due 130 = .ok (.iload_n 1, 1) := by decide +kernel
theorem dX7_due_131 : decode cX7_due 131 = .ok (.iaload, 1) := by decide +kernel
theorem dX7_due_132 : decode cX7_due 132 = .ok (.i2l, 1) := by decide +kernel
theorem dX7_due_133 : decode cX7_due 133 = .ok (.lload 5, 2) := by decide +kernel
theorem dX7_due_135 : decode cX7_due 135 = .ok (.invokestatic 79, 3) := by decide +kernel
theorem dX7_due_138 : decode cX7_due 138 = .ok (.lmul, 1) := by decide +kernel
theorem dX7_due_139 : decode cX7_due 139 = .ok (.lcmp, 1) := by decide +kernel
theorem dX7_due_140 : decode cX7_due 140 = .ok (.ifCond .le 6, 3) := by decide +kernel
theorem dX7_due_143 : decode cX7_due 143 = .ok (.iload 7, 2) := by decide +kernel
theorem dX7_due_145 : decode cX7_due 145 = .ok (.ireturn, 1) := by decide +kernel
theorem dX7_due_146 : decode cX7_due 146 = .ok (.iinc 7 1, 3) := by decide +kernel
theorem dX7_due_149 : decode cX7_due 149 = .ok (.goto (-83), 3) := by decide +kernel
theorem dX7_due_152 : decode cX7_due 152 = .ok (.ldc 195, 2) := by decide +kernel
theorem dX7_due_154 : decode cX7_due 154 = .ok (.ireturn, 1) := by decide +kernel
set_option maxRecDepth 20000 in
theorem ggX7_resting_X7_isCertificate : GoodIn wsX7_resting wsX7_isCertificate := goodIn_r _ [7, 1, 8, 9, 6, 10, 11, 12, 13, 14, 15, 16, 17, 18, 19, 20, 21, 22, 23, 24, 25, 26, 27, 28, 29, 30, 31, 32, 33, 34, 35, 36, 37, 38, 39, 40] (by decide +kernel) (by decide +kernel)
set_option maxRecDepth 20000 in
theorem gX7_resting_X7_isCertificate : GoodIn wsX7_resting (wsV RX7 180 RX7 yX7_isCertificate wsX7_isCertificate) := goodIn_app (goodIn_of _ (by decide +kernel)) ggX7_resting_X7_isCertificate
theorem dX7_resting_0 : decode cX7_resting 0 = .ok (.aload_n 0, 1) := by decide +kernel
theorem dX7_resting_1 : decode cX7_resting 1 = .ok (.iload_n 1, 1) := by decide +kernel
theorem dX7_resting_2 : decode cX7_resting 2 = .ok (.invokevirtual 180, 3) := by decide +kernel
theorem dX7_resting_5 : decode cX7_resting 5 = .ok (.ifCond .ne 5, 3) := by decide +kernel
theorem dX7_resting_8 : decode cX7_resting 8 = .ok (.iconst (-1), 1) := by decide +kernel
theorem dX7_resting_9 : decode cX7_resting 9 = .ok (.ireturn, 1) := by decide +kernel
theorem dX7_resting_10 : decode cX7_resting 10 = .ok (.iconst 0, 1) := by decide +kernel
theorem dX7_resting_11 : decode cX7_resting 11 = .ok (.istore_n 2, 1) := by decide +kernel
theorem dX7_resting_12 : decode cX7_resting 12 = .ok (.iconst 0, 1) := by decide +kernel
theorem dX7_resting_13 : decode cX7_resting 13 = .ok (.istore_n 3, 1) := by decide +kernel
theorem dX7_resting_14 : decode cX7_resting 14 = .ok (.iload_n 3, 1) := by decide +kernel
theorem dX7_resting_15 : decode cX7_resting 15 = .ok (.aload_n 0, 1) := by decide +kernel
theorem dX7_resting_16 : decode cX7_resting 16 = .ok (.getfield 147, 3) := by decide +kernel
theorem dX7_resting_19 : decode cX7_resting 19 = .ok (.if_icmp .ge 49, 3) := by decide +kernel
theorem dX7_resting_22 : decode cX7_resting 22 = .ok (.aload_n 0, 1) := by decide +kernel
theorem dX7_resting_23 : decode cX7_resting 23 = .ok (.getfield 59, 3) := by decide +kernel
theorem dX7_resting_26 : decode cX7_resting 26 = .ok (.iload_n 3, 1) := by decide +kernel
theorem dX7_resting_27 : decode cX7_resting 27 = .ok (.iaload, 1) := by decide +kernel
theorem dX7_resting_28 : decode cX7_resting 28 = .ok (.istore 4, 2) := by decide +kernel
theorem dX7_resting_30 : decode cX7_resting 30 = .ok (.iload 4, 2) := by decide +kernel
theorem dX7_resting_32 : decode cX7_resting 32 = .ok (.iload_n 1, 1) := by decide +kernel
theorem dX7_resting_33 : decode cX7_resting 33 = .ok (.if_icmp .le 15, 3) := by decide +kernel
theorem dX7_resting_36 : decode cX7_resting 36 = .ok (.aload_n 0, 1) := by decide +kernel
theorem dX7_resting_37 : decode cX7_resting 37 = .ok (.getfield 59, 3) := by decide +kernel
theorem dX7_resting_40 : decode cX7_resting 40 = .ok (.iload 4, 2) := by decide +kernel
theorem dX7_resting_42 : decode cX7_resting 42 = .ok (.iaload, 1) := by decide +kernel
theorem dX7_resting_43 : decode cX7_resting 43 = .ok (.istore 4, 2) := by decide +kernel
theorem dX7_resting_45 : decode cX7_resting 45 = .ok (.goto (-15), 3) := by decide +kernel
theorem dX7_resting_48 : decode cX7_resting 48 = .ok (.iload_n 2, 1) := by decide +kernel
theorem dX7_resting_49 : decode cX7_resting 49 = .ok (.iload 4, 2) := by decide +kernel
theorem dX7_resting_51 : decode cX7_resting 51 = .ok (.iload_n 1, 1) := by decide +kernel
theorem dX7_resting_52 : decode cX7_resting 52 = .ok (.if_icmp .ne 7, 3) := by decide +kernel
theorem dX7_resting_55 : decode cX7_resting 55 = .ok (.iconst 1, 1) := by decide +kernel
theorem dX7_resting_56 : decode cX7_resting 56 = .ok (.goto 4, 3) := by decide +kernel
theorem dX7_resting_59 : decode cX7_resting 59 = .ok (.iconst 0, 1) := by decide +kernel
theorem dX7_resting_60 : decode cX7_resting 60 = .ok (.iadd, 1) := by decide +kernel
theorem dX7_resting_61 : decode cX7_resting 61 = .ok (.istore_n 2, 1) := by decide +kernel
theorem dX7_resting_62 : decode cX7_resting 62 = .ok (.iinc 3 1, 3) := by decide +kernel
theorem dX7_resting_65 : decode cX7_resting 65 = .ok (.goto (-51), 3) := by decide +kernel
theorem dX7_resting_68 : decode cX7_resting 68 = .ok (.iload_n 2, 1) := by decide +kernel
theorem dX7_resting_69 : decode cX7_resting 69 = .ok (.ireturn, 1) := by decide +kernel
set_option maxRecDepth 20000 in
theorem ggX7_isLab_X7_in : GoodIn wsX7_isLab wsX7_in := goodIn_r _ [4] (by decide +kernel) (by decide +kernel)
set_option maxRecDepth 20000 in
theorem gX7_isLab_X7_in : GoodIn wsX7_isLab (va_wsS RX7 93 yX7_in wsX7_in) := goodIn_app (goodIn_of _ (by decide +kernel)) ggX7_isLab_X7_in
theorem dX7_isLab_0 : decode cX7_isLab 0 = .ok (.iload_n 0, 1) := by decide +kernel
theorem dX7_isLab_1 : decode cX7_isLab 1 = .ok (.iconst 0, 1) := by decide +kernel
theorem dX7_isLab_2 : decode cX7_isLab 2 = .ok (.iconst 5, 1) := by decide +kernel
theorem dX7_isLab_3 : decode cX7_isLab 3 = .ok (.invokestatic 93, 3) := by decide +kernel
theorem dX7_isLab_6 : decode cX7_isLab 6 = .ok (.ireturn, 1) := by decide +kernel
set_option maxRecDepth 20000 in
theorem ggX7_lab_X7_isLab : GoodIn wsX7_lab wsX7_isLab := goodIn_r _ [7, 8, 9, 6, 10] (by decide +kernel) (by decide +kernel)
set_option maxRecDepth 20000 in
theorem gX7_lab_X7_isLab : GoodIn wsX7_lab (va_wsS RX7 196 yX7_isLab wsX7_isLab) := goodIn_app (goodIn_of _ (by decide +kernel)) ggX7_lab_X7_isLab
set_option maxRecDepth 20000 in
theorem ggX7_lab_X7_in : GoodIn wsX7_lab wsX7_in := goodIn_r _ [10] (by decide +kernel) (by decide +kernel)
set_option maxRecDepth 20000 in
theorem gX7_lab_X7_in : GoodIn wsX7_lab (va_wsS RX7 93 yX7_in wsX7_in) := goodIn_app (goodIn_of _ (by decide +kernel)) ggX7_lab_X7_in
theorem dX7_lab_0 : decode cX7_lab 0 = .ok (.iload_n 1, 1) := by decide +kernel
theorem dX7_lab_1 : decode cX7_lab 1 = .ok (.invokestatic 196, 3) := by decide +kernel
theorem dX7_lab_4 : decode cX7_lab 4 = .ok (.ifCond .eq 40, 3) := by decide +kernel
theorem dX7_lab_7 : decode cX7_lab 7 = .ok (.iload_n 2, 1) := by decide +kernel
theorem dX7_lab_8 : decode cX7_lab 8 = .ok (.invokestatic 196, 3) := by decide +kernel
theorem dX7_lab_11 : decode cX7_lab 11 = .ok (.ifCond .eq 33, 3) := by decide +kernel
theorem dX7_lab_14 : decode cX7_lab 14 = .ok (.iload_n 1, 1) := by decide +kernel
theorem dX7_lab_15 : decode cX7_lab 15 = .ok (.iload_n 2, 1) := by decide +kernel
theorem dX7_lab_16 : decode cX7_lab 16 = .ok (.if_icmp .eq 28, 3) := by decide +kernel
theorem dX7_lab_19 : decode cX7_lab 19 = .ok (.iload_n 3, 1) := by decide +kernel
theorem dX7_lab_20 : decode cX7_lab 20 = .ok (.sipush (-10000), 3) := by decide +kernel
theorem dX7_lab_23 : decode cX7_lab 23 = .ok (.sipush 10000, 3) := by decide +kernel
theorem dX7_lab_26 : decode cX7_lab 26 = .ok (.invokestatic 93, 3) := by decide +kernel
theorem dX7_lab_29 : decode cX7_lab 29 = .ok (.ifCond .eq 15, 3) := by decide +kernel
theorem dX7_lab_32 : decode cX7_lab 32 = .ok (.iload 4, 2) := by decide +kernel
theorem dX7_lab_34 : decode cX7_lab 34 = .ok (.iconst 0, 1) := by decide +kernel
theorem dX7_lab_35 : decode cX7_lab 35 = .ok (.sipush 10000, 3) := by decide +kernel
theorem dX7_lab_38 : decode cX7_lab 38 = .ok (.invokestatic 93, 3) := by decide +kernel
theorem dX7_lab_41 : decode cX7_lab 41 = .ok (.ifCond .ne 5, 3) := by decide +kernel
theorem dX7_lab_44 : decode cX7_lab 44 = .ok (.iconst (-1), 1) := by decide +kernel
theorem dX7_lab_45 : decode cX7_lab 45 = .ok (.ireturn, 1) := by decide +kernel
theorem dX7_lab_46 : decode cX7_lab 46 = .ok (.aload_n 0, 1) := by decide +kernel
theorem dX7_lab_47 : decode cX7_lab 47 = .ok (.getfield 66, 3) := by decide +kernel
theorem dX7_lab_50 : decode cX7_lab 50 = .ok (.bipush 6, 2) := by decide +kernel
theorem dX7_lab_52 : decode cX7_lab 52 = .ok (.iload_n 1, 1) := by decide +kernel
theorem dX7_lab_53 : decode cX7_lab 53 = .ok (.imul, 1) := by decide +kernel
theorem dX7_lab_54 : decode cX7_lab 54 = .ok (.iload_n 2, 1) := by decide +kernel
theorem dX7_lab_55 : decode cX7_lab 55 = .ok (.iadd, 1) := by decide +kernel
theorem dX7_lab_56 : decode cX7_lab 56 = .ok (.iconst 1, 1) := by decide +kernel
theorem dX7_lab_57 : decode cX7_lab 57 = .ok (.bastore, 1) := by decide +kernel
theorem dX7_lab_58 : decode cX7_lab 58 = .ok (.aload_n 0, 1) := by decide +kernel
theorem dX7_lab_59 : decode cX7_lab 59 = .ok (.getfield 66, 3) := by decide +kernel
theorem dX7_lab_62 : decode cX7_lab 62 = .ok (.bipush 6, 2) := by decide +kernel
theorem dX7_lab_64 : decode cX7_lab 64 = .ok (.iload_n 2, 1) := by decide +kernel
theorem dX7_lab_65 : decode cX7_lab 65 = .ok (.imul, 1) := by decide +kernel
theorem dX7_lab_66 : decode cX7_lab 66 = .ok (.iload_n 1, 1) := by decide +kernel
theorem dX7_lab_67 : decode cX7_lab 67 = .ok (.iadd, 1) := by decide +kernel
theorem dX7_lab_68 : decode cX7_lab 68 = .ok (.iconst 1, 1) := by decide +kernel
theorem dX7_lab_69 : decode cX7_lab 69 = .ok (.bastore, 1) := by decide +kernel
theorem dX7_lab_70 : decode cX7_lab 70 = .ok (.aload_n 0, 1) := by decide +kernel
theorem dX7_lab_71 : decode cX7_lab 71 = .ok (.getfield 69, 3) := by decide +kernel
theorem dX7_lab_74 : decode cX7_lab 74 = .ok (.bipush 6, 2) := by decide +kernel
theorem dX7_lab_76 : decode cX7_lab 76 = .ok (.iload_n 1, 1) := by decide +kernel
theorem dX7_lab_77 : decode cX7_lab 77 = .ok (.imul, 1) := by decide +kernel
theorem dX7_lab_78 : decode cX7_lab 78 = .ok (.iload_n 2, 1) := by decide +kernel
theorem dX7_lab_79 : decode cX7_lab 79 = .ok (.iadd, 1) := by decide +kernel
theorem dX7_lab_80 : decode cX7_lab 80 = .ok (.iload_n 3, 1) := by decide +kernel
theorem dX7_lab_81 : decode cX7_lab 81 = .ok (.iastore, 1) := by decide +kernel
theorem dX7_lab_82 : decode cX7_lab 82 = .ok (.aload_n 0, 1) := by decide +kernel
theorem dX7_lab_83 : decode cX7_lab 83 = .ok (.getfield 69, 3) := by decide +kernel
theorem dX7_lab_86 : decode cX7_lab 86 = .ok (.bipush 6, 2) := by decide +kernel
theorem dX7_lab_88 : decode cX7_lab 88 = .ok (.iload_n 2, 1) := by decide +kernel
theorem dX7_lab_89 : decode cX7_lab 89 = .ok (.imul, 1) := by decide +kernel
theorem dX7_lab_90 : decode cX7_lab 90 = .ok (.iload_n 1, 1) := by decide +kernel
theorem dX7_lab_91 : decode cX7_lab 91 = .ok (.iadd, 1) := by decide +kernel
theorem dX7_lab_92 : decode cX7_lab 92 = .ok (.iload_n 3, 1) := by decide +kernel
theorem dX7_lab_93 : decode cX7_lab 93 = .ok (.ineg, 1) := by decide +kernel
theorem dX7_lab_94 : decode cX7_lab 94 = .ok (.iastore, 1) := by decide +kernel
theorem dX7_lab_95 : decode cX7_lab 95 = .ok (.aload_n 0, 1) := by decide +kernel
theorem dX7_lab_96 : decode cX7_lab 96 = .ok (.getfield 72, 3) := by decide +kernel
theorem dX7_lab_99 : decode cX7_lab 99 = .ok (.bipush 6, 2) := by decide +kernel
theorem dX7_lab_101 : decode cX7_lab 101 = .ok (.iload_n 1, 1) := by decide +kernel
theorem dX7_lab_102 : decode cX7_lab 102 = .ok (.imul, 1) := by decide +kernel
theorem dX7_lab_103 : decode cX7_lab 103 = .ok (.iload_n 2, 1) := by decide +kernel
theorem dX7_lab_104 : decode cX7_lab 104 = .ok (.iadd, 1) := by decide +kernel
theorem dX7_lab_105 : decode cX7_lab 105 = .ok (.iload 4, 2) := by decide +kernel
theorem dX7_lab_107 : decode cX7_lab 107 = .ok (.iastore, 1) := by decide +kernel
theorem dX7_lab_108 : decode cX7_lab 108 = .ok (.aload_n 0, 1) := by decide +kernel
theorem dX7_lab_109 : decode cX7_lab 109 = .ok (.getfield 72, 3) := by decide +kernel
theorem dX7_lab_112 : decode cX7_lab 112 = .ok (.bipush 6, 2) := by decide +kernel
theorem dX7_lab_114 : decode cX7_lab 114 = .ok (.iload_n 2, 1) := by decide +kernel
theorem dX7_lab_115 : decode cX7_lab 115 = .ok (.imul, 1) := by decide +kernel
theorem dX7_lab_116 : decode cX7_lab 116 = .ok (.iload_n 1, 1) := by decide +kernel
theorem dX7_lab_117 : decode cX7_lab 117 = .ok (.iadd, 1) := by decide +kernel
theorem dX7_lab_118 : decode cX7_lab 118 = .ok (.iload 4, 2) := by decide +kernel
theorem dX7_lab_120 : decode cX7_lab 120 = .ok (.iastore, 1) := by decide +kernel
theorem dX7_lab_121 : decode cX7_lab 121 = .ok (.iconst 1, 1) := by decide +kernel
theorem dX7_lab_122 : decode cX7_lab 122 = .ok (.ireturn, 1) := by decide +kernel
theorem dX7_isRing_0 : decode cX7_isRing 0 = .ok (.aload_n 0, 1) := by decide +kernel
theorem dX7_isRing_1 : decode cX7_isRing 1 = .ok (.getfield 66, 3) := by decide +kernel
theorem dX7_isRing_4 : decode cX7_isRing 4 = .ok (.bipush 6, 2) := by decide +kernel
theorem dX7_isRing_6 : decode cX7_isRing 6 = .ok (.iload_n 1, 1) := by decide +kernel
theorem dX7_isRing_7 : decode cX7_isRing 7 = .ok (.imul, 1) := by decide +kernel
theorem dX7_isRing_8 : decode cX7_isRing 8 = .ok (.iload_n 2, 1) := by decide +kernel
theorem dX7_isRing_9 : decode cX7_isRing 9 = .ok (.iadd, 1) := by decide +kernel
theorem dX7_isRing_10 : decode cX7_isRing 10 = .ok (.baload, 1) := by decide +kernel
theorem dX7_isRing_11 : decode cX7_isRing 11 = .ok (.ifCond .eq 35, 3) := by decide +kernel
theorem dX7_isRing_14 : decode cX7_isRing 14 = .ok (.aload_n 0, 1) := by decide +kernel
theorem dX7_isRing_15 : decode cX7_isRing 15 = .ok (.getfield 66, 3) := by decide +kernel
theorem dX7_isRing_18 : decode cX7_isRing 18 = .ok (.bipush 6, 2) := by decide +kernel
theorem dX7_isRing_20 : decode cX7_isRing 20 = .ok (.iload_n 2, 1) := by decide +kernel
theorem dX7_isRing_21 : decode cX7_isRing 21 = .ok (.imul, 1) := by decide +kernel
theorem dX7_isRing_22 : decode cX7_isRing 22 = .ok (.iload_n 3, 1) := by decide +kernel
theorem dX7_isRing_23 : decode cX7_isRing 23 = .ok (.iadd, 1) := by decide +kernel
theorem dX7_isRing_24 : decode cX7_isRing 24 = .ok (.baload, 1) := by decide +kernel
theorem dX7_isRing_25 : decode cX7_isRing 25 = .ok (.ifCond .eq 21, 3) := by decide +kernel
theorem dX7_isRing_28 : decode cX7_isRing 28 = .ok (.aload_n 0, 1) := by decide +kernel
theorem dX7_isRing_29 : decode cX7_isRing 29 = .ok (.getfield 66, 3) := by decide +kernel
theorem dX7_isRing_32 : decode cX7_isRing 32 = .ok (.bipush 6, 2) := by decide +kernel
theorem dX7_isRing_34 : decode cX7_isRing 34 = .ok (.iload_n 3, 1) := by decide +kernel
theorem dX7_isRing_35 : decode cX7_isRing 35 = .ok (.imul, 1) := by decide +kernel
theorem dX7_isRing_36 : decode cX7_isRing 36 = .ok (.iload_n 1, 1) := by decide +kernel
theorem dX7_isRing_37 : decode cX7_isRing 37 = .ok (.iadd, 1) := by decide +kernel
theorem dX7_isRing_38 : decode cX7_isRing 38 = .ok (.baload, 1) := by decide +kernel
theorem dX7_isRing_39 : decode cX7_isRing 39 = .ok (.ifCond .eq 7, 3) := by decide +kernel
theorem dX7_isRing_42 : decode cX7_isRing 42 = .ok (.iconst 1, 1) := by decide +kernel
theorem dX7_isRing_43 : decode cX7_isRing 43 = .ok (.goto 4, 3) := by decide +kernel
theorem dX7_isRing_46 : decode cX7_isRing 46 = .ok (.iconst 0, 1) := by decide +kernel
theorem dX7_isRing_47 : decode cX7_isRing 47 = .ok (.ireturn, 1) := by decide +kernel
theorem dX7_over_0 : decode cX7_over 0 = .ok (.aload_n 0, 1) := by decide +kernel
theorem dX7_over_1 : decode cX7_over 1 = .ok (.getfield 69, 3) := by decide +kernel
theorem dX7_over_4 : decode cX7_over 4 = .ok (.bipush 6, 2) := by decide +kernel
theorem dX7_over_6 : decode cX7_over 6 = .ok (.iload_n 1, 1) := by decide +kernel
theorem dX7_over_7 : decode cX7_over 7 = .ok (.imul, 1) := by decide +kernel
theorem dX7_over_8 : decode cX7_over 8 = .ok (.iload_n 2, 1) := by decide +kernel
theorem dX7_over_9 : decode cX7_over 9 = .ok (.iadd, 1) := by decide +kernel
theorem dX7_over_10 : decode cX7_over 10 = .ok (.iaload, 1) := by decide +kernel
theorem dX7_over_11 : decode cX7_over 11 = .ok (.aload_n 0, 1) := by decide +kernel
theorem dX7_over_12 : decode cX7_over 12 = .ok (.getfield 69, 3) := by decide +kernel
theorem dX7_over_15 : decode cX7_over 15 = .ok (.bipush 6, 2) := by decide +kernel
theorem dX7_over_17 : decode cX7_over 17 = .ok (.iload_n 2, 1) := by decide +kernel
theorem dX7_over_18 : decode cX7_over 18 = .ok (.imul, 1) := by decide +kernel
theorem dX7_over_19 : decode cX7_over 19 = .ok (.iload_n 3, 1) := by decide +kernel
theorem dX7_over_20 : decode cX7_over 20 = .ok (.iadd, 1) := by decide +kernel
theorem dX7_over_21 : decode cX7_over 21 = .ok (.iaload, 1) := by decide +kernel
theorem dX7_over_22 : decode cX7_over 22 = .ok (.iadd, 1) := by decide +kernel
theorem dX7_over_23 : decode cX7_over 23 = .ok (.aload_n 0, 1) := by decide +kernel
theorem dX7_over_24 : decode cX7_over 24 = .ok (.getfield 69, 3) := by decide +kernel
theorem dX7_over_27 : decode cX7_over 27 = .ok (.bipush 6, 2) := by decide +kernel
theorem dX7_over_29 : decode cX7_over 29 = .ok (.iload_n 3, 1) := by decide +kernel
theorem dX7_over_30 : decode cX7_over 30 = .ok (.imul, 1) := by decide +kernel
theorem dX7_over_31 : decode cX7_over 31 = .ok (.iload_n 1, 1) := by decide +kernel
theorem dX7_over_32 : decode cX7_over 32 = .ok (.iadd, 1) := by decide +kernel
theorem dX7_over_33 : decode cX7_over 33 = .ok (.iaload, 1) := by decide +kernel
theorem dX7_over_34 : decode cX7_over 34 = .ok (.iadd, 1) := by decide +kernel
theorem dX7_over_35 : decode cX7_over 35 = .ok (.ireturn, 1) := by decide +kernel
set_option maxRecDepth 20000 in
theorem ggX7_isClosed_X7_over : GoodIn wsX7_isClosed wsX7_over := goodIn_r _ [6, 7, 11, 12, 13, 14, 15, 16, 17, 18, 19, 20, 21, 22, 23, 24, 25, 26, 27, 28, 29, 30, 31, 32, 33, 34, 35, 36, 37, 38, 39, 40] (by decide +kernel) (by decide +kernel)
set_option maxRecDepth 20000 in
theorem gX7_isClosed_X7_over : GoodIn wsX7_isClosed (wsV RX7 199 RX7 yX7_over wsX7_over) := goodIn_app (goodIn_of _ (by decide +kernel)) ggX7_isClosed_X7_over
set_option maxRecDepth 20000 in
theorem ggX7_isClosed_X7_size : GoodIn wsX7_isClosed wsX7_size := goodIn_r _ [10] (by decide +kernel) (by decide +kernel)
set_option maxRecDepth 20000 in
theorem gX7_isClosed_X7_size : GoodIn wsX7_isClosed (va_wsS RX7 79 yX7_size wsX7_size) := goodIn_app (goodIn_of _ (by decide +kernel)) ggX7_isClosed_X7_size
theorem dX7_isClosed_0 : decode cX7_isClosed 0 = .ok (.aload_n 0, 1) := by decide +kernel
theorem dX7_isClosed_1 : decode cX7_isClosed 1 = .ok (.iload_n 1, 1) := by decide +kernel
theorem dX7_isClosed_2 : decode cX7_isClosed 2 = .ok (.iload_n 2, 1) := by decide +kernel
theorem dX7_isClosed_3 : decode cX7_isClosed 3 = .ok (.iload_n 3, 1) := by decide +kernel
theorem dX7_isClosed_4 : decode cX7_isClosed 4 = .ok (.invokevirtual 199, 3) := by decide +kernel
theorem dX7_isClosed_7 : decode cX7_isClosed 7 = .ok (.i2l, 1) := by decide +kernel
theorem dX7_isClosed_8 : decode cX7_isClosed 8 = .ok (.invokestatic 79, 3) := by decide +kernel
theorem dX7_isClosed_11 : decode cX7_isClosed 11 = .ok (.aload_n 0, 1) := by decide +kernel
theorem dX7_isClosed_12 : decode cX7_isClosed 12 = .ok (.getfield 72, 3) := by decide +kernel
theorem dX7_isClosed_15 : decode cX7_isClosed 15 = .ok (.bipush 6, 2) := by decide +kernel
theorem dX7_isClosed_17 : decode cX7_isClosed 17 = .ok (.iload_n 1, 1) := by decide +kernel
theorem dX7_isClosed_18 : decode cX7_isClosed 18 = .ok (.imul, 1) := by decide +kernel
theorem dX7_isClosed_19 : decode cX7_isClosed 19 = .ok (.iload_n 2, 1) := by decide +kernel
theorem dX7_isClosed_20 : decode cX7_isClosed 20 = .ok (.iadd, 1) := by decide +kernel
theorem dX7_isClosed_21 : decode cX7_isClosed 21 = .ok (.iaload, 1) := by decide +kernel
theorem dX7_isClosed_22 : decode cX7_isClosed 22 = .ok (.aload_n 0, 1) := by decide +kernel
theorem dX7_isClosed_23 : decode cX7_isClosed 23 = .ok (.getfield 72, 3) := by decide +kernel
theorem dX7_isClosed_26 : decode cX7_isClosed 26 = .ok (.bipush 6, 2) := by decide +kernel
theorem dX7_isClosed_28 : decode cX7_isClosed 28 = .ok (.iload_n 2, 1) := by decide +kernel
theorem dX7_isClosed_29 : decode cX7_isClosed 29 = .ok (.imul, 1) := by decide +kernel
theorem dX7_isClosed_30 : decode cX7_isClosed 30 = .ok (.iload_n 3, 1) := by decide +kernel
theorem dX7_isClosed_31 : decode cX7_isClosed 31 = .ok (.iadd, 1) := by decide +kernel
theorem dX7_isClosed_32 : decode cX7_isClosed 32 = .ok (.iaload, 1) := by decide +kernel
theorem dX7_isClosed_33 : decode cX7_isClosed 33 = .ok (.iadd, 1) := by decide +kernel
theorem dX7_isClosed_34 : decode cX7_isClosed 34 = .ok (.aload_n 0, 1) := by decide +kernel
theorem dX7_isClosed_35 : decode cX7_isClosed 35 = .ok (.getfield 72, 3) := by decide +kernel
theorem dX7_isClosed_38 : decode cX7_isClosed 38 = .ok (.bipush 6, 2) := by decide +kernel
theorem dX7_isClosed_40 : decode cX7_isClosed 40 = .ok (.iload_n 3, 1) := by decide +kernel
theorem dX7_isClosed_41 : decode cX7_isClosed 41 = .ok (.imul, 1) := by decide +kernel
theorem dX7_isClosed_42 : decode cX7_isClosed 42 = .ok (.iload_n 1, 1) := by decide +kernel
theorem dX7_isClosed_43 : decode cX7_isClosed 43 = .ok (.iadd, 1) := by decide +kernel
theorem dX7_isClosed_44 : decode cX7_isClosed 44 = .ok (.iaload, 1) := by decide +kernel
theorem dX7_isClosed_45 : decode cX7_isClosed 45 = .ok (.iadd, 1) := by decide +kernel
theorem dX7_isClosed_46 : decode cX7_isClosed 46 = .ok (.i2l, 1) := by decide +kernel
theorem dX7_isClosed_47 : decode cX7_isClosed 47 = .ok (.lcmp, 1) := by decide +kernel
theorem dX7_isClosed_48 : decode cX7_isClosed 48 = .ok (.ifCond .gt 7, 3) := by decide +kernel
theorem dX7_isClosed_51 : decode cX7_isClosed 51 = .ok (.iconst 1, 1) := by decide +kernel
theorem dX7_isClosed_52 : decode cX7_isClosed 52 = .ok (.goto 4, 3) := by decide +kernel
theorem dX7_isClosed_55 : decode cX7_isClosed 55 = .ok (.iconst 0, 1) := by decide +kernel
theorem dX7_isClosed_56 : decode cX7_isClosed 56 = .ok (.ireturn, 1) := by decide +kernel
set_option maxRecDepth 20000 in
theorem ggX7_closes_X7_isLab : GoodIn wsX7_closes wsX7_isLab := goodIn_r _ [4, 5, 6, 3, 7] (by decide +kernel) (by decide +kernel)
set_option maxRecDepth 20000 in
theorem gX7_closes_X7_isLab : GoodIn wsX7_closes (va_wsS RX7 196 yX7_isLab wsX7_isLab) := goodIn_app (goodIn_of _ (by decide +kernel)) ggX7_closes_X7_isLab
set_option maxRecDepth 20000 in
theorem ggX7_closes_X7_isRing : GoodIn wsX7_closes wsX7_isRing := goodIn_r _ [11, 12, 31, 32, 33, 34, 35, 36, 37, 38, 39, 40, 41, 42, 43, 44, 45, 46, 47, 48, 49, 50, 51, 52, 53, 54, 55, 56, 57, 58, 59, 60] (by decide +kernel) (by decide +kernel)
set_option maxRecDepth 20000 in
theorem gX7_closes_X7_isRing : GoodIn wsX7_closes (wsV RX7 202 RX7 yX7_isRing wsX7_isRing) := goodIn_app (goodIn_of _ (by decide +kernel)) ggX7_closes_X7_isRing
set_option maxRecDepth 20000 in
theorem ggX7_closes_X7_over : GoodIn wsX7_closes wsX7_over := goodIn_r _ [16, 17, 31, 32, 33, 34, 35, 36, 37, 38, 39, 40, 41, 42, 43, 44, 45, 46, 47, 48, 49, 50, 51, 52, 53, 54, 55, 56, 57, 58, 59, 60] (by decide +kernel) (by decide +kernel)
set_option maxRecDepth 20000 in
theorem gX7_closes_X7_over : GoodIn wsX7_closes (wsV RX7 199 RX7 yX7_over wsX7_over) := goodIn_app (goodIn_of _ (by decide +kernel)) ggX7_closes_X7_over
set_option maxRecDepth 20000 in
theorem ggX7_closes_X7_isClosed : GoodIn wsX7_closes wsX7_isClosed := goodIn_r _ [21, 22, 13, 14, 15, 3, 16, 17, 23, 24, 25, 31, 32, 33, 34, 35, 36, 37, 38, 39, 40, 41, 42, 43, 44, 45, 46, 47, 48, 49, 50, 51, 52, 53, 54, 55, 56, 57, 58, 59, 60] (by decide +kernel) (by decide +kernel)
set_option maxRecDepth 20000 in
theorem gX7_closes_X7_isClosed : GoodIn wsX7_closes (wsV RX7 205 RX7 yX7_isClosed wsX7_isClosed) := goodIn_app (goodIn_of _ (by decide +kernel)) ggX7_closes_X7_isClosed
set_option maxRecDepth 20000 in
theorem ggX7_closes_X7_ask : GoodIn wsX7_closes wsX7_ask := goodIn_r _ [29, 30, 31, 32, 33, 34, 35, 36, 37, 38, 39, 40, 41, 42, 43, 44, 45, 46, 47, 48, 49, 50, 51, 52, 53, 54, 55, 56, 57, 58, 59, 60] (by decide +kernel) (by decide +kernel)
set_option maxRecDepth 20000 in
theorem gX7_closes_X7_ask : GoodIn wsX7_closes (wsV RX7 110 RX7 yX7_ask wsX7_ask) := goodIn_app (goodIn_of _ (by decide +kernel)) ggX7_closes_X7_ask
theorem dX7_closes_0 : decode cX7_closes 0 = .ok (.iload_n 1, 1) := by decide +kernel
theorem dX7_closes_1 : decode cX7_closes 1 = .ok (.invokestatic 196, 3) := by decide +kernel
theorem dX7_closes_4 : decode cX7_closes 4 = .ok (.ifCond .eq 32, 3) := by decide +kernel
theorem dX7_closes_7 : decode cX7_closes 7 = .ok (.iload_n 2, 1) := by decide +kernel
theorem dX7_closes_8 : decode cX7_closes 8 = .ok (.invokestatic 196, 3) := by decide +kernel
theorem dX7_closes_11 : decode cX7_closes 11 = .ok (.ifCond .eq 25, 3) := by decide +kernel
theorem dX7_closes_14 : decode cX7_closes 14 = .ok (.iload_n 3, 1) := by decide +kernel
theorem dX7_closes_15 : decode cX7_closes 15 = .ok (.invokestatic 196, 3) := by decide +kernel
theorem dX7_closes_18 : decode cX7_closes 18 = .ok (.ifCond .eq 18, 3) := by decide +kernel
theorem dX7_closes_21 : decode cX7_closes 21 = .ok (.iload_n 1, 1) := by decide +kernel
theorem dX7_closes_22 : decode cX7_closes 22 = .ok (.iload_n 2, 1) := by decide +kernel
theorem dX7_closes_23 : decode cX7_closes 23 = .ok (.if_icmp .eq 13, 3) := by decide +kernel
theorem dX7_closes_26 : decode cX7_closes 26 = .ok (.iload_n 2, 1) := by decide +kernel
theorem dX7_closes_27 : decode cX7_closes 27 = .ok (.iload_n 3, 1) := by decide +kernel
theorem dX7_closes_28 : decode cX7_closes 28 = .ok (.if_icmp .eq 8, 3) := by decide +kernel
theorem dX7_closes_31 : decode cX7_closes 31 = .ok (.iload_n 1, 1) := by decide +kernel
theorem dX7_closes_32 : decode cX7_closes 32 = .ok (.iload_n 3, 1) := by decide +kernel
theorem dX7_closes_33 : decode cX7_closes 33 = .ok (.if_icmp .ne 5, 3) := by decide +kernel
theorem dX7_closes_36 : decode cX7_closes 36 = .ok (.iconst (-1), 1) := by decide +kernel
theorem dX7_closes_37 : decode cX7_closes 37 = .ok (.ireturn, 1) := by decide +kernel
theorem dX7_closes_38 : decode cX7_closes 38 = .ok (.aload_n 0, 1) := by decide +kernel
theorem dX7_closes_39 : decode cX7_closes 39 = .ok (.iload_n 1, 1) := by decide +kernel
theorem dX7_closes_40 : decode cX7_closes 40 = .ok (.iload_n 2, 1) := by decide +kernel
theorem dX7_closes_41 : decode cX7_closes 41 = .ok (.iload_n 3, 1) := by decide +kernel
theorem dX7_closes_42 : decode cX7_closes 42 = .ok (.invokevirtual 202, 3) := by decide +kernel
theorem dX7_closes_45 : decode cX7_closes 45 = .ok (.ifCond .ne 8, 3) := by decide +kernel
theorem dX7_closes_48 : decode cX7_closes 48 = .ok (.bipush (-4), 2) := by decide +kernel
theorem dX7_closes_50 : decode cX7_closes 50 = .ok (.goto 30, 3) := by decide +kernel
theorem dX7_closes_53 : decode cX7_closes 53 = .ok (.aload_n 0, 1) := by decide +kernel
theorem dX7_closes_54 : decode cX7_closes 54 = .ok (.aload_n 0, 1) := by decide +kernel
theorem dX7_closes_55 : decode cX7_closes 55 = .ok (.iload_n 1, 1) := by decide +kernel
theorem dX7_closes_56 : decode cX7_closes 56 = .ok (.iload_n 2, 1) := by decide +kernel
theorem dX7_closes_57 : decode cX7_closes 57 = .ok (.iload_n 3, 1) := by decide +kernel
theorem dX7_closes_58 : decode cX7_closes 58 = .ok (.invokevirtual 199, 3) := by decide +kernel
theorem dX7_closes_61 : decode cX7_closes 61 = .ok (.i2l, 1) := by decide +kernel
theorem dX7_closes_62 : decode cX7_closes 62 = .ok (.aload_n 0, 1) := by decide +kernel
theorem dX7_closes_63 : decode cX7_closes 63 = .ok (.iload_n 1, 1) := by decide +kernel
theorem dX7_closes_64 : decode cX7_closes 64 = .ok (.iload_n 2, 1) := by decide +kernel
theorem dX7_closes_65 : decode cX7_closes 65 = .ok (.iload_n 3, 1) := by decide +kernel
theorem dX7_closes_66 : decode cX7_closes 66 = .ok (.invokevirtual 205, 3) := by decide +kernel
theorem dX7_closes_69 : decode cX7_closes 69 = .ok (.ifCond .eq 7, 3) := by decide +kernel
theorem dX7_closes_72 : decode cX7_closes 72 = .ok (.iconst 1, 1) := by decide +kernel
theorem dX7_closes_73 : decode cX7_closes 73 = .ok (.goto 4, 3) := by decide +kernel
theorem dX7_closes_76 : decode cX7_closes 76 = .ok (.iconst 0, 1) := by decide +kernel
theorem dX7_closes_77 : decode cX7_closes 77 = .ok (.invokevirtual 110, 3) := by decide +kernel
theorem dX7_closes_80 : decode cX7_closes 80 = .ok (.ireturn, 1) := by decide +kernel
set_option maxRecDepth 20000 in
theorem ggX7_open_X7_isRing : GoodIn wsX7_open wsX7_isRing := goodIn_r _ [5, 6, 20, 21, 22, 23, 24, 25, 26, 27, 28, 29, 30, 31, 32, 33, 34, 35, 36, 37, 38, 39, 40, 41, 42, 43, 44, 45, 46, 47, 48, 49] (by decide +kernel) (by decide +kernel)
set_option maxRecDepth 20000 in
theorem gX7_open_X7_isRing : GoodIn wsX7_open (wsV RX7 202 RX7 yX7_isRing wsX7_isRing) := goodIn_app (goodIn_of _ (by decide +kernel)) ggX7_open_X7_isRing
set_option maxRecDepth 20000 in
theorem ggX7_open_X7_isClosed : GoodIn wsX7_open wsX7_isClosed := goodIn_r _ [10, 11, 12, 13, 14, 4, 15, 16, 17, 18, 19, 20, 21, 22, 23, 24, 25, 26, 27, 28, 29, 30, 31, 32, 33, 34, 35, 36, 37, 38, 39, 40, 41, 42, 43, 44, 45, 46, 47, 48, 49] (by decide +kernel) (by decide +kernel)
set_option maxRecDepth 20000 in
theorem gX7_open_X7_isClosed : GoodIn wsX7_open (wsV RX7 205 RX7 yX7_isClosed wsX7_isClosed) := goodIn_app (goodIn_of _ (by decide +kernel)) ggX7_open_X7_isClosed
theorem dX7_open_0 : decode cX7_open 0 = .ok (.iconst 0, 1) := by decide +kernel
theorem dX7_open_1 : decode cX7_open 1 = .ok (.istore_n 1, 1) := by decide +kernel
theorem dX7_open_2 : decode cX7_open 2 = .ok (.iconst 0, 1) := by decide +kernel
theorem dX7_open_3 : decode cX7_open 3 = .ok (.istore_n 2, 1) := by decide +kernel
theorem dX7_open_4 : decode cX7_open 4 = .ok (.iload_n 2, 1) := by decide +kernel
theorem dX7_open_5 : decode cX7_open 5 = .ok (.bipush 6, 2) := by decide +kernel
theorem dX7_open_7 : decode cX7_open 7 = .ok (.if_icmp .ge 73, 3) := by decide +kernel
theorem dX7_open_10 : decode cX7_open 10 = .ok (.iload_n 2, 1) := by decide +kernel
theorem dX7_open_11 : decode cX7_open 11 = .ok (.iconst 1, 1) := by decide +kernel
theorem dX7_open_12 : decode cX7_open 12 = .ok (.iadd, 1) := by decide +kernel
theorem dX7_open_13 : decode cX7_open 13 = .ok (.istore_n 3, 1) := by decide +kernel
theorem dX7_open_14 : decode cX7_open 14 = .ok (.iload_n 3, 1) := by decide +kernel
theorem dX7_open_15 : decode cX7_open 15 = .ok (.bipush 6, 2) := by decide +kernel
theorem dX7_open_17 : decode cX7_open 17 = .ok (.if_icmp .ge 57, 3) := by decide +kernel
theorem dX7_open_20 : decode cX7_open 20 = .ok (.iload_n 3, 1) := by decide +kernel
theorem dX7_open_21 : decode cX7_open 21 = .ok (.iconst 1, 1) := by decide +kernel
theorem dX7_open_22 : decode cX7_open 22 = .ok (.iadd, 1) := by decide +kernel
theorem dX7_open_23 : decode cX7_open 23 = .ok (.istore 4, 2) := by decide +kernel
theorem dX7_open_25 : decode cX7_open 25 = .ok (.iload 4, 2) := by decide +kernel
theorem dX7_open_27 : decode cX7_open 27 = .ok (.bipush 6, 2) := by decide +kernel
theorem dX7_open_29 : decode cX7_open 29 = .ok (.if_icmp .ge 39, 3) := by decide +kernel
theorem dX7_open_32 : decode cX7_open 32 = .ok (.iload_n 1, 1) := by decide +kernel
theorem dX7_open_33 : decode cX7_open 33 = .ok (.aload_n 0, 1) := by decide +kernel
theorem dX7_open_34 : decode cX7_open 34 = .ok (.iload_n 2, 1) := by decide +kernel
theorem dX7_open_35 : decode cX7_open 35 = .ok (.iload_n 3, 1) := by decide +kernel
theorem dX7_open_36 : decode cX7_open 36 = .ok (.iload 4, 2) := by decide +kernel
theorem dX7_open_38 : decode cX7_open 38 = .ok (.invokevirtual 202, 3) := by decide +kernel
theorem dX7_open_41 : decode cX7_open 41 = .ok (.ifCond .eq 18, 3) := by decide +kernel
theorem dX7_open_44 : decode cX7_open 44 = .ok (.aload_n 0, 1) := by decide +kernel
theorem dX7_open_45 : decode cX7_open 45 = .ok (.iload_n 2, 1) := by decide +kernel
theorem dX7_open_46 : decode cX7_open 46 = .ok (.iload_n 3, 1) := by decide +kernel
theorem dX7_open_47 : decode cX7_open 47 = .ok (.iload 4, 2) := by decide +kernel
theorem dX7_open_49 : decode cX7_open 49 = .ok (.invokevirtual 205, 3) := by decide +kernel
theorem dX7_open_52 : decode cX7_open 52 = .ok (.ifCond .ne 7, 3) := by decide +kernel
theorem dX7_open_55 : decode cX7_open 55 = .ok (.iconst 1, 1) := by decide +kernel
theorem dX7_open_56 : decode cX7_open 56 = .ok (.goto 4, 3) := by decide +kernel
theorem dX7_open_59 : decode cX7_open 59 = .ok (.iconst 0, 1) := by decide +kernel
theorem dX7_open_60 : decode cX7_open 60 = .ok (.iadd, 1) := by decide +kernel
theorem dX7_open_61 : decode cX7_open 61 = .ok (.istore_n 1, 1) := by decide +kernel
theorem dX7_open_62 : decode cX7_open 62 = .ok (.iinc 4 1, 3) := by decide +kernel
theorem dX7_open_65 : decode cX7_open 65 = .ok (.goto (-40), 3) := by decide +kernel
theorem dX7_open_68 : decode cX7_open 68 = .ok (.iinc 3 1, 3) := by decide +kernel
theorem dX7_open_71 : decode cX7_open 71 = .ok (.goto (-57), 3) := by decide +kernel
theorem dX7_open_74 : decode cX7_open 74 = .ok (.iinc 2 1, 3) := by decide +kernel
theorem dX7_open_77 : decode cX7_open 77 = .ok (.goto (-73), 3) := by decide +kernel
theorem dX7_open_80 : decode cX7_open 80 = .ok (.iload_n 1, 1) := by decide +kernel
theorem dX7_open_81 : decode cX7_open 81 = .ok (.ireturn, 1) := by decide +kernel
theorem dX7_asked_0 : decode cX7_asked 0 = .ok (.aload_n 0, 1) := by decide +kernel
theorem dX7_asked_1 : decode cX7_asked 1 = .ok (.getfield 90, 3) := by decide +kernel
theorem dX7_asked_4 : decode cX7_asked 4 = .ok (.lreturn, 1) := by decide +kernel
theorem dX7_upper_0 : decode cX7_upper 0 = .ok (.aload_n 0, 1) := by decide +kernel
theorem dX7_upper_1 : decode cX7_upper 1 = .ok (.getfield 87, 3) := by decide +kernel
theorem dX7_upper_4 : decode cX7_upper 4 = .ok (.lreturn, 1) := by decide +kernel
theorem dX7_lower_0 : decode cX7_lower 0 = .ok (.aload_n 0, 1) := by decide +kernel
theorem dX7_lower_1 : decode cX7_lower 1 = .ok (.getfield 13, 3) := by decide +kernel
theorem dX7_lower_4 : decode cX7_lower 4 = .ok (.lreturn, 1) := by decide +kernel
theorem dX7_tellsCount_0 : decode cX7_tellsCount 0 = .ok (.iconst 0, 1) := by decide +kernel
theorem dX7_tellsCount_1 : decode cX7_tellsCount 1 = .ok (.istore_n 2, 1) := by decide +kernel
theorem dX7_tellsCount_2 : decode cX7_tellsCount 2 = .ok (.iconst 0, 1) := by decide +kernel
theorem dX7_tellsCount_3 : decode cX7_tellsCount 3 = .ok (.istore_n 3, 1) := by decide +kernel
theorem dX7_tellsCount_4 : decode cX7_tellsCount 4 = .ok (.iload_n 3, 1) := by decide +kernel
theorem dX7_tellsCount_5 : decode cX7_tellsCount 5 = .ok (.bipush 6, 2) := by decide +kernel
theorem dX7_tellsCount_7 : decode cX7_tellsCount 7 = .ok (.if_icmp .ge 30, 3) := by decide +kernel
theorem dX7_tellsCount_10 : decode cX7_tellsCount 10 = .ok (.iload_n 1, 1) := by decide +kernel
theorem dX7_tellsCount_11 : decode cX7_tellsCount 11 = .ok (.ifCond .ne 26, 3) := by decide +kernel
theorem dX7_tellsCount_14 : decode cX7_tellsCount 14 = .ok (.iload_n 2, 1) := by decide +kernel
theorem dX7_tellsCount_15 : decode cX7_tellsCount 15 = .ok (.aload_n 0, 1) := by decide +kernel
theorem dX7_tellsCount_16 : decode cX7_tellsCount 16 = .ok (.getfield 17, 3) := by decide +kernel
theorem dX7_tellsCount_19 : decode cX7_tellsCount 19 = .ok (.iload_n 3, 1) := by decide +kernel
theorem dX7_tellsCount_20 : decode cX7_tellsCount 20 = .ok (.iaload, 1) := by decide +kernel
theorem dX7_tellsCount_21 : decode cX7_tellsCount 21 = .ok (.ifCond .lt 7, 3) := by decide +kernel
theorem dX7_tellsCount_24 : decode cX7_tellsCount 24 = .ok (.iconst 1, 1) := by decide +kernel
theorem dX7_tellsCount_25 : decode cX7_tellsCount 25 = .ok (.goto 4, 3) := by decide +kernel
theorem dX7_tellsCount_28 : decode cX7_tellsCount 28 = .ok (.iconst 0, 1) := by decide +kernel
theorem dX7_tellsCount_29 : decode cX7_tellsCount 29 = .ok (.iadd, 1) := by decide +kernel
theorem dX7_tellsCount_30 : decode cX7_tellsCount 30 = .ok (.istore_n 2, 1) := by decide +kernel
theorem dX7_tellsCount_31 : decode cX7_tellsCount 31 = .ok (.iinc 3 1, 3) := by decide +kernel
theorem dX7_tellsCount_34 : decode cX7_tellsCount 34 = .ok (.goto (-30), 3) := by decide +kernel
theorem dX7_tellsCount_37 : decode cX7_tellsCount 37 = .ok (.iconst 0, 1) := by decide +kernel
theorem dX7_tellsCount_38 : decode cX7_tellsCount 38 = .ok (.istore_n 3, 1) := by decide +kernel
theorem dX7_tellsCount_39 : decode cX7_tellsCount 39 = .ok (.iload_n 3, 1) := by decide +kernel
theorem dX7_tellsCount_40 : decode cX7_tellsCount 40 = .ok (.iconst 4, 1) := by decide +kernel
theorem dX7_tellsCount_41 : decode cX7_tellsCount 41 = .ok (.if_icmp .ge 23, 3) := by decide +kernel
theorem dX7_tellsCount_44 : decode cX7_tellsCount 44 = .ok (.iload_n 1, 1) := by decide +kernel
theorem dX7_tellsCount_45 : decode cX7_tellsCount 45 = .ok (.iconst 1, 1) := by decide +kernel
theorem dX7_tellsCount_46 : decode cX7_tellsCount 46 = .ok (.if_icmp .ne 18, 3) := by decide +kernel
theorem dX7_tellsCount_49 : decode cX7_tellsCount 49 = .ok (.iload_n 2, 1) := by decide +kernel
theorem dX7_tellsCount_50 : decode cX7_tellsCount 50 = .ok (.aload_n 0, 1) := by decide +kernel
theorem dX7_tellsCount_51 : decode cX7_tellsCount 51 = .ok (.getfield 26, 3) := by decide +kernel
theorem dX7_tellsCount_54 : decode cX7_tellsCount 54 = .ok (.iload_n 3, 1) := by decide +kernel
theorem dX7_tellsCount_55 : decode cX7_tellsCount 55 = .ok (.iaload, 1) := by decide +kernel
theorem dX7_tellsCount_56 : decode cX7_tellsCount 56 = .ok (.iadd, 1) := by decide +kernel
theorem dX7_tellsCount_57 : decode cX7_tellsCount 57 = .ok (.istore_n 2, 1) := by decide +kernel
theorem dX7_tellsCount_58 : decode cX7_tellsCount 58 = .ok (.iinc 3 1, 3) := by decide +kernel
theorem dX7_tellsCount_61 : decode cX7_tellsCount 61 = .ok (.goto (-22), 3) := by decide +kernel
theorem dX7_tellsCount_64 : decode cX7_tellsCount 64 = .ok (.iconst 0, 1) := by decide +kernel
theorem dX7_tellsCount_65 : decode cX7_tellsCount 65 = .ok (.istore_n 3, 1) := by decide +kernel
theorem dX7_tellsCount_66 : decode cX7_tellsCount 66 = .ok (.iload_n 3, 1) := by decide +kernel
theorem dX7_tellsCount_67 : decode cX7_tellsCount 67 = .ok (.aload_n 0, 1) := by decide +kernel
theorem dX7_tellsCount_68 : decode cX7_tellsCount 68 = .ok (.getfield 147, 3) := by decide +kernel
theorem dX7_tellsCount_71 : decode cX7_tellsCount 71 = .ok (.if_icmp .ge 31, 3) := by decide +kernel
theorem dX7_tellsCount_74 : decode cX7_tellsCount 74 = .ok (.iload_n 1, 1) := by decide +kernel
theorem dX7_tellsCount_75 : decode cX7_tellsCount 75 = .ok (.iconst 4, 1) := by decide +kernel
theorem dX7_tellsCount_76 : decode cX7_tellsCount 76 = .ok (.if_icmp .ne 26, 3) := by decide +kernel
theorem dX7_tellsCount_79 : decode cX7_tellsCount 79 = .ok (.iload_n 2, 1) := by decide +kernel
theorem dX7_tellsCount_80 : decode cX7_tellsCount 80 = .ok (.aload_n 0, 1) := by decide +kernel
theorem dX7_tellsCount_81 : decode cX7_tellsCount 81 = .ok (.getfield 62, 3) := by decide +kernel
theorem dX7_tellsCount_84 : decode cX7_tellsCount 84 = .ok (.iload_n 3, 1) := by decide +kernel
theorem dX7_tellsCount_85 : decode cX7_tellsCount 85 = .ok (.baload, 1) := by decide +kernel
theorem dX7_tellsCount_86 : decode cX7_tellsCount 86 = .ok (.ifCond .eq 7, 3) := by decide +kernel
theorem dX7_tellsCount_89 : decode cX7_tellsCount 89 = .ok (.iconst 1, 1) := by decide +kernel
theorem dX7_tellsCount_90 : decode cX7_tellsCount 90 = .ok (.goto 4, 3) := by decide +kernel
theorem dX7_tellsCount_93 : decode cX7_tellsCount 93 = .ok (.iconst 0, 1) := by decide +kernel
theorem dX7_tellsCount_94 : decode cX7_tellsCount 94 = .ok (.iadd, 1) := by decide +kernel
theorem dX7_tellsCount_95 : decode cX7_tellsCount 95 = .ok (.istore_n 2, 1) := by decide +kernel
theorem dX7_tellsCount_96 : decode cX7_tellsCount 96 = .ok (.iinc 3 1, 3) := by decide +kernel
theorem dX7_tellsCount_99 : decode cX7_tellsCount 99 = .ok (.goto (-33), 3) := by decide +kernel
theorem dX7_tellsCount_102 : decode cX7_tellsCount 102 = .ok (.iload_n 1, 1) := by decide +kernel
theorem dX7_tellsCount_103 : decode cX7_tellsCount 103 = .ok (.iconst 2, 1) := by decide +kernel
theorem dX7_tellsCount_104 : decode cX7_tellsCount 104 = .ok (.if_icmp .ne 10, 3) := by decide +kernel
theorem dX7_tellsCount_107 : decode cX7_tellsCount 107 = .ok (.aload_n 0, 1) := by decide +kernel
theorem dX7_tellsCount_108 : decode cX7_tellsCount 108 = .ok (.getfield 144, 3) := by decide +kernel
theorem dX7_tellsCount_111 : decode cX7_tellsCount 111 = .ok (.goto 16, 3) := by decide +kernel
theorem dX7_tellsCount_114 : decode cX7_tellsCount 114 = .ok (.iload_n 1, 1) := by decide +kernel
theorem dX7_tellsCount_115 : decode cX7_tellsCount 115 = .ok (.iconst 3, 1) := by decide +kernel
theorem dX7_tellsCount_116 : decode cX7_tellsCount 116 = .ok (.if_icmp .ne 10, 3) := by decide +kernel
theorem dX7_tellsCount_119 : decode cX7_tellsCount 119 = .ok (.aload_n 0, 1) := by decide +kernel
theorem dX7_tellsCount_120 : decode cX7_tellsCount 120 = .ok (.getfield 147, 3) := by decide +kernel
theorem dX7_tellsCount_123 : decode cX7_tellsCount 123 = .ok (.goto 4, 3) := by decide +kernel
theorem dX7_tellsCount_126 : decode cX7_tellsCount 126 = .ok (.iload_n 2, 1) := by decide +kernel
theorem dX7_tellsCount_127 : decode cX7_tellsCount 127 = .ok (.ireturn, 1) := by decide +kernel
set_option maxRecDepth 20000 in
theorem ggX7_count_X7_in : GoodIn wsX7_count wsX7_in := goodIn_r _ [4] (by decide +kernel) (by decide +kernel)
set_option maxRecDepth 20000 in
theorem gX7_count_X7_in : GoodIn wsX7_count (va_wsS RX7 93 yX7_in wsX7_in) := goodIn_app (goodIn_of _ (by decide +kernel)) ggX7_count_X7_in
set_option maxRecDepth 20000 in
theorem ggX7_count_X7_tellsCount : GoodIn wsX7_count wsX7_tellsCount := goodIn_r _ [8, 9, 10, 11, 12, 13, 14, 15, 16, 17, 18, 19, 20, 21, 22, 23, 24, 25, 26, 27, 28, 29, 30, 31, 32, 33, 34, 35, 36, 37, 38, 39, 40, 41, 42, 43] (by decide +kernel) (by decide +kernel)
set_option maxRecDepth 20000 in
theorem gX7_count_X7_tellsCount : GoodIn wsX7_count (wsV RX7 208 RX7 yX7_tellsCount wsX7_tellsCount) := goodIn_app (goodIn_of _ (by decide +kernel)) ggX7_count_X7_tellsCount
theorem dX7_count_0 : decode cX7_count 0 = .ok (.iload_n 1, 1) := by decide +kernel
theorem dX7_count_1 : decode cX7_count 1 = .ok (.iconst 0, 1) := by decide +kernel
theorem dX7_count_2 : decode cX7_count 2 = .ok (.iconst 4, 1) := by decide +kernel
theorem dX7_count_3 : decode cX7_count 3 = .ok (.invokestatic 93, 3) := by decide +kernel
theorem dX7_count_6 : decode cX7_count 6 = .ok (.ifCond .eq 11, 3) := by decide +kernel
theorem dX7_count_9 : decode cX7_count 9 = .ok (.aload_n 0, 1) := by decide +kernel
theorem dX7_count_10 : decode cX7_count 10 = .ok (.iload_n 1, 1) := by decide +kernel
theorem dX7_count_11 : decode cX7_count 11 = .ok (.invokevirtual 208, 3) := by decide +kernel
theorem dX7_count_14 : decode cX7_count 14 = .ok (.goto 4, 3) := by decide +kernel
theorem dX7_count_17 : decode cX7_count 17 = .ok (.iconst (-1), 1) := by decide +kernel
theorem dX7_count_18 : decode cX7_count 18 = .ok (.ireturn, 1) := by decide +kernel
theorem dX7_finding_0 : decode cX7_finding 0 = .ok (.aload_n 0, 1) := by decide +kernel
theorem dX7_finding_1 : decode cX7_finding 1 = .ok (.getfield 75, 3) := by decide +kernel
theorem dX7_finding_4 : decode cX7_finding 4 = .ok (.ireturn, 1) := by decide +kernel
set_option maxRecDepth 20000 in
theorem ggX7_findings_X7_in : GoodIn wsX7_findings wsX7_in := goodIn_r _ [5] (by decide +kernel) (by decide +kernel)
set_option maxRecDepth 20000 in
theorem gX7_findings_X7_in : GoodIn wsX7_findings (va_wsS RX7 93 yX7_in wsX7_in) := goodIn_app (goodIn_of _ (by decide +kernel)) ggX7_findings_X7_in
theorem dX7_findings_0 : decode cX7_findings 0 = .ok (.iload_n 1, 1) := by decide +kernel
theorem dX7_findings_1 : decode cX7_findings 1 = .ok (.iconst 1, 1) := by decide +kernel
theorem dX7_findings_2 : decode cX7_findings 2 = .ok (.iconst 5, 1) := by decide +kernel
theorem dX7_findings_3 : decode cX7_findings 3 = .ok (.invokestatic 93, 3) := by decide +kernel
theorem dX7_findings_6 : decode cX7_findings 6 = .ok (.ifCond .eq 12, 3) := by decide +kernel
theorem dX7_findings_9 : decode cX7_findings 9 = .ok (.aload_n 0, 1) := by decide +kernel
theorem dX7_findings_10 : decode cX7_findings 10 = .ok (.getfield 7, 3) := by decide +kernel
theorem dX7_findings_13 : decode cX7_findings 13 = .ok (.iload_n 1, 1) := by decide +kernel
theorem dX7_findings_14 : decode cX7_findings 14 = .ok (.iaload, 1) := by decide +kernel
theorem dX7_findings_15 : decode cX7_findings 15 = .ok (.goto 4, 3) := by decide +kernel
theorem dX7_findings_18 : decode cX7_findings 18 = .ok (.iconst (-1), 1) := by decide +kernel
theorem dX7_findings_19 : decode cX7_findings 19 = .ok (.ireturn, 1) := by decide +kernel
set_option maxRecDepth 20000 in
theorem ggX7_digest_X7_tellsCount : GoodIn wsX7_digest wsX7_tellsCount := goodIn_r _ [12, 6, 13, 4, 14, 3, 40, 41, 42, 43, 44, 45, 46, 47, 48, 49, 50, 51, 52, 53, 54, 55, 56, 57, 58, 59, 60, 61, 62, 63, 64, 65, 66, 67, 68, 69] (by decide +kernel) (by decide +kernel)
set_option maxRecDepth 20000 in
theorem gX7_digest_X7_tellsCount : GoodIn wsX7_digest (wsV RX7 208 RX7 yX7_tellsCount wsX7_tellsCount) := goodIn_app (goodIn_of _ (by decide +kernel)) ggX7_digest_X7_tellsCount
set_option maxRecDepth 20000 in
theorem ggX7_digest_X7_tells : GoodIn wsX7_digest wsX7_tells := goodIn_r _ [18, 4, 19, 14, 20, 21, 22, 23, 24, 11, 25, 26, 27, 28, 29, 30, 31, 40, 41, 42, 43, 44, 45, 46, 47, 48, 49, 50, 51, 52, 53, 54, 55, 56, 57, 58, 59, 60, 61, 62, 63, 64, 65, 66, 67, 68, 69] (by decide +kernel) (by decide +kernel)
set_option maxRecDepth 20000 in
theorem gX7_digest_X7_tells : GoodIn wsX7_digest (wsV RX7 160 RX7 yX7_tells wsX7_tells) := goodIn_app (goodIn_of _ (by decide +kernel)) ggX7_digest_X7_tells
set_option maxRecDepth 20000 in
theorem ggX7_digest_X7_tellsOf : GoodIn wsX7_digest wsX7_tellsOf := goodIn_r _ [35, 19, 36, 37, 31, 38, 14, 39, 40, 41, 42, 43, 44, 45, 46, 47, 48, 49, 50, 51, 52, 53, 54, 55, 56, 57, 58, 59, 60, 61, 62, 63, 64, 65, 66, 67, 68, 69] (by decide +kernel) (by decide +kernel)
set_option maxRecDepth 20000 in
theorem gX7_digest_X7_tellsOf : GoodIn wsX7_digest (wsV RX7 183 RX7 yX7_tellsOf wsX7_tellsOf) := goodIn_app (goodIn_of _ (by decide +kernel)) ggX7_digest_X7_tellsOf
theorem dX7_digest_0 : decode cX7_digest 0 = .ok (.ldc2_w 211, 3) := by decide +kernel
theorem dX7_digest_3 : decode cX7_digest 3 = .ok (.lstore_n 1, 1) := by decide +kernel
theorem dX7_digest_4 : decode cX7_digest 4 = .ok (.iconst 0, 1) := by decide +kernel
theorem dX7_digest_5 : decode cX7_digest 5 = .ok (.istore_n 3, 1) := by decide +kernel
theorem dX7_digest_6 : decode cX7_digest 6 = .ok (.iload_n 3, 1) := by decide +kernel
theorem dX7_digest_7 : decode cX7_digest 7 = .ok (.iconst 4, 1) := by decide +kernel
theorem dX7_digest_8 : decode cX7_digest 8 = .ok (.if_icmp .gt 22, 3) := by decide +kernel
theorem dX7_digest_11 : decode cX7_digest 11 = .ok (.ldc2_w 213, 3) := by decide +kernel
theorem dX7_digest_14 : decode cX7_digest 14 = .ok (.lload_n 1, 1) := by decide +kernel
theorem dX7_digest_15 : decode cX7_digest 15 = .ok (.lmul, 1) := by decide +kernel
theorem dX7_digest_16 : decode cX7_digest 16 = .ok (.aload_n 0, 1) := by decide +kernel
theorem dX7_digest_17 : decode cX7_digest 17 = .ok (.iload_n 3, 1) := by decide +kernel
theorem dX7_digest_18 : decode cX7_digest 18 = .ok (.invokevirtual 208, 3) := by decide +kernel
theorem dX7_digest_21 : decode cX7_digest 21 = .ok (.i2l, 1) := by decide +kernel
theorem dX7_digest_22 : decode cX7_digest 22 = .ok (.ladd, 1) := by decide +kernel
theorem dX7_digest_23 : decode cX7_digest 23 = .ok (.lstore_n 1, 1) := by decide +kernel
theorem dX7_digest_24 : decode cX7_digest 24 = .ok (.iinc 3 1, 3) := by decide +kernel
theorem dX7_digest_27 : decode cX7_digest 27 = .ok (.goto (-21), 3) := by decide +kernel
theorem dX7_digest_30 : decode cX7_digest 30 = .ok (.iconst 0, 1) := by decide +kernel
theorem dX7_digest_31 : decode cX7_digest 31 = .ok (.istore_n 3, 1) := by decide +kernel
theorem dX7_digest_32 : decode cX7_digest 32 = .ok (.iload_n 3, 1) := by decide +kernel
theorem dX7_digest_33 : decode cX7_digest 33 = .ok (.aload_n 0, 1) := by decide +kernel
theorem dX7_digest_34 : decode cX7_digest 34 = .ok (.getfield 144, 3) := by decide +kernel
theorem dX7_digest_37 : decode cX7_digest 37 = .ok (.if_icmp .ge 39, 3) := by decide +kernel
theorem dX7_digest_40 : decode cX7_digest 40 = .ok (.iconst 0, 1) := by decide +kernel
theorem dX7_digest_41 : decode cX7_digest 41 = .ok (.istore 4, 2) := by decide +kernel
theorem dX7_digest_43 : decode cX7_digest 43 = .ok (.iload 4, 2) := by decide +kernel
theorem dX7_digest_45 : decode cX7_digest 45 = .ok (.iconst 4, 1) := by decide +kernel
theorem dX7_digest_46 : decode cX7_digest 46 = .ok (.if_icmp .gt 24, 3) := by decide +kernel
theorem dX7_digest_49 : decode cX7_digest 49 = .ok (.ldc2_w 213, 3) := by decide +kernel
theorem dX7_digest_52 : decode cX7_digest 52 = .ok (.lload_n 1, 1) := by decide +kernel
theorem dX7_digest_53 : decode cX7_digest 53 = .ok (.lmul, 1) := by decide +kernel
theorem dX7_digest_54 : decode cX7_digest 54 = .ok (.aload_n 0, 1) := by decide +kernel
theorem dX7_digest_55 : decode cX7_digest 55 = .ok (.iload_n 3, 1) := by decide +kernel
theorem dX7_digest_56 : decode cX7_digest 56 = .ok (.iload 4, 2) := by decide +kernel
theorem dX7_digest_58 : decode cX7_digest 58 = .ok (.invokevirtual 160, 3) := by decide +kernel
theorem dX7_digest_61 : decode cX7_digest 61 = .ok (.i2l, 1) := by decide +kernel
theorem dX7_digest_62 : decode cX7_digest 62 = .ok (.ladd, 1) := by decide +kernel
theorem dX7_digest_63 : decode cX7_digest 63 = .ok (.lstore_n 1, 1) := by decide +kernel
theorem dX7_digest_64 : decode cX7_digest 64 = .ok (.iinc 4 1, 3) := by decide +kernel
theorem dX7_digest_67 : decode cX7_digest 67 = .ok (.goto (-24), 3) := by decide +kernel
theorem dX7_digest_70 : decode cX7_digest 70 = .ok (.iinc 3 1, 3) := by decide +kernel
theorem dX7_digest_73 : decode cX7_digest 73 = .ok (.goto (-41), 3) := by decide +kernel
theorem dX7_digest_76 : decode cX7_digest 76 = .ok (.iconst 0, 1) := by decide +kernel
theorem dX7_digest_77 : decode cX7_digest 77 = .ok (.istore_n 3, 1) := by decide +kernel
theorem dX7_digest_78 : decode cX7_digest 78 = .ok (.iload_n 3, 1) := by decide +kernel
theorem dX7_digest_79 : decode cX7_digest 79 = .ok (.aload_n 0, 1) := by decide +kernel
theorem dX7_digest_80 : decode cX7_digest 80 = .ok (.getfield 147, 3) := by decide +kernel
theorem dX7_digest_83 : decode cX7_digest 83 = .ok (.if_icmp .ge 54, 3) := by decide +kernel
theorem dX7_digest_86 : decode cX7_digest 86 = .ok (.iconst 0, 1) := by decide +kernel
theorem dX7_digest_87 : decode cX7_digest 87 = .ok (.istore 4, 2) := by decide +kernel
theorem dX7_digest_89 : decode cX7_digest 89 = .ok (.iload 4, 2) := by decide +kernel
theorem dX7_digest_91 : decode cX7_digest 91 = .ok (.bipush 6, 2) := by decide +kernel
theorem dX7_digest_93 : decode cX7_digest 93 = .ok (.if_icmp .gt 24, 3) := by decide +kernel
theorem dX7_digest_96 : decode cX7_digest 96 = .ok (.ldc2_w 213, 3) := by decide +kernel
theorem dX7_digest_99 : decode cX7_digest 99 = .ok (.lload_n 1, 1) := by decide +kernel
theorem dX7_digest_100 : decode cX7_digest 100 = .ok (.lmul, 1) := by decide +kernel
theorem dX7_digest_101 : decode cX7_digest 101 = .ok (.aload_n 0, 1) := by decide +kernel
theorem dX7_digest_102 : decode cX7_digest 102 = .ok (.iload_n 3, 1) := by decide +kernel
theorem dX7_digest_103 : decode cX7_digest 103 = .ok (.iload 4, 2) := by decide +kernel
theorem dX7_digest_105 : decode cX7_digest 105 = .ok (.invokevirtual 183, 3) := by decide +kernel
theorem dX7_digest_108 : decode cX7_digest 108 = .ok (.i2l, 1) := by decide +kernel
theorem dX7_digest_109 : decode cX7_digest 109 = .ok (.ladd, 1) := by decide +kernel
theorem dX7_digest_110 : decode cX7_digest 110 = .ok (.lstore_n 1, 1) := by decide +kernel
theorem dX7_digest_111 : decode cX7_digest 111 = .ok (.iinc 4 1, 3) := by decide +kernel
theorem dX7_digest_114 : decode cX7_digest 114 = .ok (.goto (-25), 3) := by decide +kernel
theorem dX7_digest_117 : decode cX7_digest 117 = .ok (.ldc2_w 213, 3) := by decide +kernel
theorem dX7_digest_120 : decode cX7_digest 120 = .ok (.lload_n 1, 1) := by decide +kernel
theorem dX7_digest_121 : decode cX7_digest 121 = .ok (.lmul, 1) := by decide +kernel
theorem dX7_digest_122 : decode cX7_digest 122 = .ok (.aload_n 0, 1) := by decide +kernel
theorem dX7_digest_123 : decode cX7_digest 123 = .ok (.getfield 53, 3) := by decide +kernel
theorem dX7_digest_126 : decode cX7_digest 126 = .ok (.iload_n 3, 1) := by decide +kernel
theorem dX7_digest_127 : decode cX7_digest 127 = .ok (.iaload, 1) := by decide +kernel
theorem dX7_digest_128 : decode cX7_digest 128 = .ok (.i2l, 1) := by decide +kernel
theorem dX7_digest_129 : decode cX7_digest 129 = .ok (.ladd, 1) := by decide +kernel
theorem dX7_digest_130 : decode cX7_digest 130 = .ok (.lstore_n 1, 1) := by decide +kernel
theorem dX7_digest_131 : decode cX7_digest 131 = .ok (.iinc 3 1, 3) := by decide +kernel
theorem dX7_digest_134 : decode cX7_digest 134 = .ok (.goto (-56), 3) := by decide +kernel
theorem dX7_digest_137 : decode cX7_digest 137 = .ok (.iconst 0, 1) := by decide +kernel
theorem dX7_digest_138 : decode cX7_digest 138 = .ok (.istore_n 3, 1) := by decide +kernel
theorem dX7_digest_139 : decode cX7_digest 139 = .ok (.iload_n 3, 1) := by decide +kernel
theorem dX7_digest_140 : decode cX7_digest 140 = .ok (.bipush 6, 2) := by decide +kernel
theorem dX7_digest_142 : decode cX7_digest 142 = .ok (.if_icmp .ge 76, 3) := by decide +kernel
theorem dX7_digest_145 : decode cX7_digest 145 = .ok (.ldc2_w 213, 3) := by decide +kernel
theorem dX7_digest_148 : decode cX7_digest 148 = .ok (.lload_n 1, 1) := by decide +kernel
theorem dX7_digest_149 : decode cX7_digest 149 = .ok (.lmul, 1) := by decide +kernel
theorem dX7_digest_150 : decode cX7_digest 150 = .ok (.aload_n 0, 1) := by decide +kernel
theorem dX7_digest_151 : decode cX7_digest 151 = .ok (.getfield 17, 3) := by decide +kernel
theorem dX7_digest_154 : decode cX7_digest 154 = .ok (.iload_n 3, 1) := by decide +kernel
theorem dX7_digest_155 : decode cX7_digest 155 = .ok (.iaload, 1) := by decide +kernel
theorem dX7_digest_156 : decode cX7_digest 156 = .ok (.ifCond .ge 7, 3) := by decide +kernel
theorem dX7_digest_159 : decode cX7_digest 159 = .ok (.iconst (-1), 1) := by decide +kernel
theorem dX7_digest_160 : decode cX7_digest 160 = .ok (.goto 9, 3) := by decide +kernel
theorem dX7_digest_163 : decode cX7_digest 163 = .ok (.aload_n 0, 1) := by decide +kernel
theorem dX7_digest_164 : decode cX7_digest 164 = .ok (.getfield 17, 3) := by decide +kernel
theorem dX7_digest_167 : decode cX7_digest 167 = .ok (.iload_n 3, 1) := by decide +kernel
theorem dX7_digest_168 : decode cX7_digest 168 = .ok (.iaload, 1) := by decide +kernel
theorem dX7_digest_169 : decode cX7_digest 169 = .ok (.i2l, 1) := by decide +kernel
theorem dX7_digest_170 : decode cX7_digest 170 = .ok (.ladd, 1) := by decide +kernel
theorem dX7_digest_171 : decode cX7_digest 171 = .ok (.lstore_n 1, 1) := by decide +kernel
theorem dX7_digest_172 : decode cX7_digest 172 = .ok (.iconst 0, 1) := by decide +kernel
theorem dX7_digest_173 : decode cX7_digest 173 = .ok (.istore 4, 2) := by decide +kernel
theorem dX7_digest_175 : decode cX7_digest 175 = .ok (.iload 4, 2) := by decide +kernel
theorem dX7_digest_177 : decode cX7_digest 177 = .ok (.aload_n 0, 1) := by decide +kernel
theorem dX7_digest_178 : decode cX7_digest 178 = .ok (.getfield 17, 3) := by decide +kernel
theorem dX7_digest_181 : decode cX7_digest 181 = .ok (.iload_n 3, 1) := by decide +kernel
theorem dX7_digest_182 : decode cX7_digest 182 = .ok (.iaload, 1) := by decide +kernel
theorem dX7_digest_183 : decode cX7_digest 183 = .ok (.if_icmp .ge 29, 3) := by decide +kernel
theorem dX7_digest_186 : decode cX7_digest 186 = .ok (.ldc2_w 213, 3) := by decide +kernel
theorem dX7_digest_189 : decode cX7_digest 189 = .ok (.lload_n 1, 1) := by decide +kernel
theorem dX7_digest_190 : decode cX7_digest 190 = .ok (.lmul, 1) := by decide +kernel
theorem dX7_digest_191 : decode cX7_digest 191 = .ok (.aload_n 0, 1) := by decide +kernel
theorem dX7_digest_192 : decode cX7_digest 192 = .ok (.getfield 20, 3) := by decide +kernel
theorem dX7_digest_195 : decode cX7_digest 195 = .ok (.bipush 40, 2) := by decide +kernel
theorem dX7_digest_197 : decode cX7_digest 197 = .ok (.iload_n 3, 1) := by decide +kernel
theorem dX7_digest_198 : decode cX7_digest 198 = .ok (.imul, 1) := by decide +kernel
theorem dX7_digest_199 : decode cX7_digest 199 = .ok (.iload 4, 2) := by decide +kernel
theorem dX7_digest_201 : decode cX7_digest 201 = .ok (.iadd, 1) := by decide +kernel
theorem dX7_digest_202 : decode cX7_digest 202 = .ok (.iaload, 1) := by decide +kernel
theorem dX7_digest_203 : decode cX7_digest 203 = .ok (.i2l, 1) := by decide +kernel
theorem dX7_digest_204 : decode cX7_digest 204 = .ok (.ladd, 1) := by decide +kernel
theorem dX7_digest_205 : decode cX7_digest 205 = .ok (.lstore_n 1, 1) := by decide +kernel
theorem dX7_digest_206 : decode cX7_digest 206 = .ok (.iinc 4 1, 3) := by decide +kernel
theorem dX7_digest_209 : decode cX7_digest 209 = .ok (.goto (-34), 3) := by decide +kernel
theorem dX7_digest_212 : decode cX7_digest 212 = .ok (.iinc 3 1, 3) := by decide +kernel
theorem dX7_digest_215 : decode cX7_digest 215 = .ok (.goto (-76), 3) := by decide +kernel
theorem dX7_digest_218 : decode cX7_digest 218 = .ok (.lload_n 1, 1) := by decide +kernel
theorem dX7_digest_219 : decode cX7_digest 219 = .ok (.lreturn, 1) := by decide +kernel
end
section
theorem dJ9_abs_0f7a4_0 : decode cJ9_abs_0f7a4 0 = .ok (.iload_n 0, 1) := by decide +kernel
theorem dJ9_abs_0f7a4_1 : decode cJ9_abs_0f7a4 1 = .ok (.ifCond .ge 8, 3) := by decide +kernel
theorem dJ9_abs_0f7a4_4 : decode cJ9_abs_0f7a4 4 = .ok (.iload_n 0, 1) := by decide +kernel
theorem dJ9_abs_0f7a4_5 : decode cJ9_abs_0f7a4 5 = .ok (.ineg, 1) := by decide +kernel
theorem dJ9_abs_0f7a4_6 : decode cJ9_abs_0f7a4 6 = .ok (.goto 4, 3) := by decide +kernel
theorem dJ9_abs_0f7a4_9 : decode cJ9_abs_0f7a4 9 = .ok (.iload_n 0, 1) := by decide +kernel
theorem dJ9_abs_0f7a4_10 : decode cJ9_abs_0f7a4 10 = .ok (.ireturn, 1) := by decide +kernel
theorem dJ9_abs_067f4_0 : decode cJ9_abs_067f4 0 = .ok (.lload_n 0, 1) := by decide +kernel
theorem dJ9_abs_067f4_1 : decode cJ9_abs_067f4 1 = .ok (.lconst 0, 1) := by decide +kernel
theorem dJ9_abs_067f4_2 : decode cJ9_abs_067f4 2 = .ok (.lcmp, 1) := by decide +kernel
theorem dJ9_abs_067f4_3 : decode cJ9_abs_067f4 3 = .ok (.ifCond .ge 8, 3) := by decide +kernel
theorem dJ9_abs_067f4_6 : decode cJ9_abs_067f4 6 = .ok (.lload_n 0, 1) := by decide +kernel
theorem dJ9_abs_067f4_7 : decode cJ9_abs_067f4 7 = .ok (.lneg, 1) := by decide +kernel
theorem dJ9_abs_067f4_8 : decode cJ9_abs_067f4 8 = .ok (.goto 4, 3) := by decide +kernel
theorem dJ9_abs_067f4_11 : decode cJ9_abs_067f4 11 = .ok (.lload_n 0, 1) := by decide +kernel
theorem dJ9_abs_067f4_12 : decode cJ9_abs_067f4 12 = .ok (.lreturn, 1) := by decide +kernel
theorem dJ9_max_7cf53_0 : decode cJ9_max_7cf53 0 = .ok (.iload_n 0, 1) := by decide +kernel
theorem dJ9_max_7cf53_1 : decode cJ9_max_7cf53 1 = .ok (.iload_n 1, 1) := by decide +kernel
theorem dJ9_max_7cf53_2 : decode cJ9_max_7cf53 2 = .ok (.if_icmp .lt 7, 3) := by decide +kernel
theorem dJ9_max_7cf53_5 : decode cJ9_max_7cf53 5 = .ok (.iload_n 0, 1) := by decide +kernel
theorem dJ9_max_7cf53_6 : decode cJ9_max_7cf53 6 = .ok (.goto 4, 3) := by decide +kernel
theorem dJ9_max_7cf53_9 : decode cJ9_max_7cf53 9 = .ok (.iload_n 1, 1) := by decide +kernel
theorem dJ9_max_7cf53_10 : decode cJ9_max_7cf53 10 = .ok (.ireturn, 1) := by decide +kernel
theorem dJ9_min_7cf53_0 : decode cJ9_min_7cf53 0 = .ok (.iload_n 0, 1) := by decide +kernel
theorem dJ9_min_7cf53_1 : decode cJ9_min_7cf53 1 = .ok (.iload_n 1, 1) := by decide +kernel
theorem dJ9_min_7cf53_2 : decode cJ9_min_7cf53 2 = .ok (.if_icmp .gt 7, 3) := by decide +kernel
theorem dJ9_min_7cf53_5 : decode cJ9_min_7cf53 5 = .ok (.iload_n 0, 1) := by decide +kernel
theorem dJ9_min_7cf53_6 : decode cJ9_min_7cf53 6 = .ok (.goto 4, 3) := by decide +kernel
theorem dJ9_min_7cf53_9 : decode cJ9_min_7cf53 9 = .ok (.iload_n 1, 1) := by decide +kernel
theorem dJ9_min_7cf53_10 : decode cJ9_min_7cf53 10 = .ok (.ireturn, 1) := by decide +kernel
theorem dJ9_min_f86c9_0 : decode cJ9_min_f86c9 0 = .ok (.lload_n 0, 1) := by decide +kernel
theorem dJ9_min_f86c9_1 : decode cJ9_min_f86c9 1 = .ok (.lload_n 2, 1) := by decide +kernel
theorem dJ9_min_f86c9_2 : decode cJ9_min_f86c9 2 = .ok (.lcmp, 1) := by decide +kernel
theorem dJ9_min_f86c9_3 : decode cJ9_min_f86c9 3 = .ok (.ifCond .gt 7, 3) := by decide +kernel
theorem dJ9_min_f86c9_6 : decode cJ9_min_f86c9 6 = .ok (.lload_n 0, 1) := by decide +kernel
theorem dJ9_min_f86c9_7 : decode cJ9_min_f86c9 7 = .ok (.goto 4, 3) := by decide +kernel
theorem dJ9_min_f86c9_10 : decode cJ9_min_f86c9 10 = .ok (.lload_n 2, 1) := by decide +kernel
theorem dJ9_min_f86c9_11 : decode cJ9_min_f86c9 11 = .ok (.lreturn, 1) := by decide +kernel
theorem dJ7_fill_53178_0 : decode cJ7_fill_53178 0 = .ok (.iconst 0, 1) := by decide +kernel
theorem dJ7_fill_53178_1 : decode cJ7_fill_53178 1 = .ok (.istore_n 2, 1) := by decide +kernel
theorem dJ7_fill_53178_2 : decode cJ7_fill_53178 2 = .ok (.aload_n 0, 1) := by decide +kernel
theorem dJ7_fill_53178_3 : decode cJ7_fill_53178 3 = .ok (.arraylength, 1) := by decide +kernel
theorem dJ7_fill_53178_4 : decode cJ7_fill_53178 4 = .ok (.istore_n 3, 1) := by decide +kernel
theorem dJ7_fill_53178_5 : decode cJ7_fill_53178 5 = .ok (.iload_n 2, 1) := by decide +kernel
theorem dJ7_fill_53178_6 : decode cJ7_fill_53178 6 = .ok (.iload_n 3, 1) := by decide +kernel
theorem dJ7_fill_53178_7 : decode cJ7_fill_53178 7 = .ok (.if_icmp .ge 13, 3) := by decide +kernel
theorem dJ7_fill_53178_10 : decode cJ7_fill_53178 10 = .ok (.aload_n 0, 1) := by decide +kernel
theorem dJ7_fill_53178_11 : decode cJ7_fill_53178 11 = .ok (.iload_n 2, 1) := by decide +kernel
theorem dJ7_fill_53178_12 : decode cJ7_fill_53178 12 = .ok (.iload_n 1, 1) := by decide +kernel
theorem dJ7_fill_53178_13 : decode cJ7_fill_53178 13 = .ok (.iastore, 1) := by decide +kernel
theorem dJ7_fill_53178_14 : decode cJ7_fill_53178 14 = .ok (.iinc 2 1, 3) := by decide +kernel
theorem dJ7_fill_53178_17 : decode cJ7_fill_53178 17 = .ok (.goto (-12), 3) := by decide +kernel
theorem dJ7_fill_53178_20 : decode cJ7_fill_53178 20 = .ok (.return_, 1) := by decide +kernel
end
section
abbrev vwCl : List vw_C := [(RX0, TX0, 3), (RX1, TX1, 2), (RX2, TX2, 2), (RX3, TX3, 2), (RX4, TX4, 2), (RX5, TX5, 3), (RX6, TX6, 9), (RX7, TX7, 30)]
abbrev mm_I : Type := Nat → Nat → Int32
abbrev mm_L : Type := Nat → Nat → Int64
abbrev mm_E : Type := (Nat → Nat) × ClassId × ClassId × ClassId × va_G × Launch
def up2 (g : mm_I) (k j : Nat) (v : Int32) : mm_I := fun a => if a = k then upd (g k) j v else g a
def upL (h : mm_L) (k j : Nat) (v : Int64) : mm_L := fun a b => if a = k ∧ b = j then v else h a b
theorem up2_s (g : mm_I) (k j : Nat) (v : Int32) : up2 g k j v k = upd (g k) j v := if_pos rfl
theorem up2_n (g : mm_I) {k a : Nat} (j : Nat) (v : Int32) (h : a ≠ k) : up2 g k j v a = g a := if_neg h
theorem up2_ss (g : mm_I) (k j : Nat) (v : Int32) : up2 g k j v k j = v := by rw [up2_s]; exact pk_us
theorem up2_sn (g : mm_I) (k : Nat) {j b : Nat} (v : Int32) (h : b ≠ j) : up2 g k j v k b = g k b := by rw [up2_s]; exact pk_un h
theorem upL_s (h : mm_L) (k j : Nat) (v : Int64) : upL h k j v k j = v := if_pos ⟨rfl, rfl⟩
theorem upL_n (h : mm_L) {k j a b : Nat} (v : Int64) (hn : ¬ (a = k ∧ b = j)) : upL h k j v a b = h a b := if_neg hn
def mm_len (k : Nat) : Nat := ([0, 0, 0, 0, 0, 0, 0, 0, 6, 6, 4, 16, 16, 6, 6, 240, 40, 4, 16, 16, 16, 16, 40, 40, 40, 40, 40, 40, 40, 36, 36, 40, 36, 6, 4, 4, 40, 6, 6] : List Nat).getD k (if k < 45 then 40 else if k < 53 then 4 else if k < 93 then 8 else 6)
def mm_base (k : Nat) : Nat := if k = 33 then 39 else if k = 34 then 45 else if k = 35 then 49 else if k = 36 then 53 else if k = 37 then 93 else 99
def mm_ob (E : mm_E) (g : mm_I) (h : mm_L) (k : Nat) : Nat × List Value := match k with
  | 0 => (6, [.ref (E.1 1), .ref (E.1 2), .ref (E.1 3), .ref (E.1 4), .ref (E.1 5), .ref (E.1 6), .ref (E.1 8), .int (g 0 7), .long (h 0 8)])
  | 1 => (4, [.ref (E.1 33), .ref (E.1 9)])
  | 2 => (5, [.ref (E.1 34), .ref (E.1 35), .ref (E.1 10)])
  | 3 => (0, [.ref (E.1 11), .ref (E.1 12), .int (g 3 2)])
  | 4 => (1, [.ref (E.1 36), .int (g 4 1)])
  | 5 => (3, [.ref (E.1 37), .ref (E.1 38)])
  | 6 => (2, [.long (h 6 0), .long (h 6 1)])
  | _ => (7, [.int (g 7 0), .ref (E.1 13), .long (h 7 2), .long (h 7 3), .long (h 7 4), .ref (E.1 14), .ref (E.1 15), .ref (E.1 16), .ref (E.1 17), .ref (E.1 18), .ref (E.1 19), .long (h 7 11), .long (h 7 12), .int (g 7 13), .ref (E.1 20), .ref (E.1 21), .int (g 7 16), .ref (E.1 22), .ref (E.1 23), .ref (E.1 24), .ref (E.1 25), .ref (E.1 26), .ref (E.1 27), .ref (E.1 28), .ref (E.1 31), .int (g 7 25), .int (g 7 26), .ref (E.1 32), .ref (E.1 29), .ref (E.1 30)])
def mm_ce (E : mm_E) (g : mm_I) (h : mm_L) (k : Nat) : va_E :=
  if k < 8 then .inr (mm_ob E g h k) else if k = 31 ∨ k = 32 then .inl (E.2.2.1, mm_len k, .inl (g k)) else if 33 ≤ k ∧ k ≤ 38 then .inl (E.2.2.2.1, mm_len k, .inr (.inr (.inr (.inr (fun i => if i < mm_len k then some (E.1 (mm_base k + i)) else none))))) else .inl (E.2.1, mm_len k, .inl (g k))
def mm_wl (E : mm_E) (g : mm_I) (h : mm_L) : va_W := (List.range 105).map (fun k => (E.1 k, mm_ce E g h k))
def mm_isI (k : Nat) : Prop := (8 ≤ k ∧ k ≤ 30) ∨ (39 ≤ k ∧ k < 105)
def mm_isZ (k : Nat) : Prop := k = 31 ∨ k = 32
def mm_isG (k : Nat) : Prop := 33 ≤ k ∧ k ≤ 38
theorem mm_ce_o (E : mm_E) (g : mm_I) (h : mm_L) {k : Nat} (hk : k < 8) : mm_ce E g h k = .inr (mm_ob E g h k) := if_pos hk
theorem mm_ce_i (E : mm_E) (g : mm_I) (h : mm_L) {k : Nat} (hk : mm_isI k) : mm_ce E g h k = .inl (E.2.1, mm_len k, .inl (g k)) := by
  unfold mm_isI at hk
  unfold mm_ce
  rw [if_neg (by omega), if_neg (by omega), if_neg (by omega)]
theorem mm_ce_z (E : mm_E) (g : mm_I) (h : mm_L) {k : Nat} (hk : mm_isZ k) : mm_ce E g h k = .inl (E.2.2.1, mm_len k, .inl (g k)) := by
  unfold mm_isZ at hk
  unfold mm_ce
  rw [if_neg (by omega), if_pos hk]
theorem mm_ce_g (E : mm_E) (g : mm_I) (h : mm_L) {k : Nat} (hk : mm_isG k) : mm_ce E g h k = .inl (E.2.2.2.1, mm_len k, .inr (.inr (.inr (.inr (fun i => if i < mm_len k then some (E.1 (mm_base k + i)) else none))))) := by
  unfold mm_isG at hk
  unfold mm_ce
  rw [if_neg (by omega), if_neg (by omega), if_pos hk]
theorem mm_at (E : mm_E) (g : mm_I) (h : mm_L) {k : Nat} (hk : k < 105) : (mm_wl E g h)[k]? = some (E.1 k, mm_ce E g h k) := by
  unfold mm_wl
  rw [List.getElem?_map, List.getElem?_range hk]
  rfl
theorem mm_at_o (E : mm_E) (g : mm_I) (h : mm_L) {k : Nat} {q : Nat × List Value} (hk : k < 8) (hq : mm_ob E g h k = q) : (mm_wl E g h)[k]? = some (E.1 k, .inr q) := by
  rw [mm_at E g h (by omega), mm_ce_o E g h hk, hq]
theorem mm_set (E : mm_E) (g g' : mm_I) (h h' : mm_L) {k : Nat} (hk : k < 105) {e : va_E} (he : mm_ce E g' h' k = e) (ho : ∀ j, j < 105 → j ≠ k → mm_ce E g' h' j = mm_ce E g h j) : (mm_wl E g h).set k (E.1 k, e) = mm_wl E g' h' := by
  apply List.ext_getElem?
  intro i
  have hlen : (mm_wl E g h).length = 105 := by simp [mm_wl]
  have hlen' : (mm_wl E g' h').length = 105 := by simp [mm_wl]
  by_cases hi : i < 105
  · by_cases e1 : i = k
    · subst e1
      rw [List.getElem?_set_self (by omega), mm_at E g' h' hi, he]
    · rw [List.getElem?_set_ne (Ne.symm e1), mm_at E g h hi, mm_at E g' h' hi, ho i hi e1]
  · rw [List.getElem?_eq_none (by rw [List.length_set]; omega), List.getElem?_eq_none (by omega)]
def mm_Pw (E : mm_E) (g : mm_I) (h : mm_L) (H : Heap) : Prop := va_P E.2.2.2.2.1 vwCl (mm_wl E g h) H
def mm_N1 : Cond := .fieldLinkNest RX6 257 "BathBook$Fraction" "top" "J" RX6
def mm_Nst (U : State) : Prop := va_Nw (.fieldLinkNest RX6 257 "BathBook$Fraction" "top" "J" RX6) U ∧ va_Nw (.fieldLinkNest RX6 260 "BathBook$Fraction" "bottom" "J" RX6) U ∧ va_Nw (.methodLinkNest RX0 22 yX6_isBetween RX6) U ∧ va_Nw (.methodLinkNest RX1 20 yX6_isBetween RX6) U ∧ va_Nw (.methodLinkNest RX2 16 yX6_greatestDivisor RX6) U ∧ va_Nw (.methodLinkNest RX4 26 yX6_isBetween RX6) U ∧ va_Nw (.methodLinkNest RX5 27 yX6_leastMultiple RX6) U
abbrev mm_tys (E : mm_E) : List (ClassId × FieldType) := [(E.2.1, .int), (E.2.2.1, .boolean), (E.2.2.2.1, .array .int)]
def mm_Ij (E : mm_E) : Prop := ∀ i j, i < 105 → j < 105 → E.1 i = E.1 j → i = j
def mm_Kn (E : mm_E) (U : State) : Prop := mm_Ij E ∧ va_K E.2.2.2.2.1 vwCl (mm_tys E) U ∧ mm_Nst U
theorem mm_Kn.same {E : mm_E} {u U : State} (hv : u.vm = U.vm) (h : mm_Kn E u) : mm_Kn E U := by
  obtain ⟨a, b, c1, c2, c3, c4, c5, c6, c7⟩ := h
  exact ⟨a, va_K.moved (by rw [hv]; exact Vm.Alike.refl U.vm) b, c1.same rfl hv, c2.same rfl hv, c3.same rfl hv, c4.same rfl hv, c5.same rfl hv, c6.same rfl hv, c7.same rfl hv⟩
theorem mm_Kn.warm {E : mm_E} {u U : State} (hW : u.WarmedH U.vm) (h : mm_Kn E u) : mm_Kn E U := by
  obtain ⟨a, b, c1, c2, c3, c4, c5, c6, c7⟩ := h
  exact ⟨a, va_K.moved hW.alike b, c1.warmF hW, c2.warmF hW, c3.warmM hW, c4.warmM hW, c5.warmM hW, c6.warmM hW, c7.warmM hW⟩
def mm_A (E : mm_E) : Nat → Prop := fun q => ∃ k, k < 105 ∧ q = E.1 k
theorem mm_D {E : mm_E} (hI : mm_Ij E) {A : Nat → Prop} (hA : ∀ k, k < 105 → A (E.1 k)) (g : mm_I) (h : mm_L) : va_D A (mm_wl E g h) := by
  have hlt : ∀ (i : Nat) (p : Nat × va_E), (mm_wl E g h)[i]? = some p → i < 105 := fun i p hp => by
    have := (List.getElem?_eq_some_iff.mp hp).1
    simpa [mm_wl] using this
  refine ⟨fun i j p q hp hq e => ?_, fun k q hq => ?_⟩
  · have hi := hlt i p hp
    have hj := hlt j q hq
    rw [mm_at E g h hi] at hp
    rw [mm_at E g h hj] at hq
    cases hp
    cases hq
    exact hI i j hi hj e
  · have hk := hlt k q hq
    rw [mm_at E g h hk] at hq
    cases hq
    exact hA k hk
abbrev mm_X : Type := Program × Env × Room × State × MethodId × Array Value × List Frame × Method × Code × Nat × Nat × (State → Prop) × (Nat → Prop)
def JJ (E : mm_E) (X : mm_X) (g : mm_I) (h : mm_L) (pc : Nat) (L : List (Nat × Value)) (st : List Value) : Prop := match X with
  | (p, e, R, s, m, args, below, meth, c, cells, slots, Q, A) => ∀ (ls : Array Slot) (H : Heap) (locs : List Loc), lv_has ls c.maxLocals L → mm_Pw E g h H → va_S A s.heap H locs → W p E.2.2.2.2.2 e R s m args below meth c H locs cells slots Q (F0 m pc ls st)
def Cx (E : mm_E) (X : mm_X) (cc : ByteArray) (own : String) (Ts : List Cond) (nL fr lo : Nat) : Prop := match X with
  | (p, e, R, s, m, args, below, meth, c, cells, slots, Q, A) => p.tables.exec = Jvm.exec ∧ c.code = cc ∧ c.maxLocals = nL ∧ s.vm.findClass own = some m.cls ∧ (∀ w ∈ Ts, w.before args s = true) ∧ mm_Kn E s ∧ (∀ k, k < 105 → A (E.1 k)) ∧ fr ≤ R.frames ∧ lo ≤ R.locals ∧ cells ≤ R.cells ∧ slots ≤ R.slots
section JR
variable {E : mm_E} {X : mm_X} {cc : ByteArray} {own : String} {Ts : List Cond} {nL fr lo pc : Nat} {g g' : mm_I} {h h' : mm_L} {L L' : List (Nat × Value)} {st st' : List Value}
theorem jr_is (hL : L = L') (hs : st = st') (hg : g = g') (hh : h = h') (k : JJ E X g' h' pc L' st') : JJ E X g h pc L st := by subst hL hs hg hh; exact k
theorem jr_pick (ks : List Nat) (hl : lv_pick L ks = L') (k : JJ E X g h pc L' st) : JJ E X g h pc L st := by
  obtain ⟨p, e, R, s, m, args, below, meth, c, cells, slots, Q, A⟩ := X
  intro ls H locs hl2 hP hS
  exact k ls H locs (lv_sub hl2 ks hl) hP hS
theorem jr_iconst {n : Int} {v : Int32} (cx : Cx E X cc own Ts nL fr lo) (hd : decode cc pc = .ok (.iconst n, 1)) (hv : Int32.ofInt n = v) (k : JJ E X g h (pc + 1) L (.int v :: st)) : JJ E X g h pc L (st) := by
  obtain ⟨p, e, R, s, m, args, below, meth, c, cells, slots, Q, A⟩ := X
  obtain ⟨hx, hb, hml, hown, hts, hK, hA, hfr, hlo, hc, hs⟩ := cx
  intro ls H locs hl hP hS
  exact lv_iconst hx hb hd hv (k ls H locs hl hP hS)
theorem jr_bipush {n : Int} {v : Int32} (cx : Cx E X cc own Ts nL fr lo) (hd : decode cc pc = .ok (.bipush n, 2)) (hv : (Int8.ofInt n).toInt32 = v) (k : JJ E X g h (pc + 2) L (.int v :: st)) : JJ E X g h pc L (st) := by
  obtain ⟨p, e, R, s, m, args, below, meth, c, cells, slots, Q, A⟩ := X
  obtain ⟨hx, hb, hml, hown, hts, hK, hA, hfr, hlo, hc, hs⟩ := cx
  intro ls H locs hl hP hS
  exact lv_bipush hx hb hd hv (k ls H locs hl hP hS)
theorem jr_sipush {n : Int} {v : Int32} (cx : Cx E X cc own Ts nL fr lo) (hd : decode cc pc = .ok (.sipush n, 3)) (hv : (Int16.ofInt n).toInt32 = v) (k : JJ E X g h (pc + 3) L (.int v :: st)) : JJ E X g h pc L (st) := by
  obtain ⟨p, e, R, s, m, args, below, meth, c, cells, slots, Q, A⟩ := X
  obtain ⟨hx, hb, hml, hown, hts, hK, hA, hfr, hlo, hc, hs⟩ := cx
  intro ls H locs hl hP hS
  exact lv_sipush hx hb hd hv (k ls H locs hl hP hS)
theorem jr_lconst {n : Fin 2} {v : Int64} (cx : Cx E X cc own Ts nL fr lo) (hd : decode cc pc = .ok (.lconst n, 1)) (hv : Int64.ofNat (n : Nat) = v) (k : JJ E X g h (pc + 1) L (.long v :: st)) : JJ E X g h pc L (st) := by
  obtain ⟨p, e, R, s, m, args, below, meth, c, cells, slots, Q, A⟩ := X
  obtain ⟨hx, hb, hml, hown, hts, hK, hA, hfr, hlo, hc, hs⟩ := cx
  intro ls H locs hl hP hS
  exact lv_lconst hx hb hd hv (k ls H locs hl hP hS)
theorem jr_ldc {index : Nat} {v : Int32} (cx : Cx E X cc own Ts nL fr lo) (hd : decode cc pc = .ok (.ldc index, 2)) (hm : Cond.constant own index v ∈ Ts) (k : JJ E X g h (pc + 2) L (.int v :: st)) : JJ E X g h pc L (st) := by
  obtain ⟨p, e, R, s, m, args, below, meth, c, cells, slots, Q, A⟩ := X
  obtain ⟨hx, hb, hml, hown, hts, hK, hA, hfr, hlo, hc, hs⟩ := cx
  intro ls H locs hl hP hS
  exact lv_ldc hx hb hown (hts _ hm) hd (k ls H locs hl hP hS)
theorem jr_ldc2 {index : Nat} {v : Int64} (cx : Cx E X cc own Ts nL fr lo) (hd : decode cc pc = .ok (.ldc2_w index, 3)) (hm : Cond.constantLong own index v ∈ Ts) (k : JJ E X g h (pc + 3) L (.long v :: st)) : JJ E X g h pc L (st) := by
  obtain ⟨p, e, R, s, m, args, below, meth, c, cells, slots, Q, A⟩ := X
  obtain ⟨hx, hb, hml, hown, hts, hK, hA, hfr, hlo, hc, hs⟩ := cx
  intro ls H locs hl hP hS
  exact lv_ldc2 hx hb hown (hts _ hm) hd (k ls H locs hl hP hS)
theorem jr_iload_n {q : Fin 4} {i : Nat} {x : Int32} (cx : Cx E X cc own Ts nL fr lo) (hd : decode cc pc = .ok (.iload_n q, 1)) (n : Nat) (hi : (q : Nat) = i) (hn : L[n]? = some (i, .int x)) (k : JJ E X g h (pc + 1) L (.int x :: st)) : JJ E X g h pc L (st) := by
  obtain ⟨p, e, R, s, m, args, below, meth, c, cells, slots, Q, A⟩ := X
  obtain ⟨hx, hb, hml, hown, hts, hK, hA, hfr, hlo, hc, hs⟩ := cx
  intro ls H locs hl hP hS
  exact lv_iload_n hx hb hd hi (lv_at hl n hn) (k ls H locs hl hP hS)
theorem jr_iload {i : Nat} {x : Int32} (cx : Cx E X cc own Ts nL fr lo) (hd : decode cc pc = .ok (.iload i, 2)) (n : Nat) (hn : L[n]? = some (i, .int x)) (k : JJ E X g h (pc + 2) L (.int x :: st)) : JJ E X g h pc L (st) := by
  obtain ⟨p, e, R, s, m, args, below, meth, c, cells, slots, Q, A⟩ := X
  obtain ⟨hx, hb, hml, hown, hts, hK, hA, hfr, hlo, hc, hs⟩ := cx
  intro ls H locs hl hP hS
  exact lv_iload hx hb hd (lv_at hl n hn) (k ls H locs hl hP hS)
theorem jr_istore_n {q : Fin 4} {i : Nat} {x : Int32} (cx : Cx E X cc own Ts nL fr lo) (hd : decode cc pc = .ok (.istore_n q, 1)) (hi : (q : Nat) = i) (hn : i < nL) (hl2 : (i, Value.int x) :: L.filter (fun q => !(q.1 == i) && !(q.1 + 1 == i && q.2.category == 2)) = L') (k : JJ E X g h (pc + 1) L' st) : JJ E X g h pc L (.int x :: st) := by
  obtain ⟨p, e, R, s, m, args, below, meth, c, cells, slots, Q, A⟩ := X
  obtain ⟨hx, hb, hml, hown, hts, hK, hA, hfr, hlo, hc, hs⟩ := cx
  intro ls H locs hl hP hS
  subst hml
  exact lv_istore_n hx hb hd hi hl hn hl2 (fun ls2 hl3 => k ls2 H locs hl3 hP hS)
theorem jr_istore {i : Nat} {x : Int32} (cx : Cx E X cc own Ts nL fr lo) (hd : decode cc pc = .ok (.istore i, 2)) (hn : i < nL) (hl2 : (i, Value.int x) :: L.filter (fun q => !(q.1 == i) && !(q.1 + 1 == i && q.2.category == 2)) = L') (k : JJ E X g h (pc + 2) L' st) : JJ E X g h pc L (.int x :: st) := by
  obtain ⟨p, e, R, s, m, args, below, meth, c, cells, slots, Q, A⟩ := X
  obtain ⟨hx, hb, hml, hown, hts, hK, hA, hfr, hlo, hc, hs⟩ := cx
  intro ls H locs hl hP hS
  subst hml
  exact lv_istore hx hb hd hl hn hl2 (fun ls2 hl3 => k ls2 H locs hl3 hP hS)
theorem jr_lload_n {q : Fin 4} {i : Nat} {x : Int64} (cx : Cx E X cc own Ts nL fr lo) (hd : decode cc pc = .ok (.lload_n q, 1)) (n : Nat) (hi : (q : Nat) = i) (hn : L[n]? = some (i, .long x)) (k : JJ E X g h (pc + 1) L (.long x :: st)) : JJ E X g h pc L (st) := by
  obtain ⟨p, e, R, s, m, args, below, meth, c, cells, slots, Q, A⟩ := X
  obtain ⟨hx, hb, hml, hown, hts, hK, hA, hfr, hlo, hc, hs⟩ := cx
  intro ls H locs hl hP hS
  exact lv_lload_n hx hb hd hi (lv_at hl n hn) (k ls H locs hl hP hS)
theorem jr_lload {i : Nat} {x : Int64} (cx : Cx E X cc own Ts nL fr lo) (hd : decode cc pc = .ok (.lload i, 2)) (n : Nat) (hn : L[n]? = some (i, .long x)) (k : JJ E X g h (pc + 2) L (.long x :: st)) : JJ E X g h pc L (st) := by
  obtain ⟨p, e, R, s, m, args, below, meth, c, cells, slots, Q, A⟩ := X
  obtain ⟨hx, hb, hml, hown, hts, hK, hA, hfr, hlo, hc, hs⟩ := cx
  intro ls H locs hl hP hS
  exact lv_lload hx hb hd (lv_at hl n hn) (k ls H locs hl hP hS)
theorem jr_lstore_n {q : Fin 4} {i : Nat} {x : Int64} (cx : Cx E X cc own Ts nL fr lo) (hd : decode cc pc = .ok (.lstore_n q, 1)) (hi : (q : Nat) = i) (hn : i + 1 < nL) (hl2 : (i, Value.long x) :: L.filter (fun q => !(q.1 == i) && (!(q.1 == i + 1) && !(q.1 + 1 == i && q.2.category == 2))) = L') (k : JJ E X g h (pc + 1) L' st) : JJ E X g h pc L (.long x :: st) := by
  obtain ⟨p, e, R, s, m, args, below, meth, c, cells, slots, Q, A⟩ := X
  obtain ⟨hx, hb, hml, hown, hts, hK, hA, hfr, hlo, hc, hs⟩ := cx
  intro ls H locs hl hP hS
  subst hml
  exact lv_lstore_n hx hb hd hi hl hn hl2 (fun ls2 hl3 => k ls2 H locs hl3 hP hS)
theorem jr_lstore {i : Nat} {x : Int64} (cx : Cx E X cc own Ts nL fr lo) (hd : decode cc pc = .ok (.lstore i, 2)) (hn : i + 1 < nL) (hl2 : (i, Value.long x) :: L.filter (fun q => !(q.1 == i) && (!(q.1 == i + 1) && !(q.1 + 1 == i && q.2.category == 2))) = L') (k : JJ E X g h (pc + 2) L' st) : JJ E X g h pc L (.long x :: st) := by
  obtain ⟨p, e, R, s, m, args, below, meth, c, cells, slots, Q, A⟩ := X
  obtain ⟨hx, hb, hml, hown, hts, hK, hA, hfr, hlo, hc, hs⟩ := cx
  intro ls H locs hl hP hS
  subst hml
  exact lv_lstore hx hb hd hl hn hl2 (fun ls2 hl3 => k ls2 H locs hl3 hP hS)
theorem jr_aload_n {q : Fin 4} {i : Nat} {x : Nat} (cx : Cx E X cc own Ts nL fr lo) (hd : decode cc pc = .ok (.aload_n q, 1)) (n : Nat) (hi : (q : Nat) = i) (hn : L[n]? = some (i, .ref x)) (k : JJ E X g h (pc + 1) L (.ref x :: st)) : JJ E X g h pc L (st) := by
  obtain ⟨p, e, R, s, m, args, below, meth, c, cells, slots, Q, A⟩ := X
  obtain ⟨hx, hb, hml, hown, hts, hK, hA, hfr, hlo, hc, hs⟩ := cx
  intro ls H locs hl hP hS
  exact lv_aload_n hx hb hd hi (lv_at hl n hn) (k ls H locs hl hP hS)
theorem jr_aload {i : Nat} {x : Nat} (cx : Cx E X cc own Ts nL fr lo) (hd : decode cc pc = .ok (.aload i, 2)) (n : Nat) (hn : L[n]? = some (i, .ref x)) (k : JJ E X g h (pc + 2) L (.ref x :: st)) : JJ E X g h pc L (st) := by
  obtain ⟨p, e, R, s, m, args, below, meth, c, cells, slots, Q, A⟩ := X
  obtain ⟨hx, hb, hml, hown, hts, hK, hA, hfr, hlo, hc, hs⟩ := cx
  intro ls H locs hl hP hS
  exact lv_aload hx hb hd (lv_at hl n hn) (k ls H locs hl hP hS)
theorem jr_astore_n {q : Fin 4} {i : Nat} {x : Nat} (cx : Cx E X cc own Ts nL fr lo) (hd : decode cc pc = .ok (.astore_n q, 1)) (hi : (q : Nat) = i) (hn : i < nL) (hl2 : (i, Value.ref x) :: L.filter (fun q => !(q.1 == i) && !(q.1 + 1 == i && q.2.category == 2)) = L') (k : JJ E X g h (pc + 1) L' st) : JJ E X g h pc L (.ref x :: st) := by
  obtain ⟨p, e, R, s, m, args, below, meth, c, cells, slots, Q, A⟩ := X
  obtain ⟨hx, hb, hml, hown, hts, hK, hA, hfr, hlo, hc, hs⟩ := cx
  intro ls H locs hl hP hS
  subst hml
  exact lv_astore_n hx hb hd hi hl hn hl2 (fun ls2 hl3 => k ls2 H locs hl3 hP hS)
theorem jr_astore {i : Nat} {x : Nat} (cx : Cx E X cc own Ts nL fr lo) (hd : decode cc pc = .ok (.astore i, 2)) (hn : i < nL) (hl2 : (i, Value.ref x) :: L.filter (fun q => !(q.1 == i) && !(q.1 + 1 == i && q.2.category == 2)) = L') (k : JJ E X g h (pc + 2) L' st) : JJ E X g h pc L (.ref x :: st) := by
  obtain ⟨p, e, R, s, m, args, below, meth, c, cells, slots, Q, A⟩ := X
  obtain ⟨hx, hb, hml, hown, hts, hK, hA, hfr, hlo, hc, hs⟩ := cx
  intro ls H locs hl hP hS
  subst hml
  exact lv_astore hx hb hd hl hn hl2 (fun ls2 hl3 => k ls2 H locs hl3 hP hS)
theorem jr_iinc {i n : Nat} {z : Int} {x v : Int32} (cx : Cx E X cc own Ts nL fr lo) (hd : decode cc pc = .ok (.iinc i z, 3)) (hk : L[n]? = some (i, .int x)) (hv : x + Int32.ofInt z = v) (hn : i < nL) (hl2 : (i, Value.int v) :: L.filter (fun q => !(q.1 == i) && !(q.1 + 1 == i && q.2.category == 2)) = L') (k : JJ E X g h (pc + 3) L' st) : JJ E X g h pc L st := by
  obtain ⟨p, e, R, s, m, args, below, meth, c, cells, slots, Q, A⟩ := X
  obtain ⟨hx, hb, hml, hown, hts, hK, hA, hfr, hlo, hc, hs⟩ := cx
  intro ls H locs hl hP hS
  subst hml
  exact lv_iinc hx hb hd hl hk hv hn hl2 (fun ls2 hl3 => k ls2 H locs hl3 hP hS)
theorem jr_iadd {x y : Int32} (cx : Cx E X cc own Ts nL fr lo) (hd : decode cc pc = .ok (.iadd, 1)) (k : JJ E X g h (pc + 1) L (.int (x + y) :: st)) : JJ E X g h pc L (.int y :: .int x :: st) := by
  obtain ⟨p, e, R, s, m, args, below, meth, c, cells, slots, Q, A⟩ := X
  obtain ⟨hx, hb, hml, hown, hts, hK, hA, hfr, hlo, hc, hs⟩ := cx
  intro ls H locs hl hP hS
  exact lv_iadd hx hb hd (k ls H locs hl hP hS)
theorem jr_isub {x y : Int32} (cx : Cx E X cc own Ts nL fr lo) (hd : decode cc pc = .ok (.isub, 1)) (k : JJ E X g h (pc + 1) L (.int (x - y) :: st)) : JJ E X g h pc L (.int y :: .int x :: st) := by
  obtain ⟨p, e, R, s, m, args, below, meth, c, cells, slots, Q, A⟩ := X
  obtain ⟨hx, hb, hml, hown, hts, hK, hA, hfr, hlo, hc, hs⟩ := cx
  intro ls H locs hl hP hS
  exact lv_isub hx hb hd (k ls H locs hl hP hS)
theorem jr_imul {x y : Int32} (cx : Cx E X cc own Ts nL fr lo) (hd : decode cc pc = .ok (.imul, 1)) (k : JJ E X g h (pc + 1) L (.int (x * y) :: st)) : JJ E X g h pc L (.int y :: .int x :: st) := by
  obtain ⟨p, e, R, s, m, args, below, meth, c, cells, slots, Q, A⟩ := X
  obtain ⟨hx, hb, hml, hown, hts, hK, hA, hfr, hlo, hc, hs⟩ := cx
  intro ls H locs hl hP hS
  exact lv_imul hx hb hd (k ls H locs hl hP hS)
theorem jr_iand {x y : Int32} (cx : Cx E X cc own Ts nL fr lo) (hd : decode cc pc = .ok (.iand, 1)) (k : JJ E X g h (pc + 1) L (.int (x &&& y) :: st)) : JJ E X g h pc L (.int y :: .int x :: st) := by
  obtain ⟨p, e, R, s, m, args, below, meth, c, cells, slots, Q, A⟩ := X
  obtain ⟨hx, hb, hml, hown, hts, hK, hA, hfr, hlo, hc, hs⟩ := cx
  intro ls H locs hl hP hS
  exact lv_iand hx hb hd (k ls H locs hl hP hS)
theorem jr_idiv {x y : Int32} (cx : Cx E X cc own Ts nL fr lo) (hd : decode cc pc = .ok (.idiv, 1)) (hne : ¬ y = 0) (k : JJ E X g h (pc + 1) L (.int (x / y) :: st)) : JJ E X g h pc L (.int y :: .int x :: st) := by
  obtain ⟨p, e, R, s, m, args, below, meth, c, cells, slots, Q, A⟩ := X
  obtain ⟨hx, hb, hml, hown, hts, hK, hA, hfr, hlo, hc, hs⟩ := cx
  intro ls H locs hl hP hS
  exact lv_idiv hx hb hd hne (k ls H locs hl hP hS)
theorem jr_irem {x y : Int32} (cx : Cx E X cc own Ts nL fr lo) (hd : decode cc pc = .ok (.irem, 1)) (hne : ¬ y = 0) (k : JJ E X g h (pc + 1) L (.int (x - x / y * y) :: st)) : JJ E X g h pc L (.int y :: .int x :: st) := by
  obtain ⟨p, e, R, s, m, args, below, meth, c, cells, slots, Q, A⟩ := X
  obtain ⟨hx, hb, hml, hown, hts, hK, hA, hfr, hlo, hc, hs⟩ := cx
  intro ls H locs hl hP hS
  exact lv_irem hx hb hd hne (k ls H locs hl hP hS)
theorem jr_ladd {x y : Int64} (cx : Cx E X cc own Ts nL fr lo) (hd : decode cc pc = .ok (.ladd, 1)) (k : JJ E X g h (pc + 1) L (.long (x + y) :: st)) : JJ E X g h pc L (.long y :: .long x :: st) := by
  obtain ⟨p, e, R, s, m, args, below, meth, c, cells, slots, Q, A⟩ := X
  obtain ⟨hx, hb, hml, hown, hts, hK, hA, hfr, hlo, hc, hs⟩ := cx
  intro ls H locs hl hP hS
  exact lv_ladd hx hb hd (k ls H locs hl hP hS)
theorem jr_lsub {x y : Int64} (cx : Cx E X cc own Ts nL fr lo) (hd : decode cc pc = .ok (.lsub, 1)) (k : JJ E X g h (pc + 1) L (.long (x - y) :: st)) : JJ E X g h pc L (.long y :: .long x :: st) := by
  obtain ⟨p, e, R, s, m, args, below, meth, c, cells, slots, Q, A⟩ := X
  obtain ⟨hx, hb, hml, hown, hts, hK, hA, hfr, hlo, hc, hs⟩ := cx
  intro ls H locs hl hP hS
  exact lv_lsub hx hb hd (k ls H locs hl hP hS)
theorem jr_lmul {x y : Int64} (cx : Cx E X cc own Ts nL fr lo) (hd : decode cc pc = .ok (.lmul, 1)) (k : JJ E X g h (pc + 1) L (.long (x * y) :: st)) : JJ E X g h pc L (.long y :: .long x :: st) := by
  obtain ⟨p, e, R, s, m, args, below, meth, c, cells, slots, Q, A⟩ := X
  obtain ⟨hx, hb, hml, hown, hts, hK, hA, hfr, hlo, hc, hs⟩ := cx
  intro ls H locs hl hP hS
  exact lv_lmul hx hb hd (k ls H locs hl hP hS)
theorem jr_ldiv {x y : Int64} (cx : Cx E X cc own Ts nL fr lo) (hd : decode cc pc = .ok (.ldiv, 1)) (hne : ¬ y = 0) (k : JJ E X g h (pc + 1) L (.long (x / y) :: st)) : JJ E X g h pc L (.long y :: .long x :: st) := by
  obtain ⟨p, e, R, s, m, args, below, meth, c, cells, slots, Q, A⟩ := X
  obtain ⟨hx, hb, hml, hown, hts, hK, hA, hfr, hlo, hc, hs⟩ := cx
  intro ls H locs hl hP hS
  exact lv_ldiv hx hb hd hne (k ls H locs hl hP hS)
theorem jr_lrem {x y : Int64} (cx : Cx E X cc own Ts nL fr lo) (hd : decode cc pc = .ok (.lrem, 1)) (hne : ¬ y = 0) (k : JJ E X g h (pc + 1) L (.long (x - x / y * y) :: st)) : JJ E X g h pc L (.long y :: .long x :: st) := by
  obtain ⟨p, e, R, s, m, args, below, meth, c, cells, slots, Q, A⟩ := X
  obtain ⟨hx, hb, hml, hown, hts, hK, hA, hfr, hlo, hc, hs⟩ := cx
  intro ls H locs hl hP hS
  exact lv_lrem hx hb hd hne (k ls H locs hl hP hS)
theorem jr_ineg {x : Int32} (cx : Cx E X cc own Ts nL fr lo) (hd : decode cc pc = .ok (.ineg, 1)) (k : JJ E X g h (pc + 1) L (.int (-x) :: st)) : JJ E X g h pc L (.int x :: st) := by
  obtain ⟨p, e, R, s, m, args, below, meth, c, cells, slots, Q, A⟩ := X
  obtain ⟨hx, hb, hml, hown, hts, hK, hA, hfr, hlo, hc, hs⟩ := cx
  intro ls H locs hl hP hS
  exact lv_ineg hx hb hd (k ls H locs hl hP hS)
theorem jr_lneg {x : Int64} (cx : Cx E X cc own Ts nL fr lo) (hd : decode cc pc = .ok (.lneg, 1)) (k : JJ E X g h (pc + 1) L (.long (-x) :: st)) : JJ E X g h pc L (.long x :: st) := by
  obtain ⟨p, e, R, s, m, args, below, meth, c, cells, slots, Q, A⟩ := X
  obtain ⟨hx, hb, hml, hown, hts, hK, hA, hfr, hlo, hc, hs⟩ := cx
  intro ls H locs hl hP hS
  exact lv_lneg hx hb hd (k ls H locs hl hP hS)
theorem jr_i2l {x : Int32} (cx : Cx E X cc own Ts nL fr lo) (hd : decode cc pc = .ok (.i2l, 1)) (k : JJ E X g h (pc + 1) L (.long x.toInt64 :: st)) : JJ E X g h pc L (.int x :: st) := by
  obtain ⟨p, e, R, s, m, args, below, meth, c, cells, slots, Q, A⟩ := X
  obtain ⟨hx, hb, hml, hown, hts, hK, hA, hfr, hlo, hc, hs⟩ := cx
  intro ls H locs hl hP hS
  exact lv_i2l hx hb hd rfl (k ls H locs hl hP hS)
theorem jr_l2i {x : Int64} (cx : Cx E X cc own Ts nL fr lo) (hd : decode cc pc = .ok (.l2i, 1)) (k : JJ E X g h (pc + 1) L (.int x.toInt32 :: st)) : JJ E X g h pc L (.long x :: st) := by
  obtain ⟨p, e, R, s, m, args, below, meth, c, cells, slots, Q, A⟩ := X
  obtain ⟨hx, hb, hml, hown, hts, hK, hA, hfr, hlo, hc, hs⟩ := cx
  intro ls H locs hl hP hS
  exact lv_l2i hx hb hd rfl (k ls H locs hl hP hS)
theorem jr_lcmp {x y : Int64} (cx : Cx E X cc own Ts nL fr lo) (hd : decode cc pc = .ok (.lcmp, 1)) (k : JJ E X g h (pc + 1) L (.int (lg_cmp x y) :: st)) : JJ E X g h pc L (.long y :: .long x :: st) := by
  obtain ⟨p, e, R, s, m, args, below, meth, c, cells, slots, Q, A⟩ := X
  obtain ⟨hx, hb, hml, hown, hts, hK, hA, hfr, hlo, hc, hs⟩ := cx
  intro ls H locs hl hP hS
  exact W.lcmp hx hb hd (k ls H locs hl hP hS)
theorem jr_dup {v : Value} (cx : Cx E X cc own Ts nL fr lo) (hd : decode cc pc = .ok (.dup, 1)) (hv : v.category = 1) (k : JJ E X g h (pc + 1) L (v :: v :: st)) : JJ E X g h pc L (v :: st) := by
  obtain ⟨p, e, R, s, m, args, below, meth, c, cells, slots, Q, A⟩ := X
  obtain ⟨hx, hb, hml, hown, hts, hK, hA, hfr, hlo, hc, hs⟩ := cx
  intro ls H locs hl hP hS
  exact lv_dup hx hb hd hv (k ls H locs hl hP hS)
theorem jr_dup2 {v u : Value} (cx : Cx E X cc own Ts nL fr lo) (hd : decode cc pc = .ok (.dup2, 1)) (hv : v.category = 1) (hu : u.category = 1) (k : JJ E X g h (pc + 1) L (v :: u :: v :: u :: st)) : JJ E X g h pc L (v :: u :: st) := by
  obtain ⟨p, e, R, s, m, args, below, meth, c, cells, slots, Q, A⟩ := X
  obtain ⟨hx, hb, hml, hown, hts, hK, hA, hfr, hlo, hc, hs⟩ := cx
  intro ls H locs hl hP hS
  exact lv_dup2_11 hx hb hd hv hu (k ls H locs hl hP hS)
theorem jr_pop {v : Value} (cx : Cx E X cc own Ts nL fr lo) (hd : decode cc pc = .ok (.pop, 1)) (hv : v.category = 1) (k : JJ E X g h (pc + 1) L (st)) : JJ E X g h pc L (v :: st) := by
  obtain ⟨p, e, R, s, m, args, below, meth, c, cells, slots, Q, A⟩ := X
  obtain ⟨hx, hb, hml, hown, hts, hK, hA, hfr, hlo, hc, hs⟩ := cx
  intro ls H locs hl hP hS
  exact lv_pop hx hb hd hv (k ls H locs hl hP hS)
theorem jr_goto {off : Int} {tgt : Nat} (cx : Cx E X cc own Ts nL fr lo) (hd : decode cc pc = .ok (.goto off, 3)) (ht : (pc : Int) + off = (tgt : Int)) (k : JJ E X g h tgt L st) : JJ E X g h pc L st := by
  obtain ⟨p, e, R, s, m, args, below, meth, c, cells, slots, Q, A⟩ := X
  obtain ⟨hx, hb, hml, hown, hts, hK, hA, hfr, hlo, hc, hs⟩ := cx
  intro ls H locs hl hP hS
  exact lv_goto hx hb hd ht (k ls H locs hl hP hS)
theorem jr_if_eq {x : Int32} {off : Int} {tgt : Nat} (cx : Cx E X cc own Ts nL fr lo) (hd : decode cc pc = .ok (.ifCond .eq off, 3)) (ht : (pc : Int) + off = (tgt : Int)) (kt : x = 0 → JJ E X g h tgt L st) (kf : ¬ x = 0 → JJ E X g h (pc + 3) L st) : JJ E X g h pc L (.int x :: st) := by
  obtain ⟨p, e, R, s, m, args, below, meth, c, cells, slots, Q, A⟩ := X
  obtain ⟨hx, hb, hml, hown, hts, hK, hA, hfr, hlo, hc, hs⟩ := cx
  intro ls H locs hl hP hS
  exact lv_if_eq hx hb hd ht (fun q => kt q ls H locs hl hP hS) (fun q => kf q ls H locs hl hP hS)
theorem jr_icmp_eq {x y : Int32} {off : Int} {tgt : Nat} (cx : Cx E X cc own Ts nL fr lo) (hd : decode cc pc = .ok (.if_icmp .eq off, 3)) (ht : (pc : Int) + off = (tgt : Int)) (kt : x = y → JJ E X g h tgt L st) (kf : ¬ x = y → JJ E X g h (pc + 3) L st) : JJ E X g h pc L (.int y :: .int x :: st) := by
  obtain ⟨p, e, R, s, m, args, below, meth, c, cells, slots, Q, A⟩ := X
  obtain ⟨hx, hb, hml, hown, hts, hK, hA, hfr, hlo, hc, hs⟩ := cx
  intro ls H locs hl hP hS
  exact lv_icmp_eq hx hb hd ht (fun q => kt q ls H locs hl hP hS) (fun q => kf q ls H locs hl hP hS)
theorem jr_if_ne {x : Int32} {off : Int} {tgt : Nat} (cx : Cx E X cc own Ts nL fr lo) (hd : decode cc pc = .ok (.ifCond .ne off, 3)) (ht : (pc : Int) + off = (tgt : Int)) (kt : ¬ x = 0 → JJ E X g h tgt L st) (kf : x = 0 → JJ E X g h (pc + 3) L st) : JJ E X g h pc L (.int x :: st) := by
  obtain ⟨p, e, R, s, m, args, below, meth, c, cells, slots, Q, A⟩ := X
  obtain ⟨hx, hb, hml, hown, hts, hK, hA, hfr, hlo, hc, hs⟩ := cx
  intro ls H locs hl hP hS
  exact lv_if_ne hx hb hd ht (fun q => kt q ls H locs hl hP hS) (fun q => kf q ls H locs hl hP hS)
theorem jr_icmp_ne {x y : Int32} {off : Int} {tgt : Nat} (cx : Cx E X cc own Ts nL fr lo) (hd : decode cc pc = .ok (.if_icmp .ne off, 3)) (ht : (pc : Int) + off = (tgt : Int)) (kt : ¬ x = y → JJ E X g h tgt L st) (kf : x = y → JJ E X g h (pc + 3) L st) : JJ E X g h pc L (.int y :: .int x :: st) := by
  obtain ⟨p, e, R, s, m, args, below, meth, c, cells, slots, Q, A⟩ := X
  obtain ⟨hx, hb, hml, hown, hts, hK, hA, hfr, hlo, hc, hs⟩ := cx
  intro ls H locs hl hP hS
  exact lv_icmp_ne hx hb hd ht (fun q => kt q ls H locs hl hP hS) (fun q => kf q ls H locs hl hP hS)
theorem jr_if_lt {x : Int32} {off : Int} {tgt : Nat} (cx : Cx E X cc own Ts nL fr lo) (hd : decode cc pc = .ok (.ifCond .lt off, 3)) (ht : (pc : Int) + off = (tgt : Int)) (kt : x < 0 → JJ E X g h tgt L st) (kf : ¬ x < 0 → JJ E X g h (pc + 3) L st) : JJ E X g h pc L (.int x :: st) := by
  obtain ⟨p, e, R, s, m, args, below, meth, c, cells, slots, Q, A⟩ := X
  obtain ⟨hx, hb, hml, hown, hts, hK, hA, hfr, hlo, hc, hs⟩ := cx
  intro ls H locs hl hP hS
  exact lv_if_lt hx hb hd ht (fun q => kt q ls H locs hl hP hS) (fun q => kf q ls H locs hl hP hS)
theorem jr_icmp_lt {x y : Int32} {off : Int} {tgt : Nat} (cx : Cx E X cc own Ts nL fr lo) (hd : decode cc pc = .ok (.if_icmp .lt off, 3)) (ht : (pc : Int) + off = (tgt : Int)) (kt : x < y → JJ E X g h tgt L st) (kf : ¬ x < y → JJ E X g h (pc + 3) L st) : JJ E X g h pc L (.int y :: .int x :: st) := by
  obtain ⟨p, e, R, s, m, args, below, meth, c, cells, slots, Q, A⟩ := X
  obtain ⟨hx, hb, hml, hown, hts, hK, hA, hfr, hlo, hc, hs⟩ := cx
  intro ls H locs hl hP hS
  exact lv_icmp_lt hx hb hd ht (fun q => kt q ls H locs hl hP hS) (fun q => kf q ls H locs hl hP hS)
theorem jr_if_ge {x : Int32} {off : Int} {tgt : Nat} (cx : Cx E X cc own Ts nL fr lo) (hd : decode cc pc = .ok (.ifCond .ge off, 3)) (ht : (pc : Int) + off = (tgt : Int)) (kt : 0 ≤ x → JJ E X g h tgt L st) (kf : ¬ 0 ≤ x → JJ E X g h (pc + 3) L st) : JJ E X g h pc L (.int x :: st) := by
  obtain ⟨p, e, R, s, m, args, below, meth, c, cells, slots, Q, A⟩ := X
  obtain ⟨hx, hb, hml, hown, hts, hK, hA, hfr, hlo, hc, hs⟩ := cx
  intro ls H locs hl hP hS
  exact lv_if_ge hx hb hd ht (fun q => kt q ls H locs hl hP hS) (fun q => kf q ls H locs hl hP hS)
theorem jr_icmp_ge {x y : Int32} {off : Int} {tgt : Nat} (cx : Cx E X cc own Ts nL fr lo) (hd : decode cc pc = .ok (.if_icmp .ge off, 3)) (ht : (pc : Int) + off = (tgt : Int)) (kt : y ≤ x → JJ E X g h tgt L st) (kf : ¬ y ≤ x → JJ E X g h (pc + 3) L st) : JJ E X g h pc L (.int y :: .int x :: st) := by
  obtain ⟨p, e, R, s, m, args, below, meth, c, cells, slots, Q, A⟩ := X
  obtain ⟨hx, hb, hml, hown, hts, hK, hA, hfr, hlo, hc, hs⟩ := cx
  intro ls H locs hl hP hS
  exact lv_icmp_ge hx hb hd ht (fun q => kt q ls H locs hl hP hS) (fun q => kf q ls H locs hl hP hS)
theorem jr_if_gt {x : Int32} {off : Int} {tgt : Nat} (cx : Cx E X cc own Ts nL fr lo) (hd : decode cc pc = .ok (.ifCond .gt off, 3)) (ht : (pc : Int) + off = (tgt : Int)) (kt : 0 < x → JJ E X g h tgt L st) (kf : ¬ 0 < x → JJ E X g h (pc + 3) L st) : JJ E X g h pc L (.int x :: st) := by
  obtain ⟨p, e, R, s, m, args, below, meth, c, cells, slots, Q, A⟩ := X
  obtain ⟨hx, hb, hml, hown, hts, hK, hA, hfr, hlo, hc, hs⟩ := cx
  intro ls H locs hl hP hS
  exact lv_if_gt hx hb hd ht (fun q => kt q ls H locs hl hP hS) (fun q => kf q ls H locs hl hP hS)
theorem jr_icmp_gt {x y : Int32} {off : Int} {tgt : Nat} (cx : Cx E X cc own Ts nL fr lo) (hd : decode cc pc = .ok (.if_icmp .gt off, 3)) (ht : (pc : Int) + off = (tgt : Int)) (kt : y < x → JJ E X g h tgt L st) (kf : ¬ y < x → JJ E X g h (pc + 3) L st) : JJ E X g h pc L (.int y :: .int x :: st) := by
  obtain ⟨p, e, R, s, m, args, below, meth, c, cells, slots, Q, A⟩ := X
  obtain ⟨hx, hb, hml, hown, hts, hK, hA, hfr, hlo, hc, hs⟩ := cx
  intro ls H locs hl hP hS
  exact lv_icmp_gt hx hb hd ht (fun q => kt q ls H locs hl hP hS) (fun q => kf q ls H locs hl hP hS)
theorem jr_if_le {x : Int32} {off : Int} {tgt : Nat} (cx : Cx E X cc own Ts nL fr lo) (hd : decode cc pc = .ok (.ifCond .le off, 3)) (ht : (pc : Int) + off = (tgt : Int)) (kt : x ≤ 0 → JJ E X g h tgt L st) (kf : ¬ x ≤ 0 → JJ E X g h (pc + 3) L st) : JJ E X g h pc L (.int x :: st) := by
  obtain ⟨p, e, R, s, m, args, below, meth, c, cells, slots, Q, A⟩ := X
  obtain ⟨hx, hb, hml, hown, hts, hK, hA, hfr, hlo, hc, hs⟩ := cx
  intro ls H locs hl hP hS
  exact lv_if_le hx hb hd ht (fun q => kt q ls H locs hl hP hS) (fun q => kf q ls H locs hl hP hS)
theorem jr_icmp_le {x y : Int32} {off : Int} {tgt : Nat} (cx : Cx E X cc own Ts nL fr lo) (hd : decode cc pc = .ok (.if_icmp .le off, 3)) (ht : (pc : Int) + off = (tgt : Int)) (kt : x ≤ y → JJ E X g h tgt L st) (kf : ¬ x ≤ y → JJ E X g h (pc + 3) L st) : JJ E X g h pc L (.int y :: .int x :: st) := by
  obtain ⟨p, e, R, s, m, args, below, meth, c, cells, slots, Q, A⟩ := X
  obtain ⟨hx, hb, hml, hown, hts, hK, hA, hfr, hlo, hc, hs⟩ := cx
  intro ls H locs hl hP hS
  exact lv_icmp_le hx hb hd ht (fun q => kt q ls H locs hl hP hS) (fun q => kf q ls H locs hl hP hS)
end JR
end
section
theorem mm_len_lt (k : Nat) : mm_len k < 2 ^ 31 := by
  have h1 : ∀ k, k < 39 → mm_len k < 241 := by decide +kernel
  by_cases hk : k < 39
  · have := h1 k hk; omega
  · unfold mm_len
    rw [List.getD_eq_getElem?_getD, List.getElem?_eq_none (by simpa using hk), Option.getD_none]
    split
    · decide
    · split
      · decide
      · split <;> decide
theorem mm_set_i (E : mm_E) (g : mm_I) (h : mm_L) {k : Nat} (hk : k < 105) (h8 : 8 ≤ k) (hG : ¬ mm_isG k) (j : Nat) (x : Int32) {cA : ClassId} (he : mm_ce E g h k = .inl (cA, mm_len k, .inl (g k))) : (mm_wl E g h).set k (E.1 k, .inl (cA, mm_len k, .inl (upd (g k) j x))) = mm_wl E (up2 g k j x) h := by
  have hob : ∀ i, i < 8 → mm_ob E (up2 g k j x) h i = mm_ob E g h i := fun i hi => by
    have hne : ∀ a, a < 8 → up2 g k j x a = g a := fun a ha => up2_n g j x (by omega)
    rcases (show i = 0 ∨ i = 1 ∨ i = 2 ∨ i = 3 ∨ i = 4 ∨ i = 5 ∨ i = 6 ∨ i = 7 by omega) with rfl | rfl | rfl | rfl | rfl | rfl | rfl | rfl <;> simp [mm_ob, hne]
  refine mm_set E g _ h h hk ?_ ?_
  · by_cases hz : mm_isZ k
    · rw [mm_ce_z E g h hz] at he
      cases he
      rw [mm_ce_z E _ h hz, up2_s]
    · have hi : mm_isI k := by unfold mm_isI mm_isZ mm_isG at *; omega
      rw [mm_ce_i E g h hi] at he
      cases he
      rw [mm_ce_i E _ h hi, up2_s]
  · intro i hi hn
    by_cases h1 : i < 8
    · rw [mm_ce_o E _ h h1, mm_ce_o E _ h h1, hob i h1]
    · by_cases hz : mm_isZ i
      · rw [mm_ce_z E _ h hz, mm_ce_z E _ h hz, up2_n g j x hn]
      · by_cases hg2 : mm_isG i
        · rw [mm_ce_g E _ h hg2, mm_ce_g E _ h hg2]
        · have h2 : mm_isI i := by unfold mm_isI mm_isZ mm_isG at *; omega
          rw [mm_ce_i E _ h h2, mm_ce_i E _ h h2, up2_n g j x hn]
section JH
variable {E : mm_E} {X : mm_X} {cc : ByteArray} {own : String} {Ts : List Cond} {nL fr lo pc : Nat} {g g' : mm_I} {h h' : mm_L} {L L' : List (Nat × Value)} {st st' : List Value}
theorem jr_iald {k : Nat} {i : Int32} (cx : Cx E X cc own Ts nL fr lo) (hd : decode cc pc = .ok (.iaload, 1)) (hk : mm_isI k) (j : Nat) (hi : i = nI j) (hj : j < mm_len k) (kk : JJ E X g h (pc + 1) L (.int (g k j) :: st)) : JJ E X g h pc L (.int i :: .ref (E.1 k) :: st) := by
  obtain ⟨p, e, R, s, m, args, below, meth, c, cells, slots, Q, A⟩ := X
  obtain ⟨hx, hb, hml, hown, hts, hK, hA, hfr, hlo, hc, hs⟩ := cx
  intro ls H locs hl hP hS
  have hk5 : k < 105 := by unfold mm_isI at hk; omega
  have hlt := mm_len_lt k
  subst hi
  have e1 : (nI j).toNatClampNeg = j := nI_clamp (by omega)
  refine va_iald hx hb hK.2.1 hP k 0 ((mm_at E g h hk5).trans (by rw [mm_ce_i E g h hk])) rfl (vp_in_nI hj hlt) hd ?_
  rw [e1]
  exact kk ls H locs hl hP hS
theorem jr_zald {k : Nat} {i : Int32} (cx : Cx E X cc own Ts nL fr lo) (hd : decode cc pc = .ok (.baload, 1)) (hk : mm_isZ k) (j : Nat) (hi : i = nI j) (hj : j < mm_len k) (kk : JJ E X g h (pc + 1) L (.int (g k j) :: st)) : JJ E X g h pc L (.int i :: .ref (E.1 k) :: st) := by
  obtain ⟨p, e, R, s, m, args, below, meth, c, cells, slots, Q, A⟩ := X
  obtain ⟨hx, hb, hml, hown, hts, hK, hA, hfr, hlo, hc, hs⟩ := cx
  intro ls H locs hl hP hS
  have hk5 : k < 105 := by unfold mm_isZ at hk; omega
  have hlt := mm_len_lt k
  subst hi
  have e1 : (nI j).toNatClampNeg = j := nI_clamp (by omega)
  refine va_zald hx hb hK.2.1 hP k 1 ((mm_at E g h hk5).trans (by rw [mm_ce_z E g h hk])) rfl (vp_in_nI hj hlt) hd ?_
  rw [e1]
  exact kk ls H locs hl hP hS
theorem jr_iast {k : Nat} {i x : Int32} (cx : Cx E X cc own Ts nL fr lo) (hd : decode cc pc = .ok (.iastore, 1)) (hk : mm_isI k) (j : Nat) (hi : i = nI j) (hj : j < mm_len k) (kk : JJ E X (up2 g k j x) h (pc + 1) L st) : JJ E X g h pc L (.int x :: .int i :: .ref (E.1 k) :: st) := by
  obtain ⟨p, e, R, s, m, args, below, meth, c, cells, slots, Q, A⟩ := X
  obtain ⟨hx, hb, hml, hown, hts, hK, hA, hfr, hlo, hc, hs⟩ := cx
  intro ls H locs hl hP hS
  have hk5 : k < 105 := by unfold mm_isI at hk; omega
  have hlt := mm_len_lt k
  subst hi
  have e1 : (nI j).toNatClampNeg = j := nI_clamp (by omega)
  refine va_iast hx hb hK.2.1 hP (mm_D hK.1 hA g h) hS k 0 ((mm_at E g h hk5).trans (by rw [mm_ce_i E g h hk])) rfl (vp_in_nI hj hlt) hd (fun H1 locs1 hP1 _ hS1 => ?_)
  rw [e1, mm_set_i E g h hk5 (by unfold mm_isI at hk; omega) (by unfold mm_isI at hk; unfold mm_isG; omega) j x (mm_ce_i E g h hk)] at hP1
  exact kk ls H1 locs1 hl hP1 hS1
theorem jr_zast {k : Nat} {i x : Int32} (cx : Cx E X cc own Ts nL fr lo) (hd : decode cc pc = .ok (.bastore, 1)) (hk : mm_isZ k) (j : Nat) (hi : i = nI j) (hj : j < mm_len k) (hx2 : x = 0 ∨ x = 1) (kk : JJ E X (up2 g k j x) h (pc + 1) L st) : JJ E X g h pc L (.int x :: .int i :: .ref (E.1 k) :: st) := by
  obtain ⟨p, e, R, s, m, args, below, meth, c, cells, slots, Q, A⟩ := X
  obtain ⟨hx, hb, hml, hown, hts, hK, hA, hfr, hlo, hc, hs⟩ := cx
  intro ls H locs hl hP hS
  have hk5 : k < 105 := by unfold mm_isZ at hk; omega
  have hlt := mm_len_lt k
  subst hi
  have e1 : (nI j).toNatClampNeg = j := nI_clamp (by omega)
  have e2 : vp_nar .boolean x = x := by rcases hx2 with rfl | rfl <;> decide +kernel
  refine va_zast hx hb hK.2.1 hP (mm_D hK.1 hA g h) hS k 1 ((mm_at E g h hk5).trans (by rw [mm_ce_z E g h hk])) rfl (vp_in_nI hj hlt) hd (fun H1 locs1 hP1 _ hS1 => ?_)
  rw [e1, e2, mm_set_i E g h hk5 (by unfold mm_isZ at hk; omega) (by unfold mm_isZ at hk; unfold mm_isG; omega) j x (mm_ce_z E g h hk)] at hP1
  exact kk ls H1 locs1 hl hP1 hS1
theorem jr_aald {k : Nat} {i : Int32} (cx : Cx E X cc own Ts nL fr lo) (hd : decode cc pc = .ok (.aaload, 1)) (hk : mm_isG k) (j : Nat) (hi : i = nI j) (hj : j < mm_len k) (q : Nat) (hq : mm_base k + j = q) (kk : JJ E X g h (pc + 1) L (.ref (E.1 q) :: st)) : JJ E X g h pc L (.int i :: .ref (E.1 k) :: st) := by
  obtain ⟨p, e, R, s, m, args, below, meth, c, cells, slots, Q, A⟩ := X
  obtain ⟨hx, hb, hml, hown, hts, hK, hA, hfr, hlo, hc, hs⟩ := cx
  intro ls H locs hl hP hS
  have hk5 : k < 105 := by unfold mm_isG at hk; omega
  have hlt := mm_len_lt k
  subst hi hq
  have e1 : (nI j).toNatClampNeg = j := nI_clamp (by omega)
  have hc2 := hP k _ (mm_at E g h hk5)
  rw [mm_ce_g E g h hk] at hc2
  refine W.aald (v := .ref (E.1 (mm_base k + j))) (ty := .array .int) hx hb hc2 ((hK.2.1.2 2 _ rfl).1 (mm_len k) (fun x => va_rf (if x < mm_len k then some (E.1 (mm_base k + x)) else none))) rfl (fun q => by cases q) (by show ¬ (nI j < 0 ∨ (arrV _ _ _).slots.size ≤ _); rw [arrV_size]; exact vp_in_nI hj hlt) (by show (arrV _ _ _).slots[_]? = _; rw [e1, arrV_read _ _ hj]; simp only [hj, if_true]; rfl) rfl rfl hd ?_
  exact kk ls H locs hl hP hS
theorem jr_get {k ci f N idx : Nat} {C : String} {T : u_T} {fs : List Value} {v : Value} (cx : Cx E X cc own Ts nL fr lo) (hd : decode cc pc = .ok (.getfield idx, 3)) (hk : k < 8) (ho : mm_ob E g h k = (ci, fs)) (hc : vwCl[ci]? = some (C, T, N)) (hin : ∀ w ∈ u_ws C T N, w ∈ Ts) (hf : f < N) (hlk : Cond.fieldLink own idx (T f).1 (T f).2.1 (T f).2.2.1 ∈ Ts) (hv : fs[f]? = some v) (kk : JJ E X g h (pc + 3) L (v :: st)) : JJ E X g h pc L (.ref (E.1 k) :: st) := by
  obtain ⟨p, e, R, s, m, args, below, meth, c, cells, slots, Q, A⟩ := X
  obtain ⟨hx, hb, hml, hown, hts, hK, hA, hfr, hlo, -, hs⟩ := cx
  intro ls H locs hl hP hS
  exact va_get hx hb hts hin hown hK.2.1 hP k (mm_at_o E g h hk ho) hc f hf (hts _ hlk) (fun _ h9 => h9) hv hd (kk ls H locs hl hP hS)
theorem jr_getN {k ci f N idx : Nat} {C host : String} {T : u_T} {fs : List Value} {v : Value} (cx : Cx E X cc own Ts nL fr lo) (hd : decode cc pc = .ok (.getfield idx, 3)) (hk : k < 8) (ho : mm_ob E g h k = (ci, fs)) (hc : vwCl[ci]? = some (C, T, N)) (hin : ∀ w ∈ u_ws C T N, w ∈ Ts) (hf : f < N) (hlk : ∀ U, mm_Nst U → va_Nw (.fieldLinkNest own idx (T f).1 (T f).2.1 (T f).2.2.1 host) U) (hv : fs[f]? = some v) (kk : JJ E X g h (pc + 3) L (v :: st)) : JJ E X g h pc L (.ref (E.1 k) :: st) := by
  obtain ⟨p, e, R, s, m, args, below, meth, c, cells, slots, Q, A⟩ := X
  obtain ⟨hx, hb, hml, hown, hts, hK, hA, hfr, hlo, -, hs⟩ := cx
  intro ls H locs hl hP hS
  exact va_getN hx hb hts hin hown hK.2.1 hP k (mm_at_o E g h hk ho) hc f hf ((hlk s hK.2.2).use rfl) (fun _ h9 => h9) hv hd (kk ls H locs hl hP hS)
theorem jr_put {k ci f N idx : Nat} {C : String} {T : u_T} {ty0 : Nat → FieldType} {ty : FieldType} {fs : List Value} {v : Value} (cx : Cx E X cc own Ts nL fr lo) (hd : decode cc pc = .ok (.putfield idx, 3)) (hk : k < 8) (ho : mm_ob E g h k = (ci, fs)) (hc : vwCl[ci]? = some (C, T, N)) (hin : ∀ w ∈ u_ws C T N, w ∈ Ts) (hty : ∀ k, k < N → parseFieldDescriptor (T k).2.2.1 = some (ty0 k)) (hnm : ∀ a, a < N → ∀ b, b < N → a ≠ b → (T a).2.1 ≠ (T b).2.1) (hf : f < N) (hlk : Cond.fieldLink own idx (T f).1 (T f).2.1 (T f).2.2.1 ∈ Ts) (hfin : (T f).2.2.2 = false) (hd2 : parseFieldDescriptor (T f).2.2.1 = some ty) (hn : narrow ty v = v) (hfit : fits ty v = true) (hlf : f < fs.length) (hnew : mm_ob E g' h' k = (ci, fs.set f v)) (hold : ∀ i, i < 8 → i ≠ k → mm_ob E g' h' i = mm_ob E g h i) (hga : ∀ i, 8 ≤ i → g' i = g i) (kk : JJ E X g' h' (pc + 3) L st) : JJ E X g h pc L (v :: .ref (E.1 k) :: st) := by
  obtain ⟨p, e, R, s, m, args, below, meth, c, cells, slots, Q, A⟩ := X
  obtain ⟨hx, hb, hml, hown, hts, hK, hA, hfr, hlo, -, hs⟩ := cx
  intro ls H locs hl hP hS
  refine va_put hx hb hts hin ty0 hty hnm hown hK.2.1 hP (mm_D hK.1 hA g h) hS k (mm_at_o E g h hk ho) hc f hf (hts _ hlk) (fun _ h9 => h9) hfin hd2 hn hfit hlf hd (fun H1 locs1 hP1 _ hS1 => ?_)
  rw [mm_set E g g' h h' (by omega) (by rw [mm_ce_o E g' h' hk, hnew]) (fun i hi hne => by
    by_cases h1 : i < 8
    · rw [mm_ce_o E _ _ h1, mm_ce_o E _ _ h1, hold i h1 hne]
    · unfold mm_ce
      rw [if_neg h1, if_neg h1, hga i (by omega)])] at hP1
  exact kk ls H1 locs1 hl hP1 hS1
theorem jr_mmin {x y : Int32} {idx : Nat} (cx : Cx E X cc own Ts nL fr lo) (hd : decode cc pc = .ok (.invokestatic idx, 3)) (hm : Cond.methodLink own idx Lib.Math.min.name ∈ Ts) (h1 : Cond.static Lib.Math.min.name ∈ Ts) (h2 : Cond.initialized "java/lang/Math" ∈ Ts) (h3 : Cond.code Lib.Math.min.name Lib.Math.min.code 2 (some .int) ∈ Ts) (h4 : 1 ≤ fr) (h5 : (st.map fun v => v.category).sum + 13 ≤ lo) (kk : JJ E X g h (pc + 3) L (.int (if y < x then y else x) :: st)) : JJ E X g h pc L (.int y :: .int x :: st) := by
  obtain ⟨p, e, R, s, m, args, below, meth, c, cells, slots, Q, A⟩ := X
  obtain ⟨hx, hb, hml, hown, hts, hK, hA, hfr, hlo, hc, hs⟩ := cx
  intro ls H locs hl hP hS
  exact va_mmin hx hb hl.1.symm hown (hts _ hm) (hts _ h1) (hts _ h2) (hts _ h3) (by omega) (by omega) hc hs hd (kk ls H locs hl hP hS)
theorem jr_mmax {x y : Int32} {idx : Nat} (cx : Cx E X cc own Ts nL fr lo) (hd : decode cc pc = .ok (.invokestatic idx, 3)) (hm : Cond.methodLink own idx Lib.Math.max.name ∈ Ts) (h1 : Cond.static Lib.Math.max.name ∈ Ts) (h2 : Cond.initialized "java/lang/Math" ∈ Ts) (h3 : Cond.code Lib.Math.max.name Lib.Math.max.code 2 (some .int) ∈ Ts) (h4 : 1 ≤ fr) (h5 : (st.map fun v => v.category).sum + 13 ≤ lo) (kk : JJ E X g h (pc + 3) L (.int (if x < y then y else x) :: st)) : JJ E X g h pc L (.int y :: .int x :: st) := by
  obtain ⟨p, e, R, s, m, args, below, meth, c, cells, slots, Q, A⟩ := X
  obtain ⟨hx, hb, hml, hown, hts, hK, hA, hfr, hlo, hc, hs⟩ := cx
  intro ls H locs hl hP hS
  exact va_mmax hx hb hl.1.symm hown (hts _ hm) (hts _ h1) (hts _ h2) (hts _ h3) (by omega) (by omega) hc hs hd (kk ls H locs hl hP hS)
theorem jr_mabs {x : Int32} {idx : Nat} (cx : Cx E X cc own Ts nL fr lo) (hd : decode cc pc = .ok (.invokestatic idx, 3)) (hm : Cond.methodLink own idx Lib.Math.abs.name ∈ Ts) (h1 : Cond.static Lib.Math.abs.name ∈ Ts) (h2 : Cond.initialized "java/lang/Math" ∈ Ts) (h3 : Cond.code Lib.Math.abs.name Lib.Math.abs.code 1 (some .int) ∈ Ts) (h4 : 1 ≤ fr) (h5 : (st.map fun v => v.category).sum + 13 ≤ lo) (kk : JJ E X g h (pc + 3) L (.int (if 0 ≤ x then x else 0 - x) :: st)) : JJ E X g h pc L (.int x :: st) := by
  obtain ⟨p, e, R, s, m, args, below, meth, c, cells, slots, Q, A⟩ := X
  obtain ⟨hx, hb, hml, hown, hts, hK, hA, hfr, hlo, hc, hs⟩ := cx
  intro ls H locs hl hP hS
  exact va_mabs hx hb hl.1.symm hown (hts _ hm) (hts _ h1) (hts _ h2) (hts _ h3) (by omega) (by omega) hc hs hd (kk ls H locs hl hP hS)
theorem jr_mmin_long {x y : Int64} {idx : Nat} (cx : Cx E X cc own Ts nL fr lo) (hd : decode cc pc = .ok (.invokestatic idx, 3)) (hm : Cond.methodLink own idx Lib.MathLoose.min_long.x ∈ Ts) (h1 : Cond.static Lib.MathLoose.min_long.x ∈ Ts) (h2 : Cond.initialized "java/lang/Math" ∈ Ts) (h3 : Cond.code Lib.MathLoose.min_long.x Lib.MathLoose.min_long.code 4 (some .long) ∈ Ts) (h4 : 1 ≤ fr) (h5 : (st.map fun v => v.category).sum + 15 ≤ lo) (kk : JJ E X g h (pc + 3) L (.long (if y < x then y else x) :: st)) : JJ E X g h pc L (.long y :: .long x :: st) := by
  obtain ⟨p, e, R, s, m, args, below, meth, c, cells, slots, Q, A⟩ := X
  obtain ⟨hx, hb, hml, hown, hts, hK, hA, hfr, hlo, hc, hs⟩ := cx
  intro ls H locs hl hP hS
  exact va_mmin_long hx hb hl.1.symm hown (hts _ hm) (hts _ h1) (hts _ h2) (hts _ h3) (by omega) (by omega) hc hs hd (kk ls H locs hl hP hS)
theorem jr_mabs_long {x : Int64} {idx : Nat} (cx : Cx E X cc own Ts nL fr lo) (hd : decode cc pc = .ok (.invokestatic idx, 3)) (hm : Cond.methodLink own idx Lib.MathLoose.abs_long.x ∈ Ts) (h1 : Cond.static Lib.MathLoose.abs_long.x ∈ Ts) (h2 : Cond.initialized "java/lang/Math" ∈ Ts) (h3 : Cond.code Lib.MathLoose.abs_long.x Lib.MathLoose.abs_long.code 2 (some .long) ∈ Ts) (h4 : 1 ≤ fr) (h5 : (st.map fun v => v.category).sum + 13 ≤ lo) (kk : JJ E X g h (pc + 3) L (.long (if 0 < x then x else -x) :: st)) : JJ E X g h pc L (.long x :: st) := by
  obtain ⟨p, e, R, s, m, args, below, meth, c, cells, slots, Q, A⟩ := X
  obtain ⟨hx, hb, hml, hown, hts, hK, hA, hfr, hlo, hc, hs⟩ := cx
  intro ls H locs hl hP hS
  exact va_mabs_long hx hb hl.1.symm hown (hts _ hm) (hts _ h1) (hts _ h2) (hts _ h3) (by omega) (by omega) hc hs hd (kk ls H locs hl hP hS)
theorem jr_tableOut {dflt lo1 hi : Int} {offs : Array Int} {len tgt : Nat} {x : Int32} (cx : Cx E X cc own Ts nL fr lo) (hd : decode cc pc = .ok (.tableswitch dflt lo1 hi offs, len)) (h9 : x.toInt < lo1 ∨ hi < x.toInt) (ht : (pc : Int) + dflt = (tgt : Int)) (kk : JJ E X g h tgt L st) : JJ E X g h pc L (.int x :: st) := by
  obtain ⟨p, e, R, s, m, args, below, meth, c, cells, slots, Q, A⟩ := X
  obtain ⟨hx, hb, hml, hown, hts, hK, hA, hfr, hlo, hc, hs⟩ := cx
  intro ls H locs hl hP hS
  exact lv_tableOut hx hb hd h9 ht (kk ls H locs hl hP hS)
theorem jr_tableIn {dflt lo1 hi off : Int} {offs : Array Int} {len tgt : Nat} {x : Int32} (cx : Cx E X cc own Ts nL fr lo) (hd : decode cc pc = .ok (.tableswitch dflt lo1 hi offs, len)) (h8 : ¬ x.toInt < lo1) (h9 : ¬ hi < x.toInt) (ho : offs[(x.toInt - lo1).toNat]? = some off) (ht : (pc : Int) + off = (tgt : Int)) (kk : JJ E X g h tgt L st) : JJ E X g h pc L (.int x :: st) := by
  obtain ⟨p, e, R, s, m, args, below, meth, c, cells, slots, Q, A⟩ := X
  obtain ⟨hx, hb, hml, hown, hts, hK, hA, hfr, hlo, hc, hs⟩ := cx
  intro ls H locs hl hP hS
  exact lv_tableIn hx hb hd h8 h9 ho ht (kk ls H locs hl hP hS)
theorem jr_copy {k k2 idx : Nat} {sp dp n : Int32} (cx : Cx E X cc own Ts nL fr lo) (hd : decode cc pc = .ok (.invokestatic idx, 3)) (hm : Cond.methodLink own idx arraycopyName ∈ Ts) (h0 : Cond.native arraycopyName ∈ Ts) (h1 : Cond.static arraycopyName ∈ Ts) (h2 : Cond.initialized "java/lang/System" ∈ Ts) (hk : mm_isI k) (hk2 : mm_isI k2) (a b z : Nat) (ha : sp = nI a) (hb2 : dp = nI b) (hz : n = nI z) (hl1 : a + z ≤ mm_len k) (hl2 : b + z ≤ mm_len k2) (h4 : 1 ≤ fr) (h5 : (st.map fun v => v.category).sum + (nativeFrameWords "java/lang/System" "arraycopy" 5 + 11) ≤ lo) (kk : JJ E X (fun q => if q = k2 then va_cpy (g k) (g k2) a b z else g q) h (pc + 3) L st) : JJ E X g h pc L (.int n :: .int dp :: .ref (E.1 k2) :: .int sp :: .ref (E.1 k) :: st) := by
  obtain ⟨p, e, R, s, m, args, below, meth, c, cells, slots, Q, A⟩ := X
  obtain ⟨hx, hb, hml, hown, hts, hK, hA, hfr, hlo, hc, hs⟩ := cx
  intro ls H locs hl hP hS
  have hk5 : k < 105 := by unfold mm_isI at hk; omega
  have hk6 : k2 < 105 := by unfold mm_isI at hk2; omega
  have hq1 := mm_len_lt k
  have hq2 := mm_len_lt k2
  subst ha hb2 hz
  have e1 : (nI a).toNatClampNeg = a := nI_clamp (by omega)
  have e2 : (nI b).toNatClampNeg = b := nI_clamp (by omega)
  have e3 : (nI z).toNatClampNeg = z := nI_clamp (by omega)
  refine va_copyi (ty := .int) hx hb hl.1.symm hown (hts _ hm) (hts _ h0) (hts _ h1) (hts _ h2) hK.2.1 hP (mm_D hK.1 hA g h) hS k k2 0 0 ((mm_at E g h hk5).trans (by rw [mm_ce_i E g h hk])) ((mm_at E g h hk6).trans (by rw [mm_ce_i E g h hk2])) rfl rfl rfl (nI_pos (by omega)) (nI_pos (by omega)) (nI_pos (by omega)) (by rw [e1, e3]; exact hl1) (by rw [e2, e3]; exact hl2) (fun i hi => rfl) (by omega) (by omega) hd (fun H1 locs1 hP1 _ hS1 => ?_)
  rw [e1, e2, e3, mm_set E g (fun q => if q = k2 then va_cpy (g k) (g k2) a b z else g q) h h hk6 (by rw [mm_ce_i E _ h hk2, if_pos rfl]) (fun i hi hne => ?_)] at hP1
  · exact kk ls H1 locs1 hl hP1 hS1
  · have hob : ∀ i, i < 8 → mm_ob E (fun q => if q = k2 then va_cpy (g k) (g k2) a b z else g q) h i = mm_ob E g h i := fun i hi => by
      have hne : ∀ a, a < 8 → ¬ a = k2 := fun a ha => by unfold mm_isI at hk2; omega
      rcases (show i = 0 ∨ i = 1 ∨ i = 2 ∨ i = 3 ∨ i = 4 ∨ i = 5 ∨ i = 6 ∨ i = 7 by omega) with rfl | rfl | rfl | rfl | rfl | rfl | rfl | rfl <;> simp [mm_ob, hne]
    by_cases h1 : i < 8
    · rw [mm_ce_o E _ h h1, mm_ce_o E _ h h1, hob i h1]
    · unfold mm_ce
      simp only [h1, hne, if_false]
end JH
/-! contracts: from the memory g h the method with the arguments av answers r and leaves the memory g' h' -/
def mm_rm (fr lo : Nat) : Room := { frames := fr, cells := 0, slots := 0, locals := lo }
def mm_Pc (E : mm_E) (av : List Value) (g : mm_I) (h : mm_L) : Array Value → State → Prop := va_Pc av (fun U => mm_Pw E g h U.heap ∧ mm_Kn E U)
def Ci (E : mm_E) (y : MethodName) (ws : List Cond) (fr lo : Nat) (av : List Value) (g : mm_I) (h : mm_L) (r : Int32) (g' : mm_I) (h' : mm_L) : Prop := Met E.2.2.2.2.2 y ws (mm_rm fr lo) (mm_Pc E av g h) (va_Qi (fun x (_ : Unit) => x = r) (fun _ t => mm_Pw E g' h' t.heap) (mm_A E)) 0 0 (mm_A E)
def Cl (E : mm_E) (y : MethodName) (ws : List Cond) (fr lo : Nat) (av : List Value) (g : mm_I) (h : mm_L) (r : Int64) (g' : mm_I) (h' : mm_L) : Prop := Met E.2.2.2.2.2 y ws (mm_rm fr lo) (mm_Pc E av g h) (va_Ql (fun x (_ : Unit) => x = r) (fun _ t => mm_Pw E g' h' t.heap) (mm_A E)) 0 0 (mm_A E)
def Cv (E : mm_E) (y : MethodName) (ws : List Cond) (fr lo : Nat) (av : List Value) (g : mm_I) (h : mm_L) (g' : mm_I) (h' : mm_L) : Prop := Met E.2.2.2.2.2 y ws (mm_rm fr lo) (mm_Pc E av g h) (va_Qv (fun (_ : Unit) => True) (fun _ t => mm_Pw E g' h' t.heap) (mm_A E)) 0 0 (mm_A E)
theorem mm_blind (E : mm_E) (av : List Value) (g : mm_I) (h : mm_L) : FrameBlind (mm_Pc E av g h) := fun a U gg mk q => ⟨q.1, q.2.1, mm_Kn.same (u := U) rfl q.2.2⟩
theorem mm_pre {E : mm_E} {av : List Value} {g : mm_I} {h : mm_L} {s : State} {H : Heap} (hP : mm_Pw E g h H) (hK : mm_Kn E s) : ∀ U : State, U.heap = H → s.WarmedH U.vm → mm_Pc E av g h av.toArray U := fun U hU hW => ⟨rfl, by rw [hU]; exact hP, hK.warm hW⟩
section JC
variable {E : mm_E} {X : mm_X} {cc : ByteArray} {own : String} {Ts : List Cond} {nL fr lo pc : Nat} {g g' : mm_I} {h h' : mm_L} {L L' : List (Nat × Value)} {st st0 st' : List Value} {y : MethodName} {ws ws' : List Cond} {f2 l2 maxL idx : Nat} {ret : Option FieldType} {bytes : ByteArray}
theorem jr_si {r : Int32} (av : List Value) (n : Nat) (cx : Cx E X cc own Ts nL fr lo) (hd : decode cc pc = .ok (.invokestatic idx, 3)) (hM : Ci E y ws f2 l2 av g h r g' h') (hG : GoodIn Ts (va_wsS own idx y ws)) (hw : ws = Cond.code y bytes maxL ret :: ws') (hy : y.cls ≠ "java/lang/invoke/MethodHandle" ∧ y.cls ≠ "java/lang/invoke/VarHandle" ∧ (parseMethodDescriptor y.desc).map (fun d => d.parameters.length) = some n) (hR : f2 + 1 ≤ fr ∧ 8 + (maxL + 11) + l2 ≤ lo) (hn : av.length = n) (hst : st0 = av.reverse ++ st) (hcat : (st.map fun v => v.category).sum ≤ 8) (kk : JJ E X g' h' (pc + 3) L (.int r :: st)) : JJ E X g h pc L st0 := by
  obtain ⟨p, e, R, s, m, args, below, meth, c, cells, slots, Q, A⟩ := X
  obtain ⟨hx, hb, hml, hown, hts, hK, hA, hfr, hlo, hc, hs⟩ := cx
  intro ls H locs hl hP hS
  refine va_calli (va_runS (As := av) (rest := st) ⟨hx, hb, hml, hown, hts⟩ hM (va_cwS n hts hG hw rfl rfl hy ⟨Nat.le_trans hR.1 hfr, Nat.le_trans hR.2 hlo⟩) ⟨mm_blind E av g h, mm_pre hP hK⟩ rfl hn (by rw [← hml]; exact hl.1) hst (lv_room hcat) hd ⟨hc, hs⟩) hS (fun q _ hq => by obtain ⟨k, hk, rfl⟩ := hq; exact hA k hk) (fun q hq => by obtain ⟨k, hk, rfl⟩ := hq; exact hA k hk) (fun x u t H1 locs1 ht hvm hw hB hz1 hk1 hS1 => ?_)
  cases hw
  rw [ht] at hB
  exact kk ls H1 locs1 hl hB hS1
theorem jr_vi {r : Int32} {k ci N : Nat} {C : String} {T : u_T} {fs : List Value} (av : List Value) (n : Nat) (cx : Cx E X cc own Ts nL fr lo) (hd : decode cc pc = .ok (.invokevirtual idx, 3)) (hM : Ci E y ws f2 l2 (.ref (E.1 k) :: av) g h r g' h') (hk : k < 8) (ho : mm_ob E g h k = (ci, fs)) (hcl : vwCl[ci]? = some (C, T, N)) (hG : GoodIn Ts (wsV own idx C y ws)) (hw : ws = Cond.code y bytes maxL ret :: ws') (hy : y.cls = C ∧ y.cls ≠ "java/lang/invoke/MethodHandle" ∧ y.cls ≠ "java/lang/invoke/VarHandle" ∧ (parseMethodDescriptor y.desc).map (fun d => d.parameters.length) = some n) (hR : f2 + 1 ≤ fr ∧ 8 + (maxL + 11) + l2 ≤ lo) (hn : av.length = n) (hst : st0 = av.reverse ++ .ref (E.1 k) :: st) (hcat : (st.map fun v => v.category).sum ≤ 8) (kk : JJ E X g' h' (pc + 3) L (.int r :: st)) : JJ E X g h pc L st0 := by
  obtain ⟨p, e, R, s, m, args, below, meth, c, cells, slots, Q, A⟩ := X
  obtain ⟨hx, hb, hml, hown, hts, hK, hA, hfr, hlo, hc, hs⟩ := cx
  intro ls H locs hl hP hS
  refine va_calli (va_runV (As := av) (rest := st) ⟨hx, hb, hml, hown, hts⟩ hM (cwV n hts hG hw rfl rfl hy ⟨Nat.le_trans hR.1 hfr, Nat.le_trans hR.2 hlo⟩) ⟨mm_blind E _ g h, va_recv hK.2.1 hP hcl (mm_at_o E g h hk ho), mm_pre hP hK⟩ rfl hn (by rw [← hml]; exact hl.1) hst (lv_room hcat) hd ⟨hc, hs⟩) hS (fun q _ hq => by obtain ⟨k, hk, rfl⟩ := hq; exact hA k hk) (fun q hq => by obtain ⟨k, hk, rfl⟩ := hq; exact hA k hk) (fun x u t H1 locs1 ht hvm hw hB hz1 hk1 hS1 => ?_)
  cases hw
  rw [ht] at hB
  exact kk ls H1 locs1 hl hB hS1
theorem jr_ni {r : Int32} {host : String} (av : List Value) (n : Nat) (cx : Cx E X cc own Ts nL fr lo) (hd : decode cc pc = .ok (.invokestatic idx, 3)) (hM : Ci E y ws f2 l2 av g h r g' h') (hG : GoodIn Ts ws) (hw : ws = Cond.code y bytes maxL ret :: ws') (hlk : ∀ U, mm_Nst U → va_Nw (.methodLinkNest own idx y host) U) (hini : Cond.initialized y.cls ∈ Ts) (hsta : Cond.static y ∈ Ts) (hy : y.cls ≠ "java/lang/invoke/MethodHandle" ∧ y.cls ≠ "java/lang/invoke/VarHandle" ∧ (parseMethodDescriptor y.desc).map (fun d => d.parameters.length) = some n) (hR : f2 + 1 ≤ fr ∧ 8 + (maxL + 11) + l2 ≤ lo) (hn : av.length = n) (hst : st0 = av.reverse ++ st) (hcat : (st.map fun v => v.category).sum ≤ 8) (kk : JJ E X g' h' (pc + 3) L (.int r :: st)) : JJ E X g h pc L st0 := by
  obtain ⟨p, e, R, s, m, args, below, meth, c, cells, slots, Q, A⟩ := X
  obtain ⟨hx, hb, hml, hown, hts, hK, hA, hfr, hlo, hc, hs⟩ := cx
  intro ls H locs hl hP hS
  refine va_calli (va_runSN (As := av) (rest := st) ⟨hx, hb, hml, hown, hts⟩ hM ⟨va_cnB n hts hG hw rfl rfl (hlk s hK.2.2) (hts _ hini) hy ⟨Nat.le_trans hR.1 hfr, Nat.le_trans hR.2 hlo⟩, hts _ hsta, trivial⟩ ⟨mm_blind E av g h, mm_pre hP hK⟩ rfl hn (by rw [← hml]; exact hl.1) hst (lv_room hcat) hd ⟨hc, hs⟩) hS (fun q _ hq => by obtain ⟨k, hk, rfl⟩ := hq; exact hA k hk) (fun q hq => by obtain ⟨k, hk, rfl⟩ := hq; exact hA k hk) (fun x u t H1 locs1 ht hvm hw hB hz1 hk1 hS1 => ?_)
  cases hw
  rw [ht] at hB
  exact kk ls H1 locs1 hl hB hS1
theorem jr_sl {r : Int64} (av : List Value) (n : Nat) (cx : Cx E X cc own Ts nL fr lo) (hd : decode cc pc = .ok (.invokestatic idx, 3)) (hM : Cl E y ws f2 l2 av g h r g' h') (hG : GoodIn Ts (va_wsS own idx y ws)) (hw : ws = Cond.code y bytes maxL ret :: ws') (hy : y.cls ≠ "java/lang/invoke/MethodHandle" ∧ y.cls ≠ "java/lang/invoke/VarHandle" ∧ (parseMethodDescriptor y.desc).map (fun d => d.parameters.length) = some n) (hR : f2 + 1 ≤ fr ∧ 8 + (maxL + 11) + l2 ≤ lo) (hn : av.length = n) (hst : st0 = av.reverse ++ st) (hcat : (st.map fun v => v.category).sum ≤ 8) (kk : JJ E X g' h' (pc + 3) L (.long r :: st)) : JJ E X g h pc L st0 := by
  obtain ⟨p, e, R, s, m, args, below, meth, c, cells, slots, Q, A⟩ := X
  obtain ⟨hx, hb, hml, hown, hts, hK, hA, hfr, hlo, hc, hs⟩ := cx
  intro ls H locs hl hP hS
  refine va_calll (va_runS (As := av) (rest := st) ⟨hx, hb, hml, hown, hts⟩ hM (va_cwS n hts hG hw rfl rfl hy ⟨Nat.le_trans hR.1 hfr, Nat.le_trans hR.2 hlo⟩) ⟨mm_blind E av g h, mm_pre hP hK⟩ rfl hn (by rw [← hml]; exact hl.1) hst (lv_room hcat) hd ⟨hc, hs⟩) hS (fun q _ hq => by obtain ⟨k, hk, rfl⟩ := hq; exact hA k hk) (fun q hq => by obtain ⟨k, hk, rfl⟩ := hq; exact hA k hk) (fun x u t H1 locs1 ht hvm hw hB hz1 hk1 hS1 => ?_)
  cases hw
  rw [ht] at hB
  exact kk ls H1 locs1 hl hB hS1
theorem jr_vl {r : Int64} {k ci N : Nat} {C : String} {T : u_T} {fs : List Value} (av : List Value) (n : Nat) (cx : Cx E X cc own Ts nL fr lo) (hd : decode cc pc = .ok (.invokevirtual idx, 3)) (hM : Cl E y ws f2 l2 (.ref (E.1 k) :: av) g h r g' h') (hk : k < 8) (ho : mm_ob E g h k = (ci, fs)) (hcl : vwCl[ci]? = some (C, T, N)) (hG : GoodIn Ts (wsV own idx C y ws)) (hw : ws = Cond.code y bytes maxL ret :: ws') (hy : y.cls = C ∧ y.cls ≠ "java/lang/invoke/MethodHandle" ∧ y.cls ≠ "java/lang/invoke/VarHandle" ∧ (parseMethodDescriptor y.desc).map (fun d => d.parameters.length) = some n) (hR : f2 + 1 ≤ fr ∧ 8 + (maxL + 11) + l2 ≤ lo) (hn : av.length = n) (hst : st0 = av.reverse ++ .ref (E.1 k) :: st) (hcat : (st.map fun v => v.category).sum ≤ 8) (kk : JJ E X g' h' (pc + 3) L (.long r :: st)) : JJ E X g h pc L st0 := by
  obtain ⟨p, e, R, s, m, args, below, meth, c, cells, slots, Q, A⟩ := X
  obtain ⟨hx, hb, hml, hown, hts, hK, hA, hfr, hlo, hc, hs⟩ := cx
  intro ls H locs hl hP hS
  refine va_calll (va_runV (As := av) (rest := st) ⟨hx, hb, hml, hown, hts⟩ hM (cwV n hts hG hw rfl rfl hy ⟨Nat.le_trans hR.1 hfr, Nat.le_trans hR.2 hlo⟩) ⟨mm_blind E _ g h, va_recv hK.2.1 hP hcl (mm_at_o E g h hk ho), mm_pre hP hK⟩ rfl hn (by rw [← hml]; exact hl.1) hst (lv_room hcat) hd ⟨hc, hs⟩) hS (fun q _ hq => by obtain ⟨k, hk, rfl⟩ := hq; exact hA k hk) (fun q hq => by obtain ⟨k, hk, rfl⟩ := hq; exact hA k hk) (fun x u t H1 locs1 ht hvm hw hB hz1 hk1 hS1 => ?_)
  cases hw
  rw [ht] at hB
  exact kk ls H1 locs1 hl hB hS1
theorem jr_nl {r : Int64} {host : String} (av : List Value) (n : Nat) (cx : Cx E X cc own Ts nL fr lo) (hd : decode cc pc = .ok (.invokestatic idx, 3)) (hM : Cl E y ws f2 l2 av g h r g' h') (hG : GoodIn Ts ws) (hw : ws = Cond.code y bytes maxL ret :: ws') (hlk : ∀ U, mm_Nst U → va_Nw (.methodLinkNest own idx y host) U) (hini : Cond.initialized y.cls ∈ Ts) (hsta : Cond.static y ∈ Ts) (hy : y.cls ≠ "java/lang/invoke/MethodHandle" ∧ y.cls ≠ "java/lang/invoke/VarHandle" ∧ (parseMethodDescriptor y.desc).map (fun d => d.parameters.length) = some n) (hR : f2 + 1 ≤ fr ∧ 8 + (maxL + 11) + l2 ≤ lo) (hn : av.length = n) (hst : st0 = av.reverse ++ st) (hcat : (st.map fun v => v.category).sum ≤ 8) (kk : JJ E X g' h' (pc + 3) L (.long r :: st)) : JJ E X g h pc L st0 := by
  obtain ⟨p, e, R, s, m, args, below, meth, c, cells, slots, Q, A⟩ := X
  obtain ⟨hx, hb, hml, hown, hts, hK, hA, hfr, hlo, hc, hs⟩ := cx
  intro ls H locs hl hP hS
  refine va_calll (va_runSN (As := av) (rest := st) ⟨hx, hb, hml, hown, hts⟩ hM ⟨va_cnB n hts hG hw rfl rfl (hlk s hK.2.2) (hts _ hini) hy ⟨Nat.le_trans hR.1 hfr, Nat.le_trans hR.2 hlo⟩, hts _ hsta, trivial⟩ ⟨mm_blind E av g h, mm_pre hP hK⟩ rfl hn (by rw [← hml]; exact hl.1) hst (lv_room hcat) hd ⟨hc, hs⟩) hS (fun q _ hq => by obtain ⟨k, hk, rfl⟩ := hq; exact hA k hk) (fun q hq => by obtain ⟨k, hk, rfl⟩ := hq; exact hA k hk) (fun x u t H1 locs1 ht hvm hw hB hz1 hk1 hS1 => ?_)
  cases hw
  rw [ht] at hB
  exact kk ls H1 locs1 hl hB hS1
theorem jr_sv (av : List Value) (n : Nat) (cx : Cx E X cc own Ts nL fr lo) (hd : decode cc pc = .ok (.invokestatic idx, 3)) (hM : Cv E y ws f2 l2 av g h g' h') (hG : GoodIn Ts (va_wsS own idx y ws)) (hw : ws = Cond.code y bytes maxL ret :: ws') (hy : y.cls ≠ "java/lang/invoke/MethodHandle" ∧ y.cls ≠ "java/lang/invoke/VarHandle" ∧ (parseMethodDescriptor y.desc).map (fun d => d.parameters.length) = some n) (hR : f2 + 1 ≤ fr ∧ 8 + (maxL + 11) + l2 ≤ lo) (hn : av.length = n) (hst : st0 = av.reverse ++ st) (hcat : (st.map fun v => v.category).sum ≤ 8) (kk : JJ E X g' h' (pc + 3) L (st)) : JJ E X g h pc L st0 := by
  obtain ⟨p, e, R, s, m, args, below, meth, c, cells, slots, Q, A⟩ := X
  obtain ⟨hx, hb, hml, hown, hts, hK, hA, hfr, hlo, hc, hs⟩ := cx
  intro ls H locs hl hP hS
  refine va_callv (va_runS (As := av) (rest := st) ⟨hx, hb, hml, hown, hts⟩ hM (va_cwS n hts hG hw rfl rfl hy ⟨Nat.le_trans hR.1 hfr, Nat.le_trans hR.2 hlo⟩) ⟨mm_blind E av g h, mm_pre hP hK⟩ rfl hn (by rw [← hml]; exact hl.1) hst (lv_room hcat) hd ⟨hc, hs⟩) hS (fun q _ hq => by obtain ⟨k, hk, rfl⟩ := hq; exact hA k hk) (fun q hq => by obtain ⟨k, hk, rfl⟩ := hq; exact hA k hk) (fun u t H1 locs1 ht hvm hw hB hz1 hk1 hS1 => ?_)
  rw [ht] at hB
  exact kk ls H1 locs1 hl hB hS1
theorem jr_vv {k ci N : Nat} {C : String} {T : u_T} {fs : List Value} (av : List Value) (n : Nat) (cx : Cx E X cc own Ts nL fr lo) (hd : decode cc pc = .ok (.invokevirtual idx, 3)) (hM : Cv E y ws f2 l2 (.ref (E.1 k) :: av) g h g' h') (hk : k < 8) (ho : mm_ob E g h k = (ci, fs)) (hcl : vwCl[ci]? = some (C, T, N)) (hG : GoodIn Ts (wsV own idx C y ws)) (hw : ws = Cond.code y bytes maxL ret :: ws') (hy : y.cls = C ∧ y.cls ≠ "java/lang/invoke/MethodHandle" ∧ y.cls ≠ "java/lang/invoke/VarHandle" ∧ (parseMethodDescriptor y.desc).map (fun d => d.parameters.length) = some n) (hR : f2 + 1 ≤ fr ∧ 8 + (maxL + 11) + l2 ≤ lo) (hn : av.length = n) (hst : st0 = av.reverse ++ .ref (E.1 k) :: st) (hcat : (st.map fun v => v.category).sum ≤ 8) (kk : JJ E X g' h' (pc + 3) L (st)) : JJ E X g h pc L st0 := by
  obtain ⟨p, e, R, s, m, args, below, meth, c, cells, slots, Q, A⟩ := X
  obtain ⟨hx, hb, hml, hown, hts, hK, hA, hfr, hlo, hc, hs⟩ := cx
  intro ls H locs hl hP hS
  refine va_callv (va_runV (As := av) (rest := st) ⟨hx, hb, hml, hown, hts⟩ hM (cwV n hts hG hw rfl rfl hy ⟨Nat.le_trans hR.1 hfr, Nat.le_trans hR.2 hlo⟩) ⟨mm_blind E _ g h, va_recv hK.2.1 hP hcl (mm_at_o E g h hk ho), mm_pre hP hK⟩ rfl hn (by rw [← hml]; exact hl.1) hst (lv_room hcat) hd ⟨hc, hs⟩) hS (fun q _ hq => by obtain ⟨k, hk, rfl⟩ := hq; exact hA k hk) (fun q hq => by obtain ⟨k, hk, rfl⟩ := hq; exact hA k hk) (fun u t H1 locs1 ht hvm hw hB hz1 hk1 hS1 => ?_)
  rw [ht] at hB
  exact kk ls H1 locs1 hl hB hS1
theorem jr_nv {host : String} (av : List Value) (n : Nat) (cx : Cx E X cc own Ts nL fr lo) (hd : decode cc pc = .ok (.invokestatic idx, 3)) (hM : Cv E y ws f2 l2 av g h g' h') (hG : GoodIn Ts ws) (hw : ws = Cond.code y bytes maxL ret :: ws') (hlk : ∀ U, mm_Nst U → va_Nw (.methodLinkNest own idx y host) U) (hini : Cond.initialized y.cls ∈ Ts) (hsta : Cond.static y ∈ Ts) (hy : y.cls ≠ "java/lang/invoke/MethodHandle" ∧ y.cls ≠ "java/lang/invoke/VarHandle" ∧ (parseMethodDescriptor y.desc).map (fun d => d.parameters.length) = some n) (hR : f2 + 1 ≤ fr ∧ 8 + (maxL + 11) + l2 ≤ lo) (hn : av.length = n) (hst : st0 = av.reverse ++ st) (hcat : (st.map fun v => v.category).sum ≤ 8) (kk : JJ E X g' h' (pc + 3) L (st)) : JJ E X g h pc L st0 := by
  obtain ⟨p, e, R, s, m, args, below, meth, c, cells, slots, Q, A⟩ := X
  obtain ⟨hx, hb, hml, hown, hts, hK, hA, hfr, hlo, hc, hs⟩ := cx
  intro ls H locs hl hP hS
  refine va_callv (va_runSN (As := av) (rest := st) ⟨hx, hb, hml, hown, hts⟩ hM ⟨va_cnB n hts hG hw rfl rfl (hlk s hK.2.2) (hts _ hini) hy ⟨Nat.le_trans hR.1 hfr, Nat.le_trans hR.2 hlo⟩, hts _ hsta, trivial⟩ ⟨mm_blind E av g h, mm_pre hP hK⟩ rfl hn (by rw [← hml]; exact hl.1) hst (lv_room hcat) hd ⟨hc, hs⟩) hS (fun q _ hq => by obtain ⟨k, hk, rfl⟩ := hq; exact hA k hk) (fun q hq => by obtain ⟨k, hk, rfl⟩ := hq; exact hA k hk) (fun u t H1 locs1 ht hvm hw hB hz1 hk1 hS1 => ?_)
  rw [ht] at hB
  exact kk ls H1 locs1 hl hB hS1
end JC
section JI
variable {E : mm_E} {y : MethodName} {ws ws' : List Cond} {fr lo maxL : Nat} {av : List Value} {g g' : mm_I} {h h' : mm_L} {bytes : ByteArray}
theorem ci_i {r : Int32} (hy : plainName y.cls = true) (hw : ws = Cond.code y bytes maxL (some .int) :: ws') (hl0 : (lg_sl av).length ≤ maxL) (body : ∀ X, Cx E X bytes y.cls ws maxL fr lo → (∀ (pc : Nat) (L : List (Nat × Value)), decode bytes pc = .ok (.ireturn, 1) → JJ E X g' h' pc L [.int r]) → JJ E X g h 0 (lv_args 0 av) []) : Ci E y ws fr lo av g h r g' h' := by
  refine Met.ofW (cc := bytes) (maxL := maxL) (ret := (some .int)) hy hw ?_
  intro p e s m args below meth c s₁ B hml hv
  obtain ⟨rfl, hP, hK⟩ := hv
  have hts := atoms_spec (ws := ws) B.pre
  have hown : s.vm.findClass y.cls = some m.cls := findClass_of_methodNamed B.named
  have hlocks := B.notSynchronized
  have hl := lv_entry av (n := maxL) hl0
  have hS : va_S (mm_A E) s.heap s.heap [] := va_S.rf
  rw [lg_entry_eq]
  generalize (lg_sl av ++ List.replicate (maxL - (lg_sl av).length) Slot.unset).toArray = ls at hl ⊢
  refine body (p, e, (headSpec ws (mm_rm fr lo)).room, s, m, av.toArray, below, meth, c, 0, 0, MQ below (va_Qi (fun x (_ : Unit) => x = r) (fun _ t => mm_Pw E g' h' t.heap) (mm_A E)) av.toArray s 0 0 (mm_A E), mm_A E) ⟨B.exec, B.bytes, hml, hown, hts, hK, fun k hk => ⟨k, hk, rfl⟩, Nat.le_refl _, Nat.le_refl _, Nat.le_refl _, Nat.le_refl _⟩ ?_ ls s.heap [] (by rw [hml]; exact hl) hP hS
  intro pc L hd ls2 H2 locs2 hl2 hP2 hS2
  exact W.iret B.exec B.bytes B.returns (fun t ht hW => ⟨⟨r, (), rfl, rfl, by show mm_Pw _ _ _ t.heap; rw [ht]; exact hP2⟩, hS2.F ht⟩) hS2.2.2 hd hlocks
theorem ci_z {r : Int32} (hy : plainName y.cls = true) (hw : ws = Cond.code y bytes maxL (some .boolean) :: ws') (hl0 : (lg_sl av).length ≤ maxL) (hz : r = 0 ∨ r = 1) (body : ∀ X, Cx E X bytes y.cls ws maxL fr lo → (∀ (pc : Nat) (L : List (Nat × Value)), decode bytes pc = .ok (.ireturn, 1) → JJ E X g' h' pc L [.int r]) → JJ E X g h 0 (lv_args 0 av) []) : Ci E y ws fr lo av g h r g' h' := by
  refine Met.ofW (cc := bytes) (maxL := maxL) (ret := (some .boolean)) hy hw ?_
  intro p e s m args below meth c s₁ B hml hv
  obtain ⟨rfl, hP, hK⟩ := hv
  have hts := atoms_spec (ws := ws) B.pre
  have hown : s.vm.findClass y.cls = some m.cls := findClass_of_methodNamed B.named
  have hlocks := B.notSynchronized
  have hl := lv_entry av (n := maxL) hl0
  have hS : va_S (mm_A E) s.heap s.heap [] := va_S.rf
  rw [lg_entry_eq]
  generalize (lg_sl av ++ List.replicate (maxL - (lg_sl av).length) Slot.unset).toArray = ls at hl ⊢
  refine body (p, e, (headSpec ws (mm_rm fr lo)).room, s, m, av.toArray, below, meth, c, 0, 0, MQ below (va_Qi (fun x (_ : Unit) => x = r) (fun _ t => mm_Pw E g' h' t.heap) (mm_A E)) av.toArray s 0 0 (mm_A E), mm_A E) ⟨B.exec, B.bytes, hml, hown, hts, hK, fun k hk => ⟨k, hk, rfl⟩, Nat.le_refl _, Nat.le_refl _, Nat.le_refl _, Nat.le_refl _⟩ ?_ ls s.heap [] (by rw [hml]; exact hl) hP hS
  intro pc L hd ls2 H2 locs2 hl2 hP2 hS2
  exact W.zret B.exec B.bytes B.returns (by rcases hz with rfl | rfl <;> decide +kernel) (fun t ht hW => ⟨⟨r, (), rfl, rfl, by show mm_Pw _ _ _ t.heap; rw [ht]; exact hP2⟩, hS2.F ht⟩) hS2.2.2 hd hlocks
theorem ci_l {r : Int64} (hy : plainName y.cls = true) (hw : ws = Cond.code y bytes maxL (some .long) :: ws') (hl0 : (lg_sl av).length ≤ maxL) (body : ∀ X, Cx E X bytes y.cls ws maxL fr lo → (∀ (pc : Nat) (L : List (Nat × Value)), decode bytes pc = .ok (.lreturn, 1) → JJ E X g' h' pc L [.long r]) → JJ E X g h 0 (lv_args 0 av) []) : Cl E y ws fr lo av g h r g' h' := by
  refine Met.ofW (cc := bytes) (maxL := maxL) (ret := (some .long)) hy hw ?_
  intro p e s m args below meth c s₁ B hml hv
  obtain ⟨rfl, hP, hK⟩ := hv
  have hts := atoms_spec (ws := ws) B.pre
  have hown : s.vm.findClass y.cls = some m.cls := findClass_of_methodNamed B.named
  have hlocks := B.notSynchronized
  have hl := lv_entry av (n := maxL) hl0
  have hS : va_S (mm_A E) s.heap s.heap [] := va_S.rf
  rw [lg_entry_eq]
  generalize (lg_sl av ++ List.replicate (maxL - (lg_sl av).length) Slot.unset).toArray = ls at hl ⊢
  refine body (p, e, (headSpec ws (mm_rm fr lo)).room, s, m, av.toArray, below, meth, c, 0, 0, MQ below (va_Ql (fun x (_ : Unit) => x = r) (fun _ t => mm_Pw E g' h' t.heap) (mm_A E)) av.toArray s 0 0 (mm_A E), mm_A E) ⟨B.exec, B.bytes, hml, hown, hts, hK, fun k hk => ⟨k, hk, rfl⟩, Nat.le_refl _, Nat.le_refl _, Nat.le_refl _, Nat.le_refl _⟩ ?_ ls s.heap [] (by rw [hml]; exact hl) hP hS
  intro pc L hd ls2 H2 locs2 hl2 hP2 hS2
  exact W.lret B.exec B.bytes B.returns (fun t ht hW => ⟨⟨r, (), rfl, rfl, by show mm_Pw _ _ _ t.heap; rw [ht]; exact hP2⟩, hS2.F ht⟩) hS2.2.2 hd hlocks
theorem ci_v (hy : plainName y.cls = true) (hw : ws = Cond.code y bytes maxL none :: ws') (hl0 : (lg_sl av).length ≤ maxL) (body : ∀ X, Cx E X bytes y.cls ws maxL fr lo → (∀ (pc : Nat) (L : List (Nat × Value)), decode bytes pc = .ok (.return_, 1) → JJ E X g' h' pc L []) → JJ E X g h 0 (lv_args 0 av) []) : Cv E y ws fr lo av g h g' h' := by
  refine Met.ofW (cc := bytes) (maxL := maxL) (ret := none) hy hw ?_
  intro p e s m args below meth c s₁ B hml hv
  obtain ⟨rfl, hP, hK⟩ := hv
  have hts := atoms_spec (ws := ws) B.pre
  have hown : s.vm.findClass y.cls = some m.cls := findClass_of_methodNamed B.named
  have hlocks := B.notSynchronized
  have hl := lv_entry av (n := maxL) hl0
  have hS : va_S (mm_A E) s.heap s.heap [] := va_S.rf
  rw [lg_entry_eq]
  generalize (lg_sl av ++ List.replicate (maxL - (lg_sl av).length) Slot.unset).toArray = ls at hl ⊢
  refine body (p, e, (headSpec ws (mm_rm fr lo)).room, s, m, av.toArray, below, meth, c, 0, 0, MQ below (va_Qv (fun (_ : Unit) => True) (fun _ t => mm_Pw E g' h' t.heap) (mm_A E)) av.toArray s 0 0 (mm_A E), mm_A E) ⟨B.exec, B.bytes, hml, hown, hts, hK, fun k hk => ⟨k, hk, rfl⟩, Nat.le_refl _, Nat.le_refl _, Nat.le_refl _, Nat.le_refl _⟩ ?_ ls s.heap [] (by rw [hml]; exact hl) hP hS
  intro pc L hd ls2 H2 locs2 hl2 hP2 hS2
  exact W.vret B.exec B.bytes B.returns (fun t ht hW => ⟨⟨(), rfl, trivial, by show mm_Pw _ _ _ t.heap; rw [ht]; exact hP2⟩, hS2.F ht⟩) hS2.2.2 hd hlocks
end JI
end
section
def bI (P : Prop) [Decidable P] : Int32 := if P then 1 else 0
theorem bI_t {P : Prop} [Decidable P] (h : P) : bI P = 1 := if_pos h
theorem bI_f {P : Prop} [Decidable P] (h : ¬ P) : bI P = 0 := if_neg h
theorem bI_01 (P : Prop) [Decidable P] : bI P = 0 ∨ bI P = 1 := by unfold bI; split <;> simp
theorem bI_0 {P : Prop} [Decidable P] : bI P = 0 ↔ ¬ P := by unfold bI; split <;> simp_all
theorem bI_1 {P : Prop} [Decidable P] : bI P = 1 ↔ P := by unfold bI; split <;> simp_all
theorem bI_iff {P Q : Prop} [Decidable P] [Decidable Q] (h : P ↔ Q) : bI P = bI Q := by unfold bI; simp only [h]
theorem lg_cmp_eq0 (x y : Int64) : lg_cmp x y = 0 ↔ x = y := by
  have h1 := lg_cmp_ge x y
  have h2 := lg_cmp_le x y
  constructor
  · intro h0
    rw [h0] at h1 h2
    exact Int64.le_antisymm (h2.mp (by decide)) (h1.mp (by decide))
  · intro h0
    subst h0
    unfold lg_cmp
    simp
theorem lc_i {q : Nat} {x y : Int32} {l l' : List (Nat × Value)} (e : x = y) (r : l = l') : ((q, Value.int x) :: l) = (q, Value.int y) :: l' := by rw [e, r]
theorem lc_l {q : Nat} {x y : Int64} {l l' : List (Nat × Value)} (e : x = y) (r : l = l') : ((q, Value.long x) :: l) = (q, Value.long y) :: l' := by rw [e, r]
theorem lc_n {a : Nat × Value} {l l' : List (Nat × Value)} (r : l = l') : (a :: l) = a :: l' := by rw [r]
section JT
variable {E : mm_E} {X : mm_X} {cc : ByteArray} {own : String} {Ts : List Cond} {nL fr lo pc : Nat} {g g' : mm_I} {h h' : mm_L} {L L' : List (Nat × Value)} {st st' : List Value}
theorem jr_top {x y : Int32} (e : x = y) (k : JJ E X g h pc L (.int y :: st)) : JJ E X g h pc L (.int x :: st) := by rw [e]; exact k
theorem jr_topl {x y : Int64} (e : x = y) (k : JJ E X g h pc L (.long y :: st)) : JJ E X g h pc L (.long x :: st) := by rw [e]; exact k
theorem jr_loc (e : L = L') (k : JJ E X g h pc L' st) : JJ E X g h pc L st := by rw [e]; exact k
theorem jr_mem (e : g = g') (e2 : h = h') (k : JJ E X g' h' pc L st) : JJ E X g h pc L st := by rw [e, e2]; exact k
theorem jr_ri {v r : Int32} (hv : v = r) (hg : g = g') (hh : h = h') (k : JJ E X g' h' pc L [.int r]) : JJ E X g h pc L [.int v] := by subst hv hg hh; exact k
theorem jr_rl {v r : Int64} (hv : v = r) (hg : g = g') (hh : h = h') (k : JJ E X g' h' pc L [.long r]) : JJ E X g h pc L [.long v] := by subst hv hg hh; exact k
theorem jr_rv (hg : g = g') (hh : h = h') (k : JJ E X g' h' pc L []) : JJ E X g h pc L [] := by subst hg hh; exact k
theorem jr_bif_eq {P : Prop} [Decidable P] {off : Int} {tgt : Nat} (cx : Cx E X cc own Ts nL fr lo) (hd : decode cc pc = .ok (.ifCond .eq off, 3)) (ht : (pc : Int) + off = (tgt : Int)) (kt : ¬ P → JJ E X g h tgt L st) (kf : P → JJ E X g h (pc + 3) L st) : JJ E X g h pc L (.int (bI P) :: st) :=
  jr_if_eq cx hd ht (fun q => kt (bI_0.mp q)) (fun q => kf (Classical.byContradiction fun n => q (bI_0.mpr n)))
theorem jr_bif_ne {P : Prop} [Decidable P] {off : Int} {tgt : Nat} (cx : Cx E X cc own Ts nL fr lo) (hd : decode cc pc = .ok (.ifCond .ne off, 3)) (ht : (pc : Int) + off = (tgt : Int)) (kt : P → JJ E X g h tgt L st) (kf : ¬ P → JJ E X g h (pc + 3) L st) : JJ E X g h pc L (.int (bI P) :: st) :=
  jr_if_ne cx hd ht (fun q => kt (Classical.byContradiction fun n => q (bI_0.mpr n))) (fun q => kf (bI_0.mp q))
theorem jr_lif_eq {x y : Int64} {off : Int} {tgt : Nat} (cx : Cx E X cc own Ts nL fr lo) (hd : decode cc pc = .ok (.ifCond .eq off, 3)) (ht : (pc : Int) + off = (tgt : Int)) (kt : x = y → JJ E X g h tgt L st) (kf : ¬ x = y → JJ E X g h (pc + 3) L st) : JJ E X g h pc L (.int (lg_cmp x y) :: st) :=
  jr_if_eq cx hd ht (fun q => kt ((lg_cmp_eq0 x y).mp q)) (fun q => kf (fun n => q ((lg_cmp_eq0 x y).mpr n)))
theorem jr_lif_lt {x y : Int64} {off : Int} {tgt : Nat} (cx : Cx E X cc own Ts nL fr lo) (hd : decode cc pc = .ok (.ifCond .lt off, 3)) (ht : (pc : Int) + off = (tgt : Int)) (kt : x < y → JJ E X g h tgt L st) (kf : ¬ x < y → JJ E X g h (pc + 3) L st) : JJ E X g h pc L (.int (lg_cmp x y) :: st) :=
  jr_if_lt cx hd ht (fun q => kt ((lg_cmp_lt x y).mp q)) (fun q => kf (fun n => q ((lg_cmp_lt x y).mpr n)))
theorem jr_lif_ge {x y : Int64} {off : Int} {tgt : Nat} (cx : Cx E X cc own Ts nL fr lo) (hd : decode cc pc = .ok (.ifCond .ge off, 3)) (ht : (pc : Int) + off = (tgt : Int)) (kt : y ≤ x → JJ E X g h tgt L st) (kf : ¬ y ≤ x → JJ E X g h (pc + 3) L st) : JJ E X g h pc L (.int (lg_cmp x y) :: st) :=
  jr_if_ge cx hd ht (fun q => kt ((lg_cmp_ge x y).mp q)) (fun q => kf (fun n => q ((lg_cmp_ge x y).mpr n)))
theorem jr_lif_gt {x y : Int64} {off : Int} {tgt : Nat} (cx : Cx E X cc own Ts nL fr lo) (hd : decode cc pc = .ok (.ifCond .gt off, 3)) (ht : (pc : Int) + off = (tgt : Int)) (kt : y < x → JJ E X g h tgt L st) (kf : ¬ y < x → JJ E X g h (pc + 3) L st) : JJ E X g h pc L (.int (lg_cmp x y) :: st) :=
  jr_if_gt cx hd ht (fun q => kt ((lg_cmp_gt x y).mp q)) (fun q => kf (fun n => q ((lg_cmp_gt x y).mpr n)))
theorem jr_lif_le {x y : Int64} {off : Int} {tgt : Nat} (cx : Cx E X cc own Ts nL fr lo) (hd : decode cc pc = .ok (.ifCond .le off, 3)) (ht : (pc : Int) + off = (tgt : Int)) (kt : x ≤ y → JJ E X g h tgt L st) (kf : ¬ x ≤ y → JJ E X g h (pc + 3) L st) : JJ E X g h pc L (.int (lg_cmp x y) :: st) :=
  jr_if_le cx hd ht (fun q => kt ((lg_cmp_le x y).mp q)) (fun q => kf (fun n => q ((lg_cmp_le x y).mpr n)))
theorem jr_lif_ne {x y : Int64} {off : Int} {tgt : Nat} (cx : Cx E X cc own Ts nL fr lo) (hd : decode cc pc = .ok (.ifCond .ne off, 3)) (ht : (pc : Int) + off = (tgt : Int)) (kt : ¬ x = y → JJ E X g h tgt L st) (kf : x = y → JJ E X g h (pc + 3) L st) : JJ E X g h pc L (.int (lg_cmp x y) :: st) :=
  jr_if_ne cx hd ht (fun q => kt (fun n => q ((lg_cmp_eq0 x y).mpr n))) (fun q => kf ((lg_cmp_eq0 x y).mp q))
theorem is_rd {r : Nat} (h : r < 6) : mm_isI (39 + r) := Or.inr ⟨by omega, by omega⟩
theorem ml_rd {r : Nat} (h : r < 6) : mm_len (39 + r) = 40 := by
  unfold mm_len
  rw [List.getD_eq_getElem?_getD, List.getElem?_eq_none (by simp only [List.length_cons, List.length_nil]; omega), Option.getD_none]
  repeat' split
  all_goals first | rfl | omega
theorem is_xs {r : Nat} (h : r < 4) : mm_isI (45 + r) := Or.inr ⟨by omega, by omega⟩
theorem ml_xs {r : Nat} (h : r < 4) : mm_len (45 + r) = 4 := by
  unfold mm_len
  rw [List.getD_eq_getElem?_getD, List.getElem?_eq_none (by simp only [List.length_cons, List.length_nil]; omega), Option.getD_none]
  repeat' split
  all_goals first | rfl | omega
theorem is_ys {r : Nat} (h : r < 4) : mm_isI (49 + r) := Or.inr ⟨by omega, by omega⟩
theorem ml_ys {r : Nat} (h : r < 4) : mm_len (49 + r) = 4 := by
  unfold mm_len
  rw [List.getD_eq_getElem?_getD, List.getElem?_eq_none (by simp only [List.length_cons, List.length_nil]; omega), Option.getD_none]
  repeat' split
  all_goals first | rfl | omega
theorem is_fa {r : Nat} (h : r < 40) : mm_isI (53 + r) := Or.inr ⟨by omega, by omega⟩
theorem ml_fa {r : Nat} (h : r < 40) : mm_len (53 + r) = 8 := by
  unfold mm_len
  rw [List.getD_eq_getElem?_getD, List.getElem?_eq_none (by simp only [List.length_cons, List.length_nil]; omega), Option.getD_none]
  repeat' split
  all_goals first | rfl | omega
theorem is_di {r : Nat} (h : r < 6) : mm_isI (93 + r) := Or.inr ⟨by omega, by omega⟩
theorem ml_di {r : Nat} (h : r < 6) : mm_len (93 + r) = 6 := by
  unfold mm_len
  rw [List.getD_eq_getElem?_getD, List.getElem?_eq_none (by simp only [List.length_cons, List.length_nil]; omega), Option.getD_none]
  repeat' split
  all_goals first | rfl | omega
theorem is_en {r : Nat} (h : r < 6) : mm_isI (99 + r) := Or.inr ⟨by omega, by omega⟩
theorem ml_en {r : Nat} (h : r < 6) : mm_len (99 + r) = 6 := by
  unfold mm_len
  rw [List.getD_eq_getElem?_getD, List.getElem?_eq_none (by simp only [List.length_cons, List.length_nil]; omega), Option.getD_none]
  repeat' split
  all_goals first | rfl | omega
theorem jr_put_X6_7 {idx : Nat} {v : Int32} (cx : Cx E X cc own Ts nL fr lo) (hd : decode cc pc = .ok (.putfield idx, 3)) (hin : ∀ w ∈ u_ws RX6 TX6 9, w ∈ Ts) (hlk : Cond.fieldLink own idx (TX6 7).1 (TX6 7).2.1 (TX6 7).2.2.1 ∈ Ts) (kk : JJ E X (up2 g 0 7 v) h (pc + 3) L st) : JJ E X g h pc L (.int v :: .ref (E.1 0) :: st) := by
  refine jr_put (k := 0) (f := 7) (ty := .int) cx hd (by decide) rfl rfl hin tyX6_ok nmX6 (by decide) hlk rfl (by decide +kernel) rfl rfl (Nat.le_of_ble_eq_true rfl) ?_ ?_ ?_ kk
  · simp [mm_ob, up2, upd]
  · intro i hi hne
    rcases (show i = 0 ∨ i = 1 ∨ i = 2 ∨ i = 3 ∨ i = 4 ∨ i = 5 ∨ i = 6 ∨ i = 7 by omega) with rfl | rfl | rfl | rfl | rfl | rfl | rfl | rfl <;> first | (exact absurd rfl hne) | simp [mm_ob, up2, upd]
  · intro i hi
    exact up2_n g _ _ (by omega)
theorem jr_put_X6_8 {idx : Nat} {v : Int64} (cx : Cx E X cc own Ts nL fr lo) (hd : decode cc pc = .ok (.putfield idx, 3)) (hin : ∀ w ∈ u_ws RX6 TX6 9, w ∈ Ts) (hlk : Cond.fieldLink own idx (TX6 8).1 (TX6 8).2.1 (TX6 8).2.2.1 ∈ Ts) (kk : JJ E X g (upL h 0 8 v) (pc + 3) L st) : JJ E X g h pc L (.long v :: .ref (E.1 0) :: st) := by
  refine jr_put (k := 0) (f := 8) (ty := .long) cx hd (by decide) rfl rfl hin tyX6_ok nmX6 (by decide) hlk rfl (by decide +kernel) rfl rfl (Nat.le_of_ble_eq_true rfl) ?_ ?_ ?_ kk
  · simp [mm_ob, upL]
  · intro i hi hne
    rcases (show i = 0 ∨ i = 1 ∨ i = 2 ∨ i = 3 ∨ i = 4 ∨ i = 5 ∨ i = 6 ∨ i = 7 by omega) with rfl | rfl | rfl | rfl | rfl | rfl | rfl | rfl <;> first | (exact absurd rfl hne) | simp [mm_ob, upL]
  · intro i hi
    rfl
theorem jr_put_X0_2 {idx : Nat} {v : Int32} (cx : Cx E X cc own Ts nL fr lo) (hd : decode cc pc = .ok (.putfield idx, 3)) (hin : ∀ w ∈ u_ws RX0 TX0 3, w ∈ Ts) (hlk : Cond.fieldLink own idx (TX0 2).1 (TX0 2).2.1 (TX0 2).2.2.1 ∈ Ts) (kk : JJ E X (up2 g 3 2 v) h (pc + 3) L st) : JJ E X g h pc L (.int v :: .ref (E.1 3) :: st) := by
  refine jr_put (k := 3) (f := 2) (ty := .int) cx hd (by decide) rfl rfl hin tyX0_ok nmX0 (by decide) hlk rfl (by decide +kernel) rfl rfl (Nat.le_of_ble_eq_true rfl) ?_ ?_ ?_ kk
  · simp [mm_ob, up2, upd]
  · intro i hi hne
    rcases (show i = 0 ∨ i = 1 ∨ i = 2 ∨ i = 3 ∨ i = 4 ∨ i = 5 ∨ i = 6 ∨ i = 7 by omega) with rfl | rfl | rfl | rfl | rfl | rfl | rfl | rfl <;> first | (exact absurd rfl hne) | simp [mm_ob, up2, upd]
  · intro i hi
    exact up2_n g _ _ (by omega)
theorem jr_put_X1_1 {idx : Nat} {v : Int32} (cx : Cx E X cc own Ts nL fr lo) (hd : decode cc pc = .ok (.putfield idx, 3)) (hin : ∀ w ∈ u_ws RX1 TX1 2, w ∈ Ts) (hlk : Cond.fieldLink own idx (TX1 1).1 (TX1 1).2.1 (TX1 1).2.2.1 ∈ Ts) (kk : JJ E X (up2 g 4 1 v) h (pc + 3) L st) : JJ E X g h pc L (.int v :: .ref (E.1 4) :: st) := by
  refine jr_put (k := 4) (f := 1) (ty := .int) cx hd (by decide) rfl rfl hin tyX1_ok nmX1 (by decide) hlk rfl (by decide +kernel) rfl rfl (Nat.le_of_ble_eq_true rfl) ?_ ?_ ?_ kk
  · simp [mm_ob, up2, upd]
  · intro i hi hne
    rcases (show i = 0 ∨ i = 1 ∨ i = 2 ∨ i = 3 ∨ i = 4 ∨ i = 5 ∨ i = 6 ∨ i = 7 by omega) with rfl | rfl | rfl | rfl | rfl | rfl | rfl | rfl <;> first | (exact absurd rfl hne) | simp [mm_ob, up2, upd]
  · intro i hi
    exact up2_n g _ _ (by omega)
theorem jr_put_X2_0 {idx : Nat} {v : Int64} (cx : Cx E X cc own Ts nL fr lo) (hd : decode cc pc = .ok (.putfield idx, 3)) (hin : ∀ w ∈ u_ws RX2 TX2 2, w ∈ Ts) (hlk : Cond.fieldLink own idx (TX2 0).1 (TX2 0).2.1 (TX2 0).2.2.1 ∈ Ts) (kk : JJ E X g (upL h 6 0 v) (pc + 3) L st) : JJ E X g h pc L (.long v :: .ref (E.1 6) :: st) := by
  refine jr_put (k := 6) (f := 0) (ty := .long) cx hd (by decide) rfl rfl hin tyX2_ok nmX2 (by decide) hlk rfl (by decide +kernel) rfl rfl (Nat.le_of_ble_eq_true rfl) ?_ ?_ ?_ kk
  · simp [mm_ob, upL]
  · intro i hi hne
    rcases (show i = 0 ∨ i = 1 ∨ i = 2 ∨ i = 3 ∨ i = 4 ∨ i = 5 ∨ i = 6 ∨ i = 7 by omega) with rfl | rfl | rfl | rfl | rfl | rfl | rfl | rfl <;> first | (exact absurd rfl hne) | simp [mm_ob, upL]
  · intro i hi
    rfl
theorem jr_put_X2_1 {idx : Nat} {v : Int64} (cx : Cx E X cc own Ts nL fr lo) (hd : decode cc pc = .ok (.putfield idx, 3)) (hin : ∀ w ∈ u_ws RX2 TX2 2, w ∈ Ts) (hlk : Cond.fieldLink own idx (TX2 1).1 (TX2 1).2.1 (TX2 1).2.2.1 ∈ Ts) (kk : JJ E X g (upL h 6 1 v) (pc + 3) L st) : JJ E X g h pc L (.long v :: .ref (E.1 6) :: st) := by
  refine jr_put (k := 6) (f := 1) (ty := .long) cx hd (by decide) rfl rfl hin tyX2_ok nmX2 (by decide) hlk rfl (by decide +kernel) rfl rfl (Nat.le_of_ble_eq_true rfl) ?_ ?_ ?_ kk
  · simp [mm_ob, upL]
  · intro i hi hne
    rcases (show i = 0 ∨ i = 1 ∨ i = 2 ∨ i = 3 ∨ i = 4 ∨ i = 5 ∨ i = 6 ∨ i = 7 by omega) with rfl | rfl | rfl | rfl | rfl | rfl | rfl | rfl <;> first | (exact absurd rfl hne) | simp [mm_ob, upL]
  · intro i hi
    rfl
theorem jr_put_X7_0 {idx : Nat} {v : Int32} (cx : Cx E X cc own Ts nL fr lo) (hd : decode cc pc = .ok (.putfield idx, 3)) (hin : ∀ w ∈ u_ws RX7 TX7 30, w ∈ Ts) (hlk : Cond.fieldLink own idx (TX7 0).1 (TX7 0).2.1 (TX7 0).2.2.1 ∈ Ts) (kk : JJ E X (up2 g 7 0 v) h (pc + 3) L st) : JJ E X g h pc L (.int v :: .ref (E.1 7) :: st) := by
  refine jr_put (k := 7) (f := 0) (ty := .int) cx hd (by decide) rfl rfl hin tyX7_ok nmX7 (by decide) hlk rfl (by decide +kernel) rfl rfl (Nat.le_of_ble_eq_true rfl) ?_ ?_ ?_ kk
  · simp [mm_ob, up2, upd]
  · intro i hi hne
    rcases (show i = 0 ∨ i = 1 ∨ i = 2 ∨ i = 3 ∨ i = 4 ∨ i = 5 ∨ i = 6 ∨ i = 7 by omega) with rfl | rfl | rfl | rfl | rfl | rfl | rfl | rfl <;> first | (exact absurd rfl hne) | simp [mm_ob, up2, upd]
  · intro i hi
    exact up2_n g _ _ (by omega)
theorem jr_put_X7_2 {idx : Nat} {v : Int64} (cx : Cx E X cc own Ts nL fr lo) (hd : decode cc pc = .ok (.putfield idx, 3)) (hin : ∀ w ∈ u_ws RX7 TX7 30, w ∈ Ts) (hlk : Cond.fieldLink own idx (TX7 2).1 (TX7 2).2.1 (TX7 2).2.2.1 ∈ Ts) (kk : JJ E X g (upL h 7 2 v) (pc + 3) L st) : JJ E X g h pc L (.long v :: .ref (E.1 7) :: st) := by
  refine jr_put (k := 7) (f := 2) (ty := .long) cx hd (by decide) rfl rfl hin tyX7_ok nmX7 (by decide) hlk rfl (by decide +kernel) rfl rfl (Nat.le_of_ble_eq_true rfl) ?_ ?_ ?_ kk
  · simp [mm_ob, upL]
  · intro i hi hne
    rcases (show i = 0 ∨ i = 1 ∨ i = 2 ∨ i = 3 ∨ i = 4 ∨ i = 5 ∨ i = 6 ∨ i = 7 by omega) with rfl | rfl | rfl | rfl | rfl | rfl | rfl | rfl <;> first | (exact absurd rfl hne) | simp [mm_ob, upL]
  · intro i hi
    rfl
theorem jr_put_X7_3 {idx : Nat} {v : Int64} (cx : Cx E X cc own Ts nL fr lo) (hd : decode cc pc = .ok (.putfield idx, 3)) (hin : ∀ w ∈ u_ws RX7 TX7 30, w ∈ Ts) (hlk : Cond.fieldLink own idx (TX7 3).1 (TX7 3).2.1 (TX7 3).2.2.1 ∈ Ts) (kk : JJ E X g (upL h 7 3 v) (pc + 3) L st) : JJ E X g h pc L (.long v :: .ref (E.1 7) :: st) := by
  refine jr_put (k := 7) (f := 3) (ty := .long) cx hd (by decide) rfl rfl hin tyX7_ok nmX7 (by decide) hlk rfl (by decide +kernel) rfl rfl (Nat.le_of_ble_eq_true rfl) ?_ ?_ ?_ kk
  · simp [mm_ob, upL]
  · intro i hi hne
    rcases (show i = 0 ∨ i = 1 ∨ i = 2 ∨ i = 3 ∨ i = 4 ∨ i = 5 ∨ i = 6 ∨ i = 7 by omega) with rfl | rfl | rfl | rfl | rfl | rfl | rfl | rfl <;> first | (exact absurd rfl hne) | simp [mm_ob, upL]
  · intro i hi
    rfl
theorem jr_put_X7_4 {idx : Nat} {v : Int64} (cx : Cx E X cc own Ts nL fr lo) (hd : decode cc pc = .ok (.putfield idx, 3)) (hin : ∀ w ∈ u_ws RX7 TX7 30, w ∈ Ts) (hlk : Cond.fieldLink own idx (TX7 4).1 (TX7 4).2.1 (TX7 4).2.2.1 ∈ Ts) (kk : JJ E X g (upL h 7 4 v) (pc + 3) L st) : JJ E X g h pc L (.long v :: .ref (E.1 7) :: st) := by
  refine jr_put (k := 7) (f := 4) (ty := .long) cx hd (by decide) rfl rfl hin tyX7_ok nmX7 (by decide) hlk rfl (by decide +kernel) rfl rfl (Nat.le_of_ble_eq_true rfl) ?_ ?_ ?_ kk
  · simp [mm_ob, upL]
  · intro i hi hne
    rcases (show i = 0 ∨ i = 1 ∨ i = 2 ∨ i = 3 ∨ i = 4 ∨ i = 5 ∨ i = 6 ∨ i = 7 by omega) with rfl | rfl | rfl | rfl | rfl | rfl | rfl | rfl <;> first | (exact absurd rfl hne) | simp [mm_ob, upL]
  · intro i hi
    rfl
theorem jr_put_X7_11 {idx : Nat} {v : Int64} (cx : Cx E X cc own Ts nL fr lo) (hd : decode cc pc = .ok (.putfield idx, 3)) (hin : ∀ w ∈ u_ws RX7 TX7 30, w ∈ Ts) (hlk : Cond.fieldLink own idx (TX7 11).1 (TX7 11).2.1 (TX7 11).2.2.1 ∈ Ts) (kk : JJ E X g (upL h 7 11 v) (pc + 3) L st) : JJ E X g h pc L (.long v :: .ref (E.1 7) :: st) := by
  refine jr_put (k := 7) (f := 11) (ty := .long) cx hd (by decide) rfl rfl hin tyX7_ok nmX7 (by decide) hlk rfl (by decide +kernel) rfl rfl (Nat.le_of_ble_eq_true rfl) ?_ ?_ ?_ kk
  · simp [mm_ob, upL]
  · intro i hi hne
    rcases (show i = 0 ∨ i = 1 ∨ i = 2 ∨ i = 3 ∨ i = 4 ∨ i = 5 ∨ i = 6 ∨ i = 7 by omega) with rfl | rfl | rfl | rfl | rfl | rfl | rfl | rfl <;> first | (exact absurd rfl hne) | simp [mm_ob, upL]
  · intro i hi
    rfl
theorem jr_put_X7_12 {idx : Nat} {v : Int64} (cx : Cx E X cc own Ts nL fr lo) (hd : decode cc pc = .ok (.putfield idx, 3)) (hin : ∀ w ∈ u_ws RX7 TX7 30, w ∈ Ts) (hlk : Cond.fieldLink own idx (TX7 12).1 (TX7 12).2.1 (TX7 12).2.2.1 ∈ Ts) (kk : JJ E X g (upL h 7 12 v) (pc + 3) L st) : JJ E X g h pc L (.long v :: .ref (E.1 7) :: st) := by
  refine jr_put (k := 7) (f := 12) (ty := .long) cx hd (by decide) rfl rfl hin tyX7_ok nmX7 (by decide) hlk rfl (by decide +kernel) rfl rfl (Nat.le_of_ble_eq_true rfl) ?_ ?_ ?_ kk
  · simp [mm_ob, upL]
  · intro i hi hne
    rcases (show i = 0 ∨ i = 1 ∨ i = 2 ∨ i = 3 ∨ i = 4 ∨ i = 5 ∨ i = 6 ∨ i = 7 by omega) with rfl | rfl | rfl | rfl | rfl | rfl | rfl | rfl <;> first | (exact absurd rfl hne) | simp [mm_ob, upL]
  · intro i hi
    rfl
theorem jr_put_X7_13 {idx : Nat} {v : Int32} (cx : Cx E X cc own Ts nL fr lo) (hd : decode cc pc = .ok (.putfield idx, 3)) (hin : ∀ w ∈ u_ws RX7 TX7 30, w ∈ Ts) (hlk : Cond.fieldLink own idx (TX7 13).1 (TX7 13).2.1 (TX7 13).2.2.1 ∈ Ts) (kk : JJ E X (up2 g 7 13 v) h (pc + 3) L st) : JJ E X g h pc L (.int v :: .ref (E.1 7) :: st) := by
  refine jr_put (k := 7) (f := 13) (ty := .int) cx hd (by decide) rfl rfl hin tyX7_ok nmX7 (by decide) hlk rfl (by decide +kernel) rfl rfl (Nat.le_of_ble_eq_true rfl) ?_ ?_ ?_ kk
  · simp [mm_ob, up2, upd]
  · intro i hi hne
    rcases (show i = 0 ∨ i = 1 ∨ i = 2 ∨ i = 3 ∨ i = 4 ∨ i = 5 ∨ i = 6 ∨ i = 7 by omega) with rfl | rfl | rfl | rfl | rfl | rfl | rfl | rfl <;> first | (exact absurd rfl hne) | simp [mm_ob, up2, upd]
  · intro i hi
    exact up2_n g _ _ (by omega)
theorem jr_put_X7_16 {idx : Nat} {v : Int32} (cx : Cx E X cc own Ts nL fr lo) (hd : decode cc pc = .ok (.putfield idx, 3)) (hin : ∀ w ∈ u_ws RX7 TX7 30, w ∈ Ts) (hlk : Cond.fieldLink own idx (TX7 16).1 (TX7 16).2.1 (TX7 16).2.2.1 ∈ Ts) (kk : JJ E X (up2 g 7 16 v) h (pc + 3) L st) : JJ E X g h pc L (.int v :: .ref (E.1 7) :: st) := by
  refine jr_put (k := 7) (f := 16) (ty := .int) cx hd (by decide) rfl rfl hin tyX7_ok nmX7 (by decide) hlk rfl (by decide +kernel) rfl rfl (Nat.le_of_ble_eq_true rfl) ?_ ?_ ?_ kk
  · simp [mm_ob, up2, upd]
  · intro i hi hne
    rcases (show i = 0 ∨ i = 1 ∨ i = 2 ∨ i = 3 ∨ i = 4 ∨ i = 5 ∨ i = 6 ∨ i = 7 by omega) with rfl | rfl | rfl | rfl | rfl | rfl | rfl | rfl <;> first | (exact absurd rfl hne) | simp [mm_ob, up2, upd]
  · intro i hi
    exact up2_n g _ _ (by omega)
theorem jr_put_X7_25 {idx : Nat} {v : Int32} (cx : Cx E X cc own Ts nL fr lo) (hd : decode cc pc = .ok (.putfield idx, 3)) (hin : ∀ w ∈ u_ws RX7 TX7 30, w ∈ Ts) (hlk : Cond.fieldLink own idx (TX7 25).1 (TX7 25).2.1 (TX7 25).2.2.1 ∈ Ts) (kk : JJ E X (up2 g 7 25 v) h (pc + 3) L st) : JJ E X g h pc L (.int v :: .ref (E.1 7) :: st) := by
  refine jr_put (k := 7) (f := 25) (ty := .int) cx hd (by decide) rfl rfl hin tyX7_ok nmX7 (by decide) hlk rfl (by decide +kernel) rfl rfl (Nat.le_of_ble_eq_true rfl) ?_ ?_ ?_ kk
  · simp [mm_ob, up2, upd]
  · intro i hi hne
    rcases (show i = 0 ∨ i = 1 ∨ i = 2 ∨ i = 3 ∨ i = 4 ∨ i = 5 ∨ i = 6 ∨ i = 7 by omega) with rfl | rfl | rfl | rfl | rfl | rfl | rfl | rfl <;> first | (exact absurd rfl hne) | simp [mm_ob, up2, upd]
  · intro i hi
    exact up2_n g _ _ (by omega)
theorem jr_put_X7_26 {idx : Nat} {v : Int32} (cx : Cx E X cc own Ts nL fr lo) (hd : decode cc pc = .ok (.putfield idx, 3)) (hin : ∀ w ∈ u_ws RX7 TX7 30, w ∈ Ts) (hlk : Cond.fieldLink own idx (TX7 26).1 (TX7 26).2.1 (TX7 26).2.2.1 ∈ Ts) (kk : JJ E X (up2 g 7 26 v) h (pc + 3) L st) : JJ E X g h pc L (.int v :: .ref (E.1 7) :: st) := by
  refine jr_put (k := 7) (f := 26) (ty := .int) cx hd (by decide) rfl rfl hin tyX7_ok nmX7 (by decide) hlk rfl (by decide +kernel) rfl rfl (Nat.le_of_ble_eq_true rfl) ?_ ?_ ?_ kk
  · simp [mm_ob, up2, upd]
  · intro i hi hne
    rcases (show i = 0 ∨ i = 1 ∨ i = 2 ∨ i = 3 ∨ i = 4 ∨ i = 5 ∨ i = 6 ∨ i = 7 by omega) with rfl | rfl | rfl | rfl | rfl | rfl | rfl | rfl <;> first | (exact absurd rfl hne) | simp [mm_ob, up2, upd]
  · intro i hi
    exact up2_n g _ _ (by omega)
theorem jr_alen {k : Nat} (cx : Cx E X cc own Ts nL fr lo) (hd : decode cc pc = .ok (.arraylength, 1)) (hk : mm_isI k) (kk : JJ E X g h (pc + 1) L (.int (nI (mm_len k)) :: st)) : JJ E X g h pc L (.ref (E.1 k) :: st) := by
  obtain ⟨p, e, R, s, m, args, below, meth, c, cells, slots, Q, A⟩ := X
  obtain ⟨hx, hb, hml, hown, hts, hK, hA, hfr, hlo, hc, hs⟩ := cx
  intro ls H locs hl hP hS
  have hk5 : k < 105 := by unfold mm_isI at hk; omega
  exact va_alen (x := (mm_len k, .inl (g k))) hx hb hK.2.1 hP k 0 ((mm_at E g h hk5).trans (by rw [mm_ce_i E g h hk])) rfl rfl hd (kk ls H locs hl hP hS)
end JT
end
section
set_option maxHeartbeats 4000000 in
set_option maxRecDepth 100000 in
theorem c_X6_isBetween (E : mm_E) (g : mm_I) (h : mm_L) (v lo hi : Int32) : Ci E yX6_isBetween wsX6_isBetween 0 0 [.int v, .int lo, .int hi] g h (bI (¬ v < lo ∧ ¬ hi < v)) g h := by
  refine ci_z (bytes := cX6_isBetween) (maxL := 3) (by decide) rfl (Nat.le_of_ble_eq_true rfl) (bI_01 _) (fun X cx hR => ?_)
  change Cx E X cX6_isBetween RX6 wsX6_isBetween 3 0 0 at cx
  change JJ E X g h 0 [(0, .int v), (1, .int lo), (2, .int hi)] []
  refine jr_iload_n cx dX6_isBetween_0 0 rfl rfl ?_
  refine jr_iload_n cx dX6_isBetween_1 1 rfl rfl ?_
  refine jr_icmp_lt (tgt := 14) cx dX6_isBetween_2 (by decide) (fun c2 => ?_) (fun c2 => ?_)
  · refine jr_iconst (v := 0) cx dX6_isBetween_14 (by decide) ?_
    exact jr_ri (by simp [bI, c2]) (by rfl) (by rfl) (hR 15 _ dX6_isBetween_15)
  · refine jr_iload_n cx dX6_isBetween_5 0 rfl rfl ?_
    refine jr_iload_n cx dX6_isBetween_6 2 rfl rfl ?_
    refine jr_icmp_gt (tgt := 14) cx dX6_isBetween_7 (by decide) (fun c7 => ?_) (fun c7 => ?_)
    · refine jr_iconst (v := 0) cx dX6_isBetween_14 (by decide) ?_
      exact jr_ri (by simp [bI, c2, c7]) (by rfl) (by rfl) (hR 15 _ dX6_isBetween_15)
    · refine jr_iconst (v := 1) cx dX6_isBetween_10 (by decide) ?_
      refine jr_goto (tgt := 15) cx dX6_isBetween_11 (by decide) ?_
      exact jr_ri (by simp [bI, c2, c7]) (by rfl) (by rfl) (hR 15 _ dX6_isBetween_15)
set_option maxHeartbeats 4000000 in
set_option maxRecDepth 100000 in
theorem c_X7_in (E : mm_E) (g : mm_I) (h : mm_L) (v lo hi : Int32) : Ci E yX7_in wsX7_in 0 0 [.int v, .int lo, .int hi] g h (bI (¬ v < lo ∧ ¬ hi < v)) g h := by
  refine ci_z (bytes := cX7_in) (maxL := 3) (by decide) rfl (Nat.le_of_ble_eq_true rfl) (bI_01 _) (fun X cx hR => ?_)
  change Cx E X cX7_in RX7 wsX7_in 3 0 0 at cx
  change JJ E X g h 0 [(0, .int v), (1, .int lo), (2, .int hi)] []
  refine jr_iload_n cx dX7_in_0 0 rfl rfl ?_
  refine jr_iload_n cx dX7_in_1 1 rfl rfl ?_
  refine jr_icmp_lt (tgt := 14) cx dX7_in_2 (by decide) (fun c2 => ?_) (fun c2 => ?_)
  · refine jr_iconst (v := 0) cx dX7_in_14 (by decide) ?_
    exact jr_ri (by simp [bI, c2]) (by rfl) (by rfl) (hR 15 _ dX7_in_15)
  · refine jr_iload_n cx dX7_in_5 0 rfl rfl ?_
    refine jr_iload_n cx dX7_in_6 2 rfl rfl ?_
    refine jr_icmp_gt (tgt := 14) cx dX7_in_7 (by decide) (fun c7 => ?_) (fun c7 => ?_)
    · refine jr_iconst (v := 0) cx dX7_in_14 (by decide) ?_
      exact jr_ri (by simp [bI, c2, c7]) (by rfl) (by rfl) (hR 15 _ dX7_in_15)
    · refine jr_iconst (v := 1) cx dX7_in_10 (by decide) ?_
      refine jr_goto (tgt := 15) cx dX7_in_11 (by decide) ?_
      exact jr_ri (by simp [bI, c2, c7]) (by rfl) (by rfl) (hR 15 _ dX7_in_15)
set_option maxHeartbeats 4000000 in
set_option maxRecDepth 100000 in
theorem c_X6_isRow (E : mm_E) (g : mm_I) (h : mm_L) (v : Int32) : Ci E yX6_isRow wsX6_isRow 1 22 [.int v] g h (bI (¬ v < 0 ∧ ¬ 5 < v)) g h := by
  refine ci_z (bytes := cX6_isRow) (maxL := 1) (by decide) rfl (Nat.le_of_ble_eq_true rfl) (bI_01 _) (fun X cx hR => ?_)
  change Cx E X cX6_isRow RX6 wsX6_isRow 1 1 22 at cx
  change JJ E X g h 0 [(0, .int v)] []
  refine jr_iload_n cx dX6_isRow_0 0 rfl rfl ?_
  refine jr_iconst (v := 0) cx dX6_isRow_1 (by decide) ?_
  refine jr_iconst (v := 5) cx dX6_isRow_2 (by decide) ?_
  refine jr_si [.int v, .int 0, .int 5] 3 cx dX6_isRow_3 (c_X6_isBetween E g h v 0 5) gX6_isRow_X6_isBetween rfl (by decide +kernel) ⟨Nat.le_of_ble_eq_true rfl, Nat.le_of_ble_eq_true rfl⟩ rfl rfl (Nat.le_of_ble_eq_true rfl) ?_
  exact jr_ri (by rfl) (by rfl) (by rfl) (hR 6 _ dX6_isRow_6)
set_option maxHeartbeats 4000000 in
set_option maxRecDepth 100000 in
theorem c_X6_isTable (E : mm_E) (g : mm_I) (h : mm_L) (v : Int32) : Ci E yX6_isTable wsX6_isTable 1 22 [.int v] g h (bI (¬ v < 0 ∧ ¬ 3 < v)) g h := by
  refine ci_z (bytes := cX6_isTable) (maxL := 1) (by decide) rfl (Nat.le_of_ble_eq_true rfl) (bI_01 _) (fun X cx hR => ?_)
  change Cx E X cX6_isTable RX6 wsX6_isTable 1 1 22 at cx
  change JJ E X g h 0 [(0, .int v)] []
  refine jr_iload_n cx dX6_isTable_0 0 rfl rfl ?_
  refine jr_iconst (v := 0) cx dX6_isTable_1 (by decide) ?_
  refine jr_iconst (v := 3) cx dX6_isTable_2 (by decide) ?_
  refine jr_si [.int v, .int 0, .int 3] 3 cx dX6_isTable_3 (c_X6_isBetween E g h v 0 3) gX6_isTable_X6_isBetween rfl (by decide +kernel) ⟨Nat.le_of_ble_eq_true rfl, Nat.le_of_ble_eq_true rfl⟩ rfl rfl (Nat.le_of_ble_eq_true rfl) ?_
  exact jr_ri (by rfl) (by rfl) (by rfl) (hR 6 _ dX6_isTable_6)
set_option maxHeartbeats 4000000 in
set_option maxRecDepth 100000 in
theorem c_X6_isBath (E : mm_E) (g : mm_I) (h : mm_L) (v : Int32) : Ci E yX6_isBath wsX6_isBath 1 22 [.int v] g h (bI (¬ v < 0 ∧ ¬ 7 < v)) g h := by
  refine ci_z (bytes := cX6_isBath) (maxL := 1) (by decide) rfl (Nat.le_of_ble_eq_true rfl) (bI_01 _) (fun X cx hR => ?_)
  change Cx E X cX6_isBath RX6 wsX6_isBath 1 1 22 at cx
  change JJ E X g h 0 [(0, .int v)] []
  refine jr_iload_n cx dX6_isBath_0 0 rfl rfl ?_
  refine jr_iconst (v := 0) cx dX6_isBath_1 (by decide) ?_
  refine jr_bipush (v := 7) cx dX6_isBath_2 (by decide) ?_
  refine jr_si [.int v, .int 0, .int 7] 3 cx dX6_isBath_4 (c_X6_isBetween E g h v 0 7) gX6_isBath_X6_isBetween rfl (by decide +kernel) ⟨Nat.le_of_ble_eq_true rfl, Nat.le_of_ble_eq_true rfl⟩ rfl rfl (Nat.le_of_ble_eq_true rfl) ?_
  exact jr_ri (by rfl) (by rfl) (by rfl) (hR 7 _ dX6_isBath_7)
set_option maxHeartbeats 4000000 in
set_option maxRecDepth 100000 in
theorem c_X6_isDay (E : mm_E) (g : mm_I) (h : mm_L) (v : Int32) : Ci E yX6_isDay wsX6_isDay 1 22 [.int v] g h (bI (¬ v < 0 ∧ ¬ 100000 < v)) g h := by
  refine ci_z (bytes := cX6_isDay) (maxL := 1) (by decide) rfl (Nat.le_of_ble_eq_true rfl) (bI_01 _) (fun X cx hR => ?_)
  change Cx E X cX6_isDay RX6 wsX6_isDay 1 1 22 at cx
  change JJ E X g h 0 [(0, .int v)] []
  have mc_75 : Cond.constant RX6 75 100000 ∈ wsX6_isDay := by decide +kernel
  refine jr_iload_n cx dX6_isDay_0 0 rfl rfl ?_
  refine jr_iconst (v := 0) cx dX6_isDay_1 (by decide) ?_
  refine jr_ldc cx dX6_isDay_2 mc_75 ?_
  refine jr_si [.int v, .int 0, .int 100000] 3 cx dX6_isDay_4 (c_X6_isBetween E g h v 0 100000) gX6_isDay_X6_isBetween rfl (by decide +kernel) ⟨Nat.le_of_ble_eq_true rfl, Nat.le_of_ble_eq_true rfl⟩ rfl rfl (Nat.le_of_ble_eq_true rfl) ?_
  exact jr_ri (by rfl) (by rfl) (by rfl) (hR 7 _ dX6_isDay_7)
set_option maxHeartbeats 4000000 in
set_option maxRecDepth 100000 in
theorem c_X6_isLab (E : mm_E) (g : mm_I) (h : mm_L) (v : Int32) : Ci E yX6_isLab wsX6_isLab 1 22 [.int v] g h (bI (¬ v < 0 ∧ ¬ 5 < v)) g h := by
  refine ci_z (bytes := cX6_isLab) (maxL := 1) (by decide) rfl (Nat.le_of_ble_eq_true rfl) (bI_01 _) (fun X cx hR => ?_)
  change Cx E X cX6_isLab RX6 wsX6_isLab 1 1 22 at cx
  change JJ E X g h 0 [(0, .int v)] []
  refine jr_iload_n cx dX6_isLab_0 0 rfl rfl ?_
  refine jr_iconst (v := 0) cx dX6_isLab_1 (by decide) ?_
  refine jr_iconst (v := 5) cx dX6_isLab_2 (by decide) ?_
  refine jr_si [.int v, .int 0, .int 5] 3 cx dX6_isLab_3 (c_X6_isBetween E g h v 0 5) gX6_isLab_X6_isBetween rfl (by decide +kernel) ⟨Nat.le_of_ble_eq_true rfl, Nat.le_of_ble_eq_true rfl⟩ rfl rfl (Nat.le_of_ble_eq_true rfl) ?_
  exact jr_ri (by rfl) (by rfl) (by rfl) (hR 6 _ dX6_isLab_6)
set_option maxHeartbeats 4000000 in
set_option maxRecDepth 100000 in
theorem c_X7_isRow (E : mm_E) (g : mm_I) (h : mm_L) (v : Int32) : Ci E yX7_isRow wsX7_isRow 1 22 [.int v] g h (bI (¬ v < 0 ∧ ¬ 5 < v)) g h := by
  refine ci_z (bytes := cX7_isRow) (maxL := 1) (by decide) rfl (Nat.le_of_ble_eq_true rfl) (bI_01 _) (fun X cx hR => ?_)
  change Cx E X cX7_isRow RX7 wsX7_isRow 1 1 22 at cx
  change JJ E X g h 0 [(0, .int v)] []
  refine jr_iload_n cx dX7_isRow_0 0 rfl rfl ?_
  refine jr_iconst (v := 0) cx dX7_isRow_1 (by decide) ?_
  refine jr_iconst (v := 5) cx dX7_isRow_2 (by decide) ?_
  refine jr_si [.int v, .int 0, .int 5] 3 cx dX7_isRow_3 (c_X7_in E g h v 0 5) gX7_isRow_X7_in rfl (by decide +kernel) ⟨Nat.le_of_ble_eq_true rfl, Nat.le_of_ble_eq_true rfl⟩ rfl rfl (Nat.le_of_ble_eq_true rfl) ?_
  exact jr_ri (by rfl) (by rfl) (by rfl) (hR 6 _ dX7_isRow_6)
set_option maxHeartbeats 4000000 in
set_option maxRecDepth 100000 in
theorem c_X7_isTable (E : mm_E) (g : mm_I) (h : mm_L) (v : Int32) : Ci E yX7_isTable wsX7_isTable 1 22 [.int v] g h (bI (¬ v < 0 ∧ ¬ 3 < v)) g h := by
  refine ci_z (bytes := cX7_isTable) (maxL := 1) (by decide) rfl (Nat.le_of_ble_eq_true rfl) (bI_01 _) (fun X cx hR => ?_)
  change Cx E X cX7_isTable RX7 wsX7_isTable 1 1 22 at cx
  change JJ E X g h 0 [(0, .int v)] []
  refine jr_iload_n cx dX7_isTable_0 0 rfl rfl ?_
  refine jr_iconst (v := 0) cx dX7_isTable_1 (by decide) ?_
  refine jr_iconst (v := 3) cx dX7_isTable_2 (by decide) ?_
  refine jr_si [.int v, .int 0, .int 3] 3 cx dX7_isTable_3 (c_X7_in E g h v 0 3) gX7_isTable_X7_in rfl (by decide +kernel) ⟨Nat.le_of_ble_eq_true rfl, Nat.le_of_ble_eq_true rfl⟩ rfl rfl (Nat.le_of_ble_eq_true rfl) ?_
  exact jr_ri (by rfl) (by rfl) (by rfl) (hR 6 _ dX7_isTable_6)
set_option maxHeartbeats 4000000 in
set_option maxRecDepth 100000 in
theorem c_X7_isDay (E : mm_E) (g : mm_I) (h : mm_L) (v : Int32) : Ci E yX7_isDay wsX7_isDay 1 22 [.int v] g h (bI (¬ v < 0 ∧ ¬ 100000 < v)) g h := by
  refine ci_z (bytes := cX7_isDay) (maxL := 1) (by decide) rfl (Nat.le_of_ble_eq_true rfl) (bI_01 _) (fun X cx hR => ?_)
  change Cx E X cX7_isDay RX7 wsX7_isDay 1 1 22 at cx
  change JJ E X g h 0 [(0, .int v)] []
  have mc_106 : Cond.constant RX7 106 100000 ∈ wsX7_isDay := by decide +kernel
  refine jr_iload_n cx dX7_isDay_0 0 rfl rfl ?_
  refine jr_iconst (v := 0) cx dX7_isDay_1 (by decide) ?_
  refine jr_ldc cx dX7_isDay_2 mc_106 ?_
  refine jr_si [.int v, .int 0, .int 100000] 3 cx dX7_isDay_4 (c_X7_in E g h v 0 100000) gX7_isDay_X7_in rfl (by decide +kernel) ⟨Nat.le_of_ble_eq_true rfl, Nat.le_of_ble_eq_true rfl⟩ rfl rfl (Nat.le_of_ble_eq_true rfl) ?_
  exact jr_ri (by rfl) (by rfl) (by rfl) (hR 7 _ dX7_isDay_7)
set_option maxHeartbeats 4000000 in
set_option maxRecDepth 100000 in
theorem c_X7_isLab (E : mm_E) (g : mm_I) (h : mm_L) (v : Int32) : Ci E yX7_isLab wsX7_isLab 1 22 [.int v] g h (bI (¬ v < 0 ∧ ¬ 5 < v)) g h := by
  refine ci_z (bytes := cX7_isLab) (maxL := 1) (by decide) rfl (Nat.le_of_ble_eq_true rfl) (bI_01 _) (fun X cx hR => ?_)
  change Cx E X cX7_isLab RX7 wsX7_isLab 1 1 22 at cx
  change JJ E X g h 0 [(0, .int v)] []
  refine jr_iload_n cx dX7_isLab_0 0 rfl rfl ?_
  refine jr_iconst (v := 0) cx dX7_isLab_1 (by decide) ?_
  refine jr_iconst (v := 5) cx dX7_isLab_2 (by decide) ?_
  refine jr_si [.int v, .int 0, .int 5] 3 cx dX7_isLab_3 (c_X7_in E g h v 0 5) gX7_isLab_X7_in rfl (by decide +kernel) ⟨Nat.le_of_ble_eq_true rfl, Nat.le_of_ble_eq_true rfl⟩ rfl rfl (Nat.le_of_ble_eq_true rfl) ?_
  exact jr_ri (by rfl) (by rfl) (by rfl) (hR 6 _ dX7_isLab_6)
set_option maxHeartbeats 4000000 in
set_option maxRecDepth 100000 in
theorem c_X6_isWithin (E : mm_E) (g : mm_I) (h : mm_L) (v m : Int32) : Ci E yX6_isWithin wsX6_isWithin 1 22 [.int v, .int m] g h (bI (¬ v < -m ∧ ¬ m < v)) g h := by
  refine ci_z (bytes := cX6_isWithin) (maxL := 2) (by decide) rfl (Nat.le_of_ble_eq_true rfl) (bI_01 _) (fun X cx hR => ?_)
  change Cx E X cX6_isWithin RX6 wsX6_isWithin 2 1 22 at cx
  change JJ E X g h 0 [(0, .int v), (1, .int m)] []
  refine jr_iload_n cx dX6_isWithin_0 0 rfl rfl ?_
  refine jr_iload_n cx dX6_isWithin_1 1 rfl rfl ?_
  refine jr_ineg cx dX6_isWithin_2 ?_
  refine jr_iload_n cx dX6_isWithin_3 1 rfl rfl ?_
  refine jr_si [.int v, .int (-m), .int m] 3 cx dX6_isWithin_4 (c_X6_isBetween E g h v (-m) m) gX6_isWithin_X6_isBetween rfl (by decide +kernel) ⟨Nat.le_of_ble_eq_true rfl, Nat.le_of_ble_eq_true rfl⟩ rfl rfl (Nat.le_of_ble_eq_true rfl) ?_
  exact jr_ri (by rfl) (by rfl) (by rfl) (hR 7 _ dX6_isWithin_7)
set_option maxHeartbeats 4000000 in
set_option maxRecDepth 100000 in
theorem c_X7_isX (E : mm_E) (g : mm_I) (h : mm_L) (v : Int32) : Ci E yX7_isX wsX7_isX 1 22 [.int v] g h (bI (¬ v < -20 ∧ ¬ 20 < v)) g h := by
  refine ci_z (bytes := cX7_isX) (maxL := 1) (by decide) rfl (Nat.le_of_ble_eq_true rfl) (bI_01 _) (fun X cx hR => ?_)
  change Cx E X cX7_isX RX7 wsX7_isX 1 1 22 at cx
  change JJ E X g h 0 [(0, .int v)] []
  refine jr_iload_n cx dX7_isX_0 0 rfl rfl ?_
  refine jr_bipush (v := (-20)) cx dX7_isX_1 (by decide) ?_
  refine jr_bipush (v := 20) cx dX7_isX_3 (by decide) ?_
  refine jr_si [.int v, .int (-20), .int 20] 3 cx dX7_isX_5 (c_X7_in E g h v (-20) 20) gX7_isX_X7_in rfl (by decide +kernel) ⟨Nat.le_of_ble_eq_true rfl, Nat.le_of_ble_eq_true rfl⟩ rfl rfl (Nat.le_of_ble_eq_true rfl) ?_
  exact jr_ri (by rfl) (by rfl) (by rfl) (hR 8 _ dX7_isX_8)
def abL (v : Int64) : Int64 := if 0 ≤ v then v else -v
set_option maxHeartbeats 4000000 in
set_option maxRecDepth 100000 in
theorem c_X7_size (E : mm_E) (g : mm_I) (h : mm_L) (v : Int64) : Cl E yX7_size wsX7_size 0 0 [.long v] g h (abL v) g h := by
  refine ci_l (bytes := cX7_size) (maxL := 2) (by decide) rfl (Nat.le_of_ble_eq_true rfl) (fun X cx hR => ?_)
  change Cx E X cX7_size RX7 wsX7_size 2 0 0 at cx
  change JJ E X g h 0 [(0, .long v)] []
  refine jr_lload_n cx dX7_size_0 0 rfl rfl ?_
  refine jr_lconst (v := 0) cx dX7_size_1 (by decide) ?_
  refine jr_lcmp cx dX7_size_2 ?_
  refine jr_lif_ge (tgt := 11) cx dX7_size_3 (by decide) (fun c3 => ?_) (fun c3 => ?_)
  · refine jr_lload_n cx dX7_size_11 0 rfl rfl ?_
    exact jr_rl (by simp [abL, c3]) (by rfl) (by rfl) (hR 12 _ dX7_size_12)
  · refine jr_lload_n cx dX7_size_6 0 rfl rfl ?_
    refine jr_lneg cx dX7_size_7 ?_
    refine jr_goto (tgt := 12) cx dX7_size_8 (by decide) ?_
    exact jr_rl (by simp [abL, c3]) (by rfl) (by rfl) (hR 12 _ dX7_size_12)
set_option maxHeartbeats 4000000 in
set_option maxRecDepth 100000 in
theorem c_X6_asked (E : mm_E) (g : mm_I) (h : mm_L) : Cl E yX6_asked wsX6_asked 0 0 [.ref (E.1 0)] g h (h 0 8) g h := by
  refine ci_l (bytes := cX6_asked) (maxL := 1) (by decide) rfl (Nat.le_of_ble_eq_true rfl) (fun X cx hR => ?_)
  change Cx E X cX6_asked RX6 wsX6_asked 1 0 0 at cx
  change JJ E X g h 0 [(0, .ref (E.1 0))] []
  have hinX6 : ∀ w ∈ u_ws RX6 TX6 9, w ∈ wsX6_asked := by decide +kernel
  have mf_59 : Cond.fieldLink RX6 59 (TX6 8).1 (TX6 8).2.1 (TX6 8).2.2.1 ∈ wsX6_asked := by decide +kernel
  refine jr_aload_n cx dX6_asked_0 0 rfl rfl ?_
  refine jr_get (f := 8) (v := .long (h 0 8)) cx dX6_asked_1 (by decide) rfl rfl hinX6 (by decide) mf_59 rfl ?_
  exact jr_rl (by rfl) (by rfl) (by rfl) (hR 4 _ dX6_asked_4)
set_option maxHeartbeats 4000000 in
set_option maxRecDepth 100000 in
theorem c_X6_finding (E : mm_E) (g : mm_I) (h : mm_L) : Ci E yX6_finding wsX6_finding 0 0 [.ref (E.1 0)] g h (g 0 7) g h := by
  refine ci_i (bytes := cX6_finding) (maxL := 1) (by decide) rfl (Nat.le_of_ble_eq_true rfl) (fun X cx hR => ?_)
  change Cx E X cX6_finding RX6 wsX6_finding 1 0 0 at cx
  change JJ E X g h 0 [(0, .ref (E.1 0))] []
  have hinX6 : ∀ w ∈ u_ws RX6 TX6 9, w ∈ wsX6_finding := by decide +kernel
  have mf_55 : Cond.fieldLink RX6 55 (TX6 7).1 (TX6 7).2.1 (TX6 7).2.2.1 ∈ wsX6_finding := by decide +kernel
  refine jr_aload_n cx dX6_finding_0 0 rfl rfl ?_
  refine jr_get (f := 7) (v := .int (g 0 7)) cx dX6_finding_1 (by decide) rfl rfl hinX6 (by decide) mf_55 rfl ?_
  exact jr_ri (by rfl) (by rfl) (by rfl) (hR 4 _ dX6_finding_4)
set_option maxHeartbeats 4000000 in
set_option maxRecDepth 100000 in
theorem c_X6_upper (E : mm_E) (g : mm_I) (h : mm_L) : Cl E yX6_upper wsX6_upper 0 0 [.ref (E.1 0)] g h (h 6 0) g h := by
  refine ci_l (bytes := cX6_upper) (maxL := 1) (by decide) rfl (Nat.le_of_ble_eq_true rfl) (fun X cx hR => ?_)
  change Cx E X cX6_upper RX6 wsX6_upper 1 0 0 at cx
  change JJ E X g h 0 [(0, .ref (E.1 0))] []
  have hinX2 : ∀ w ∈ u_ws RX2 TX2 2, w ∈ wsX6_upper := by decide +kernel
  have hinX6 : ∀ w ∈ u_ws RX6 TX6 9, w ∈ wsX6_upper := by decide +kernel
  have mf_47 : Cond.fieldLink RX6 47 (TX6 5).1 (TX6 5).2.1 (TX6 5).2.2.1 ∈ wsX6_upper := by decide +kernel
  refine jr_aload_n cx dX6_upper_0 0 rfl rfl ?_
  refine jr_get (f := 5) (v := .ref (E.1 6)) cx dX6_upper_1 (by decide) rfl rfl hinX6 (by decide) mf_47 rfl ?_
  refine jr_getN (f := 0) (v := .long (h 6 0)) (host := RX6) cx dX6_upper_4 (by decide) rfl rfl hinX2 (by decide) (fun U hN => hN.1) rfl ?_
  exact jr_rl (by rfl) (by rfl) (by rfl) (hR 7 _ dX6_upper_7)
set_option maxHeartbeats 4000000 in
set_option maxRecDepth 100000 in
theorem c_X6_lower (E : mm_E) (g : mm_I) (h : mm_L) : Cl E yX6_lower wsX6_lower 0 0 [.ref (E.1 0)] g h (h 6 1) g h := by
  refine ci_l (bytes := cX6_lower) (maxL := 1) (by decide) rfl (Nat.le_of_ble_eq_true rfl) (fun X cx hR => ?_)
  change Cx E X cX6_lower RX6 wsX6_lower 1 0 0 at cx
  change JJ E X g h 0 [(0, .ref (E.1 0))] []
  have hinX2 : ∀ w ∈ u_ws RX2 TX2 2, w ∈ wsX6_lower := by decide +kernel
  have hinX6 : ∀ w ∈ u_ws RX6 TX6 9, w ∈ wsX6_lower := by decide +kernel
  have mf_47 : Cond.fieldLink RX6 47 (TX6 5).1 (TX6 5).2.1 (TX6 5).2.2.1 ∈ wsX6_lower := by decide +kernel
  refine jr_aload_n cx dX6_lower_0 0 rfl rfl ?_
  refine jr_get (f := 5) (v := .ref (E.1 6)) cx dX6_lower_1 (by decide) rfl rfl hinX6 (by decide) mf_47 rfl ?_
  refine jr_getN (f := 1) (v := .long (h 6 1)) (host := RX6) cx dX6_lower_4 (by decide) rfl rfl hinX2 (by decide) (fun U hN => hN.2.1) rfl ?_
  exact jr_rl (by rfl) (by rfl) (by rfl) (hR 7 _ dX6_lower_7)
set_option maxHeartbeats 4000000 in
set_option maxRecDepth 100000 in
theorem c_X7_asked (E : mm_E) (g : mm_I) (h : mm_L) : Cl E yX7_asked wsX7_asked 0 0 [.ref (E.1 7)] g h (h 7 2) g h := by
  refine ci_l (bytes := cX7_asked) (maxL := 1) (by decide) rfl (Nat.le_of_ble_eq_true rfl) (fun X cx hR => ?_)
  change Cx E X cX7_asked RX7 wsX7_asked 1 0 0 at cx
  change JJ E X g h 0 [(0, .ref (E.1 7))] []
  have hinX7 : ∀ w ∈ u_ws RX7 TX7 30, w ∈ wsX7_asked := by decide +kernel
  have mf_90 : Cond.fieldLink RX7 90 (TX7 2).1 (TX7 2).2.1 (TX7 2).2.2.1 ∈ wsX7_asked := by decide +kernel
  refine jr_aload_n cx dX7_asked_0 0 rfl rfl ?_
  refine jr_get (f := 2) (v := .long (h 7 2)) cx dX7_asked_1 (by decide) rfl rfl hinX7 (by decide) mf_90 rfl ?_
  exact jr_rl (by rfl) (by rfl) (by rfl) (hR 4 _ dX7_asked_4)
set_option maxHeartbeats 4000000 in
set_option maxRecDepth 100000 in
theorem c_X7_upper (E : mm_E) (g : mm_I) (h : mm_L) : Cl E yX7_upper wsX7_upper 0 0 [.ref (E.1 7)] g h (h 7 3) g h := by
  refine ci_l (bytes := cX7_upper) (maxL := 1) (by decide) rfl (Nat.le_of_ble_eq_true rfl) (fun X cx hR => ?_)
  change Cx E X cX7_upper RX7 wsX7_upper 1 0 0 at cx
  change JJ E X g h 0 [(0, .ref (E.1 7))] []
  have hinX7 : ∀ w ∈ u_ws RX7 TX7 30, w ∈ wsX7_upper := by decide +kernel
  have mf_87 : Cond.fieldLink RX7 87 (TX7 3).1 (TX7 3).2.1 (TX7 3).2.2.1 ∈ wsX7_upper := by decide +kernel
  refine jr_aload_n cx dX7_upper_0 0 rfl rfl ?_
  refine jr_get (f := 3) (v := .long (h 7 3)) cx dX7_upper_1 (by decide) rfl rfl hinX7 (by decide) mf_87 rfl ?_
  exact jr_rl (by rfl) (by rfl) (by rfl) (hR 4 _ dX7_upper_4)
set_option maxHeartbeats 4000000 in
set_option maxRecDepth 100000 in
theorem c_X7_lower (E : mm_E) (g : mm_I) (h : mm_L) : Cl E yX7_lower wsX7_lower 0 0 [.ref (E.1 7)] g h (h 7 4) g h := by
  refine ci_l (bytes := cX7_lower) (maxL := 1) (by decide) rfl (Nat.le_of_ble_eq_true rfl) (fun X cx hR => ?_)
  change Cx E X cX7_lower RX7 wsX7_lower 1 0 0 at cx
  change JJ E X g h 0 [(0, .ref (E.1 7))] []
  have hinX7 : ∀ w ∈ u_ws RX7 TX7 30, w ∈ wsX7_lower := by decide +kernel
  have mf_13 : Cond.fieldLink RX7 13 (TX7 4).1 (TX7 4).2.1 (TX7 4).2.2.1 ∈ wsX7_lower := by decide +kernel
  refine jr_aload_n cx dX7_lower_0 0 rfl rfl ?_
  refine jr_get (f := 4) (v := .long (h 7 4)) cx dX7_lower_1 (by decide) rfl rfl hinX7 (by decide) mf_13 rfl ?_
  exact jr_rl (by rfl) (by rfl) (by rfl) (hR 4 _ dX7_lower_4)
set_option maxHeartbeats 4000000 in
set_option maxRecDepth 100000 in
theorem c_X7_finding (E : mm_E) (g : mm_I) (h : mm_L) : Ci E yX7_finding wsX7_finding 0 0 [.ref (E.1 7)] g h (g 7 0) g h := by
  refine ci_i (bytes := cX7_finding) (maxL := 1) (by decide) rfl (Nat.le_of_ble_eq_true rfl) (fun X cx hR => ?_)
  change Cx E X cX7_finding RX7 wsX7_finding 1 0 0 at cx
  change JJ E X g h 0 [(0, .ref (E.1 7))] []
  have hinX7 : ∀ w ∈ u_ws RX7 TX7 30, w ∈ wsX7_finding := by decide +kernel
  have mf_75 : Cond.fieldLink RX7 75 (TX7 0).1 (TX7 0).2.1 (TX7 0).2.2.1 ∈ wsX7_finding := by decide +kernel
  refine jr_aload_n cx dX7_finding_0 0 rfl rfl ?_
  refine jr_get (f := 0) (v := .int (g 7 0)) cx dX7_finding_1 (by decide) rfl rfl hinX7 (by decide) mf_75 rfl ?_
  exact jr_ri (by rfl) (by rfl) (by rfl) (hR 4 _ dX7_finding_4)
end
section
def fillM (g : mm_I) (k : Nat) (v : Int32) (n : Nat) : mm_I := fun q => if q = k then (fun b => if b < n then v else g k b) else g q
theorem fillM_0 (g : mm_I) (k : Nat) (v : Int32) : fillM g k v 0 = g := by
  funext q; unfold fillM; split
  · subst_vars; funext b; simp
  · rfl
theorem fillM_s (g : mm_I) (k : Nat) (v : Int32) (n : Nat) : up2 (fillM g k v n) k n v = fillM g k v (n + 1) := by
  funext q; unfold up2 fillM upd
  by_cases e : q = k
  · subst e
    simp only [if_true]
    funext b
    by_cases hb : b = n
    · subst hb; simp
    · simp only [hb, if_false]
      by_cases h2 : b < n
      · rw [if_pos h2, if_pos (by omega)]
      · rw [if_neg h2, if_neg (by omega)]
  · simp only [e, if_false]
def sHeld (f : Nat → Int32) : Nat → Nat
  | 0 => 0
  | n + 1 => if f n = -9 then sHeld f n else sHeld f n + 1
theorem sHeld_le (f : Nat → Int32) : ∀ n, sHeld f n ≤ n
  | 0 => Nat.le_refl 0
  | n + 1 => by have := sHeld_le f n; unfold sHeld; split <;> omega
def sSum (f : Nat → Int32) (a : Nat) : Nat → Int32
  | 0 => 0
  | n + 1 => if f (a + n) = -9 then sSum f a n else sSum f a n + f (a + n)
def sLvl (f : Nat → Int32) (w : Int32) : Int32 → Int32 → Nat → Nat → Nat
  | _, _, _, 0 => 0
  | lo, hi, i, k + 1 => if f i = -9 ∨ ¬ (if hi < f i then f i else hi) - (if f i < lo then f i else lo) ≤ w then 0 else sLvl f w (if f i < lo then f i else lo) (if hi < f i then f i else hi) (i + 1) k + 1
theorem sLvl_z {f : Nat → Int32} {w lo hi : Int32} {i k : Nat} (hc : f i = -9 ∨ ¬ (if hi < f i then f i else hi) - (if f i < lo then f i else lo) ≤ w) : sLvl f w lo hi i (k + 1) = 0 := by rw [sLvl]; exact if_pos hc
theorem sLvl_s {f : Nat → Int32} {w lo hi : Int32} {i k : Nat} (hc : ¬ (f i = -9 ∨ ¬ (if hi < f i then f i else hi) - (if f i < lo then f i else lo) ≤ w)) : sLvl f w lo hi i (k + 1) = sLvl f w (if f i < lo then f i else lo) (if hi < f i then f i else hi) (i + 1) k + 1 := by rw [sLvl]; exact if_neg hc
theorem sLvl_le (f : Nat → Int32) (w : Int32) : ∀ k lo hi i, sLvl f w lo hi i k ≤ k
  | 0, _, _, _ => Nat.le_refl 0
  | k + 1, lo, hi, i => by
    have h9 := sLvl_le f w k (if f i < lo then f i else lo) (if hi < f i then f i else hi) (i + 1)
    by_cases hc : f i = -9 ∨ ¬ (if hi < f i then f i else hi) - (if f i < lo then f i else lo) ≤ w
    · rw [sLvl_z hc]; omega
    · rw [sLvl_s hc]; omega
def sBest (len : Nat → Nat) : Nat → Nat × Nat
  | 0 => (0, 0)
  | n + 1 => if len n ≤ (sBest len n).2 then sBest len n else (n, len n)
def sPres (f : Nat → Int32) : Nat → Nat
  | 0 => 0
  | n + 1 => if f n = -1 then sPres f n else sPres f n + 1
theorem sPres_le (f : Nat → Int32) : ∀ n, sPres f n ≤ n
  | 0 => Nat.le_refl 0
  | n + 1 => by have := sPres_le f n; unfold sPres; split <;> omega
def sDig (f : Nat → Int32) (h0 : Int64) : Nat → Int64
  | 0 => h0
  | n + 1 => 31 * sDig f h0 n + (f n).toInt64
set_option maxHeartbeats 4000000 in
set_option maxRecDepth 100000 in
theorem c_J7_fill_53178 (E : mm_E) (g : mm_I) (h : mm_L) (k : Nat) (hk : mm_isI k) (v : Int32) : Cv E yJ7_fill_53178 wsJ7_fill_53178 0 0 [.ref (E.1 k), .int v] g h (fillM g k v (mm_len k)) h := by
  refine ci_v (bytes := cJ7_fill_53178) (maxL := 4) (by decide) rfl (Nat.le_of_ble_eq_true rfl) (fun X cx hR => ?_)
  change Cx E X cJ7_fill_53178 RJ7 wsJ7_fill_53178 4 0 0 at cx
  change JJ E X g h 0 [(0, .ref (E.1 k)), (1, .int v)] []
  have hlk := mm_len_lt k
  refine jr_iconst (v := 0) cx dJ7_fill_53178_0 (by decide) ?_
  refine jr_istore_n (L' := [(2, .int 0), (0, .ref (E.1 k)), (1, .int v)]) cx dJ7_fill_53178_1 rfl (by decide) rfl ?_
  refine jr_aload_n cx dJ7_fill_53178_2 1 rfl rfl ?_
  refine jr_alen cx dJ7_fill_53178_3 hk ?_
  refine jr_istore_n (L' := [(3, .int (nI (mm_len k))), (2, .int 0), (0, .ref (E.1 k)), (1, .int v)]) cx dJ7_fill_53178_4 rfl (by decide) rfl ?_
  have key1 : ∀ (fu : Nat) (i : Nat), mm_len k + 1 ≤ i + fu → i ≤ mm_len k → JJ E X (fillM g k v i) h 5 [(0, .ref (E.1 k)), (1, .int v), (2, .int (nI i)), (3, .int (nI (mm_len k)))] [] := by
    intro fu
    induction fu with
    | zero => intro i hfu h1; exfalso; omega
    | succ fu ih =>
      intro i hfu h1
      refine jr_iload_n cx dJ7_fill_53178_5 2 rfl rfl ?_
      refine jr_iload_n cx dJ7_fill_53178_6 3 rfl rfl ?_
      refine jr_icmp_ge (tgt := 20) cx dJ7_fill_53178_7 (by decide) (fun c7 => ?_) (fun c7 => ?_)
      · have n7 : mm_len k ≤ i := (nI_leI (a := mm_len k) (b := i) (by omega) (by omega)).mp c7
        have hq : i = mm_len k := by omega
        exact jr_rv (by rw [hq]) (by rfl) (hR 20 _ dJ7_fill_53178_20)
      · have n7 : ¬ (mm_len k ≤ i) := fun q => c7 ((nI_leI (a := mm_len k) (b := i) (by omega) (by omega)).mpr q)
        refine jr_aload_n cx dJ7_fill_53178_10 0 rfl rfl ?_
        refine jr_iload_n cx dJ7_fill_53178_11 2 rfl rfl ?_
        refine jr_iload_n cx dJ7_fill_53178_12 1 rfl rfl ?_
        refine jr_iast cx dJ7_fill_53178_13 hk i rfl (by omega) ?_
        refine jr_iinc (n := 2) (v := nI (i + 1)) (L' := [(2, .int (nI (i + 1))), (0, .ref (E.1 k)), (1, .int v), (3, .int (nI (mm_len k)))]) cx dJ7_fill_53178_14 rfl (nI_1 _) (by decide) rfl ?_
        refine jr_goto (tgt := 5) cx dJ7_fill_53178_17 (by decide) ?_
        refine jr_pick (L' := [(0, .ref (E.1 k)), (1, .int v), (2, .int (nI (i + 1))), (3, .int (nI (mm_len k)))]) [1, 2, 0, 3] rfl ?_
        refine jr_mem (by exact fillM_s g k v i) (by rfl) ?_
        exact ih (i + 1) (by omega) (by omega)
  refine jr_pick (L' := [(0, .ref (E.1 k)), (1, .int v), (2, .int 0), (3, .int (nI (mm_len k)))]) [2, 3, 1, 0] rfl ?_
  have e2 : (0 : Int32) = (nI 0) := by rfl
  refine jr_loc (lc_n (lc_n (lc_i e2 (lc_n rfl)))) ?_
  refine jr_mem (by exact (fillM_0 g k v).symm) (by rfl) ?_
  exact key1 (mm_len k + 1) 0 (by omega) (by omega)
set_option maxHeartbeats 4000000 in
set_option maxRecDepth 100000 in
theorem c_X4_isMissing (E : mm_E) (g : mm_I) (h : mm_L) (j : Nat) (hj : j < 6) : Ci E yX4_isMissing wsX4_isMissing 0 0 [.ref (E.1 1), .int (nI j)] g h (bI (g 9 j = -1)) g h := by
  refine ci_z (bytes := cX4_isMissing) (maxL := 2) (by decide) rfl (Nat.le_of_ble_eq_true rfl) (bI_01 _) (fun X cx hR => ?_)
  change Cx E X cX4_isMissing RX4 wsX4_isMissing 2 0 0 at cx
  change JJ E X g h 0 [(0, .ref (E.1 1)), (1, .int (nI j))] []
  have hinX4 : ∀ w ∈ u_ws RX4 TX4 2, w ∈ wsX4_isMissing := by decide +kernel
  have mf_16 : Cond.fieldLink RX4 16 (TX4 1).1 (TX4 1).2.1 (TX4 1).2.2.1 ∈ wsX4_isMissing := by decide +kernel
  refine jr_aload_n cx dX4_isMissing_0 0 rfl rfl ?_
  refine jr_get (f := 1) (v := .ref (E.1 9)) cx dX4_isMissing_1 (by decide) rfl rfl hinX4 (by decide) mf_16 rfl ?_
  refine jr_iload_n cx dX4_isMissing_4 1 rfl rfl ?_
  refine jr_iald cx dX4_isMissing_5 (Or.inl ⟨by decide, by decide⟩) j rfl (show _ < 6 by omega) ?_
  refine jr_iconst (v := (-1)) cx dX4_isMissing_6 (by decide) ?_
  refine jr_icmp_ne (tgt := 14) cx dX4_isMissing_7 (by decide) (fun c7 => ?_) (fun c7 => ?_)
  · refine jr_iconst (v := 0) cx dX4_isMissing_14 (by decide) ?_
    exact jr_ri (by simp [bI, c7]) (by rfl) (by rfl) (hR 15 _ dX4_isMissing_15)
  · refine jr_iconst (v := 1) cx dX4_isMissing_10 (by decide) ?_
    refine jr_goto (tgt := 15) cx dX4_isMissing_11 (by decide) ?_
    exact jr_ri (by simp [bI, c7]) (by rfl) (by rfl) (hR 15 _ dX4_isMissing_15)
set_option maxHeartbeats 4000000 in
set_option maxRecDepth 100000 in
theorem c_X4_sizeOf (E : mm_E) (g : mm_I) (h : mm_L) (j : Nat) (hj : j < 6) : Ci E yX4_sizeOf wsX4_sizeOf 0 0 [.ref (E.1 1), .int (nI j)] g h (g 9 j) g h := by
  refine ci_i (bytes := cX4_sizeOf) (maxL := 2) (by decide) rfl (Nat.le_of_ble_eq_true rfl) (fun X cx hR => ?_)
  change Cx E X cX4_sizeOf RX4 wsX4_sizeOf 2 0 0 at cx
  change JJ E X g h 0 [(0, .ref (E.1 1)), (1, .int (nI j))] []
  have hinX4 : ∀ w ∈ u_ws RX4 TX4 2, w ∈ wsX4_sizeOf := by decide +kernel
  have mf_16 : Cond.fieldLink RX4 16 (TX4 1).1 (TX4 1).2.1 (TX4 1).2.2.1 ∈ wsX4_sizeOf := by decide +kernel
  refine jr_aload_n cx dX4_sizeOf_0 0 rfl rfl ?_
  refine jr_get (f := 1) (v := .ref (E.1 9)) cx dX4_sizeOf_1 (by decide) rfl rfl hinX4 (by decide) mf_16 rfl ?_
  refine jr_iload_n cx dX4_sizeOf_4 1 rfl rfl ?_
  refine jr_iald cx dX4_sizeOf_5 (Or.inl ⟨by decide, by decide⟩) j rfl (show _ < 6 by omega) ?_
  exact jr_ri (by rfl) (by rfl) (by rfl) (hR 6 _ dX4_sizeOf_6)
def mkC (g : mm_I) (j : Nat) (n : Int32) : mm_I := up2 (fillM g (39 + j) 0 40) 9 j n
set_option maxHeartbeats 4000000 in
set_option maxRecDepth 100000 in
theorem c_X4_make (E : mm_E) (g : mm_I) (h : mm_L) (j : Nat) (hj : j < 6) (n : Int32) : Cv E yX4_make wsX4_make 1 23 [.ref (E.1 1), .int (nI j), .int n] g h (mkC g j n) h := by
  refine ci_v (bytes := cX4_make) (maxL := 3) (by decide) rfl (Nat.le_of_ble_eq_true rfl) (fun X cx hR => ?_)
  change Cx E X cX4_make RX4 wsX4_make 3 1 23 at cx
  change JJ E X g h 0 [(0, .ref (E.1 1)), (1, .int (nI j)), (2, .int n)] []
  have hinX4 : ∀ w ∈ u_ws RX4 TX4 2, w ∈ wsX4_make := by decide +kernel
  have mf_11 : Cond.fieldLink RX4 11 (TX4 0).1 (TX4 0).2.1 (TX4 0).2.2.1 ∈ wsX4_make := by decide +kernel
  have mf_16 : Cond.fieldLink RX4 16 (TX4 1).1 (TX4 1).2.1 (TX4 1).2.2.1 ∈ wsX4_make := by decide +kernel
  refine jr_aload_n cx dX4_make_0 0 rfl rfl ?_
  refine jr_get (f := 0) (v := .ref (E.1 33)) cx dX4_make_1 (by decide) rfl rfl hinX4 (by decide) mf_11 rfl ?_
  refine jr_iload_n cx dX4_make_4 1 rfl rfl ?_
  refine jr_aald cx dX4_make_5 ⟨by decide, by decide⟩ j rfl (show j < 6 by omega) (39 + j) rfl ?_
  refine jr_iconst (v := 0) cx dX4_make_6 (by decide) ?_
  refine jr_sv [.ref (E.1 (39 + j)), .int 0] 2 cx dX4_make_7 (c_J7_fill_53178 E g h (39 + j) (is_rd hj) 0) gX4_make_J7_fill_53178 rfl (by decide +kernel) ⟨Nat.le_of_ble_eq_true rfl, Nat.le_of_ble_eq_true rfl⟩ rfl rfl (Nat.le_of_ble_eq_true rfl) ?_
  refine jr_aload_n cx dX4_make_10 0 rfl rfl ?_
  refine jr_get (f := 1) (v := .ref (E.1 9)) cx dX4_make_11 (by decide) rfl rfl hinX4 (by decide) mf_16 rfl ?_
  refine jr_iload_n cx dX4_make_14 1 rfl rfl ?_
  refine jr_iload_n cx dX4_make_15 2 rfl rfl ?_
  refine jr_iast cx dX4_make_16 (Or.inl ⟨by decide, by decide⟩) j rfl (show _ < 6 by omega) ?_
  exact jr_rv (by unfold mkC; rw [ml_rd hj]) (by rfl) (hR 17 _ dX4_make_17)
set_option maxHeartbeats 4000000 in
set_option maxRecDepth 100000 in
theorem c_X4_drop (E : mm_E) (g : mm_I) (h : mm_L) (j : Nat) (hj : j < 6) : Cv E yX4_drop wsX4_drop 0 0 [.ref (E.1 1), .int (nI j)] g h (up2 g 9 j (-1)) h := by
  refine ci_v (bytes := cX4_drop) (maxL := 2) (by decide) rfl (Nat.le_of_ble_eq_true rfl) (fun X cx hR => ?_)
  change Cx E X cX4_drop RX4 wsX4_drop 2 0 0 at cx
  change JJ E X g h 0 [(0, .ref (E.1 1)), (1, .int (nI j))] []
  have hinX4 : ∀ w ∈ u_ws RX4 TX4 2, w ∈ wsX4_drop := by decide +kernel
  have mf_16 : Cond.fieldLink RX4 16 (TX4 1).1 (TX4 1).2.1 (TX4 1).2.2.1 ∈ wsX4_drop := by decide +kernel
  refine jr_aload_n cx dX4_drop_0 0 rfl rfl ?_
  refine jr_get (f := 1) (v := .ref (E.1 9)) cx dX4_drop_1 (by decide) rfl rfl hinX4 (by decide) mf_16 rfl ?_
  refine jr_iload_n cx dX4_drop_4 1 rfl rfl ?_
  refine jr_iconst (v := (-1)) cx dX4_drop_5 (by decide) ?_
  refine jr_iast cx dX4_drop_6 (Or.inl ⟨by decide, by decide⟩) j rfl (show _ < 6 by omega) ?_
  exact jr_rv (by rfl) (by rfl) (hR 7 _ dX4_drop_7)
set_option maxHeartbeats 4000000 in
set_option maxRecDepth 100000 in
theorem c_X4_hasPlaces (E : mm_E) (g : mm_I) (h : mm_L) (j : Nat) (hj : j < 6) (f n : Int32) : Ci E yX4_hasPlaces wsX4_hasPlaces 1 22 [.ref (E.1 1), .int (nI j), .int f, .int n] g h (bI ((¬ f < 0 ∧ ¬ g 9 j < f) ∧ ¬ n < 0 ∧ ¬ g 9 j - f < n)) g h := by
  refine ci_z (bytes := cX4_hasPlaces) (maxL := 4) (by decide) rfl (Nat.le_of_ble_eq_true rfl) (bI_01 _) (fun X cx hR => ?_)
  change Cx E X cX4_hasPlaces RX4 wsX4_hasPlaces 4 1 22 at cx
  change JJ E X g h 0 [(0, .ref (E.1 1)), (1, .int (nI j)), (2, .int f), (3, .int n)] []
  have hinX4 : ∀ w ∈ u_ws RX4 TX4 2, w ∈ wsX4_hasPlaces := by decide +kernel
  have mf_16 : Cond.fieldLink RX4 16 (TX4 1).1 (TX4 1).2.1 (TX4 1).2.2.1 ∈ wsX4_hasPlaces := by decide +kernel
  have mini_X6_isBetween : Cond.initialized yX6_isBetween.cls ∈ wsX4_hasPlaces := by decide +kernel
  have msta_X6_isBetween : Cond.static yX6_isBetween ∈ wsX4_hasPlaces := by decide +kernel
  refine jr_iload_n cx dX4_hasPlaces_0 2 rfl rfl ?_
  refine jr_iconst (v := 0) cx dX4_hasPlaces_1 (by decide) ?_
  refine jr_aload_n cx dX4_hasPlaces_2 0 rfl rfl ?_
  refine jr_get (f := 1) (v := .ref (E.1 9)) cx dX4_hasPlaces_3 (by decide) rfl rfl hinX4 (by decide) mf_16 rfl ?_
  refine jr_iload_n cx dX4_hasPlaces_6 1 rfl rfl ?_
  refine jr_iald cx dX4_hasPlaces_7 (Or.inl ⟨by decide, by decide⟩) j rfl (show _ < 6 by omega) ?_
  refine jr_ni (host := RX6) [.int f, .int 0, .int (g 9 j)] 3 cx dX4_hasPlaces_8 (c_X6_isBetween E g h f 0 (g 9 j)) gX4_hasPlaces_X6_isBetween_n26 rfl (fun U hN => hN.2.2.2.2.2.1) mini_X6_isBetween msta_X6_isBetween (by decide +kernel) ⟨Nat.le_of_ble_eq_true rfl, Nat.le_of_ble_eq_true rfl⟩ rfl rfl (Nat.le_of_ble_eq_true rfl) ?_
  refine jr_bif_eq (tgt := 34) cx dX4_hasPlaces_11 (by decide) (fun c11 => ?_) (fun c11 => ?_)
  · refine jr_iconst (v := 0) cx dX4_hasPlaces_34 (by decide) ?_
    exact jr_ri (by exact (bI_f fun q => c11 q.1).symm) (by rfl) (by rfl) (hR 35 _ dX4_hasPlaces_35)
  · refine jr_iload_n cx dX4_hasPlaces_14 3 rfl rfl ?_
    refine jr_iconst (v := 0) cx dX4_hasPlaces_15 (by decide) ?_
    refine jr_aload_n cx dX4_hasPlaces_16 0 rfl rfl ?_
    refine jr_get (f := 1) (v := .ref (E.1 9)) cx dX4_hasPlaces_17 (by decide) rfl rfl hinX4 (by decide) mf_16 rfl ?_
    refine jr_iload_n cx dX4_hasPlaces_20 1 rfl rfl ?_
    refine jr_iald cx dX4_hasPlaces_21 (Or.inl ⟨by decide, by decide⟩) j rfl (show _ < 6 by omega) ?_
    refine jr_iload_n cx dX4_hasPlaces_22 2 rfl rfl ?_
    refine jr_isub cx dX4_hasPlaces_23 ?_
    refine jr_ni (host := RX6) [.int n, .int 0, .int ((g 9 j) - f)] 3 cx dX4_hasPlaces_24 (c_X6_isBetween E g h n 0 ((g 9 j) - f)) gX4_hasPlaces_X6_isBetween_n26 rfl (fun U hN => hN.2.2.2.2.2.1) mini_X6_isBetween msta_X6_isBetween (by decide +kernel) ⟨Nat.le_of_ble_eq_true rfl, Nat.le_of_ble_eq_true rfl⟩ rfl rfl (Nat.le_of_ble_eq_true rfl) ?_
    refine jr_bif_eq (tgt := 34) cx dX4_hasPlaces_27 (by decide) (fun c27 => ?_) (fun c27 => ?_)
    · refine jr_iconst (v := 0) cx dX4_hasPlaces_34 (by decide) ?_
      exact jr_ri (by exact (bI_f fun q => c27 q.2).symm) (by rfl) (by rfl) (hR 35 _ dX4_hasPlaces_35)
    · refine jr_iconst (v := 1) cx dX4_hasPlaces_30 (by decide) ?_
      refine jr_goto (tgt := 35) cx dX4_hasPlaces_31 (by decide) ?_
      exact jr_ri (by exact (bI_t ⟨c11, c27⟩).symm) (by rfl) (by rfl) (hR 35 _ dX4_hasPlaces_35)
set_option maxHeartbeats 4000000 in
set_option maxRecDepth 100000 in
theorem c_X4_readingAt (E : mm_E) (g : mm_I) (h : mm_L) (j : Nat) (hj : j < 6) (i : Nat) (hi : i < 40) : Ci E yX4_readingAt wsX4_readingAt 0 0 [.ref (E.1 1), .int (nI j), .int (nI i)] g h (g (39 + j) i) g h := by
  refine ci_i (bytes := cX4_readingAt) (maxL := 3) (by decide) rfl (Nat.le_of_ble_eq_true rfl) (fun X cx hR => ?_)
  change Cx E X cX4_readingAt RX4 wsX4_readingAt 3 0 0 at cx
  change JJ E X g h 0 [(0, .ref (E.1 1)), (1, .int (nI j)), (2, .int (nI i))] []
  have hinX4 : ∀ w ∈ u_ws RX4 TX4 2, w ∈ wsX4_readingAt := by decide +kernel
  have mf_11 : Cond.fieldLink RX4 11 (TX4 0).1 (TX4 0).2.1 (TX4 0).2.2.1 ∈ wsX4_readingAt := by decide +kernel
  refine jr_aload_n cx dX4_readingAt_0 0 rfl rfl ?_
  refine jr_get (f := 0) (v := .ref (E.1 33)) cx dX4_readingAt_1 (by decide) rfl rfl hinX4 (by decide) mf_11 rfl ?_
  refine jr_iload_n cx dX4_readingAt_4 1 rfl rfl ?_
  refine jr_aald cx dX4_readingAt_5 ⟨by decide, by decide⟩ j rfl (show j < 6 by omega) (39 + j) rfl ?_
  refine jr_iload_n cx dX4_readingAt_6 2 rfl rfl ?_
  refine jr_iald cx dX4_readingAt_7 (is_rd (show j < 6 by omega)) i rfl (by rw [ml_rd (show j < 6 by omega)]; omega) ?_
  exact jr_ri (by rfl) (by rfl) (by rfl) (hR 8 _ dX4_readingAt_8)
set_option maxHeartbeats 4000000 in
set_option maxRecDepth 100000 in
theorem c_X4_put (E : mm_E) (g : mm_I) (h : mm_L) (j : Nat) (hj : j < 6) (i : Nat) (hi : i < 40) (v : Int32) : Cv E yX4_put wsX4_put 0 0 [.ref (E.1 1), .int (nI j), .int (nI i), .int v] g h (up2 g (39 + j) i v) h := by
  refine ci_v (bytes := cX4_put) (maxL := 4) (by decide) rfl (Nat.le_of_ble_eq_true rfl) (fun X cx hR => ?_)
  change Cx E X cX4_put RX4 wsX4_put 4 0 0 at cx
  change JJ E X g h 0 [(0, .ref (E.1 1)), (1, .int (nI j)), (2, .int (nI i)), (3, .int v)] []
  have hinX4 : ∀ w ∈ u_ws RX4 TX4 2, w ∈ wsX4_put := by decide +kernel
  have mf_11 : Cond.fieldLink RX4 11 (TX4 0).1 (TX4 0).2.1 (TX4 0).2.2.1 ∈ wsX4_put := by decide +kernel
  refine jr_aload_n cx dX4_put_0 0 rfl rfl ?_
  refine jr_get (f := 0) (v := .ref (E.1 33)) cx dX4_put_1 (by decide) rfl rfl hinX4 (by decide) mf_11 rfl ?_
  refine jr_iload_n cx dX4_put_4 1 rfl rfl ?_
  refine jr_aald cx dX4_put_5 ⟨by decide, by decide⟩ j rfl (show j < 6 by omega) (39 + j) rfl ?_
  refine jr_iload_n cx dX4_put_6 2 rfl rfl ?_
  refine jr_iload_n cx dX4_put_7 3 rfl rfl ?_
  refine jr_iast cx dX4_put_8 (is_rd (show j < 6 by omega)) i rfl (by rw [ml_rd (show j < 6 by omega)]; omega) ?_
  exact jr_rv (by rfl) (by rfl) (hR 9 _ dX4_put_9)
def cpM (g : mm_I) (k k2 a b z : Nat) : mm_I := fun q => if q = k2 then va_cpy (g k) (g k2) a b z else g q
set_option maxHeartbeats 4000000 in
set_option maxRecDepth 100000 in
theorem c_X4_carry (E : mm_E) (g : mm_I) (h : mm_L) (r t : Nat) (hr : r < 6) (ht : t < 6) (a b z : Nat) (ha : a + z ≤ 40) (hb : b + z ≤ 40) : Cv E yX4_carry wsX4_carry 1 60 [.ref (E.1 1), .int (nI r), .int (nI a), .int (nI t), .int (nI b), .int (nI z)] g h (cpM g (39 + r) (39 + t) a b z) h := by
  refine ci_v (bytes := cX4_carry) (maxL := 6) (by decide) rfl (Nat.le_of_ble_eq_true rfl) (fun X cx hR => ?_)
  change Cx E X cX4_carry RX4 wsX4_carry 6 1 60 at cx
  change JJ E X g h 0 [(0, .ref (E.1 1)), (1, .int (nI r)), (2, .int (nI a)), (3, .int (nI t)), (4, .int (nI b)), (5, .int (nI z))] []
  have hinX4 : ∀ w ∈ u_ws RX4 TX4 2, w ∈ wsX4_carry := by decide +kernel
  have mf_11 : Cond.fieldLink RX4 11 (TX4 0).1 (TX4 0).2.1 (TX4 0).2.2.1 ∈ wsX4_carry := by decide +kernel
  have ml_cp : Cond.methodLink RX4 30 arraycopyName ∈ wsX4_carry := by decide +kernel
  have mnat : Cond.native arraycopyName ∈ wsX4_carry := by decide +kernel
  have mst_cp : Cond.static arraycopyName ∈ wsX4_carry := by decide +kernel
  have mi_sys : Cond.initialized "java/lang/System" ∈ wsX4_carry := by decide +kernel
  refine jr_aload_n cx dX4_carry_0 0 rfl rfl ?_
  refine jr_get (f := 0) (v := .ref (E.1 33)) cx dX4_carry_1 (by decide) rfl rfl hinX4 (by decide) mf_11 rfl ?_
  refine jr_iload_n cx dX4_carry_4 1 rfl rfl ?_
  refine jr_aald cx dX4_carry_5 ⟨by decide, by decide⟩ r rfl (show r < 6 by omega) (39 + r) rfl ?_
  refine jr_iload_n cx dX4_carry_6 2 rfl rfl ?_
  refine jr_aload_n cx dX4_carry_7 0 rfl rfl ?_
  refine jr_get (f := 0) (v := .ref (E.1 33)) cx dX4_carry_8 (by decide) rfl rfl hinX4 (by decide) mf_11 rfl ?_
  refine jr_iload_n cx dX4_carry_11 3 rfl rfl ?_
  refine jr_aald cx dX4_carry_12 ⟨by decide, by decide⟩ t rfl (show t < 6 by omega) (39 + t) rfl ?_
  refine jr_iload cx dX4_carry_13 4 rfl ?_
  refine jr_iload cx dX4_carry_15 5 rfl ?_
  refine jr_copy cx dX4_carry_17 ml_cp mnat mst_cp mi_sys (is_rd (show r < 6 by omega)) (is_rd (show t < 6 by omega)) a b z rfl rfl rfl (by rw [ml_rd (show r < 6 by omega)]; omega) (by rw [ml_rd (show t < 6 by omega)]; omega) (by decide) (by decide) ?_
  exact jr_rv (by rfl) (by rfl) (hR 20 _ dX4_carry_20)
set_option maxHeartbeats 4000000 in
set_option maxRecDepth 100000 in
theorem c_X4_heldCount (E : mm_E) (g : mm_I) (h : mm_L) (j : Nat) (hj : j < 6) (n : Nat) (hn : n ≤ 40) (hs : g 9 j = nI n) : Ci E yX4_heldCount wsX4_heldCount 0 0 [.ref (E.1 1), .int (nI j)] g h (nI (sHeld (g (39 + j)) n)) g h := by
  refine ci_i (bytes := cX4_heldCount) (maxL := 4) (by decide) rfl (Nat.le_of_ble_eq_true rfl) (fun X cx hR => ?_)
  change Cx E X cX4_heldCount RX4 wsX4_heldCount 4 0 0 at cx
  change JJ E X g h 0 [(0, .ref (E.1 1)), (1, .int (nI j))] []
  have hinX4 : ∀ w ∈ u_ws RX4 TX4 2, w ∈ wsX4_heldCount := by decide +kernel
  have mf_16 : Cond.fieldLink RX4 16 (TX4 1).1 (TX4 1).2.1 (TX4 1).2.2.1 ∈ wsX4_heldCount := by decide +kernel
  have mf_11 : Cond.fieldLink RX4 11 (TX4 0).1 (TX4 0).2.1 (TX4 0).2.2.1 ∈ wsX4_heldCount := by decide +kernel
  refine jr_iconst (v := 0) cx dX4_heldCount_0 (by decide) ?_
  refine jr_istore_n (L' := [(2, .int 0), (0, .ref (E.1 1)), (1, .int (nI j))]) cx dX4_heldCount_1 rfl (by decide) rfl ?_
  refine jr_iconst (v := 0) cx dX4_heldCount_2 (by decide) ?_
  refine jr_istore_n (L' := [(3, .int 0), (2, .int 0), (0, .ref (E.1 1)), (1, .int (nI j))]) cx dX4_heldCount_3 rfl (by decide) rfl ?_
  have key1 : ∀ (fu : Nat) (i : Nat), n + 1 ≤ i + fu → i ≤ n → JJ E X g h 4 [(0, .ref (E.1 1)), (1, .int (nI j)), (2, .int (nI (sHeld (g (39 + j)) i))), (3, .int (nI i))] [] := by
    intro fu
    induction fu with
    | zero => intro i hfu h1; exfalso; omega
    | succ fu ih =>
      intro i hfu h1
      refine jr_iload_n cx dX4_heldCount_4 3 rfl rfl ?_
      refine jr_aload_n cx dX4_heldCount_5 0 rfl rfl ?_
      refine jr_get (f := 1) (v := .ref (E.1 9)) cx dX4_heldCount_6 (by decide) rfl rfl hinX4 (by decide) mf_16 rfl ?_
      refine jr_iload_n cx dX4_heldCount_9 1 rfl rfl ?_
      refine jr_iald cx dX4_heldCount_10 (Or.inl ⟨by decide, by decide⟩) j rfl (show _ < 6 by omega) ?_
      refine jr_top hs ?_
      refine jr_icmp_ge (tgt := 36) cx dX4_heldCount_11 (by decide) (fun c11 => ?_) (fun c11 => ?_)
      · have n11 : n ≤ i := (nI_leI (a := n) (b := i) (by omega) (by omega)).mp c11
        refine jr_iload_n cx dX4_heldCount_36 2 rfl rfl ?_
        exact jr_ri (by rw [show i = n by omega]) (by rfl) (by rfl) (hR 37 _ dX4_heldCount_37)
      · have n11 : ¬ (n ≤ i) := fun q => c11 ((nI_leI (a := n) (b := i) (by omega) (by omega)).mpr q)
        refine jr_aload_n cx dX4_heldCount_14 0 rfl rfl ?_
        refine jr_get (f := 0) (v := .ref (E.1 33)) cx dX4_heldCount_15 (by decide) rfl rfl hinX4 (by decide) mf_11 rfl ?_
        refine jr_iload_n cx dX4_heldCount_18 1 rfl rfl ?_
        refine jr_aald cx dX4_heldCount_19 ⟨by decide, by decide⟩ j rfl (show j < 6 by omega) (39 + j) rfl ?_
        refine jr_iload_n cx dX4_heldCount_20 3 rfl rfl ?_
        refine jr_iald cx dX4_heldCount_21 (is_rd (show j < 6 by omega)) i rfl (by rw [ml_rd (show j < 6 by omega)]; omega) ?_
        refine jr_bipush (v := (-9)) cx dX4_heldCount_22 (by decide) ?_
        refine jr_icmp_eq (tgt := 30) cx dX4_heldCount_24 (by decide) (fun c24 => ?_) (fun c24 => ?_)
        · refine jr_iinc (n := 3) (v := nI (i + 1)) (L' := [(3, .int (nI (i + 1))), (0, .ref (E.1 1)), (1, .int (nI j)), (2, .int (nI (sHeld (g (39 + j)) i)))]) cx dX4_heldCount_30 rfl (nI_1 _) (by decide) rfl ?_
          refine jr_goto (tgt := 4) cx dX4_heldCount_33 (by decide) ?_
          refine jr_pick (L' := [(0, .ref (E.1 1)), (1, .int (nI j)), (2, .int (nI (sHeld (g (39 + j)) i))), (3, .int (nI (i + 1)))]) [1, 2, 3, 0] rfl ?_
          have e2 : (nI (sHeld (g (39 + j)) i) : Int32) = (nI (sHeld (g (39 + j)) (i + 1))) := by simp [sHeld, c11, n11, c24]
          refine jr_loc (lc_n (lc_n (lc_i e2 (lc_n rfl)))) ?_
          exact ih (i + 1) (by omega) (by omega)
        · refine jr_iinc (n := 2) (v := nI (sHeld (g (39 + j)) i + 1)) (L' := [(2, .int (nI (sHeld (g (39 + j)) i + 1))), (0, .ref (E.1 1)), (1, .int (nI j)), (3, .int (nI i))]) cx dX4_heldCount_27 rfl (nI_1 _) (by decide) rfl ?_
          refine jr_iinc (n := 3) (v := nI (i + 1)) (L' := [(3, .int (nI (i + 1))), (2, .int (nI (sHeld (g (39 + j)) i + 1))), (0, .ref (E.1 1)), (1, .int (nI j))]) cx dX4_heldCount_30 rfl (nI_1 _) (by decide) rfl ?_
          refine jr_goto (tgt := 4) cx dX4_heldCount_33 (by decide) ?_
          refine jr_pick (L' := [(0, .ref (E.1 1)), (1, .int (nI j)), (2, .int (nI (sHeld (g (39 + j)) i + 1))), (3, .int (nI (i + 1)))]) [2, 3, 1, 0] rfl ?_
          have e2 : (nI (sHeld (g (39 + j)) i + 1) : Int32) = (nI (sHeld (g (39 + j)) (i + 1))) := by simp [sHeld, c11, n11, c24]
          refine jr_loc (lc_n (lc_n (lc_i e2 (lc_n rfl)))) ?_
          exact ih (i + 1) (by omega) (by omega)
  refine jr_pick (L' := [(0, .ref (E.1 1)), (1, .int (nI j)), (2, .int 0), (3, .int 0)]) [2, 3, 1, 0] rfl ?_
  have e2 : (0 : Int32) = (nI (sHeld (g (39 + j)) 0)) := by rfl
  have e3 : (0 : Int32) = (nI 0) := by rfl
  refine jr_loc (lc_n (lc_n (lc_i e2 (lc_i e3 rfl)))) ?_
  exact key1 (n + 1) 0 (by omega) (by omega)
set_option maxHeartbeats 4000000 in
set_option maxRecDepth 100000 in
theorem c_X4_heldSum (E : mm_E) (g : mm_I) (h : mm_L) (j : Nat) (hj : j < 6) (a n : Nat) (hn : a + n ≤ 40) : Ci E yX4_heldSum wsX4_heldSum 0 0 [.ref (E.1 1), .int (nI j), .int (nI a), .int (nI n)] g h (sSum (g (39 + j)) a n) g h := by
  refine ci_i (bytes := cX4_heldSum) (maxL := 6) (by decide) rfl (Nat.le_of_ble_eq_true rfl) (fun X cx hR => ?_)
  change Cx E X cX4_heldSum RX4 wsX4_heldSum 6 0 0 at cx
  change JJ E X g h 0 [(0, .ref (E.1 1)), (1, .int (nI j)), (2, .int (nI a)), (3, .int (nI n))] []
  have hinX4 : ∀ w ∈ u_ws RX4 TX4 2, w ∈ wsX4_heldSum := by decide +kernel
  have mf_11 : Cond.fieldLink RX4 11 (TX4 0).1 (TX4 0).2.1 (TX4 0).2.2.1 ∈ wsX4_heldSum := by decide +kernel
  refine jr_iconst (v := 0) cx dX4_heldSum_0 (by decide) ?_
  refine jr_istore (L' := [(4, .int 0), (0, .ref (E.1 1)), (1, .int (nI j)), (2, .int (nI a)), (3, .int (nI n))]) cx dX4_heldSum_1 (by decide) rfl ?_
  refine jr_iload_n cx dX4_heldSum_3 3 rfl rfl ?_
  refine jr_istore (L' := [(5, .int (nI a)), (4, .int 0), (0, .ref (E.1 1)), (1, .int (nI j)), (2, .int (nI a)), (3, .int (nI n))]) cx dX4_heldSum_4 (by decide) rfl ?_
  have key1 : ∀ (fu : Nat) (i : Nat), n + 1 ≤ i + fu → i ≤ n → JJ E X g h 6 [(0, .ref (E.1 1)), (1, .int (nI j)), (2, .int (nI a)), (3, .int (nI n)), (4, .int (sSum (g (39 + j)) a i)), (5, .int (nI (a + i)))] [] := by
    intro fu
    induction fu with
    | zero => intro i hfu h1; exfalso; omega
    | succ fu ih =>
      intro i hfu h1
      refine jr_iload cx dX4_heldSum_6 5 rfl ?_
      refine jr_iload_n cx dX4_heldSum_8 2 rfl rfl ?_
      refine jr_iload_n cx dX4_heldSum_9 3 rfl rfl ?_
      refine jr_iadd cx dX4_heldSum_10 ?_
      refine jr_top (show (nI a : Int32) + (nI n) = nI (a + n) from nI_add a n) ?_
      refine jr_icmp_ge (tgt := 48) cx dX4_heldSum_11 (by decide) (fun c11 => ?_) (fun c11 => ?_)
      · have n11 : a + n ≤ a + i := (nI_leI (a := a + n) (b := a + i) (by omega) (by omega)).mp c11
        refine jr_iload cx dX4_heldSum_48 4 rfl ?_
        exact jr_ri (by rw [show i = n by omega]) (by rfl) (by rfl) (hR 50 _ dX4_heldSum_50)
      · have n11 : ¬ (a + n ≤ a + i) := fun q => c11 ((nI_leI (a := a + n) (b := a + i) (by omega) (by omega)).mpr q)
        refine jr_aload_n cx dX4_heldSum_14 0 rfl rfl ?_
        refine jr_get (f := 0) (v := .ref (E.1 33)) cx dX4_heldSum_15 (by decide) rfl rfl hinX4 (by decide) mf_11 rfl ?_
        refine jr_iload_n cx dX4_heldSum_18 1 rfl rfl ?_
        refine jr_aald cx dX4_heldSum_19 ⟨by decide, by decide⟩ j rfl (show j < 6 by omega) (39 + j) rfl ?_
        refine jr_iload cx dX4_heldSum_20 5 rfl ?_
        refine jr_iald cx dX4_heldSum_22 (is_rd (show j < 6 by omega)) (a + i) rfl (by rw [ml_rd (show j < 6 by omega)]; omega) ?_
        refine jr_bipush (v := (-9)) cx dX4_heldSum_23 (by decide) ?_
        refine jr_icmp_eq (tgt := 42) cx dX4_heldSum_25 (by decide) (fun c25 => ?_) (fun c25 => ?_)
        · refine jr_iinc (n := 5) (v := nI (a + i + 1)) (L' := [(5, .int (nI (a + i + 1))), (0, .ref (E.1 1)), (1, .int (nI j)), (2, .int (nI a)), (3, .int (nI n)), (4, .int (sSum (g (39 + j)) a i))]) cx dX4_heldSum_42 rfl (nI_1 _) (by decide) rfl ?_
          refine jr_goto (tgt := 6) cx dX4_heldSum_45 (by decide) ?_
          refine jr_pick (L' := [(0, .ref (E.1 1)), (1, .int (nI j)), (2, .int (nI a)), (3, .int (nI n)), (4, .int (sSum (g (39 + j)) a i)), (5, .int (nI (a + i + 1)))]) [1, 2, 3, 4, 5, 0] rfl ?_
          have e4 : (sSum (g (39 + j)) a i : Int32) = (sSum (g (39 + j)) a (i + 1)) := by simp [sSum, c11, n11, c25]
          have e5 : (nI (a + i + 1) : Int32) = (nI (a + (i + 1))) := by rfl
          refine jr_loc (lc_n (lc_n (lc_n (lc_n (lc_i e4 (lc_i e5 rfl)))))) ?_
          exact ih (i + 1) (by omega) (by omega)
        · refine jr_iload cx dX4_heldSum_28 4 rfl ?_
          refine jr_aload_n cx dX4_heldSum_30 0 rfl rfl ?_
          refine jr_get (f := 0) (v := .ref (E.1 33)) cx dX4_heldSum_31 (by decide) rfl rfl hinX4 (by decide) mf_11 rfl ?_
          refine jr_iload_n cx dX4_heldSum_34 1 rfl rfl ?_
          refine jr_aald cx dX4_heldSum_35 ⟨by decide, by decide⟩ j rfl (show j < 6 by omega) (39 + j) rfl ?_
          refine jr_iload cx dX4_heldSum_36 5 rfl ?_
          refine jr_iald cx dX4_heldSum_38 (is_rd (show j < 6 by omega)) (a + i) rfl (by rw [ml_rd (show j < 6 by omega)]; omega) ?_
          refine jr_iadd cx dX4_heldSum_39 ?_
          refine jr_istore (L' := [(4, .int ((sSum (g (39 + j)) a i) + (g (39 + j) (a + i)))), (0, .ref (E.1 1)), (1, .int (nI j)), (2, .int (nI a)), (3, .int (nI n)), (5, .int (nI (a + i)))]) cx dX4_heldSum_40 (by decide) rfl ?_
          refine jr_iinc (n := 5) (v := nI (a + i + 1)) (L' := [(5, .int (nI (a + i + 1))), (4, .int ((sSum (g (39 + j)) a i) + (g (39 + j) (a + i)))), (0, .ref (E.1 1)), (1, .int (nI j)), (2, .int (nI a)), (3, .int (nI n))]) cx dX4_heldSum_42 rfl (nI_1 _) (by decide) rfl ?_
          refine jr_goto (tgt := 6) cx dX4_heldSum_45 (by decide) ?_
          refine jr_pick (L' := [(0, .ref (E.1 1)), (1, .int (nI j)), (2, .int (nI a)), (3, .int (nI n)), (4, .int ((sSum (g (39 + j)) a i) + (g (39 + j) (a + i)))), (5, .int (nI (a + i + 1)))]) [2, 3, 4, 5, 1, 0] rfl ?_
          have e4 : ((sSum (g (39 + j)) a i) + (g (39 + j) (a + i)) : Int32) = (sSum (g (39 + j)) a (i + 1)) := by simp [sSum, c11, n11, c25]
          have e5 : (nI (a + i + 1) : Int32) = (nI (a + (i + 1))) := by rfl
          refine jr_loc (lc_n (lc_n (lc_n (lc_n (lc_i e4 (lc_i e5 rfl)))))) ?_
          exact ih (i + 1) (by omega) (by omega)
  refine jr_pick (L' := [(0, .ref (E.1 1)), (1, .int (nI j)), (2, .int (nI a)), (3, .int (nI n)), (4, .int 0), (5, .int (nI a))]) [2, 3, 4, 5, 1, 0] rfl ?_
  have e4 : (0 : Int32) = (sSum (g (39 + j)) a 0) := by rfl
  have e5 : (nI a : Int32) = (nI (a + 0)) := by rfl
  refine jr_loc (lc_n (lc_n (lc_n (lc_n (lc_i e4 (lc_i e5 rfl)))))) ?_
  exact key1 (n + 1) 0 (by omega) (by omega)
set_option maxHeartbeats 4000000 in
set_option maxRecDepth 100000 in
theorem c_X4_mirrorSum (E : mm_E) (g : mm_I) (h : mm_L) (j : Nat) (hj : j < 6) (n i : Nat) (hn : n ≤ 40) (hi : i < n) (hs : g 9 j = nI n) : Ci E yX4_mirrorSum wsX4_mirrorSum 0 0 [.ref (E.1 1), .int (nI j), .int (nI i)] g h (g (39 + j) i + g (39 + j) (n - 1 - i)) g h := by
  refine ci_i (bytes := cX4_mirrorSum) (maxL := 3) (by decide) rfl (Nat.le_of_ble_eq_true rfl) (fun X cx hR => ?_)
  change Cx E X cX4_mirrorSum RX4 wsX4_mirrorSum 3 0 0 at cx
  change JJ E X g h 0 [(0, .ref (E.1 1)), (1, .int (nI j)), (2, .int (nI i))] []
  have hinX4 : ∀ w ∈ u_ws RX4 TX4 2, w ∈ wsX4_mirrorSum := by decide +kernel
  have mf_11 : Cond.fieldLink RX4 11 (TX4 0).1 (TX4 0).2.1 (TX4 0).2.2.1 ∈ wsX4_mirrorSum := by decide +kernel
  have mf_16 : Cond.fieldLink RX4 16 (TX4 1).1 (TX4 1).2.1 (TX4 1).2.2.1 ∈ wsX4_mirrorSum := by decide +kernel
  refine jr_aload_n cx dX4_mirrorSum_0 0 rfl rfl ?_
  refine jr_get (f := 0) (v := .ref (E.1 33)) cx dX4_mirrorSum_1 (by decide) rfl rfl hinX4 (by decide) mf_11 rfl ?_
  refine jr_iload_n cx dX4_mirrorSum_4 1 rfl rfl ?_
  refine jr_aald cx dX4_mirrorSum_5 ⟨by decide, by decide⟩ j rfl (show j < 6 by omega) (39 + j) rfl ?_
  refine jr_iload_n cx dX4_mirrorSum_6 2 rfl rfl ?_
  refine jr_iald cx dX4_mirrorSum_7 (is_rd (show j < 6 by omega)) i rfl (by rw [ml_rd (show j < 6 by omega)]; omega) ?_
  refine jr_aload_n cx dX4_mirrorSum_8 0 rfl rfl ?_
  refine jr_get (f := 0) (v := .ref (E.1 33)) cx dX4_mirrorSum_9 (by decide) rfl rfl hinX4 (by decide) mf_11 rfl ?_
  refine jr_iload_n cx dX4_mirrorSum_12 1 rfl rfl ?_
  refine jr_aald cx dX4_mirrorSum_13 ⟨by decide, by decide⟩ j rfl (show j < 6 by omega) (39 + j) rfl ?_
  refine jr_aload_n cx dX4_mirrorSum_14 0 rfl rfl ?_
  refine jr_get (f := 1) (v := .ref (E.1 9)) cx dX4_mirrorSum_15 (by decide) rfl rfl hinX4 (by decide) mf_16 rfl ?_
  refine jr_iload_n cx dX4_mirrorSum_18 1 rfl rfl ?_
  refine jr_iald cx dX4_mirrorSum_19 (Or.inl ⟨by decide, by decide⟩) j rfl (show _ < 6 by omega) ?_
  refine jr_top hs ?_
  refine jr_iconst (v := 1) cx dX4_mirrorSum_20 (by decide) ?_
  refine jr_isub cx dX4_mirrorSum_21 ?_
  refine jr_top (show (nI n : Int32) - 1 = nI (n - 1) from pk_sub (a := n) (b := 1) (by omega)) ?_
  refine jr_iload_n cx dX4_mirrorSum_22 2 rfl rfl ?_
  refine jr_isub cx dX4_mirrorSum_23 ?_
  refine jr_top (show (nI (n - 1) : Int32) - (nI i) = nI ((n - 1) - i) from pk_sub (a := n - 1) (b := i) (by omega)) ?_
  refine jr_iald cx dX4_mirrorSum_24 (is_rd (show j < 6 by omega)) ((n - 1) - i) rfl (by rw [ml_rd (show j < 6 by omega)]; omega) ?_
  refine jr_iadd cx dX4_mirrorSum_25 ?_
  exact jr_ri (by rfl) (by rfl) (by rfl) (hR 26 _ dX4_mirrorSum_26)
set_option maxHeartbeats 4000000 in
set_option maxRecDepth 100000 in
theorem c_X4_levelLength (E : mm_E) (g : mm_I) (h : mm_L) (j : Nat) (hj : j < 6) (a n : Nat) (w : Int32) (hn : n ≤ 40) (ha : a ≤ n) (hs : g 9 j = nI n) : Ci E yX4_levelLength wsX4_levelLength 1 23 [.ref (E.1 1), .int (nI j), .int (nI a), .int w] g h (nI (sLvl (g (39 + j)) w 100000 (-100000) a (n - a))) g h := by
  refine ci_i (bytes := cX4_levelLength) (maxL := 9) (by decide) rfl (Nat.le_of_ble_eq_true rfl) (fun X cx hR => ?_)
  change Cx E X cX4_levelLength RX4 wsX4_levelLength 9 1 23 at cx
  change JJ E X g h 0 [(0, .ref (E.1 1)), (1, .int (nI j)), (2, .int (nI a)), (3, .int w)] []
  have hinX4 : ∀ w ∈ u_ws RX4 TX4 2, w ∈ wsX4_levelLength := by decide +kernel
  have mc_40 : Cond.constant RX4 40 100000 ∈ wsX4_levelLength := by decide +kernel
  have mc_41 : Cond.constant RX4 41 (-100000) ∈ wsX4_levelLength := by decide +kernel
  have mf_16 : Cond.fieldLink RX4 16 (TX4 1).1 (TX4 1).2.1 (TX4 1).2.2.1 ∈ wsX4_levelLength := by decide +kernel
  have mf_11 : Cond.fieldLink RX4 11 (TX4 0).1 (TX4 0).2.1 (TX4 0).2.2.1 ∈ wsX4_levelLength := by decide +kernel
  have ml_mmin : Cond.methodLink RX4 42 Lib.Math.min.name ∈ wsX4_levelLength := by decide +kernel
  have mst_mmin : Cond.static Lib.Math.min.name ∈ wsX4_levelLength := by decide +kernel
  have mi_math : Cond.initialized "java/lang/Math" ∈ wsX4_levelLength := by decide +kernel
  have mco_mmin : Cond.code Lib.Math.min.name Lib.Math.min.code 2 (some .int) ∈ wsX4_levelLength := by first | decide +kernel | (unfold wsX4_levelLength; simp)
  have ml_mmax : Cond.methodLink RX4 48 Lib.Math.max.name ∈ wsX4_levelLength := by decide +kernel
  have mst_mmax : Cond.static Lib.Math.max.name ∈ wsX4_levelLength := by decide +kernel
  have mco_mmax : Cond.code Lib.Math.max.name Lib.Math.max.code 2 (some .int) ∈ wsX4_levelLength := by first | decide +kernel | (unfold wsX4_levelLength; simp)
  refine jr_ldc cx dX4_levelLength_0 mc_40 ?_
  refine jr_istore (L' := [(4, .int 100000), (0, .ref (E.1 1)), (1, .int (nI j)), (2, .int (nI a)), (3, .int w)]) cx dX4_levelLength_2 (by decide) rfl ?_
  refine jr_ldc cx dX4_levelLength_4 mc_41 ?_
  refine jr_istore (L' := [(5, .int (-100000)), (4, .int 100000), (0, .ref (E.1 1)), (1, .int (nI j)), (2, .int (nI a)), (3, .int w)]) cx dX4_levelLength_6 (by decide) rfl ?_
  refine jr_iconst (v := 0) cx dX4_levelLength_8 (by decide) ?_
  refine jr_istore (L' := [(6, .int 0), (5, .int (-100000)), (4, .int 100000), (0, .ref (E.1 1)), (1, .int (nI j)), (2, .int (nI a)), (3, .int w)]) cx dX4_levelLength_9 (by decide) rfl ?_
  refine jr_iload_n cx dX4_levelLength_11 5 rfl rfl ?_
  refine jr_istore (L' := [(7, .int (nI a)), (6, .int 0), (5, .int (-100000)), (4, .int 100000), (0, .ref (E.1 1)), (1, .int (nI j)), (2, .int (nI a)), (3, .int w)]) cx dX4_levelLength_12 (by decide) rfl ?_
  have key1 : ∀ (fu : Nat) (i c : Nat) (lo hi : Int32), n + 1 ≤ i + fu → i ≤ n → c ≤ i → c + sLvl (g (39 + j)) w lo hi i (n - i) = sLvl (g (39 + j)) w 100000 (-100000) a (n - a) → JJ E X g h 14 [(0, .ref (E.1 1)), (1, .int (nI j)), (3, .int w), (4, .int lo), (5, .int hi), (6, .int (nI c)), (7, .int (nI i))] [] := by
    intro fu
    induction fu with
    | zero => intro i c lo hi hfu h1 h2 h3; exfalso; omega
    | succ fu ih =>
      intro i c lo hi hfu h1 h2 h3
      refine jr_iload cx dX4_levelLength_14 6 rfl ?_
      refine jr_aload_n cx dX4_levelLength_16 0 rfl rfl ?_
      refine jr_get (f := 1) (v := .ref (E.1 9)) cx dX4_levelLength_17 (by decide) rfl rfl hinX4 (by decide) mf_16 rfl ?_
      refine jr_iload_n cx dX4_levelLength_20 1 rfl rfl ?_
      refine jr_iald cx dX4_levelLength_21 (Or.inl ⟨by decide, by decide⟩) j rfl (show _ < 6 by omega) ?_
      refine jr_top hs ?_
      refine jr_icmp_ge (tgt := 82) cx dX4_levelLength_22 (by decide) (fun c22 => ?_) (fun c22 => ?_)
      · have n22 : n ≤ i := (nI_leI (a := n) (b := i) (by omega) (by omega)).mp c22
        refine jr_iload cx dX4_levelLength_82 5 rfl ?_
        exact jr_ri (by rw [← h3, show n - i = 0 by omega]; rfl) (by rfl) (by rfl) (hR 84 _ dX4_levelLength_84)
      · have n22 : ¬ (n ≤ i) := fun q => c22 ((nI_leI (a := n) (b := i) (by omega) (by omega)).mpr q)
        refine jr_aload_n cx dX4_levelLength_25 0 rfl rfl ?_
        refine jr_get (f := 0) (v := .ref (E.1 33)) cx dX4_levelLength_26 (by decide) rfl rfl hinX4 (by decide) mf_11 rfl ?_
        refine jr_iload_n cx dX4_levelLength_29 1 rfl rfl ?_
        refine jr_aald cx dX4_levelLength_30 ⟨by decide, by decide⟩ j rfl (show j < 6 by omega) (39 + j) rfl ?_
        refine jr_iload cx dX4_levelLength_31 6 rfl ?_
        refine jr_iald cx dX4_levelLength_33 (is_rd (show j < 6 by omega)) i rfl (by rw [ml_rd (show j < 6 by omega)]; omega) ?_
        refine jr_istore (L' := [(8, .int (g (39 + j) i)), (0, .ref (E.1 1)), (1, .int (nI j)), (3, .int w), (4, .int lo), (5, .int hi), (6, .int (nI c)), (7, .int (nI i))]) cx dX4_levelLength_34 (by decide) rfl ?_
        refine jr_iload cx dX4_levelLength_36 4 rfl ?_
        refine jr_iload cx dX4_levelLength_38 0 rfl ?_
        refine jr_mmin cx dX4_levelLength_40 ml_mmin mst_mmin mi_math mco_mmin (by decide) (Nat.le_of_ble_eq_true rfl) ?_
        refine jr_istore (L' := [(4, .int (if g (39 + j) i < lo then g (39 + j) i else lo)), (8, .int (g (39 + j) i)), (0, .ref (E.1 1)), (1, .int (nI j)), (3, .int w), (5, .int hi), (6, .int (nI c)), (7, .int (nI i))]) cx dX4_levelLength_43 (by decide) rfl ?_
        refine jr_iload cx dX4_levelLength_45 5 rfl ?_
        refine jr_iload cx dX4_levelLength_47 1 rfl ?_
        refine jr_mmax cx dX4_levelLength_49 ml_mmax mst_mmax mi_math mco_mmax (by decide) (Nat.le_of_ble_eq_true rfl) ?_
        refine jr_istore (L' := [(5, .int (if hi < g (39 + j) i then g (39 + j) i else hi)), (4, .int (if g (39 + j) i < lo then g (39 + j) i else lo)), (8, .int (g (39 + j) i)), (0, .ref (E.1 1)), (1, .int (nI j)), (3, .int w), (6, .int (nI c)), (7, .int (nI i))]) cx dX4_levelLength_52 (by decide) rfl ?_
        refine jr_iload cx dX4_levelLength_54 2 rfl ?_
        refine jr_bipush (v := (-9)) cx dX4_levelLength_56 (by decide) ?_
        refine jr_icmp_eq (tgt := 82) cx dX4_levelLength_58 (by decide) (fun c58 => ?_) (fun c58 => ?_)
        · refine jr_iload cx dX4_levelLength_82 6 rfl ?_
          exact jr_ri (by rw [← h3, show n - i = (n - (i + 1)) + 1 by omega]; rw [sLvl_z (Or.inl c58)]; rfl) (by rfl) (by rfl) (hR 84 _ dX4_levelLength_84)
        · refine jr_iload cx dX4_levelLength_61 0 rfl ?_
          refine jr_iload cx dX4_levelLength_63 1 rfl ?_
          refine jr_isub cx dX4_levelLength_65 ?_
          refine jr_iload_n cx dX4_levelLength_66 5 rfl rfl ?_
          refine jr_icmp_le (tgt := 73) cx dX4_levelLength_67 (by decide) (fun c67 => ?_) (fun c67 => ?_)
          · refine jr_iinc (n := 6) (v := nI (c + 1)) (L' := [(6, .int (nI (c + 1))), (5, .int (if hi < g (39 + j) i then g (39 + j) i else hi)), (4, .int (if g (39 + j) i < lo then g (39 + j) i else lo)), (8, .int (g (39 + j) i)), (0, .ref (E.1 1)), (1, .int (nI j)), (3, .int w), (7, .int (nI i))]) cx dX4_levelLength_73 rfl (nI_1 _) (by decide) rfl ?_
            refine jr_iinc (n := 7) (v := nI (i + 1)) (L' := [(7, .int (nI (i + 1))), (6, .int (nI (c + 1))), (5, .int (if hi < g (39 + j) i then g (39 + j) i else hi)), (4, .int (if g (39 + j) i < lo then g (39 + j) i else lo)), (8, .int (g (39 + j) i)), (0, .ref (E.1 1)), (1, .int (nI j)), (3, .int w)]) cx dX4_levelLength_76 rfl (nI_1 _) (by decide) rfl ?_
            refine jr_goto (tgt := 14) cx dX4_levelLength_79 (by decide) ?_
            refine jr_pick (L' := [(0, .ref (E.1 1)), (1, .int (nI j)), (3, .int w), (4, .int (if g (39 + j) i < lo then g (39 + j) i else lo)), (5, .int (if hi < g (39 + j) i then g (39 + j) i else hi)), (6, .int (nI (c + 1))), (7, .int (nI (i + 1)))]) [5, 6, 7, 3, 2, 1, 0] rfl ?_
            exact ih (i + 1) (c + 1) (if g (39 + j) i < lo then g (39 + j) i else lo) (if hi < g (39 + j) i then g (39 + j) i else hi) (by omega) (by omega) (by omega) (by rw [← h3, show n - i = (n - (i + 1)) + 1 by omega]; rw [sLvl_s (fun q => q.elim c58 (fun q => q c67))]; omega)
          · refine jr_goto (tgt := 82) cx dX4_levelLength_70 (by decide) ?_
            refine jr_iload cx dX4_levelLength_82 6 rfl ?_
            exact jr_ri (by rw [← h3, show n - i = (n - (i + 1)) + 1 by omega]; rw [sLvl_z (Or.inr c67)]; rfl) (by rfl) (by rfl) (hR 84 _ dX4_levelLength_84)
  refine jr_pick (L' := [(0, .ref (E.1 1)), (1, .int (nI j)), (3, .int w), (4, .int 100000), (5, .int (-100000)), (6, .int 0), (7, .int (nI a))]) [4, 5, 7, 3, 2, 1, 0] rfl ?_
  have e6 : (0 : Int32) = (nI 0) := by rfl
  refine jr_loc (lc_n (lc_n (lc_n (lc_n (lc_n (lc_i e6 (lc_n rfl))))))) ?_
  exact key1 (n + 1) a 0 100000 (-100000) (by omega) (by omega) (by omega) (by omega)
theorem sBest_le (len : Nat → Nat) : ∀ n, (sBest len n).1 ≤ n
  | 0 => Nat.le_refl 0
  | n + 1 => by have := sBest_le len n; unfold sBest; split
                · omega
                · exact Nat.le_succ n
set_option maxHeartbeats 4000000 in
set_option maxRecDepth 100000 in
theorem c_X4_longestLevelStart (E : mm_E) (g : mm_I) (h : mm_L) (j : Nat) (hj : j < 6) (n : Nat) (w : Int32) (hn : n ≤ 40) (hs : g 9 j = nI n) : Ci E yX4_longestLevelStart wsX4_longestLevelStart 2 51 [.ref (E.1 1), .int (nI j), .int w] g h (nI (sBest (fun q => sLvl (g (39 + j)) w 100000 (-100000) q (n - q)) n).1) g h := by
  refine ci_i (bytes := cX4_longestLevelStart) (maxL := 7) (by decide) rfl (Nat.le_of_ble_eq_true rfl) (fun X cx hR => ?_)
  change Cx E X cX4_longestLevelStart RX4 wsX4_longestLevelStart 7 2 51 at cx
  change JJ E X g h 0 [(0, .ref (E.1 1)), (1, .int (nI j)), (2, .int w)] []
  have hinX4 : ∀ w ∈ u_ws RX4 TX4 2, w ∈ wsX4_longestLevelStart := by decide +kernel
  have mf_16 : Cond.fieldLink RX4 16 (TX4 1).1 (TX4 1).2.1 (TX4 1).2.2.1 ∈ wsX4_longestLevelStart := by decide +kernel
  have hb2 : ∀ i, i ≤ n → (sBest (fun q => sLvl (g (39 + j)) w 100000 (-100000) q (n - q)) i).2 ≤ 40 := by
    intro i; induction i with
    | zero => intro _; exact Nat.zero_le _
    | succ i ih => intro hi; have := ih (by omega); have h9 := sLvl_le (g (39 + j)) w (n - i) 100000 (-100000) i; unfold sBest; split
                   · exact this
                   · show sLvl _ _ _ _ _ _ ≤ 40; omega
  refine jr_iconst (v := 0) cx dX4_longestLevelStart_0 (by decide) ?_
  refine jr_istore_n (L' := [(3, .int 0), (0, .ref (E.1 1)), (1, .int (nI j)), (2, .int w)]) cx dX4_longestLevelStart_1 rfl (by decide) rfl ?_
  refine jr_iconst (v := 0) cx dX4_longestLevelStart_2 (by decide) ?_
  refine jr_istore (L' := [(4, .int 0), (3, .int 0), (0, .ref (E.1 1)), (1, .int (nI j)), (2, .int w)]) cx dX4_longestLevelStart_3 (by decide) rfl ?_
  refine jr_iconst (v := 0) cx dX4_longestLevelStart_5 (by decide) ?_
  refine jr_istore (L' := [(5, .int 0), (4, .int 0), (3, .int 0), (0, .ref (E.1 1)), (1, .int (nI j)), (2, .int w)]) cx dX4_longestLevelStart_6 (by decide) rfl ?_
  have key1 : ∀ (fu : Nat) (i : Nat), n + 1 ≤ i + fu → i ≤ n → JJ E X g h 8 [(0, .ref (E.1 1)), (1, .int (nI j)), (2, .int w), (3, .int (nI ((sBest (fun q => sLvl (g (39 + j)) w 100000 (-100000) q (n - q)) i).1))), (4, .int (nI ((sBest (fun q => sLvl (g (39 + j)) w 100000 (-100000) q (n - q)) i).2))), (5, .int (nI i))] [] := by
    intro fu
    induction fu with
    | zero => intro i hfu h1; exfalso; omega
    | succ fu ih =>
      intro i hfu h1
      refine jr_iload cx dX4_longestLevelStart_8 5 rfl ?_
      refine jr_aload_n cx dX4_longestLevelStart_10 0 rfl rfl ?_
      refine jr_get (f := 1) (v := .ref (E.1 9)) cx dX4_longestLevelStart_11 (by decide) rfl rfl hinX4 (by decide) mf_16 rfl ?_
      refine jr_iload_n cx dX4_longestLevelStart_14 1 rfl rfl ?_
      refine jr_iald cx dX4_longestLevelStart_15 (Or.inl ⟨by decide, by decide⟩) j rfl (show _ < 6 by omega) ?_
      refine jr_top hs ?_
      refine jr_icmp_ge (tgt := 49) cx dX4_longestLevelStart_16 (by decide) (fun c16 => ?_) (fun c16 => ?_)
      · have n16 : n ≤ i := (nI_leI (a := n) (b := i) (by omega) (by omega)).mp c16
        refine jr_iload_n cx dX4_longestLevelStart_49 3 rfl rfl ?_
        exact jr_ri (by rw [show i = n by omega]) (by rfl) (by rfl) (hR 50 _ dX4_longestLevelStart_50)
      · have n16 : ¬ (n ≤ i) := fun q => c16 ((nI_leI (a := n) (b := i) (by omega) (by omega)).mpr q)
        have hq1 := hb2 i (by omega)
        have hq2 := sLvl_le (g (39 + j)) w (n - i) 100000 (-100000) i
        refine jr_aload_n cx dX4_longestLevelStart_19 0 rfl rfl ?_
        refine jr_iload_n cx dX4_longestLevelStart_20 1 rfl rfl ?_
        refine jr_iload cx dX4_longestLevelStart_21 5 rfl ?_
        refine jr_iload_n cx dX4_longestLevelStart_23 2 rfl rfl ?_
        refine jr_vi [.int (nI j), .int (nI i), .int w] 3 cx dX4_longestLevelStart_24 (c_X4_levelLength E g h j (by omega) i n w hn (by omega) hs) (by decide) rfl rfl gX4_longestLevelStart_X4_levelLength rfl (by decide +kernel) ⟨Nat.le_of_ble_eq_true rfl, Nat.le_of_ble_eq_true rfl⟩ rfl rfl (Nat.le_of_ble_eq_true rfl) ?_
        refine jr_istore (L' := [(6, .int (nI (sLvl (g (39 + j)) w 100000 (-100000) i (n - i)))), (0, .ref (E.1 1)), (1, .int (nI j)), (2, .int w), (3, .int (nI ((sBest (fun q => sLvl (g (39 + j)) w 100000 (-100000) q (n - q)) i).1))), (4, .int (nI ((sBest (fun q => sLvl (g (39 + j)) w 100000 (-100000) q (n - q)) i).2))), (5, .int (nI i))]) cx dX4_longestLevelStart_27 (by decide) rfl ?_
        refine jr_iload cx dX4_longestLevelStart_29 0 rfl ?_
        refine jr_iload cx dX4_longestLevelStart_31 5 rfl ?_
        refine jr_icmp_le (tgt := 43) cx dX4_longestLevelStart_33 (by decide) (fun c33 => ?_) (fun c33 => ?_)
        · have n33 : sLvl (g (39 + j)) w 100000 (-100000) i (n - i) ≤ (sBest (fun q => sLvl (g (39 + j)) w 100000 (-100000) q (n - q)) i).2 := (nI_leI (a := sLvl (g (39 + j)) w 100000 (-100000) i (n - i)) (b := (sBest (fun q => sLvl (g (39 + j)) w 100000 (-100000) q (n - q)) i).2) (by omega) (by omega)).mp c33
          refine jr_iinc (n := 6) (v := nI (i + 1)) (L' := [(5, .int (nI (i + 1))), (6, .int (nI (sLvl (g (39 + j)) w 100000 (-100000) i (n - i)))), (0, .ref (E.1 1)), (1, .int (nI j)), (2, .int w), (3, .int (nI ((sBest (fun q => sLvl (g (39 + j)) w 100000 (-100000) q (n - q)) i).1))), (4, .int (nI ((sBest (fun q => sLvl (g (39 + j)) w 100000 (-100000) q (n - q)) i).2)))]) cx dX4_longestLevelStart_43 rfl (nI_1 _) (by decide) rfl ?_
          refine jr_goto (tgt := 8) cx dX4_longestLevelStart_46 (by decide) ?_
          refine jr_pick (L' := [(0, .ref (E.1 1)), (1, .int (nI j)), (2, .int w), (3, .int (nI ((sBest (fun q => sLvl (g (39 + j)) w 100000 (-100000) q (n - q)) i).1))), (4, .int (nI ((sBest (fun q => sLvl (g (39 + j)) w 100000 (-100000) q (n - q)) i).2))), (5, .int (nI (i + 1)))]) [2, 3, 4, 5, 6, 0] rfl ?_
          have e3 : (nI ((sBest (fun q => sLvl (g (39 + j)) w 100000 (-100000) q (n - q)) i).1) : Int32) = (nI ((sBest (fun q => sLvl (g (39 + j)) w 100000 (-100000) q (n - q)) (i + 1)).1)) := by simp only [sBest, if_neg c16, if_neg n16, if_pos c33, if_pos n33]
          have e4 : (nI ((sBest (fun q => sLvl (g (39 + j)) w 100000 (-100000) q (n - q)) i).2) : Int32) = (nI ((sBest (fun q => sLvl (g (39 + j)) w 100000 (-100000) q (n - q)) (i + 1)).2)) := by simp only [sBest, if_neg c16, if_neg n16, if_pos c33, if_pos n33]
          refine jr_loc (lc_n (lc_n (lc_n (lc_i e3 (lc_i e4 (lc_n rfl)))))) ?_
          exact ih (i + 1) (by omega) (by omega)
        · have n33 : ¬ (sLvl (g (39 + j)) w 100000 (-100000) i (n - i) ≤ (sBest (fun q => sLvl (g (39 + j)) w 100000 (-100000) q (n - q)) i).2) := fun q => c33 ((nI_leI (a := sLvl (g (39 + j)) w 100000 (-100000) i (n - i)) (b := (sBest (fun q => sLvl (g (39 + j)) w 100000 (-100000) q (n - q)) i).2) (by omega) (by omega)).mpr q)
          refine jr_iload cx dX4_longestLevelStart_36 0 rfl ?_
          refine jr_istore (L' := [(4, .int (nI (sLvl (g (39 + j)) w 100000 (-100000) i (n - i)))), (6, .int (nI (sLvl (g (39 + j)) w 100000 (-100000) i (n - i)))), (0, .ref (E.1 1)), (1, .int (nI j)), (2, .int w), (3, .int (nI ((sBest (fun q => sLvl (g (39 + j)) w 100000 (-100000) q (n - q)) i).1))), (5, .int (nI i))]) cx dX4_longestLevelStart_38 (by decide) rfl ?_
          refine jr_iload cx dX4_longestLevelStart_40 6 rfl ?_
          refine jr_istore_n (L' := [(3, .int (nI i)), (4, .int (nI (sLvl (g (39 + j)) w 100000 (-100000) i (n - i)))), (6, .int (nI (sLvl (g (39 + j)) w 100000 (-100000) i (n - i)))), (0, .ref (E.1 1)), (1, .int (nI j)), (2, .int w), (5, .int (nI i))]) cx dX4_longestLevelStart_42 rfl (by decide) rfl ?_
          refine jr_iinc (n := 6) (v := nI (i + 1)) (L' := [(5, .int (nI (i + 1))), (3, .int (nI i)), (4, .int (nI (sLvl (g (39 + j)) w 100000 (-100000) i (n - i)))), (6, .int (nI (sLvl (g (39 + j)) w 100000 (-100000) i (n - i)))), (0, .ref (E.1 1)), (1, .int (nI j)), (2, .int w)]) cx dX4_longestLevelStart_43 rfl (nI_1 _) (by decide) rfl ?_
          refine jr_goto (tgt := 8) cx dX4_longestLevelStart_46 (by decide) ?_
          refine jr_pick (L' := [(0, .ref (E.1 1)), (1, .int (nI j)), (2, .int w), (3, .int (nI i)), (4, .int (nI (sLvl (g (39 + j)) w 100000 (-100000) i (n - i)))), (5, .int (nI (i + 1)))]) [4, 5, 6, 1, 2, 0] rfl ?_
          have e3 : (nI i : Int32) = (nI ((sBest (fun q => sLvl (g (39 + j)) w 100000 (-100000) q (n - q)) (i + 1)).1)) := by simp only [sBest, if_neg c16, if_neg n16, if_neg c33, if_neg n33]
          have e4 : (nI (sLvl (g (39 + j)) w 100000 (-100000) i (n - i)) : Int32) = (nI ((sBest (fun q => sLvl (g (39 + j)) w 100000 (-100000) q (n - q)) (i + 1)).2)) := by simp only [sBest, if_neg c16, if_neg n16, if_neg c33, if_neg n33]
          refine jr_loc (lc_n (lc_n (lc_n (lc_i e3 (lc_i e4 (lc_n rfl)))))) ?_
          exact ih (i + 1) (by omega) (by omega)
  refine jr_pick (L' := [(0, .ref (E.1 1)), (1, .int (nI j)), (2, .int w), (3, .int 0), (4, .int 0), (5, .int 0)]) [3, 4, 5, 2, 1, 0] rfl ?_
  have e3 : (0 : Int32) = (nI ((sBest (fun q => sLvl (g (39 + j)) w 100000 (-100000) q (n - q)) 0).1)) := by rfl
  have e4 : (0 : Int32) = (nI ((sBest (fun q => sLvl (g (39 + j)) w 100000 (-100000) q (n - q)) 0).2)) := by rfl
  have e5 : (0 : Int32) = (nI 0) := by rfl
  refine jr_loc (lc_n (lc_n (lc_n (lc_i e3 (lc_i e4 (lc_i e5 rfl)))))) ?_
  exact key1 (n + 1) 0 (by omega) (by omega)
set_option maxHeartbeats 4000000 in
set_option maxRecDepth 100000 in
theorem c_X4_presentCount (E : mm_E) (g : mm_I) (h : mm_L) : Ci E yX4_presentCount wsX4_presentCount 0 0 [.ref (E.1 1)] g h (nI (sPres (g 9) 6)) g h := by
  refine ci_i (bytes := cX4_presentCount) (maxL := 3) (by decide) rfl (Nat.le_of_ble_eq_true rfl) (fun X cx hR => ?_)
  change Cx E X cX4_presentCount RX4 wsX4_presentCount 3 0 0 at cx
  change JJ E X g h 0 [(0, .ref (E.1 1))] []
  have hinX4 : ∀ w ∈ u_ws RX4 TX4 2, w ∈ wsX4_presentCount := by decide +kernel
  have mf_16 : Cond.fieldLink RX4 16 (TX4 1).1 (TX4 1).2.1 (TX4 1).2.2.1 ∈ wsX4_presentCount := by decide +kernel
  refine jr_iconst (v := 0) cx dX4_presentCount_0 (by decide) ?_
  refine jr_istore_n (L' := [(1, .int 0), (0, .ref (E.1 1))]) cx dX4_presentCount_1 rfl (by decide) rfl ?_
  refine jr_iconst (v := 0) cx dX4_presentCount_2 (by decide) ?_
  refine jr_istore_n (L' := [(2, .int 0), (1, .int 0), (0, .ref (E.1 1))]) cx dX4_presentCount_3 rfl (by decide) rfl ?_
  have key1 : ∀ (fu : Nat) (i : Nat), 6 + 1 ≤ i + fu → i ≤ 6 → JJ E X g h 4 [(0, .ref (E.1 1)), (1, .int (nI (sPres (g 9) i))), (2, .int (nI i))] [] := by
    intro fu
    induction fu with
    | zero => intro i hfu h1; exfalso; omega
    | succ fu ih =>
      intro i hfu h1
      refine jr_iload_n cx dX4_presentCount_4 2 rfl rfl ?_
      refine jr_bipush (v := 6) cx dX4_presentCount_5 (by decide) ?_
      refine jr_icmp_ge (tgt := 29) cx dX4_presentCount_7 (by decide) (fun c7 => ?_) (fun c7 => ?_)
      · have n7 : 6 ≤ i := (nI_leI (a := 6) (b := i) (by omega) (by omega)).mp c7
        refine jr_iload_n cx dX4_presentCount_29 1 rfl rfl ?_
        exact jr_ri (by rw [show i = 6 by omega]) (by rfl) (by rfl) (hR 30 _ dX4_presentCount_30)
      · have n7 : ¬ (6 ≤ i) := fun q => c7 ((nI_leI (a := 6) (b := i) (by omega) (by omega)).mpr q)
        refine jr_aload_n cx dX4_presentCount_10 0 rfl rfl ?_
        refine jr_get (f := 1) (v := .ref (E.1 9)) cx dX4_presentCount_11 (by decide) rfl rfl hinX4 (by decide) mf_16 rfl ?_
        refine jr_iload_n cx dX4_presentCount_14 2 rfl rfl ?_
        refine jr_iald cx dX4_presentCount_15 (Or.inl ⟨by decide, by decide⟩) i rfl (show _ < 6 by omega) ?_
        refine jr_iconst (v := (-1)) cx dX4_presentCount_16 (by decide) ?_
        refine jr_icmp_eq (tgt := 23) cx dX4_presentCount_17 (by decide) (fun c17 => ?_) (fun c17 => ?_)
        · refine jr_iinc (n := 2) (v := nI (i + 1)) (L' := [(2, .int (nI (i + 1))), (0, .ref (E.1 1)), (1, .int (nI (sPres (g 9) i)))]) cx dX4_presentCount_23 rfl (nI_1 _) (by decide) rfl ?_
          refine jr_goto (tgt := 4) cx dX4_presentCount_26 (by decide) ?_
          refine jr_pick (L' := [(0, .ref (E.1 1)), (1, .int (nI (sPres (g 9) i))), (2, .int (nI (i + 1)))]) [1, 2, 0] rfl ?_
          have e1 : (nI (sPres (g 9) i) : Int32) = (nI (sPres (g 9) (i + 1))) := by simp [sPres, c7, n7, c17]
          refine jr_loc (lc_n (lc_i e1 (lc_n rfl))) ?_
          exact ih (i + 1) (by omega) (by omega)
        · refine jr_iinc (n := 1) (v := nI (sPres (g 9) i + 1)) (L' := [(1, .int (nI (sPres (g 9) i + 1))), (0, .ref (E.1 1)), (2, .int (nI i))]) cx dX4_presentCount_20 rfl (nI_1 _) (by decide) rfl ?_
          refine jr_iinc (n := 2) (v := nI (i + 1)) (L' := [(2, .int (nI (i + 1))), (1, .int (nI (sPres (g 9) i + 1))), (0, .ref (E.1 1))]) cx dX4_presentCount_23 rfl (nI_1 _) (by decide) rfl ?_
          refine jr_goto (tgt := 4) cx dX4_presentCount_26 (by decide) ?_
          refine jr_pick (L' := [(0, .ref (E.1 1)), (1, .int (nI (sPres (g 9) i + 1))), (2, .int (nI (i + 1)))]) [2, 1, 0] rfl ?_
          have e1 : (nI (sPres (g 9) i + 1) : Int32) = (nI (sPres (g 9) (i + 1))) := by simp [sPres, c7, n7, c17]
          refine jr_loc (lc_n (lc_i e1 (lc_n rfl))) ?_
          exact ih (i + 1) (by omega) (by omega)
  refine jr_pick (L' := [(0, .ref (E.1 1)), (1, .int 0), (2, .int 0)]) [2, 1, 0] rfl ?_
  have e1 : (0 : Int32) = (nI (sPres (g 9) 0)) := by rfl
  have e2 : (0 : Int32) = (nI 0) := by rfl
  refine jr_loc (lc_n (lc_i e1 (lc_i e2 rfl))) ?_
  exact key1 (6 + 1) 0 (by omega) (by omega)
set_option maxHeartbeats 4000000 in
set_option maxRecDepth 100000 in
theorem c_X4_digestOn (E : mm_E) (g : mm_I) (h : mm_L) (b : Int64) (j : Nat) (hj : j < 6) (n : Nat) (hn : n ≤ 40) (hs : g 9 j = nI n) : Cl E yX4_digestOn wsX4_digestOn 0 0 [.ref (E.1 1), .long b, .int (nI j)] g h (sDig (g (39 + j)) (31 * b + (nI n).toInt64) n) g h := by
  refine ci_l (bytes := cX4_digestOn) (maxL := 7) (by decide) rfl (Nat.le_of_ble_eq_true rfl) (fun X cx hR => ?_)
  change Cx E X cX4_digestOn RX4 wsX4_digestOn 7 0 0 at cx
  change JJ E X g h 0 [(0, .ref (E.1 1)), (1, .long b), (3, .int (nI j))] []
  have hinX4 : ∀ w ∈ u_ws RX4 TX4 2, w ∈ wsX4_digestOn := by decide +kernel
  have mc_51 : Cond.constantLong RX4 51 31 ∈ wsX4_digestOn := by decide +kernel
  have mf_16 : Cond.fieldLink RX4 16 (TX4 1).1 (TX4 1).2.1 (TX4 1).2.2.1 ∈ wsX4_digestOn := by decide +kernel
  have mf_11 : Cond.fieldLink RX4 11 (TX4 0).1 (TX4 0).2.1 (TX4 0).2.2.1 ∈ wsX4_digestOn := by decide +kernel
  refine jr_ldc2 cx dX4_digestOn_0 mc_51 ?_
  refine jr_lload_n cx dX4_digestOn_3 1 rfl rfl ?_
  refine jr_lmul cx dX4_digestOn_4 ?_
  refine jr_aload_n cx dX4_digestOn_5 0 rfl rfl ?_
  refine jr_get (f := 1) (v := .ref (E.1 9)) cx dX4_digestOn_6 (by decide) rfl rfl hinX4 (by decide) mf_16 rfl ?_
  refine jr_iload_n cx dX4_digestOn_9 2 rfl rfl ?_
  refine jr_iald cx dX4_digestOn_10 (Or.inl ⟨by decide, by decide⟩) j rfl (show _ < 6 by omega) ?_
  refine jr_top hs ?_
  refine jr_i2l cx dX4_digestOn_11 ?_
  refine jr_ladd cx dX4_digestOn_12 ?_
  refine jr_lstore (L' := [(4, .long ((31 * b) + (Int32.toInt64 (nI n)))), (0, .ref (E.1 1)), (1, .long b), (3, .int (nI j))]) cx dX4_digestOn_13 (by decide) rfl ?_
  refine jr_iconst (v := 0) cx dX4_digestOn_15 (by decide) ?_
  refine jr_istore (L' := [(6, .int 0), (4, .long ((31 * b) + (Int32.toInt64 (nI n)))), (0, .ref (E.1 1)), (1, .long b), (3, .int (nI j))]) cx dX4_digestOn_16 (by decide) rfl ?_
  have key1 : ∀ (fu : Nat) (i : Nat), n + 1 ≤ i + fu → i ≤ n → JJ E X g h 18 [(0, .ref (E.1 1)), (3, .int (nI j)), (4, .long (sDig (g (39 + j)) (31 * b + (nI n).toInt64) i)), (6, .int (nI i))] [] := by
    intro fu
    induction fu with
    | zero => intro i hfu h1; exfalso; omega
    | succ fu ih =>
      intro i hfu h1
      refine jr_iload cx dX4_digestOn_18 3 rfl ?_
      refine jr_aload_n cx dX4_digestOn_20 0 rfl rfl ?_
      refine jr_get (f := 1) (v := .ref (E.1 9)) cx dX4_digestOn_21 (by decide) rfl rfl hinX4 (by decide) mf_16 rfl ?_
      refine jr_iload_n cx dX4_digestOn_24 1 rfl rfl ?_
      refine jr_iald cx dX4_digestOn_25 (Or.inl ⟨by decide, by decide⟩) j rfl (show _ < 6 by omega) ?_
      refine jr_top hs ?_
      refine jr_icmp_ge (tgt := 54) cx dX4_digestOn_26 (by decide) (fun c26 => ?_) (fun c26 => ?_)
      · have n26 : n ≤ i := (nI_leI (a := n) (b := i) (by omega) (by omega)).mp c26
        refine jr_lload cx dX4_digestOn_54 2 rfl ?_
        exact jr_rl (by rw [show i = n by omega]) (by rfl) (by rfl) (hR 56 _ dX4_digestOn_56)
      · have n26 : ¬ (n ≤ i) := fun q => c26 ((nI_leI (a := n) (b := i) (by omega) (by omega)).mpr q)
        refine jr_ldc2 cx dX4_digestOn_29 mc_51 ?_
        refine jr_lload cx dX4_digestOn_32 2 rfl ?_
        refine jr_lmul cx dX4_digestOn_34 ?_
        refine jr_aload_n cx dX4_digestOn_35 0 rfl rfl ?_
        refine jr_get (f := 0) (v := .ref (E.1 33)) cx dX4_digestOn_36 (by decide) rfl rfl hinX4 (by decide) mf_11 rfl ?_
        refine jr_iload_n cx dX4_digestOn_39 1 rfl rfl ?_
        refine jr_aald cx dX4_digestOn_40 ⟨by decide, by decide⟩ j rfl (show j < 6 by omega) (39 + j) rfl ?_
        refine jr_iload cx dX4_digestOn_41 3 rfl ?_
        refine jr_iald cx dX4_digestOn_43 (is_rd (show j < 6 by omega)) i rfl (by rw [ml_rd (show j < 6 by omega)]; omega) ?_
        refine jr_i2l cx dX4_digestOn_44 ?_
        refine jr_ladd cx dX4_digestOn_45 ?_
        refine jr_lstore (L' := [(4, .long ((31 * (sDig (g (39 + j)) (31 * b + (nI n).toInt64) i)) + (Int32.toInt64 (g (39 + j) i)))), (0, .ref (E.1 1)), (3, .int (nI j)), (6, .int (nI i))]) cx dX4_digestOn_46 (by decide) rfl ?_
        refine jr_iinc (n := 3) (v := nI (i + 1)) (L' := [(6, .int (nI (i + 1))), (4, .long ((31 * (sDig (g (39 + j)) (31 * b + (nI n).toInt64) i)) + (Int32.toInt64 (g (39 + j) i)))), (0, .ref (E.1 1)), (3, .int (nI j))]) cx dX4_digestOn_48 rfl (nI_1 _) (by decide) rfl ?_
        refine jr_goto (tgt := 18) cx dX4_digestOn_51 (by decide) ?_
        refine jr_pick (L' := [(0, .ref (E.1 1)), (3, .int (nI j)), (4, .long ((31 * (sDig (g (39 + j)) (31 * b + (nI n).toInt64) i)) + (Int32.toInt64 (g (39 + j) i)))), (6, .int (nI (i + 1)))]) [2, 3, 1, 0] rfl ?_
        have e4 : ((31 * (sDig (g (39 + j)) (31 * b + (nI n).toInt64) i)) + (Int32.toInt64 (g (39 + j) i)) : Int64) = (sDig (g (39 + j)) (31 * b + (nI n).toInt64) (i + 1)) := by rfl
        refine jr_loc (lc_n (lc_n (lc_l e4 (lc_n rfl)))) ?_
        exact ih (i + 1) (by omega) (by omega)
  refine jr_pick (L' := [(0, .ref (E.1 1)), (3, .int (nI j)), (4, .long ((31 * b) + (Int32.toInt64 (nI n)))), (6, .int 0)]) [2, 4, 1, 0] rfl ?_
  have e4 : ((31 * b) + (Int32.toInt64 (nI n)) : Int64) = (sDig (g (39 + j)) (31 * b + (nI n).toInt64) 0) := by rfl
  have e6 : (0 : Int32) = (nI 0) := by rfl
  refine jr_loc (lc_n (lc_n (lc_l e4 (lc_i e6 rfl)))) ?_
  exact key1 (n + 1) 0 (by omega) (by omega)
set_option maxHeartbeats 4000000 in
set_option maxRecDepth 100000 in
theorem c_X4_digestOnM (E : mm_E) (g : mm_I) (h : mm_L) (b : Int64) (j : Nat) (hj : j < 6) (hs : g 9 j = -1) : Cl E yX4_digestOn wsX4_digestOn 0 0 [.ref (E.1 1), .long b, .int (nI j)] g h (31 * b + Int32.toInt64 (-1)) g h := by
  refine ci_l (bytes := cX4_digestOn) (maxL := 7) (by decide) rfl (Nat.le_of_ble_eq_true rfl) (fun X cx hR => ?_)
  change Cx E X cX4_digestOn RX4 wsX4_digestOn 7 0 0 at cx
  change JJ E X g h 0 [(0, .ref (E.1 1)), (1, .long b), (3, .int (nI j))] []
  have hinX4 : ∀ w ∈ u_ws RX4 TX4 2, w ∈ wsX4_digestOn := by decide +kernel
  have mc_51 : Cond.constantLong RX4 51 31 ∈ wsX4_digestOn := by decide +kernel
  have mf_16 : Cond.fieldLink RX4 16 (TX4 1).1 (TX4 1).2.1 (TX4 1).2.2.1 ∈ wsX4_digestOn := by decide +kernel
  refine jr_ldc2 cx dX4_digestOn_0 mc_51 ?_
  refine jr_lload_n cx dX4_digestOn_3 1 rfl rfl ?_
  refine jr_lmul cx dX4_digestOn_4 ?_
  refine jr_aload_n cx dX4_digestOn_5 0 rfl rfl ?_
  refine jr_get (f := 1) (v := .ref (E.1 9)) cx dX4_digestOn_6 (by decide) rfl rfl hinX4 (by decide) mf_16 rfl ?_
  refine jr_iload_n cx dX4_digestOn_9 2 rfl rfl ?_
  refine jr_iald cx dX4_digestOn_10 (Or.inl ⟨by decide, by decide⟩) j rfl (show _ < 6 by omega) ?_
  refine jr_top hs ?_
  refine jr_i2l cx dX4_digestOn_11 ?_
  refine jr_ladd cx dX4_digestOn_12 ?_
  refine jr_lstore (L' := [(4, .long ((31 * b) + (Int32.toInt64 (-1)))), (0, .ref (E.1 1)), (1, .long b), (3, .int (nI j))]) cx dX4_digestOn_13 (by decide) rfl ?_
  refine jr_iconst (v := 0) cx dX4_digestOn_15 (by decide) ?_
  refine jr_istore (L' := [(6, .int 0), (4, .long ((31 * b) + (Int32.toInt64 (-1)))), (0, .ref (E.1 1)), (1, .long b), (3, .int (nI j))]) cx dX4_digestOn_16 (by decide) rfl ?_
  refine jr_iload cx dX4_digestOn_18 0 rfl ?_
  refine jr_aload_n cx dX4_digestOn_20 2 rfl rfl ?_
  refine jr_get (f := 1) (v := .ref (E.1 9)) cx dX4_digestOn_21 (by decide) rfl rfl hinX4 (by decide) mf_16 rfl ?_
  refine jr_iload_n cx dX4_digestOn_24 4 rfl rfl ?_
  refine jr_iald cx dX4_digestOn_25 (Or.inl ⟨by decide, by decide⟩) j rfl (show _ < 6 by omega) ?_
  refine jr_top hs ?_
  refine jr_icmp_ge (tgt := 54) cx dX4_digestOn_26 (by decide) (fun c26 => ?_) (fun c26 => ?_)
  · refine jr_lload cx dX4_digestOn_54 1 rfl ?_
    exact jr_rl (by rfl) (by rfl) (by rfl) (hR 56 _ dX4_digestOn_56)
  · exact absurd (by decide) c26
end
