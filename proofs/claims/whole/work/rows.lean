section
-- ===== PART A: goes FIRST, ahead of the names: the tables' words, and 'selects' of the private methods out of them =====
/-- a private method of a class that the tables say can be made, by its rows of tables_1 -/
def lw_okq (q : MethodName × Nat) : Prop := (q.1.cls ≠ "java/lang/invoke/MethodHandle" ∧ q.1.cls ≠ "java/lang/invoke/VarHandle") ∧ Cond.instantiable q.1.cls q.2 ∈ tables_1 ∧ Cond.privateMethod q.1 ∈ tables_1 ∧ Cond.instanceMethod q.1 ∈ tables_1
theorem lw_p0 : lw_okq (⟨"BathBook", "refuse", "(I)I"⟩, 9) := ⟨⟨by decide +kernel, by decide +kernel⟩, List.mem_of_getElem? (i := 13) (by decide +kernel), List.mem_of_getElem? (i := 155) (by decide +kernel), List.mem_of_getElem? (i := 156) (by decide +kernel)⟩
theorem lw_p1 : lw_okq (⟨"BathBook$Tables", "productWithout", "(III)J"⟩, 3) := ⟨⟨by decide +kernel, by decide +kernel⟩, List.mem_of_getElem? (i := 40) (by decide +kernel), List.mem_of_getElem? (i := 289) (by decide +kernel), List.mem_of_getElem? (i := 290) (by decide +kernel)⟩
theorem lw_p2 : lw_okq (⟨"BathBook$Certificates", "isOverBulb", "(II)Z"⟩, 2) := ⟨⟨by decide +kernel, by decide +kernel⟩, List.mem_of_getElem? (i := 73) (by decide +kernel), List.mem_of_getElem? (i := 362) (by decide +kernel), List.mem_of_getElem? (i := 363) (by decide +kernel)⟩
theorem lw_p3 : lw_okq (⟨"BathBook$Certificates", "restsOnVoid", "(I)Z"⟩, 2) := ⟨⟨by decide +kernel, by decide +kernel⟩, List.mem_of_getElem? (i := 73) (by decide +kernel), List.mem_of_getElem? (i := 430) (by decide +kernel), List.mem_of_getElem? (i := 431) (by decide +kernel)⟩
theorem lw_p4 : lw_okq (⟨"BathBook", "driftRefusal", "(I)I"⟩, 9) := ⟨⟨by decide +kernel, by decide +kernel⟩, List.mem_of_getElem? (i := 13) (by decide +kernel), List.mem_of_getElem? (i := 457) (by decide +kernel), List.mem_of_getElem? (i := 458) (by decide +kernel)⟩
theorem lw_p5 : lw_okq (⟨"BathBook$Certificates", "isOver", "(II)Z"⟩, 2) := ⟨⟨by decide +kernel, by decide +kernel⟩, List.mem_of_getElem? (i := 73) (by decide +kernel), List.mem_of_getElem? (i := 484) (by decide +kernel), List.mem_of_getElem? (i := 485) (by decide +kernel)⟩
theorem lw_p6 : lw_okq (⟨"BathBookModel", "meets", "(I)I"⟩, 30) := ⟨⟨by decide +kernel, by decide +kernel⟩, List.mem_of_getElem? (i := 566) (by decide +kernel), List.mem_of_getElem? (i := 674) (by decide +kernel), List.mem_of_getElem? (i := 675) (by decide +kernel)⟩
theorem lw_p7 : lw_okq (⟨"BathBookModel", "looked", "(I)I"⟩, 30) := ⟨⟨by decide +kernel, by decide +kernel⟩, List.mem_of_getElem? (i := 566) (by decide +kernel), List.mem_of_getElem? (i := 684) (by decide +kernel), List.mem_of_getElem? (i := 685) (by decide +kernel)⟩
theorem lw_p8 : lw_okq (⟨"BathBookModel", "ask", "(JI)I"⟩, 30) := ⟨⟨by decide +kernel, by decide +kernel⟩, List.mem_of_getElem? (i := 566) (by decide +kernel), List.mem_of_getElem? (i := 700) (by decide +kernel), List.mem_of_getElem? (i := 701) (by decide +kernel)⟩
theorem lw_p9 : lw_okq (⟨"BathBookModel", "tell", "(JJI)I"⟩, 30) := ⟨⟨by decide +kernel, by decide +kernel⟩, List.mem_of_getElem? (i := 566) (by decide +kernel), List.mem_of_getElem? (i := 708) (by decide +kernel), List.mem_of_getElem? (i := 709) (by decide +kernel)⟩
theorem lw_p10 : lw_okq (⟨"BathBookModel", "addCurve", "(III)V"⟩, 30) := ⟨⟨by decide +kernel, by decide +kernel⟩, List.mem_of_getElem? (i := 566) (by decide +kernel), List.mem_of_getElem? (i := 736) (by decide +kernel), List.mem_of_getElem? (i := 737) (by decide +kernel)⟩
theorem lw_p11 : lw_okq (⟨"BathBookModel", "add", "(JJ)V"⟩, 30) := ⟨⟨by decide +kernel, by decide +kernel⟩, List.mem_of_getElem? (i := 566) (by decide +kernel), List.mem_of_getElem? (i := 740) (by decide +kernel), List.mem_of_getElem? (i := 741) (by decide +kernel)⟩
theorem lw_p12 : lw_okq (⟨"BathBookModel", "isBulb", "(I)Z"⟩, 30) := ⟨⟨by decide +kernel, by decide +kernel⟩, List.mem_of_getElem? (i := 566) (by decide +kernel), List.mem_of_getElem? (i := 760) (by decide +kernel), List.mem_of_getElem? (i := 761) (by decide +kernel)⟩
theorem lw_p13 : lw_okq (⟨"BathBookModel", "tells", "(II)I"⟩, 30) := ⟨⟨by decide +kernel, by decide +kernel⟩, List.mem_of_getElem? (i := 566) (by decide +kernel), List.mem_of_getElem? (i := 764) (by decide +kernel), List.mem_of_getElem? (i := 765) (by decide +kernel)⟩
theorem lw_p14 : lw_okq (⟨"BathBookModel", "latestOf", "(I)I"⟩, 30) := ⟨⟨by decide +kernel, by decide +kernel⟩, List.mem_of_getElem? (i := 566) (by decide +kernel), List.mem_of_getElem? (i := 768) (by decide +kernel), List.mem_of_getElem? (i := 769) (by decide +kernel)⟩
theorem lw_p15 : lw_okq (⟨"BathBookModel", "lastOf", "(III)I"⟩, 30) := ⟨⟨by decide +kernel, by decide +kernel⟩, List.mem_of_getElem? (i := 566) (by decide +kernel), List.mem_of_getElem? (i := 772) (by decide +kernel), List.mem_of_getElem? (i := 773) (by decide +kernel)⟩
def lw_privs_1 : List (MethodName × Nat) := [(⟨"BathBook", "refuse", "(I)I"⟩, 9), (⟨"BathBook$Tables", "productWithout", "(III)J"⟩, 3), (⟨"BathBook$Certificates", "isOverBulb", "(II)Z"⟩, 2), (⟨"BathBook$Certificates", "restsOnVoid", "(I)Z"⟩, 2), (⟨"BathBook", "driftRefusal", "(I)I"⟩, 9), (⟨"BathBook$Certificates", "isOver", "(II)Z"⟩, 2), (⟨"BathBookModel", "meets", "(I)I"⟩, 30), (⟨"BathBookModel", "looked", "(I)I"⟩, 30), (⟨"BathBookModel", "ask", "(JI)I"⟩, 30), (⟨"BathBookModel", "tell", "(JJI)I"⟩, 30), (⟨"BathBookModel", "addCurve", "(III)V"⟩, 30), (⟨"BathBookModel", "add", "(JJ)V"⟩, 30), (⟨"BathBookModel", "isBulb", "(I)Z"⟩, 30), (⟨"BathBookModel", "tells", "(II)I"⟩, 30), (⟨"BathBookModel", "latestOf", "(I)I"⟩, 30), (⟨"BathBookModel", "lastOf", "(III)I"⟩, 30)]
theorem lw_r1 : ∀ q ∈ lw_privs_1, lw_okq q := List.forall_mem_cons.mpr ⟨lw_p0, List.forall_mem_cons.mpr ⟨lw_p1, List.forall_mem_cons.mpr ⟨lw_p2, List.forall_mem_cons.mpr ⟨lw_p3, List.forall_mem_cons.mpr ⟨lw_p4, List.forall_mem_cons.mpr ⟨lw_p5, List.forall_mem_cons.mpr ⟨lw_p6, List.forall_mem_cons.mpr ⟨lw_p7, List.forall_mem_cons.mpr ⟨lw_p8, List.forall_mem_cons.mpr ⟨lw_p9, List.forall_mem_cons.mpr ⟨lw_p10, List.forall_mem_cons.mpr ⟨lw_p11, List.forall_mem_cons.mpr ⟨lw_p12, List.forall_mem_cons.mpr ⟨lw_p13, List.forall_mem_cons.mpr ⟨lw_p14, List.forall_mem_cons.mpr ⟨lw_p15, fun _ h => absurd h List.not_mem_nil⟩⟩⟩⟩⟩⟩⟩⟩⟩⟩⟩⟩⟩⟩⟩⟩
theorem lw_p16 : lw_okq (⟨"BathBookModel", "is", "(II)Z"⟩, 30) := ⟨⟨by decide +kernel, by decide +kernel⟩, List.mem_of_getElem? (i := 566) (by decide +kernel), List.mem_of_getElem? (i := 780) (by decide +kernel), List.mem_of_getElem? (i := 781) (by decide +kernel)⟩
theorem lw_p17 : lw_okq (⟨"BathBookModel", "restsOn", "(II)Z"⟩, 30) := ⟨⟨by decide +kernel, by decide +kernel⟩, List.mem_of_getElem? (i := 566) (by decide +kernel), List.mem_of_getElem? (i := 784) (by decide +kernel), List.mem_of_getElem? (i := 785) (by decide +kernel)⟩
theorem lw_p18 : lw_okq (⟨"BathBookModel", "isCertificate", "(I)Z"⟩, 30) := ⟨⟨by decide +kernel, by decide +kernel⟩, List.mem_of_getElem? (i := 566) (by decide +kernel), List.mem_of_getElem? (i := 814) (by decide +kernel), List.mem_of_getElem? (i := 815) (by decide +kernel)⟩
theorem lw_p19 : lw_okq (⟨"BathBookModel", "tellsOf", "(II)I"⟩, 30) := ⟨⟨by decide +kernel, by decide +kernel⟩, List.mem_of_getElem? (i := 566) (by decide +kernel), List.mem_of_getElem? (i := 818) (by decide +kernel), List.mem_of_getElem? (i := 819) (by decide +kernel)⟩
theorem lw_p20 : lw_okq (⟨"BathBookModel", "askedTwo", "(I)I"⟩, 30) := ⟨⟨by decide +kernel, by decide +kernel⟩, List.mem_of_getElem? (i := 566) (by decide +kernel), List.mem_of_getElem? (i := 842) (by decide +kernel), List.mem_of_getElem? (i := 843) (by decide +kernel)⟩
theorem lw_p21 : lw_okq (⟨"BathBookModel", "isRing", "(III)Z"⟩, 30) := ⟨⟨by decide +kernel, by decide +kernel⟩, List.mem_of_getElem? (i := 566) (by decide +kernel), List.mem_of_getElem? (i := 866) (by decide +kernel), List.mem_of_getElem? (i := 867) (by decide +kernel)⟩
theorem lw_p22 : lw_okq (⟨"BathBookModel", "over", "(III)I"⟩, 30) := ⟨⟨by decide +kernel, by decide +kernel⟩, List.mem_of_getElem? (i := 566) (by decide +kernel), List.mem_of_getElem? (i := 870) (by decide +kernel), List.mem_of_getElem? (i := 871) (by decide +kernel)⟩
theorem lw_p23 : lw_okq (⟨"BathBookModel", "isClosed", "(III)Z"⟩, 30) := ⟨⟨by decide +kernel, by decide +kernel⟩, List.mem_of_getElem? (i := 566) (by decide +kernel), List.mem_of_getElem? (i := 874) (by decide +kernel), List.mem_of_getElem? (i := 875) (by decide +kernel)⟩
theorem lw_p24 : lw_okq (⟨"BathBookModel", "tellsCount", "(I)I"⟩, 30) := ⟨⟨by decide +kernel, by decide +kernel⟩, List.mem_of_getElem? (i := 566) (by decide +kernel), List.mem_of_getElem? (i := 898) (by decide +kernel), List.mem_of_getElem? (i := 899) (by decide +kernel)⟩
def lw_privs_2 : List (MethodName × Nat) := [(⟨"BathBookModel", "is", "(II)Z"⟩, 30), (⟨"BathBookModel", "restsOn", "(II)Z"⟩, 30), (⟨"BathBookModel", "isCertificate", "(I)Z"⟩, 30), (⟨"BathBookModel", "tellsOf", "(II)I"⟩, 30), (⟨"BathBookModel", "askedTwo", "(I)I"⟩, 30), (⟨"BathBookModel", "isRing", "(III)Z"⟩, 30), (⟨"BathBookModel", "over", "(III)I"⟩, 30), (⟨"BathBookModel", "isClosed", "(III)Z"⟩, 30), (⟨"BathBookModel", "tellsCount", "(I)I"⟩, 30)]
theorem lw_r2 : ∀ q ∈ lw_privs_2, lw_okq q := List.forall_mem_cons.mpr ⟨lw_p16, List.forall_mem_cons.mpr ⟨lw_p17, List.forall_mem_cons.mpr ⟨lw_p18, List.forall_mem_cons.mpr ⟨lw_p19, List.forall_mem_cons.mpr ⟨lw_p20, List.forall_mem_cons.mpr ⟨lw_p21, List.forall_mem_cons.mpr ⟨lw_p22, List.forall_mem_cons.mpr ⟨lw_p23, List.forall_mem_cons.mpr ⟨lw_p24, fun _ h => absurd h List.not_mem_nil⟩⟩⟩⟩⟩⟩⟩⟩⟩
def lw_privs : List (MethodName × Nat) := lw_privs_1 ++ (lw_privs_2)
def lw_tbl : List Cond := k2_sels lw_privs ++ tables_1
theorem lw_privs_ok : ∀ q ∈ lw_privs, lw_okq q := by
  show ∀ q ∈ lw_privs_1 ++ (lw_privs_2), lw_okq q
  exact List.forall_mem_append.mpr ⟨lw_r1, lw_r2⟩
end
section
/-! ===== BEGIN words of one list among another's, by their places ===== -/
theorem goodIn_r {big : List Cond} (ws : List Cond) (ps : List Nat) (hp : ws = ps.filterMap (fun i => big[i]?)) (h : ws.all goodWord = true) : GoodIn big ws := by
  intro w hw
  have h1 := List.all_eq_true.mp h w hw
  rw [hp] at hw
  obtain ⟨i, -, hi⟩ := List.mem_filterMap.mp hw
  have hm : w ∈ big := by first | exact List.mem_of_getElem? hi | exact List.getElem?_mem hi
  exact ⟨hm, good_of_word h1⟩
theorem goodIn_app {big a b : List Cond} (ha : GoodIn big a) (hb : GoodIn big b) : GoodIn big (a ++ b) := fun w h => (List.mem_append.mp h).elim (ha w) (hb w)
theorem goodIn_ca {big a b : List Cond} {c : Cond} (ha : GoodIn big (c :: a)) (hb : GoodIn big b) : GoodIn big (c :: (a ++ b)) := fun w h => (List.mem_cons.mp h).elim (fun e => ha w (List.mem_cons.mpr (Or.inl e))) (fun h => (List.mem_append.mp h).elim (fun h => ha w (List.mem_cons.mpr (Or.inr h))) (hb w))
theorem goodIn_sub {big ws : List Cond} (hm : ∀ w ∈ ws, w ∈ big) (h : ws.all goodWord = true) : GoodIn big ws := fun w hw => ⟨hm w hw, good_of_word (List.all_eq_true.mp h w hw)⟩
/-! ===== END ===== -/

def va_AOA (ty : FieldType) (U : State) : Prop := (Cond.arrayOver (.array ty)).before #[] U = true
theorem va_AOA.use {ty : FieldType} {A : Array Value} {U : State} (h : va_AOA ty U) : (Cond.arrayOver (.array ty)).before A U = true := by
  first | exact va_tabs rfl rfl h | exact h
/-! ===== BEGIN new T[n][m]: the outer array a place, the inner ones among the pooled ===== -/
/-- f, but v at every address of l -/
def vr_up {α : Type} (f : Nat → α) (l : List Nat) (v : α) : Nat → α := fun a => if a ∈ l then v else f a
theorem vr_up_in {α : Type} {f : Nat → α} {l : List Nat} {v : α} {a : Nat} (h : a ∈ l) : vr_up f l v a = v := if_pos h
theorem vr_up_ne {α : Type} {f : Nat → α} {l : List Nat} {v : α} {a : Nat} (h : a ∉ l) : vr_up f l v a = f a := if_neg h
theorem vr_rows {L l : List Nat} {f : Nat → va_E} {e : va_E} (h : ∀ a, a ∈ l → a ∉ L) : va_pl L f ++ l.map (fun a => (a, e)) = va_pl (L ++ l) (vr_up f l e) := by
  unfold va_pl
  rw [List.map_append]
  congr 1
  · apply List.map_congr_left
    intro a ha
    rw [vr_up_ne (fun q => h a q ha)]
  · apply List.map_congr_left
    intro a ha
    rw [vr_up_in ha]
theorem vr_lay {X rows : va_W} {x : Nat × va_E} {pl : va_W} {D : va_G} {cl : List vw_C} {H : Heap} (hP : va_P D cl (((X ++ pl) ++ [x]) ++ rows) H) : va_P D cl ((X ++ [x]) ++ (pl ++ rows)) H := by
  rw [List.append_assoc (X ++ pl)] at hP
  have h := va_P.swap hP
  rw [← List.append_assoc X] at h
  have h2 := va_P.swap h
  rw [List.append_assoc (X ++ [x])] at h2
  exact h2
theorem vr_layD {X rows : va_W} {x : Nat × va_E} {pl : va_W} {A : Nat → Prop} (hD : va_D A (((X ++ pl) ++ [x]) ++ rows)) : va_D A ((X ++ [x]) ++ (pl ++ rows)) := by
  rw [List.append_assoc (X ++ pl)] at hD
  have h := va_D.swap hD
  rw [← List.append_assoc X] at h
  have h2 := va_D.swap h
  rw [List.append_assoc (X ++ [x])] at h2
  exact h2
theorem vr_outer (c : ClassId) (N h0 : Nat) : ∀ i : Nat, Jvm.Free.Multi.outerC c N h0 i = arrV c N (fun j => va_rf (if j < i then some (h0 + 1 + j) else none))
  | 0 => by
    show ({ cls := c, slots := Array.replicate N .null, vm := .none } : Cell) = _
    rw [arrV_new]
    refine congrArg (arrV c N) (funext fun j => ?_)
    simp [va_rf]
  | i + 1 => by
    show (Jvm.Free.Multi.outerC c N h0 i).setSlot i (.ref (h0 + 1 + i)) = _
    rw [vr_outer c N h0 i, arrV_store]
    refine congrArg (arrV c N) (funext fun j => ?_)
    by_cases e : j = i
    · subst e
      simp [updV, va_rf]
    · by_cases h : j < i
      · simp [updV, e, h, Nat.lt_succ_of_lt h]
      · simp [updV, e, h, show ¬ j < i + 1 by omega]
section VGM
variable {p : Program} {l : Launch} {e : Env} {R : Room} {s : State} {m : MethodId} {args : Array Value} {below : List Frame} {meth : Method} {c : Code} {H : Heap} {locs : List Loc} {cells slots : Nat} {Q : State → Prop}
variable {cc : ByteArray} {pc : Nat} {ls : Array Slot} {rest : List Value} {D : va_G} {cl : List vw_C} {A : Nat → Prop} {a : Nat} {tys : List (ClassId × FieldType)} {ws : va_W} {H0 : Heap}
theorem va_mna {X : va_W} {L : List Nat} {f : Nat → va_E} {cc : ByteArray} (hexec : p.tables.exec = Jvm.exec) (hb : c.code = cc) {own : String} {index : Nat} {ty : FieldType} {cy : ClassId} (hown : s.vm.findClass own = some m.cls) (hclink : (Cond.classLink own index ("[" ++ (FieldType.array ty).toString)).before args s = true) (hover : va_AOA ty s) (harr : (Cond.arrayClass ty).before args s = true) (hcy : s.vm.findClass (FieldType.array ty).toString = some cy)
    (hK : va_K D cl tys s) (hP : va_P D cl (X ++ va_pl L f) H) (hD : va_D A (X ++ va_pl L f)) (hS : va_S A H0 H locs) (hA : ∀ q, H0.size ≤ q → A q) {n k : Int32} {N' K' : Nat} {z : vp_A} (hn : ¬ n < 0) (hk : ¬ k < 0) (hN : n.toNatClampNeg = N') (hM : k.toNatClampNeg = K')
    (hb1 : N' * 4 ≤ 536870912) (hb2 : K' * componentBytes ty ≤ 536870912) (hb3 : K' ≤ 536870912) (hdf : fits ty (defaultValue ty) = true) (hdd : (defaultValue ty).isDefault = true) (hcells : cells + (1 + N') ≤ R.cells) (hslots : slots + (N' + N' * K') ≤ R.slots) (hz : ∀ c : ClassId, Jvm.Free.Multi.innerC c K' (defaultValue ty) = vp_cell c z) (hdg : decode cc pc = .ok (.multianewarray index 2, 4))
    (kk : ∀ (q : Nat) (r : Nat → Nat) (cA : ClassId) (H1 : Heap), (∀ i j : Nat, i < N' → j < N' → r i = r j → i = j) → (∀ i : Nat, i < N' → r i ∉ L) → va_K D cl (tys ++ [(cA, .array ty)]) s →
      va_P D cl ((X ++ [(q, .inl (cA, N', .inr (.inr (.inr (.inr (fun i => if i < N' then some (r i) else none))))))]) ++ va_pl (L ++ (List.range N').map r) (vr_up f ((List.range N').map r) (.inl (cy, z)))) H1 → va_D A ((X ++ [(q, .inl (cA, N', .inr (.inr (.inr (.inr (fun i => if i < N' then some (r i) else none))))))]) ++ va_pl (L ++ (List.range N').map r) (vr_up f ((List.range N').map r) (.inl (cy, z)))) → va_S A H0 H1 locs →
      W p l e R s m args below meth c H1 locs (cells + 1 + N') (slots + N' + N' * K') Q (F0 m (pc + 4) ls (.ref q :: rest))) : W p l e R s m args below meth c H locs cells slots Q (F0 m pc ls (.int k :: .int n :: rest)) := by
  subst hN
  subst hM
  intro T hT Xs
  obtain ⟨vm₁, cA, comp, -, fA, fC, hO, -, X', step⟩ := Xs.multianewarray2F hexec hown hclink (va_AOA.use hover) harr (g := F0 m pc ls (.int k :: .int n :: rest)) rfl (by rw [hb]; exact hdg) rfl hn hk hb1 hb2 hb3 hdf hdd hcells hslots
  have ec : some cy = some comp := hcy.symm.trans fC
  cases ec
  generalize hF : Jvm.Free.Multi.fill (T.setVm vm₁) cA cy n.toNatClampNeg k.toNatClampNeg (defaultValue ty) n.toNatClampNeg = F at X' step
  have hTh : (T.setVm vm₁).heap = H := hT
  obtain ⟨f1, f2, -, -⟩ := Jvm.Free.Multi.fill_facts (T.setVm vm₁) cA cy n.toNatClampNeg k.toNatClampNeg (defaultValue ty) n.toNatClampNeg
  rw [hF, hTh] at f1 f2
  have hold : ∀ x : Nat, x < H.size → F.heap[x]? = H[x]? := fun x hx => by
    have := Jvm.Free.Multi.fill_old (T.setVm vm₁) cA cy n.toNatClampNeg k.toNatClampNeg (defaultValue ty) (a := x) (by rw [hTh]; exact hx) n.toNatClampNeg
    rw [hF, hTh] at this
    exact this
  have hrow : ∀ j : Nat, j < n.toNatClampNeg → F.heap[H.size + 1 + j]? = some (vp_cell cy z) := fun j hj => by
    have := Jvm.Free.Multi.fill_inner (T.setVm vm₁) cA cy n.toNatClampNeg k.toNatClampNeg (defaultValue ty) n.toNatClampNeg j hj
    rw [hF, hTh, hz] at this
    exact this
  have hout : Jvm.Free.Multi.outerC cA n.toNatClampNeg H.size n.toNatClampNeg = vp_cell cA (n.toNatClampNeg, .inr (.inr (.inr (.inr (fun i => if i < n.toNatClampNeg then some (H.size + 1 + i) else none))))) := by
    rw [vp_cell_q]
    exact vr_outer cA n.toNatClampNeg H.size n.toNatClampNeg
  rw [hout] at f2
  have hlt : ∀ a, a ∈ L → a < H.size := fun a ha => by
    obtain ⟨k9, hk9⟩ := va_pl_get (X := X) (f := f) ha
    exact (hP k9 _ hk9).lt
  have hnl : ∀ i : Nat, i < n.toNatClampNeg → H.size + 1 + i ∉ L := fun i _ h => by
    have := hlt _ h
    omega
  have hnm : ∀ a, a ∈ (List.range n.toNatClampNeg).map (fun i => H.size + 1 + i) → a ∉ L := fun a ha h => by
    obtain ⟨i, -, rfl⟩ := List.mem_map.mp ha
    have := hlt _ h
    omega
  have hP0 : va_P D cl (X ++ va_pl L f) F.heap := hP.kept (fun k9 x hx => hold x.1 ((hP k9 x hx).lt))
  have hP1 : va_P D cl ((X ++ va_pl L f) ++ [(H.size, .inl (cA, n.toNatClampNeg, .inr (.inr (.inr (.inr (fun i => if i < n.toNatClampNeg then some (H.size + 1 + i) else none))))))]) F.heap := hP0.app (fun k9 x hx => by
    have h0 : k9 < 1 := (List.getElem?_eq_some_iff.mp hx).1
    rw [show k9 = 0 by omega] at hx
    cases hx
    exact f2)
  have hP2 : va_P D cl (((X ++ va_pl L f) ++ [(H.size, .inl (cA, n.toNatClampNeg, .inr (.inr (.inr (.inr (fun i => if i < n.toNatClampNeg then some (H.size + 1 + i) else none))))))]) ++ ((List.range n.toNatClampNeg).map (fun i => H.size + 1 + i)).map (fun a => (a, .inl (cy, z)))) F.heap := hP1.app (fun k9 x hx => by
    obtain ⟨a, ha, rfl⟩ := List.mem_map.mp (List.mem_of_getElem? hx)
    obtain ⟨i, hi, rfl⟩ := List.mem_map.mp ha
    exact hrow i (List.mem_range.mp hi))
  have hD2 : va_D A (((X ++ va_pl L f) ++ [(H.size, .inl (cA, n.toNatClampNeg, .inr (.inr (.inr (.inr (fun i => if i < n.toNatClampNeg then some (H.size + 1 + i) else none))))))]) ++ ((List.range n.toNatClampNeg).map (fun i => H.size + 1 + i)).map (fun a => (a, .inl (cy, z)))) := by
    have hD1 := hD.push (e := .inl (cA, n.toNatClampNeg, .inr (.inr (.inr (.inr (fun i => if i < n.toNatClampNeg then some (H.size + 1 + i) else none)))))) hP rfl (hA _ hS.1)
    generalize hW1 : (X ++ va_pl L f) ++ [(H.size, .inl (cA, n.toNatClampNeg, .inr (.inr (.inr (.inr (fun i => if i < n.toNatClampNeg then some (H.size + 1 + i) else none))))))] = W1 at hD1 hP1 ⊢
    have hle : ∀ (k9 : Nat) (x : Nat × va_E), W1[k9]? = some x → x.1 ≤ H.size := fun k9 x hx => by
      rw [← hW1] at hx
      by_cases hl : k9 < (X ++ va_pl L f).length
      · rw [List.getElem?_append_left hl] at hx
        exact Nat.le_of_lt ((hP k9 x hx).lt)
      · rw [List.getElem?_append_right (by omega)] at hx
        have h0 : k9 - (X ++ va_pl L f).length < 1 := (List.getElem?_eq_some_iff.mp hx).1
        rw [show k9 - (X ++ va_pl L f).length = 0 by omega] at hx
        cases hx
        exact Nat.le_refl _
    have hr : ∀ (k9 : Nat) (x : Nat × va_E), (((List.range n.toNatClampNeg).map (fun i => H.size + 1 + i)).map (fun a => ((a, .inl (cy, z)) : Nat × va_E)))[k9]? = some x → x.1 = H.size + 1 + k9 := fun k9 x hx => by
      rw [List.getElem?_map, List.getElem?_map] at hx
      by_cases h9 : k9 < n.toNatClampNeg
      · rw [List.getElem?_range h9] at hx
        cases hx
        rfl
      · have hn0 : (List.range n.toNatClampNeg)[k9]? = none := List.getElem?_eq_none (by rw [List.length_range]; omega)
        rw [hn0] at hx
        cases hx
    refine ⟨fun i j x y hi hj hxy => ?_, fun k9 x hx => ?_⟩
    · by_cases h1 : i < W1.length <;> by_cases h2 : j < W1.length
      · rw [List.getElem?_append_left h1] at hi
        rw [List.getElem?_append_left h2] at hj
        exact hD1.1 i j x y hi hj hxy
      · rw [List.getElem?_append_left h1] at hi
        rw [List.getElem?_append_right (by omega)] at hj
        have := hle _ _ hi
        have := hr _ _ hj
        omega
      · rw [List.getElem?_append_right (by omega)] at hi
        rw [List.getElem?_append_left h2] at hj
        have := hle _ _ hj
        have := hr _ _ hi
        omega
      · rw [List.getElem?_append_right (by omega)] at hi hj
        have := hr _ _ hi
        have := hr _ _ hj
        omega
    · by_cases h1 : k9 < W1.length
      · rw [List.getElem?_append_left h1] at hx
        exact hD1.2 k9 x hx
      · rw [List.getElem?_append_right (by omega)] at hx
        have := hr _ _ hx
        exact hA _ (by have := hS.1; omega)
  have hAr : ArrOfT s cA (.array ty) := fun N9 z9 => by
    obtain ⟨-, k9, hk9, cm9, hkk9⟩ := (hO 0 0 0).1
    exact ⟨(fun q hq => by cases hq), k9, hk9, cm9, hkk9⟩
  have hK2 : va_K D cl (tys ++ [(cA, .array ty)]) s := ⟨hK.1, fun k9 x hx => by
    by_cases hl : k9 < tys.length
    · rw [List.getElem?_append_left hl] at hx
      exact hK.2 k9 x hx
    · rw [List.getElem?_append_right (by omega)] at hx
      have h0 : k9 - tys.length < 1 := (List.getElem?_eq_some_iff.mp hx).1
      rw [show k9 - tys.length = 0 by omega] at hx
      cases hx
      exact ⟨hAr, fA⟩⟩
  obtain ⟨t, a1, b1⟩ := kk H.size (fun i => H.size + 1 + i) cA F.heap (fun i j _ _ h => by have h9 : H.size + 1 + i = H.size + 1 + j := h; omega) hnl hK2 (by rw [← vr_rows hnm]; exact vr_lay hP2) (by rw [← vr_rows hnm]; exact vr_layD hD2) ⟨by rw [f1]; have := hS.1; omega, fun x h1 h2 => (hold x (Nat.lt_of_lt_of_le h1 hS.1)).trans (hS.2.1 x h1 h2), hS.2.2⟩ F rfl X'
  refine ⟨t, step t ?_, b1⟩
  have e : T.heap.size = H.size := by rw [hT]
  rw [e]
  exact a1
end VGM
/-! ===== END ===== -/

/-! ===== BEGIN printed: names, fields, word lists, decode rows ===== -/
def RX0 : String := "BathBook$Bulbs"
def TX0 : u_T := fun k => match k with
  | 0 => ("BathBook$Bulbs", "kinds", "[I", true)
  | 1 => ("BathBook$Bulbs", "tolerances", "[I", true)
  | _ => ("BathBook$Bulbs", "made", "I", false)
def tyX0 : Nat → FieldType := fun k => match k with
  | 0 => .array .int
  | 1 => .array .int
  | _ => .int
abbrev wsX00 : List Cond := u_ws RX0 TX0 3
theorem nmX0 : ∀ a, a < 3 → ∀ b, b < 3 → a ≠ b → (TX0 a).2.1 ≠ (TX0 b).2.1 := by decide +kernel
theorem tyX0_ok : ∀ k, k < 3 → parseFieldDescriptor (TX0 k).2.2.1 = some (tyX0 k) := by decide +kernel
abbrev cX0_init : ByteArray := prog_2_method_1_code
def yX0_init : MethodName := ⟨RX0, "<init>", "()V"⟩
abbrev cX0_size : ByteArray := prog_2_method_2_code
def yX0_size : MethodName := ⟨RX0, "size", "()I"⟩
abbrev cX0_has : ByteArray := prog_2_method_3_code
def yX0_has : MethodName := ⟨RX0, "has", "(I)Z"⟩
abbrev cX0_add : ByteArray := prog_2_method_4_code
def yX0_add : MethodName := ⟨RX0, "add", "(II)I"⟩
abbrev cX0_kindOf : ByteArray := prog_2_method_5_code
def yX0_kindOf : MethodName := ⟨RX0, "kindOf", "(I)I"⟩
abbrev cX0_toleranceOf : ByteArray := prog_2_method_6_code
def yX0_toleranceOf : MethodName := ⟨RX0, "toleranceOf", "(I)I"⟩
abbrev cX0_isOf : ByteArray := prog_2_method_7_code
def yX0_isOf : MethodName := ⟨RX0, "isOf", "(II)Z"⟩
def RX1 : String := "BathBook$Certificates"
def TX1 : u_T := fun k => match k with
  | 0 => ("BathBook$Certificates", "facts", "[[I", true)
  | _ => ("BathBook$Certificates", "made", "I", false)
def tyX1 : Nat → FieldType := fun k => match k with
  | 0 => .array (.array .int)
  | _ => .int
abbrev wsX10 : List Cond := u_ws RX1 TX1 2
theorem nmX1 : ∀ a, a < 2 → ∀ b, b < 2 → a ≠ b → (TX1 a).2.1 ≠ (TX1 b).2.1 := by decide +kernel
theorem tyX1_ok : ∀ k, k < 2 → parseFieldDescriptor (TX1 k).2.2.1 = some (tyX1 k) := by decide +kernel
abbrev cX1_init : ByteArray := prog_3_method_1_code
def yX1_init : MethodName := ⟨RX1, "<init>", "()V"⟩
abbrev cX1_size : ByteArray := prog_3_method_2_code
def yX1_size : MethodName := ⟨RX1, "size", "()I"⟩
abbrev cX1_has : ByteArray := prog_3_method_3_code
def yX1_has : MethodName := ⟨RX1, "has", "(I)Z"⟩
abbrev cX1_fact : ByteArray := prog_3_method_4_code
def yX1_fact : MethodName := ⟨RX1, "fact", "(II)I"⟩
abbrev cX1_add : ByteArray := prog_3_method_5_code
def yX1_add : MethodName := ⟨RX1, "add", "(IIIIIII)I"⟩
abbrev cX1_lastUntil : ByteArray := prog_3_method_6_code
def yX1_lastUntil : MethodName := ⟨RX1, "lastUntil", "(III)I"⟩
abbrev cX1_latestOf : ByteArray := prog_3_method_7_code
def yX1_latestOf : MethodName := ⟨RX1, "latestOf", "(I)I"⟩
abbrev cX1_countOf : ByteArray := prog_3_method_8_code
def yX1_countOf : MethodName := ⟨RX1, "countOf", "(IIZ)I"⟩
abbrev cX1_rise : ByteArray := prog_3_method_9_code
def yX1_rise : MethodName := ⟨RX1, "rise", "(III)I"⟩
abbrev cX1_makeVoid : ByteArray := prog_3_method_10_code
def yX1_makeVoid : MethodName := ⟨RX1, "makeVoid", "(III)I"⟩
abbrev cX1_restsOnVoid : ByteArray := prog_3_method_11_code
def yX1_restsOnVoid : MethodName := ⟨RX1, "restsOnVoid", "(I)Z"⟩
abbrev cX1_chainLength : ByteArray := prog_3_method_12_code
def yX1_chainLength : MethodName := ⟨RX1, "chainLength", "(I)I"⟩
abbrev cX1_squaredEnds : ByteArray := prog_3_method_13_code
def yX1_squaredEnds : MethodName := ⟨RX1, "squaredEnds", "(I)J"⟩
abbrev cX1_countOver : ByteArray := prog_3_method_14_code
def yX1_countOver : MethodName := ⟨RX1, "countOver", "(I)I"⟩
abbrev cX1_isOver : ByteArray := prog_3_method_15_code
def yX1_isOver : MethodName := ⟨RX1, "isOver", "(II)Z"⟩
abbrev cX1_countOverBulb : ByteArray := prog_3_method_16_code
def yX1_countOverBulb : MethodName := ⟨RX1, "countOverBulb", "(I)I"⟩
abbrev cX1_isOverBulb : ByteArray := prog_3_method_17_code
def yX1_isOverBulb : MethodName := ⟨RX1, "isOverBulb", "(II)Z"⟩
def RX2 : String := "BathBook$Fraction"
def TX2 : u_T := fun k => match k with
  | 0 => ("BathBook$Fraction", "top", "J", false)
  | _ => ("BathBook$Fraction", "bottom", "J", false)
def tyX2 : Nat → FieldType := fun k => match k with
  | 0 => .long
  | _ => .long
abbrev wsX20 : List Cond := u_ws RX2 TX2 2
theorem nmX2 : ∀ a, a < 2 → ∀ b, b < 2 → a ≠ b → (TX2 a).2.1 ≠ (TX2 b).2.1 := by decide +kernel
theorem tyX2_ok : ∀ k, k < 2 → parseFieldDescriptor (TX2 k).2.2.1 = some (tyX2 k) := by decide +kernel
abbrev cX2_init : ByteArray := prog_4_method_1_code
def yX2_init : MethodName := ⟨RX2, "<init>", "()V"⟩
abbrev cX2_tell : ByteArray := prog_4_method_2_code
def yX2_tell : MethodName := ⟨RX2, "tell", "(JJ)V"⟩
def RX3 : String := "BathBook$Round"
def TX3 : u_T := fun k => match k with
  | 0 => ("BathBook$Round", "differences", "[[I", true)
  | _ => ("BathBook$Round", "ends", "[[I", true)
def tyX3 : Nat → FieldType := fun k => match k with
  | 0 => .array (.array .int)
  | _ => .array (.array .int)
abbrev wsX30 : List Cond := u_ws RX3 TX3 2
theorem nmX3 : ∀ a, a < 2 → ∀ b, b < 2 → a ≠ b → (TX3 a).2.1 ≠ (TX3 b).2.1 := by decide +kernel
theorem tyX3_ok : ∀ k, k < 2 → parseFieldDescriptor (TX3 k).2.2.1 = some (tyX3 k) := by decide +kernel
abbrev cX3_init : ByteArray := prog_5_method_1_code
def yX3_init : MethodName := ⟨RX3, "<init>", "()V"⟩
abbrev cX3_put : ByteArray := prog_5_method_2_code
def yX3_put : MethodName := ⟨RX3, "put", "(IIII)V"⟩
abbrev cX3_isKnown : ByteArray := prog_5_method_3_code
def yX3_isKnown : MethodName := ⟨RX3, "isKnown", "(III)Z"⟩
abbrev cX3_gap : ByteArray := prog_5_method_4_code
def yX3_gap : MethodName := ⟨RX3, "gap", "(III)I"⟩
abbrev cX3_isShut : ByteArray := prog_5_method_5_code
def yX3_isShut : MethodName := ⟨RX3, "isShut", "(III)Z"⟩
def RX4 : String := "BathBook$Rows"
def TX4 : u_T := fun k => match k with
  | 0 => ("BathBook$Rows", "readings", "[[I", true)
  | _ => ("BathBook$Rows", "sizes", "[I", true)
def tyX4 : Nat → FieldType := fun k => match k with
  | 0 => .array (.array .int)
  | _ => .array .int
abbrev wsX40 : List Cond := u_ws RX4 TX4 2
theorem nmX4 : ∀ a, a < 2 → ∀ b, b < 2 → a ≠ b → (TX4 a).2.1 ≠ (TX4 b).2.1 := by decide +kernel
theorem tyX4_ok : ∀ k, k < 2 → parseFieldDescriptor (TX4 k).2.2.1 = some (tyX4 k) := by decide +kernel
abbrev cX4_init : ByteArray := prog_6_method_1_code
def yX4_init : MethodName := ⟨RX4, "<init>", "()V"⟩
abbrev cX4_isMissing : ByteArray := prog_6_method_2_code
def yX4_isMissing : MethodName := ⟨RX4, "isMissing", "(I)Z"⟩
abbrev cX4_sizeOf : ByteArray := prog_6_method_3_code
def yX4_sizeOf : MethodName := ⟨RX4, "sizeOf", "(I)I"⟩
abbrev cX4_make : ByteArray := prog_6_method_4_code
def yX4_make : MethodName := ⟨RX4, "make", "(II)V"⟩
abbrev cX4_drop : ByteArray := prog_6_method_5_code
def yX4_drop : MethodName := ⟨RX4, "drop", "(I)V"⟩
abbrev cX4_hasPlaces : ByteArray := prog_6_method_6_code
def yX4_hasPlaces : MethodName := ⟨RX4, "hasPlaces", "(III)Z"⟩
abbrev cX4_readingAt : ByteArray := prog_6_method_7_code
def yX4_readingAt : MethodName := ⟨RX4, "readingAt", "(II)I"⟩
abbrev cX4_put : ByteArray := prog_6_method_8_code
def yX4_put : MethodName := ⟨RX4, "put", "(III)V"⟩
abbrev cX4_carry : ByteArray := prog_6_method_9_code
def yX4_carry : MethodName := ⟨RX4, "carry", "(IIIII)V"⟩
abbrev cX4_heldCount : ByteArray := prog_6_method_10_code
def yX4_heldCount : MethodName := ⟨RX4, "heldCount", "(I)I"⟩
abbrev cX4_heldSum : ByteArray := prog_6_method_11_code
def yX4_heldSum : MethodName := ⟨RX4, "heldSum", "(III)I"⟩
abbrev cX4_mirrorSum : ByteArray := prog_6_method_12_code
def yX4_mirrorSum : MethodName := ⟨RX4, "mirrorSum", "(II)I"⟩
abbrev cX4_longestLevelStart : ByteArray := prog_6_method_13_code
def yX4_longestLevelStart : MethodName := ⟨RX4, "longestLevelStart", "(II)I"⟩
abbrev cX4_levelLength : ByteArray := prog_6_method_14_code
def yX4_levelLength : MethodName := ⟨RX4, "levelLength", "(III)I"⟩
abbrev cX4_presentCount : ByteArray := prog_6_method_15_code
def yX4_presentCount : MethodName := ⟨RX4, "presentCount", "()I"⟩
abbrev cX4_digestOn : ByteArray := prog_6_method_16_code
def yX4_digestOn : MethodName := ⟨RX4, "digestOn", "(JI)J"⟩
def RX5 : String := "BathBook$Tables"
def TX5 : u_T := fun k => match k with
  | 0 => ("BathBook$Tables", "xs", "[[I", true)
  | 1 => ("BathBook$Tables", "ys", "[[I", true)
  | _ => ("BathBook$Tables", "sizes", "[I", true)
def tyX5 : Nat → FieldType := fun k => match k with
  | 0 => .array (.array .int)
  | 1 => .array (.array .int)
  | _ => .array .int
abbrev wsX50 : List Cond := u_ws RX5 TX5 3
theorem nmX5 : ∀ a, a < 3 → ∀ b, b < 3 → a ≠ b → (TX5 a).2.1 ≠ (TX5 b).2.1 := by decide +kernel
theorem tyX5_ok : ∀ k, k < 3 → parseFieldDescriptor (TX5 k).2.2.1 = some (tyX5 k) := by decide +kernel
abbrev cX5_init : ByteArray := prog_7_method_1_code
def yX5_init : MethodName := ⟨RX5, "<init>", "()V"⟩
abbrev cX5_sizeOf : ByteArray := prog_7_method_2_code
def yX5_sizeOf : MethodName := ⟨RX5, "sizeOf", "(I)I"⟩
abbrev cX5_hasX : ByteArray := prog_7_method_3_code
def yX5_hasX : MethodName := ⟨RX5, "hasX", "(II)Z"⟩
abbrev cX5_add : ByteArray := prog_7_method_4_code
def yX5_add : MethodName := ⟨RX5, "add", "(III)I"⟩
abbrev cX5_empty : ByteArray := prog_7_method_5_code
def yX5_empty : MethodName := ⟨RX5, "empty", "(I)I"⟩
abbrev cX5_pointCount : ByteArray := prog_7_method_6_code
def yX5_pointCount : MethodName := ⟨RX5, "pointCount", "()I"⟩
abbrev cX5_commonLower : ByteArray := prog_7_method_7_code
def yX5_commonLower : MethodName := ⟨RX5, "commonLower", "(I)J"⟩
abbrev cX5_worthAt : ByteArray := prog_7_method_8_code
def yX5_worthAt : MethodName := ⟨RX5, "worthAt", "(IIJ)J"⟩
abbrev cX5_productWithout : ByteArray := prog_7_method_9_code
def yX5_productWithout : MethodName := ⟨RX5, "productWithout", "(III)J"⟩
def RX6 : String := "BathBook"
def TX6 : u_T := fun k => match k with
  | 0 => ("BathBook", "rows", "LBathBook$Rows;", true)
  | 1 => ("BathBook", "tables", "LBathBook$Tables;", true)
  | 2 => ("BathBook", "bulbs", "LBathBook$Bulbs;", true)
  | 3 => ("BathBook", "certificates", "LBathBook$Certificates;", true)
  | 4 => ("BathBook", "round", "LBathBook$Round;", true)
  | 5 => ("BathBook", "fraction", "LBathBook$Fraction;", true)
  | 6 => ("BathBook", "findingCounts", "[I", true)
  | 7 => ("BathBook", "lastFinding", "I", false)
  | _ => ("BathBook", "lastAsked", "J", false)
def tyX6 : Nat → FieldType := fun k => match k with
  | 0 => .object "BathBook$Rows"
  | 1 => .object "BathBook$Tables"
  | 2 => .object "BathBook$Bulbs"
  | 3 => .object "BathBook$Certificates"
  | 4 => .object "BathBook$Round"
  | 5 => .object "BathBook$Fraction"
  | 6 => .array .int
  | 7 => .int
  | _ => .long
abbrev wsX60 : List Cond := u_ws RX6 TX6 9
theorem nmX6 : ∀ a, a < 9 → ∀ b, b < 9 → a ≠ b → (TX6 a).2.1 ≠ (TX6 b).2.1 := by decide +kernel
theorem tyX6_ok : ∀ k, k < 9 → parseFieldDescriptor (TX6 k).2.2.1 = some (tyX6 k) := by decide +kernel
abbrev cX6_init : ByteArray := prog_1_method_1_code
def yX6_init : MethodName := ⟨RX6, "<init>", "()V"⟩
abbrev cX6_row : ByteArray := prog_1_method_2_code
def yX6_row : MethodName := ⟨RX6, "row", "(II)I"⟩
abbrev cX6_lay : ByteArray := prog_1_method_3_code
def yX6_lay : MethodName := ⟨RX6, "lay", "(III)I"⟩
abbrev cX6_tear : ByteArray := prog_1_method_4_code
def yX6_tear : MethodName := ⟨RX6, "tear", "(I)I"⟩
abbrev cX6_copy : ByteArray := prog_1_method_5_code
def yX6_copy : MethodName := ⟨RX6, "copy", "(IIIII)I"⟩
abbrev cX6_mean : ByteArray := prog_1_method_6_code
def yX6_mean : MethodName := ⟨RX6, "mean", "(I)I"⟩
abbrev cX6_plateau : ByteArray := prog_1_method_7_code
def yX6_plateau : MethodName := ⟨RX6, "plateau", "(III)I"⟩
abbrev cX6_point : ByteArray := prog_1_method_8_code
def yX6_point : MethodName := ⟨RX6, "point", "(III)I"⟩
abbrev cX6_clear : ByteArray := prog_1_method_9_code
def yX6_clear : MethodName := ⟨RX6, "clear", "(I)I"⟩
abbrev cX6_curve : ByteArray := prog_1_method_10_code
def yX6_curve : MethodName := ⟨RX6, "curve", "(II)I"⟩
abbrev cX6_apart : ByteArray := prog_1_method_11_code
def yX6_apart : MethodName := ⟨RX6, "apart", "(IIII)I"⟩
abbrev cX6_bulb : ByteArray := prog_1_method_12_code
def yX6_bulb : MethodName := ⟨RX6, "bulb", "(II)I"⟩
abbrev cX6_told : ByteArray := prog_1_method_13_code
def yX6_told : MethodName := ⟨RX6, "told", "(II)I"⟩
abbrev cX6_mark : ByteArray := prog_1_method_14_code
def yX6_mark : MethodName := ⟨RX6, "mark", "(II)I"⟩
abbrev cX6_stem : ByteArray := prog_1_method_15_code
def yX6_stem : MethodName := ⟨RX6, "stem", "(IIIII)I"⟩
abbrev cX6_currents : ByteArray := prog_1_method_16_code
def yX6_currents : MethodName := ⟨RX6, "currents", "(IIIII)I"⟩
abbrev cX6_compare : ByteArray := prog_1_method_17_code
def yX6_compare : MethodName := ⟨RX6, "compare", "(II)I"⟩
abbrev cX6_certify : ByteArray := prog_1_method_18_code
def yX6_certify : MethodName := ⟨RX6, "certify", "(IIIIII)I"⟩
abbrev cX6_certificate : ByteArray := prog_1_method_19_code
def yX6_certificate : MethodName := ⟨RX6, "certificate", "(II)I"⟩
abbrev cX6_offset : ByteArray := prog_1_method_20_code
def yX6_offset : MethodName := ⟨RX6, "offset", "(I)I"⟩
abbrev cX6_wrong : ByteArray := prog_1_method_21_code
def yX6_wrong : MethodName := ⟨RX6, "wrong", "(III)I"⟩
abbrev cX6_passes : ByteArray := prog_1_method_22_code
def yX6_passes : MethodName := ⟨RX6, "passes", "(I)I"⟩
abbrev cX6_whole : ByteArray := prog_1_method_23_code
def yX6_whole : MethodName := ⟨RX6, "whole", "(I)I"⟩
abbrev cX6_drift : ByteArray := prog_1_method_24_code
def yX6_drift : MethodName := ⟨RX6, "drift", "(I)I"⟩
abbrev cX6_due : ByteArray := prog_1_method_25_code
def yX6_due : MethodName := ⟨RX6, "due", "(I)I"⟩
abbrev cX6_resting : ByteArray := prog_1_method_26_code
def yX6_resting : MethodName := ⟨RX6, "resting", "(I)I"⟩
abbrev cX6_lab : ByteArray := prog_1_method_27_code
def yX6_lab : MethodName := ⟨RX6, "lab", "(IIII)I"⟩
abbrev cX6_closes : ByteArray := prog_1_method_28_code
def yX6_closes : MethodName := ⟨RX6, "closes", "(III)I"⟩
abbrev cX6_open : ByteArray := prog_1_method_29_code
def yX6_open : MethodName := ⟨RX6, "open", "()I"⟩
abbrev cX6_asked : ByteArray := prog_1_method_30_code
def yX6_asked : MethodName := ⟨RX6, "asked", "()J"⟩
abbrev cX6_upper : ByteArray := prog_1_method_31_code
def yX6_upper : MethodName := ⟨RX6, "upper", "()J"⟩
abbrev cX6_lower : ByteArray := prog_1_method_32_code
def yX6_lower : MethodName := ⟨RX6, "lower", "()J"⟩
abbrev cX6_count : ByteArray := prog_1_method_33_code
def yX6_count : MethodName := ⟨RX6, "count", "(I)I"⟩
abbrev cX6_finding : ByteArray := prog_1_method_34_code
def yX6_finding : MethodName := ⟨RX6, "finding", "()I"⟩
abbrev cX6_findings : ByteArray := prog_1_method_35_code
def yX6_findings : MethodName := ⟨RX6, "findings", "(I)I"⟩
abbrev cX6_digest : ByteArray := prog_1_method_36_code
def yX6_digest : MethodName := ⟨RX6, "digest", "()J"⟩
abbrev cX6_refuse : ByteArray := prog_1_method_37_code
def yX6_refuse : MethodName := ⟨RX6, "refuse", "(I)I"⟩
abbrev cX6_driftRefusal : ByteArray := prog_1_method_38_code
def yX6_driftRefusal : MethodName := ⟨RX6, "driftRefusal", "(I)I"⟩
abbrev cX6_daysWithin : ByteArray := prog_1_method_39_code
def yX6_daysWithin : MethodName := ⟨RX6, "daysWithin", "(JJJJ)J"⟩
abbrev cX6_isBetween : ByteArray := prog_1_method_40_code
def yX6_isBetween : MethodName := ⟨RX6, "isBetween", "(III)Z"⟩
abbrev cX6_isWithin : ByteArray := prog_1_method_41_code
def yX6_isWithin : MethodName := ⟨RX6, "isWithin", "(II)Z"⟩
abbrev cX6_isRow : ByteArray := prog_1_method_42_code
def yX6_isRow : MethodName := ⟨RX6, "isRow", "(I)Z"⟩
abbrev cX6_isTable : ByteArray := prog_1_method_43_code
def yX6_isTable : MethodName := ⟨RX6, "isTable", "(I)Z"⟩
abbrev cX6_isBath : ByteArray := prog_1_method_44_code
def yX6_isBath : MethodName := ⟨RX6, "isBath", "(I)Z"⟩
abbrev cX6_isDay : ByteArray := prog_1_method_45_code
def yX6_isDay : MethodName := ⟨RX6, "isDay", "(I)Z"⟩
abbrev cX6_isLab : ByteArray := prog_1_method_46_code
def yX6_isLab : MethodName := ⟨RX6, "isLab", "(I)Z"⟩
abbrev cX6_greatestDivisor : ByteArray := prog_1_method_47_code
def yX6_greatestDivisor : MethodName := ⟨RX6, "greatestDivisor", "(JJ)J"⟩
abbrev cX6_leastMultiple : ByteArray := prog_1_method_48_code
def yX6_leastMultiple : MethodName := ⟨RX6, "leastMultiple", "(JJ)J"⟩
def RX7 : String := "BathBookModel"
def TX7 : u_T := fun k => match k with
  | 0 => ("BathBookModel", "finding", "I", false)
  | 1 => ("BathBookModel", "findings", "[I", true)
  | 2 => ("BathBookModel", "asked", "J", false)
  | 3 => ("BathBookModel", "upper", "J", false)
  | 4 => ("BathBookModel", "lower", "J", false)
  | 5 => ("BathBookModel", "sizes", "[I", true)
  | 6 => ("BathBookModel", "rows", "[I", true)
  | 7 => ("BathBookModel", "moving", "[I", true)
  | 8 => ("BathBookModel", "points", "[I", true)
  | 9 => ("BathBookModel", "xs", "[I", true)
  | 10 => ("BathBookModel", "ys", "[I", true)
  | 11 => ("BathBookModel", "sumUp", "J", false)
  | 12 => ("BathBookModel", "sumLow", "J", false)
  | 13 => ("BathBookModel", "bulbs", "I", false)
  | 14 => ("BathBookModel", "kinds", "[I", true)
  | 15 => ("BathBookModel", "tolerances", "[I", true)
  | 16 => ("BathBookModel", "certificates", "I", false)
  | 17 => ("BathBookModel", "ofBulb", "[I", true)
  | 18 => ("BathBookModel", "byBulb", "[I", true)
  | 19 => ("BathBookModel", "inBath", "[I", true)
  | 20 => ("BathBookModel", "onDay", "[I", true)
  | 21 => ("BathBookModel", "offsets", "[I", true)
  | 22 => ("BathBookModel", "ends", "[I", true)
  | 23 => ("BathBookModel", "rest", "[I", true)
  | 24 => ("BathBookModel", "isVoid", "[Z", true)
  | 25 => ("BathBookModel", "last", "I", false)
  | 26 => ("BathBookModel", "ahead", "I", false)
  | 27 => ("BathBookModel", "isTold", "[Z", true)
  | 28 => ("BathBookModel", "differences", "[I", true)
  | _ => ("BathBookModel", "labEnds", "[I", true)
def tyX7 : Nat → FieldType := fun k => match k with
  | 0 => .int
  | 1 => .array .int
  | 2 => .long
  | 3 => .long
  | 4 => .long
  | 5 => .array .int
  | 6 => .array .int
  | 7 => .array .int
  | 8 => .array .int
  | 9 => .array .int
  | 10 => .array .int
  | 11 => .long
  | 12 => .long
  | 13 => .int
  | 14 => .array .int
  | 15 => .array .int
  | 16 => .int
  | 17 => .array .int
  | 18 => .array .int
  | 19 => .array .int
  | 20 => .array .int
  | 21 => .array .int
  | 22 => .array .int
  | 23 => .array .int
  | 24 => .array .boolean
  | 25 => .int
  | 26 => .int
  | 27 => .array .boolean
  | 28 => .array .int
  | _ => .array .int
abbrev wsX70 : List Cond := u_ws RX7 TX7 30
theorem nmX7 : ∀ a, a < 30 → ∀ b, b < 30 → a ≠ b → (TX7 a).2.1 ≠ (TX7 b).2.1 := by decide +kernel
theorem tyX7_ok : ∀ k, k < 30 → parseFieldDescriptor (TX7 k).2.2.1 = some (tyX7 k) := by decide +kernel
abbrev cX7_init : ByteArray := prog_9_method_1_code
def yX7_init : MethodName := ⟨RX7, "<init>", "()V"⟩
abbrev cX7_in : ByteArray := prog_9_method_3_code
def yX7_in : MethodName := ⟨RX7, "in", "(III)Z"⟩
abbrev cX7_meets : ByteArray := prog_9_method_4_code
def yX7_meets : MethodName := ⟨RX7, "meets", "(I)I"⟩
abbrev cX7_size : ByteArray := prog_9_method_5_code
def yX7_size : MethodName := ⟨RX7, "size", "(J)J"⟩
abbrev cX7_divisor : ByteArray := prog_9_method_6_code
def yX7_divisor : MethodName := ⟨RX7, "divisor", "(JJ)J"⟩
abbrev cX7_tell : ByteArray := prog_9_method_7_code
def yX7_tell : MethodName := ⟨RX7, "tell", "(JJI)I"⟩
abbrev cX7_ask : ByteArray := prog_9_method_8_code
def yX7_ask : MethodName := ⟨RX7, "ask", "(JI)I"⟩
abbrev cX7_isRow : ByteArray := prog_9_method_9_code
def yX7_isRow : MethodName := ⟨RX7, "isRow", "(I)Z"⟩
abbrev cX7_looked : ByteArray := prog_9_method_10_code
def yX7_looked : MethodName := ⟨RX7, "looked", "(I)I"⟩
abbrev cX7_row : ByteArray := prog_9_method_11_code
def yX7_row : MethodName := ⟨RX7, "row", "(II)I"⟩
abbrev cX7_lay : ByteArray := prog_9_method_12_code
def yX7_lay : MethodName := ⟨RX7, "lay", "(III)I"⟩
abbrev cX7_tear : ByteArray := prog_9_method_13_code
def yX7_tear : MethodName := ⟨RX7, "tear", "(I)I"⟩
abbrev cX7_copy : ByteArray := prog_9_method_14_code
def yX7_copy : MethodName := ⟨RX7, "copy", "(IIIII)I"⟩
abbrev cX7_mean : ByteArray := prog_9_method_15_code
def yX7_mean : MethodName := ⟨RX7, "mean", "(I)I"⟩
abbrev cX7_plateau : ByteArray := prog_9_method_16_code
def yX7_plateau : MethodName := ⟨RX7, "plateau", "(III)I"⟩
abbrev cX7_isTable : ByteArray := prog_9_method_17_code
def yX7_isTable : MethodName := ⟨RX7, "isTable", "(I)Z"⟩
abbrev cX7_isX : ByteArray := prog_9_method_18_code
def yX7_isX : MethodName := ⟨RX7, "isX", "(I)Z"⟩
abbrev cX7_point : ByteArray := prog_9_method_19_code
def yX7_point : MethodName := ⟨RX7, "point", "(III)I"⟩
abbrev cX7_clear : ByteArray := prog_9_method_20_code
def yX7_clear : MethodName := ⟨RX7, "clear", "(I)I"⟩
abbrev cX7_add : ByteArray := prog_9_method_21_code
def yX7_add : MethodName := ⟨RX7, "add", "(JJ)V"⟩
abbrev cX7_addCurve : ByteArray := prog_9_method_22_code
def yX7_addCurve : MethodName := ⟨RX7, "addCurve", "(III)V"⟩
abbrev cX7_curve : ByteArray := prog_9_method_23_code
def yX7_curve : MethodName := ⟨RX7, "curve", "(II)I"⟩
abbrev cX7_isBelow : ByteArray := prog_9_method_24_code
def yX7_isBelow : MethodName := ⟨RX7, "isBelow", "(JJJJ)Z"⟩
abbrev cX7_apart : ByteArray := prog_9_method_25_code
def yX7_apart : MethodName := ⟨RX7, "apart", "(IIII)I"⟩
abbrev cX7_isBulb : ByteArray := prog_9_method_26_code
def yX7_isBulb : MethodName := ⟨RX7, "isBulb", "(I)Z"⟩
abbrev cX7_bulb : ByteArray := prog_9_method_27_code
def yX7_bulb : MethodName := ⟨RX7, "bulb", "(II)I"⟩
abbrev cX7_lastOf : ByteArray := prog_9_method_28_code
def yX7_lastOf : MethodName := ⟨RX7, "lastOf", "(III)I"⟩
abbrev cX7_latestOf : ByteArray := prog_9_method_29_code
def yX7_latestOf : MethodName := ⟨RX7, "latestOf", "(I)I"⟩
abbrev cX7_tells : ByteArray := prog_9_method_30_code
def yX7_tells : MethodName := ⟨RX7, "tells", "(II)I"⟩
abbrev cX7_told : ByteArray := prog_9_method_31_code
def yX7_told : MethodName := ⟨RX7, "told", "(II)I"⟩
abbrev cX7_is : ByteArray := prog_9_method_32_code
def yX7_is : MethodName := ⟨RX7, "is", "(II)Z"⟩
abbrev cX7_restsOn : ByteArray := prog_9_method_33_code
def yX7_restsOn : MethodName := ⟨RX7, "restsOn", "(II)Z"⟩
abbrev cX7_mark : ByteArray := prog_9_method_34_code
def yX7_mark : MethodName := ⟨RX7, "mark", "(II)I"⟩
abbrev cX7_stem : ByteArray := prog_9_method_35_code
def yX7_stem : MethodName := ⟨RX7, "stem", "(IIIII)I"⟩
abbrev cX7_currents : ByteArray := prog_9_method_36_code
def yX7_currents : MethodName := ⟨RX7, "currents", "(IIIII)I"⟩
abbrev cX7_compare : ByteArray := prog_9_method_37_code
def yX7_compare : MethodName := ⟨RX7, "compare", "(II)I"⟩
abbrev cX7_isCertificate : ByteArray := prog_9_method_38_code
def yX7_isCertificate : MethodName := ⟨RX7, "isCertificate", "(I)Z"⟩
abbrev cX7_isDay : ByteArray := prog_9_method_39_code
def yX7_isDay : MethodName := ⟨RX7, "isDay", "(I)Z"⟩
abbrev cX7_certify : ByteArray := prog_9_method_40_code
def yX7_certify : MethodName := ⟨RX7, "certify", "(IIIIII)I"⟩
abbrev cX7_tellsOf : ByteArray := prog_9_method_41_code
def yX7_tellsOf : MethodName := ⟨RX7, "tellsOf", "(II)I"⟩
abbrev cX7_certificate : ByteArray := prog_9_method_42_code
def yX7_certificate : MethodName := ⟨RX7, "certificate", "(II)I"⟩
abbrev cX7_offset : ByteArray := prog_9_method_43_code
def yX7_offset : MethodName := ⟨RX7, "offset", "(I)I"⟩
abbrev cX7_wrong : ByteArray := prog_9_method_44_code
def yX7_wrong : MethodName := ⟨RX7, "wrong", "(III)I"⟩
abbrev cX7_passes : ByteArray := prog_9_method_45_code
def yX7_passes : MethodName := ⟨RX7, "passes", "(I)I"⟩
abbrev cX7_whole : ByteArray := prog_9_method_46_code
def yX7_whole : MethodName := ⟨RX7, "whole", "(I)I"⟩
abbrev cX7_askedTwo : ByteArray := prog_9_method_47_code
def yX7_askedTwo : MethodName := ⟨RX7, "askedTwo", "(I)I"⟩
abbrev cX7_drift : ByteArray := prog_9_method_48_code
def yX7_drift : MethodName := ⟨RX7, "drift", "(I)I"⟩
abbrev cX7_due : ByteArray := prog_9_method_49_code
def yX7_due : MethodName := ⟨RX7, "due", "(I)I"⟩
abbrev cX7_resting : ByteArray := prog_9_method_50_code
def yX7_resting : MethodName := ⟨RX7, "resting", "(I)I"⟩
abbrev cX7_isLab : ByteArray := prog_9_method_51_code
def yX7_isLab : MethodName := ⟨RX7, "isLab", "(I)Z"⟩
abbrev cX7_lab : ByteArray := prog_9_method_52_code
def yX7_lab : MethodName := ⟨RX7, "lab", "(IIII)I"⟩
abbrev cX7_isRing : ByteArray := prog_9_method_53_code
def yX7_isRing : MethodName := ⟨RX7, "isRing", "(III)Z"⟩
abbrev cX7_over : ByteArray := prog_9_method_54_code
def yX7_over : MethodName := ⟨RX7, "over", "(III)I"⟩
abbrev cX7_isClosed : ByteArray := prog_9_method_55_code
def yX7_isClosed : MethodName := ⟨RX7, "isClosed", "(III)Z"⟩
abbrev cX7_closes : ByteArray := prog_9_method_56_code
def yX7_closes : MethodName := ⟨RX7, "closes", "(III)I"⟩
abbrev cX7_open : ByteArray := prog_9_method_57_code
def yX7_open : MethodName := ⟨RX7, "open", "()I"⟩
abbrev cX7_asked : ByteArray := prog_9_method_58_code
def yX7_asked : MethodName := ⟨RX7, "asked", "()J"⟩
abbrev cX7_upper : ByteArray := prog_9_method_59_code
def yX7_upper : MethodName := ⟨RX7, "upper", "()J"⟩
abbrev cX7_lower : ByteArray := prog_9_method_60_code
def yX7_lower : MethodName := ⟨RX7, "lower", "()J"⟩
abbrev cX7_tellsCount : ByteArray := prog_9_method_61_code
def yX7_tellsCount : MethodName := ⟨RX7, "tellsCount", "(I)I"⟩
abbrev cX7_count : ByteArray := prog_9_method_62_code
def yX7_count : MethodName := ⟨RX7, "count", "(I)I"⟩
abbrev cX7_finding : ByteArray := prog_9_method_63_code
def yX7_finding : MethodName := ⟨RX7, "finding", "()I"⟩
abbrev cX7_findings : ByteArray := prog_9_method_64_code
def yX7_findings : MethodName := ⟨RX7, "findings", "(I)I"⟩
abbrev cX7_digest : ByteArray := prog_9_method_65_code
def yX7_digest : MethodName := ⟨RX7, "digest", "()J"⟩
def RJ9 : String := "java/lang/Math"
def TJ9 : u_T := fun k => match k with
  | _ => ("", "", "", false)
def tyJ9 : Nat → FieldType := fun k => match k with
  | _ => .int
abbrev wsJ90 : List Cond := u_ws RJ9 TJ9 0
theorem nmJ9 : ∀ a, a < 0 → ∀ b, b < 0 → a ≠ b → (TJ9 a).2.1 ≠ (TJ9 b).2.1 := by decide +kernel
theorem tyJ9_ok : ∀ k, k < 0 → parseFieldDescriptor (TJ9 k).2.2.1 = some (tyJ9 k) := by decide +kernel
abbrev cJ9_abs_0f7a4 : ByteArray := prog_10_method_59_code
def yJ9_abs_0f7a4 : MethodName := ⟨RJ9, "abs", "(I)I"⟩
abbrev cJ9_abs_067f4 : ByteArray := prog_10_method_61_code
def yJ9_abs_067f4 : MethodName := ⟨RJ9, "abs", "(J)J"⟩
abbrev cJ9_max_7cf53 : ByteArray := prog_10_method_65_code
def yJ9_max_7cf53 : MethodName := ⟨RJ9, "max", "(II)I"⟩
abbrev cJ9_min_7cf53 : ByteArray := prog_10_method_69_code
def yJ9_min_7cf53 : MethodName := ⟨RJ9, "min", "(II)I"⟩
abbrev cJ9_min_f86c9 : ByteArray := prog_10_method_70_code
def yJ9_min_f86c9 : MethodName := ⟨RJ9, "min", "(JJ)J"⟩
def RJ10 : String := "java/lang/System"
def TJ10 : u_T := fun k => match k with
  | _ => ("", "", "", false)
def tyJ10 : Nat → FieldType := fun k => match k with
  | _ => .int
abbrev wsJ100 : List Cond := u_ws RJ10 TJ10 0
theorem nmJ10 : ∀ a, a < 0 → ∀ b, b < 0 → a ≠ b → (TJ10 a).2.1 ≠ (TJ10 b).2.1 := by decide +kernel
theorem tyJ10_ok : ∀ k, k < 0 → parseFieldDescriptor (TJ10 k).2.2.1 = some (tyJ10 k) := by decide +kernel
def RJ7 : String := "java/util/Arrays"
def TJ7 : u_T := fun k => match k with
  | _ => ("", "", "", false)
def tyJ7 : Nat → FieldType := fun k => match k with
  | _ => .int
abbrev wsJ70 : List Cond := u_ws RJ7 TJ7 0
theorem nmJ7 : ∀ a, a < 0 → ∀ b, b < 0 → a ≠ b → (TJ7 a).2.1 ≠ (TJ7 b).2.1 := by decide +kernel
theorem tyJ7_ok : ∀ k, k < 0 → parseFieldDescriptor (TJ7 k).2.2.1 = some (tyJ7 k) := by decide +kernel
abbrev cJ7_fill_53178 : ByteArray := prog_12_method_103_code
def yJ7_fill_53178 : MethodName := ⟨RJ7, "fill", "([II)V"⟩
def RL : String := "BathBookLaw"
abbrev cL_law : ByteArray := code
def yL_law : MethodName := ⟨RL, "law", "([I)Z"⟩
def wsX0_init : List Cond := .code yX0_init cX0_init 1 none :: ([.methodLink RX0 3 objectInit, .instanceMethod objectInit, .code objectInit ⟨#[0xb1]⟩ 1 none, .arrayClass .int, .fieldLink RX0 9 "BathBook$Bulbs" "kinds" "[I", .fieldLink RX0 15 "BathBook$Bulbs" "tolerances" "[I", .fieldLink RX0 18 "BathBook$Bulbs" "made" "I"] ++ wsX00)
def wsX0_size : List Cond := .code yX0_size cX0_size 1 (some .int) :: ([.fieldLink RX0 18 "BathBook$Bulbs" "made" "I"] ++ wsX00)
def wsX6_isBetween : List Cond := .code yX6_isBetween cX6_isBetween 3 (some .boolean) :: ([])
def wsX0_has : List Cond := .code yX0_has cX0_has 2 (some .boolean) :: ([.fieldLink RX0 18 "BathBook$Bulbs" "made" "I", .static yX6_isBetween, .initialized RX6, .code yX6_isBetween cX6_isBetween 3 (some .boolean)] ++ wsX00)
def wsX0_add : List Cond := .code yX0_add cX0_add 3 (some .int) :: ([.fieldLink RX0 9 "BathBook$Bulbs" "kinds" "[I", .fieldLink RX0 18 "BathBook$Bulbs" "made" "I", .fieldLink RX0 15 "BathBook$Bulbs" "tolerances" "[I"] ++ wsX00)
def wsX0_kindOf : List Cond := .code yX0_kindOf cX0_kindOf 2 (some .int) :: ([.fieldLink RX0 9 "BathBook$Bulbs" "kinds" "[I"] ++ wsX00)
def wsX0_toleranceOf : List Cond := .code yX0_toleranceOf cX0_toleranceOf 2 (some .int) :: ([.fieldLink RX0 15 "BathBook$Bulbs" "tolerances" "[I"] ++ wsX00)
def wsX0_isOf : List Cond := .code yX0_isOf cX0_isOf 3 (some .boolean) :: ([.fieldLink RX0 9 "BathBook$Bulbs" "kinds" "[I"] ++ wsX00)
def wsX1_init : List Cond := .code yX1_init cX1_init 1 none :: ([.methodLink RX1 3 objectInit, .instanceMethod objectInit, .code objectInit ⟨#[0xb1]⟩ 1 none, .classLink RX1 11 "[[I", .arrayClass .int, .fieldLink RX1 13 "BathBook$Certificates" "facts" "[[I", .fieldLink RX1 16 "BathBook$Certificates" "made" "I"] ++ wsX10)
def wsX1_size : List Cond := .code yX1_size cX1_size 1 (some .int) :: ([.fieldLink RX1 16 "BathBook$Certificates" "made" "I"] ++ wsX10)
def wsX1_has : List Cond := .code yX1_has cX1_has 2 (some .boolean) :: ([.fieldLink RX1 16 "BathBook$Certificates" "made" "I", .static yX6_isBetween, .initialized RX6, .code yX6_isBetween cX6_isBetween 3 (some .boolean)] ++ wsX10)
def wsX1_fact : List Cond := .code yX1_fact cX1_fact 3 (some .int) :: ([.fieldLink RX1 13 "BathBook$Certificates" "facts" "[[I"] ++ wsX10)
def wsX1_add : List Cond := .code yX1_add cX1_add 9 (some .int) :: ([.fieldLink RX1 13 "BathBook$Certificates" "facts" "[[I", .fieldLink RX1 16 "BathBook$Certificates" "made" "I"] ++ wsX10)
def wsX1_lastUntil : List Cond := .code yX1_lastUntil cX1_lastUntil 5 (some .int) :: ([.fieldLink RX1 16 "BathBook$Certificates" "made" "I", .methodLink RX1 24 Lib.Math.min.name, .static Lib.Math.min.name, .initialized "java/lang/Math", .code Lib.Math.min.name Lib.Math.min.code 2 (some .int), .fieldLink RX1 13 "BathBook$Certificates" "facts" "[[I"] ++ wsX10)
def wsX1_latestOf : List Cond := .code yX1_latestOf cX1_latestOf 2 (some .int) :: ([.constant RX1 30 (100000), .fieldLink RX1 16 "BathBook$Certificates" "made" "I", .methodLink RX1 31 yX1_lastUntil, .instanceMethod yX1_lastUntil, .selects RX1 yX1_lastUntil yX1_lastUntil, .initialized RX1, .code yX1_lastUntil cX1_lastUntil 5 (some .int), .methodLink RX1 24 Lib.Math.min.name, .static Lib.Math.min.name, .initialized "java/lang/Math", .code Lib.Math.min.name Lib.Math.min.code 2 (some .int), .fieldLink RX1 13 "BathBook$Certificates" "facts" "[[I"] ++ wsX10)
def wsX1_countOf : List Cond := .code yX1_countOf cX1_countOf 6 (some .int) :: ([.fieldLink RX1 16 "BathBook$Certificates" "made" "I", .fieldLink RX1 13 "BathBook$Certificates" "facts" "[[I"] ++ wsX10)
def wsX1_rise : List Cond := .code yX1_rise cX1_rise 4 (some .int) :: ([.fieldLink RX1 13 "BathBook$Certificates" "facts" "[[I"] ++ wsX10)
def wsX1_restsOnVoid : List Cond := .code yX1_restsOnVoid cX1_restsOnVoid 3 (some .boolean) :: ([.fieldLink RX1 13 "BathBook$Certificates" "facts" "[[I", .methodLink RX1 39 yX1_has, .instanceMethod yX1_has, .selects RX1 yX1_has yX1_has, .initialized RX1, .code yX1_has cX1_has 2 (some .boolean), .fieldLink RX1 16 "BathBook$Certificates" "made" "I", .static yX6_isBetween, .initialized RX6, .code yX6_isBetween cX6_isBetween 3 (some .boolean)] ++ wsX10)
def wsX1_makeVoid : List Cond := .code yX1_makeVoid cX1_makeVoid 7 (some .int) :: ([.fieldLink RX1 16 "BathBook$Certificates" "made" "I", .fieldLink RX1 13 "BathBook$Certificates" "facts" "[[I", .static yX6_isBetween, .initialized RX6, .code yX6_isBetween cX6_isBetween 3 (some .boolean), .methodLink RX1 35 yX1_restsOnVoid, .instanceMethod yX1_restsOnVoid, .selects RX1 yX1_restsOnVoid yX1_restsOnVoid, .initialized RX1, .code yX1_restsOnVoid cX1_restsOnVoid 3 (some .boolean), .methodLink RX1 39 yX1_has, .instanceMethod yX1_has, .selects RX1 yX1_has yX1_has, .code yX1_has cX1_has 2 (some .boolean)] ++ wsX10)
def wsX1_chainLength : List Cond := .code yX1_chainLength cX1_chainLength 5 (some .int) :: ([.fieldLink RX1 13 "BathBook$Certificates" "facts" "[[I", .methodLink RX1 39 yX1_has, .instanceMethod yX1_has, .selects RX1 yX1_has yX1_has, .initialized RX1, .code yX1_has cX1_has 2 (some .boolean), .fieldLink RX1 16 "BathBook$Certificates" "made" "I", .static yX6_isBetween, .initialized RX6, .code yX6_isBetween cX6_isBetween 3 (some .boolean)] ++ wsX10)
def wsX1_squaredEnds : List Cond := .code yX1_squaredEnds cX1_squaredEnds 8 (some .long) :: ([.fieldLink RX1 13 "BathBook$Certificates" "facts" "[[I", .methodLink RX1 39 yX1_has, .instanceMethod yX1_has, .selects RX1 yX1_has yX1_has, .initialized RX1, .code yX1_has cX1_has 2 (some .boolean), .fieldLink RX1 16 "BathBook$Certificates" "made" "I", .static yX6_isBetween, .initialized RX6, .code yX6_isBetween cX6_isBetween 3 (some .boolean)] ++ wsX10)
def wsX1_isOver : List Cond := .code yX1_isOver cX1_isOver 5 (some .boolean) :: ([.fieldLink RX1 13 "BathBook$Certificates" "facts" "[[I", .methodLink RX1 39 yX1_has, .instanceMethod yX1_has, .selects RX1 yX1_has yX1_has, .initialized RX1, .code yX1_has cX1_has 2 (some .boolean), .fieldLink RX1 16 "BathBook$Certificates" "made" "I", .static yX6_isBetween, .initialized RX6, .code yX6_isBetween cX6_isBetween 3 (some .boolean)] ++ wsX10)
def wsX1_countOver : List Cond := .code yX1_countOver cX1_countOver 4 (some .int) :: ([.fieldLink RX1 16 "BathBook$Certificates" "made" "I", .methodLink RX1 42 yX1_isOver, .instanceMethod yX1_isOver, .selects RX1 yX1_isOver yX1_isOver, .initialized RX1, .code yX1_isOver cX1_isOver 5 (some .boolean), .fieldLink RX1 13 "BathBook$Certificates" "facts" "[[I", .methodLink RX1 39 yX1_has, .instanceMethod yX1_has, .selects RX1 yX1_has yX1_has, .code yX1_has cX1_has 2 (some .boolean), .static yX6_isBetween, .initialized RX6, .code yX6_isBetween cX6_isBetween 3 (some .boolean)] ++ wsX10)
def wsX1_isOverBulb : List Cond := .code yX1_isOverBulb cX1_isOverBulb 5 (some .boolean) :: ([.fieldLink RX1 13 "BathBook$Certificates" "facts" "[[I", .methodLink RX1 39 yX1_has, .instanceMethod yX1_has, .selects RX1 yX1_has yX1_has, .initialized RX1, .code yX1_has cX1_has 2 (some .boolean), .fieldLink RX1 16 "BathBook$Certificates" "made" "I", .static yX6_isBetween, .initialized RX6, .code yX6_isBetween cX6_isBetween 3 (some .boolean)] ++ wsX10)
def wsX1_countOverBulb : List Cond := .code yX1_countOverBulb cX1_countOverBulb 4 (some .int) :: ([.fieldLink RX1 16 "BathBook$Certificates" "made" "I", .fieldLink RX1 13 "BathBook$Certificates" "facts" "[[I", .methodLink RX1 46 yX1_isOverBulb, .instanceMethod yX1_isOverBulb, .selects RX1 yX1_isOverBulb yX1_isOverBulb, .initialized RX1, .code yX1_isOverBulb cX1_isOverBulb 5 (some .boolean), .methodLink RX1 39 yX1_has, .instanceMethod yX1_has, .selects RX1 yX1_has yX1_has, .code yX1_has cX1_has 2 (some .boolean), .static yX6_isBetween, .initialized RX6, .code yX6_isBetween cX6_isBetween 3 (some .boolean)] ++ wsX10)
def wsX2_init : List Cond := .code yX2_init cX2_init 1 none :: ([.methodLink RX2 1 objectInit, .instanceMethod objectInit, .code objectInit ⟨#[0xb1]⟩ 1 none, .fieldLink RX2 7 "BathBook$Fraction" "top" "J", .fieldLink RX2 13 "BathBook$Fraction" "bottom" "J"] ++ wsX20)
def wsX6_greatestDivisor : List Cond := .code yX6_greatestDivisor cX6_greatestDivisor 11 (some .long) :: ([.methodLink RX6 153 Lib.MathLoose.abs_long.x, .static Lib.MathLoose.abs_long.x, .initialized "java/lang/Math", .code Lib.MathLoose.abs_long.x Lib.MathLoose.abs_long.code 2 (some .long)])
def wsX2_tell : List Cond := .code yX2_tell cX2_tell 9 none :: ([.fieldLink RX2 7 "BathBook$Fraction" "top" "J", .fieldLink RX2 13 "BathBook$Fraction" "bottom" "J", .static yX6_greatestDivisor, .initialized RX6, .code yX6_greatestDivisor cX6_greatestDivisor 11 (some .long), .methodLink RX6 153 Lib.MathLoose.abs_long.x, .static Lib.MathLoose.abs_long.x, .initialized "java/lang/Math", .code Lib.MathLoose.abs_long.x Lib.MathLoose.abs_long.code 2 (some .long)] ++ wsX20)
def wsJ7_fill_53178 : List Cond := .code yJ7_fill_53178 cJ7_fill_53178 4 none :: ([])
def wsX3_init : List Cond := .code yX3_init cX3_init 2 none :: ([.methodLink RX3 3 objectInit, .instanceMethod objectInit, .code objectInit ⟨#[0xb1]⟩ 1 none, .classLink RX3 9 "[[I", .arrayClass .int, .fieldLink RX3 11 "BathBook$Round" "differences" "[[I", .fieldLink RX3 16 "BathBook$Round" "ends" "[[I", .methodLink RX3 19 yJ7_fill_53178, .static yJ7_fill_53178, .initialized RJ7, .code yJ7_fill_53178 cJ7_fill_53178 4 none] ++ wsX30)
def wsX3_put : List Cond := .code yX3_put cX3_put 5 none :: ([.fieldLink RX3 11 "BathBook$Round" "differences" "[[I", .fieldLink RX3 16 "BathBook$Round" "ends" "[[I"] ++ wsX30)
def wsX3_isKnown : List Cond := .code yX3_isKnown cX3_isKnown 4 (some .boolean) :: ([.fieldLink RX3 16 "BathBook$Round" "ends" "[[I"] ++ wsX30)
def wsX3_gap : List Cond := .code yX3_gap cX3_gap 4 (some .int) :: ([.fieldLink RX3 11 "BathBook$Round" "differences" "[[I"] ++ wsX30)
def wsX3_isShut : List Cond := .code yX3_isShut cX3_isShut 4 (some .boolean) :: ([.methodLink RX3 29 Lib.Math.abs.name, .static Lib.Math.abs.name, .initialized "java/lang/Math", .code Lib.Math.abs.name Lib.Math.abs.code 1 (some .int), .fieldLink RX3 16 "BathBook$Round" "ends" "[[I", .methodLink RX3 25 yX3_gap, .instanceMethod yX3_gap, .selects RX3 yX3_gap yX3_gap, .initialized RX3, .code yX3_gap cX3_gap 4 (some .int), .fieldLink RX3 11 "BathBook$Round" "differences" "[[I"] ++ wsX30)
def wsX4_init : List Cond := .code yX4_init cX4_init 1 none :: ([.methodLink RX4 3 objectInit, .instanceMethod objectInit, .code objectInit ⟨#[0xb1]⟩ 1 none, .classLink RX4 9 "[[I", .arrayClass .int, .fieldLink RX4 11 "BathBook$Rows" "readings" "[[I", .fieldLink RX4 16 "BathBook$Rows" "sizes" "[I", .methodLink RX4 20 yJ7_fill_53178, .static yJ7_fill_53178, .initialized RJ7, .code yJ7_fill_53178 cJ7_fill_53178 4 none] ++ wsX40)
def wsX4_isMissing : List Cond := .code yX4_isMissing cX4_isMissing 2 (some .boolean) :: ([.fieldLink RX4 16 "BathBook$Rows" "sizes" "[I"] ++ wsX40)
def wsX4_sizeOf : List Cond := .code yX4_sizeOf cX4_sizeOf 2 (some .int) :: ([.fieldLink RX4 16 "BathBook$Rows" "sizes" "[I"] ++ wsX40)
def wsX4_make : List Cond := .code yX4_make cX4_make 3 none :: ([.fieldLink RX4 11 "BathBook$Rows" "readings" "[[I", .fieldLink RX4 16 "BathBook$Rows" "sizes" "[I", .methodLink RX4 20 yJ7_fill_53178, .static yJ7_fill_53178, .initialized RJ7, .code yJ7_fill_53178 cJ7_fill_53178 4 none] ++ wsX40)
def wsX4_drop : List Cond := .code yX4_drop cX4_drop 2 none :: ([.fieldLink RX4 16 "BathBook$Rows" "sizes" "[I"] ++ wsX40)
def wsX4_hasPlaces : List Cond := .code yX4_hasPlaces cX4_hasPlaces 4 (some .boolean) :: ([.fieldLink RX4 16 "BathBook$Rows" "sizes" "[I", .static yX6_isBetween, .initialized RX6, .code yX6_isBetween cX6_isBetween 3 (some .boolean)] ++ wsX40)
def wsX4_readingAt : List Cond := .code yX4_readingAt cX4_readingAt 3 (some .int) :: ([.fieldLink RX4 11 "BathBook$Rows" "readings" "[[I"] ++ wsX40)
def wsX4_put : List Cond := .code yX4_put cX4_put 4 none :: ([.fieldLink RX4 11 "BathBook$Rows" "readings" "[[I"] ++ wsX40)
def wsX4_carry : List Cond := .code yX4_carry cX4_carry 6 none :: ([.fieldLink RX4 11 "BathBook$Rows" "readings" "[[I", .methodLink RX4 30 arraycopyName, .native arraycopyName, .static arraycopyName, .initialized "java/lang/System"] ++ wsX40)
def wsX4_heldCount : List Cond := .code yX4_heldCount cX4_heldCount 4 (some .int) :: ([.fieldLink RX4 16 "BathBook$Rows" "sizes" "[I", .fieldLink RX4 11 "BathBook$Rows" "readings" "[[I"] ++ wsX40)
def wsX4_heldSum : List Cond := .code yX4_heldSum cX4_heldSum 6 (some .int) :: ([.fieldLink RX4 11 "BathBook$Rows" "readings" "[[I"] ++ wsX40)
def wsX4_mirrorSum : List Cond := .code yX4_mirrorSum cX4_mirrorSum 3 (some .int) :: ([.fieldLink RX4 11 "BathBook$Rows" "readings" "[[I", .fieldLink RX4 16 "BathBook$Rows" "sizes" "[I"] ++ wsX40)
def wsX4_levelLength : List Cond := .code yX4_levelLength cX4_levelLength 9 (some .int) :: ([.constant RX4 40 (100000), .constant RX4 41 (-100000), .fieldLink RX4 16 "BathBook$Rows" "sizes" "[I", .fieldLink RX4 11 "BathBook$Rows" "readings" "[[I", .methodLink RX4 42 Lib.Math.min.name, .static Lib.Math.min.name, .initialized "java/lang/Math", .code Lib.Math.min.name Lib.Math.min.code 2 (some .int), .methodLink RX4 48 Lib.Math.max.name, .static Lib.Math.max.name, .code Lib.Math.max.name Lib.Math.max.code 2 (some .int)] ++ wsX40)
def wsX4_longestLevelStart : List Cond := .code yX4_longestLevelStart cX4_longestLevelStart 7 (some .int) :: ([.fieldLink RX4 16 "BathBook$Rows" "sizes" "[I", .methodLink RX4 36 yX4_levelLength, .instanceMethod yX4_levelLength, .selects RX4 yX4_levelLength yX4_levelLength, .initialized RX4, .code yX4_levelLength cX4_levelLength 9 (some .int), .constant RX4 40 (100000), .constant RX4 41 (-100000), .fieldLink RX4 11 "BathBook$Rows" "readings" "[[I", .methodLink RX4 42 Lib.Math.min.name, .static Lib.Math.min.name, .initialized "java/lang/Math", .code Lib.Math.min.name Lib.Math.min.code 2 (some .int), .methodLink RX4 48 Lib.Math.max.name, .static Lib.Math.max.name, .code Lib.Math.max.name Lib.Math.max.code 2 (some .int)] ++ wsX40)
def wsX4_presentCount : List Cond := .code yX4_presentCount cX4_presentCount 3 (some .int) :: ([.fieldLink RX4 16 "BathBook$Rows" "sizes" "[I"] ++ wsX40)
def wsX4_digestOn : List Cond := .code yX4_digestOn cX4_digestOn 7 (some .long) :: ([.constantLong RX4 51 (31), .fieldLink RX4 16 "BathBook$Rows" "sizes" "[I", .fieldLink RX4 11 "BathBook$Rows" "readings" "[[I"] ++ wsX40)
def wsX5_init : List Cond := .code yX5_init cX5_init 1 none :: ([.methodLink RX5 3 objectInit, .instanceMethod objectInit, .code objectInit ⟨#[0xb1]⟩ 1 none, .classLink RX5 9 "[[I", .arrayClass .int, .fieldLink RX5 11 "BathBook$Tables" "xs" "[[I", .fieldLink RX5 16 "BathBook$Tables" "ys" "[[I", .fieldLink RX5 19 "BathBook$Tables" "sizes" "[I"] ++ wsX50)
def wsX5_sizeOf : List Cond := .code yX5_sizeOf cX5_sizeOf 2 (some .int) :: ([.fieldLink RX5 19 "BathBook$Tables" "sizes" "[I"] ++ wsX50)
def wsX5_hasX : List Cond := .code yX5_hasX cX5_hasX 4 (some .boolean) :: ([.fieldLink RX5 19 "BathBook$Tables" "sizes" "[I", .fieldLink RX5 11 "BathBook$Tables" "xs" "[[I"] ++ wsX50)
def wsX5_add : List Cond := .code yX5_add cX5_add 5 (some .int) :: ([.fieldLink RX5 19 "BathBook$Tables" "sizes" "[I", .fieldLink RX5 11 "BathBook$Tables" "xs" "[[I", .fieldLink RX5 16 "BathBook$Tables" "ys" "[[I"] ++ wsX50)
def wsX5_empty : List Cond := .code yX5_empty cX5_empty 3 (some .int) :: ([.fieldLink RX5 19 "BathBook$Tables" "sizes" "[I"] ++ wsX50)
def wsX5_pointCount : List Cond := .code yX5_pointCount cX5_pointCount 3 (some .int) :: ([.fieldLink RX5 19 "BathBook$Tables" "sizes" "[I"] ++ wsX50)
def wsX5_productWithout : List Cond := .code yX5_productWithout cX5_productWithout 7 (some .long) :: ([.fieldLink RX5 19 "BathBook$Tables" "sizes" "[I", .fieldLink RX5 11 "BathBook$Tables" "xs" "[[I"] ++ wsX50)
def wsX6_leastMultiple : List Cond := .code yX6_leastMultiple cX6_leastMultiple 6 (some .long) :: ([.methodLink RX6 153 Lib.MathLoose.abs_long.x, .static Lib.MathLoose.abs_long.x, .initialized "java/lang/Math", .code Lib.MathLoose.abs_long.x Lib.MathLoose.abs_long.code 2 (some .long), .methodLink RX6 283 yX6_greatestDivisor, .static yX6_greatestDivisor, .initialized RX6, .code yX6_greatestDivisor cX6_greatestDivisor 11 (some .long)])
def wsX5_commonLower : List Cond := .code yX5_commonLower cX5_commonLower 5 (some .long) :: ([.fieldLink RX5 19 "BathBook$Tables" "sizes" "[I", .fieldLink RX5 11 "BathBook$Tables" "xs" "[[I", .methodLink RX5 23 yX5_productWithout, .instanceMethod yX5_productWithout, .selects RX5 yX5_productWithout yX5_productWithout, .initialized RX5, .code yX5_productWithout cX5_productWithout 7 (some .long), .static yX6_leastMultiple, .initialized RX6, .code yX6_leastMultiple cX6_leastMultiple 6 (some .long), .methodLink RX6 153 Lib.MathLoose.abs_long.x, .static Lib.MathLoose.abs_long.x, .initialized "java/lang/Math", .code Lib.MathLoose.abs_long.x Lib.MathLoose.abs_long.code 2 (some .long), .methodLink RX6 283 yX6_greatestDivisor, .static yX6_greatestDivisor, .code yX6_greatestDivisor cX6_greatestDivisor 11 (some .long)] ++ wsX50)
def wsX5_worthAt : List Cond := .code yX5_worthAt cX5_worthAt 10 (some .long) :: ([.fieldLink RX5 19 "BathBook$Tables" "sizes" "[I", .fieldLink RX5 11 "BathBook$Tables" "xs" "[[I", .fieldLink RX5 16 "BathBook$Tables" "ys" "[[I", .methodLink RX5 23 yX5_productWithout, .instanceMethod yX5_productWithout, .selects RX5 yX5_productWithout yX5_productWithout, .initialized RX5, .code yX5_productWithout cX5_productWithout 7 (some .long)] ++ wsX50)
def wsX6_init_r1 : List Cond := [Cond.methodLink RX6 1 objectInit, Cond.instanceMethod objectInit, Cond.code objectInit ⟨#[0xb1]⟩ 1 none, Cond.classLink RX6 7 RX4, Cond.instantiable RX4 2, Cond.initialized RX4, Cond.fieldLink RX6 10 "BathBook" "rows" "LBathBook$Rows;", Cond.classLink RX6 16 RX5, Cond.instantiable RX5 3, Cond.initialized RX5, Cond.fieldLink RX6 19 "BathBook" "tables" "LBathBook$Tables;", Cond.classLink RX6 23 RX0, Cond.instantiable RX0 3, Cond.initialized RX0, Cond.fieldLink RX6 26 "BathBook" "bulbs" "LBathBook$Bulbs;", Cond.classLink RX6 30 RX1, Cond.instantiable RX1 2, Cond.initialized RX1, Cond.fieldLink RX6 33 "BathBook" "certificates" "LBathBook$Certificates;", Cond.classLink RX6 37 RX3, Cond.instantiable RX3 2, Cond.initialized RX3, Cond.fieldLink RX6 40 "BathBook" "round" "LBathBook$Round;", Cond.classLink RX6 44 RX2]
def wsX6_init_r2 : List Cond := [Cond.instantiable RX2 2, Cond.initialized RX2, Cond.fieldLink RX6 47 "BathBook" "fraction" "LBathBook$Fraction;", Cond.arrayClass .int, Cond.fieldLink RX6 51 "BathBook" "findingCounts" "[I", Cond.fieldLink RX6 55 "BathBook" "lastFinding" "I", Cond.fieldLink RX6 59 "BathBook" "lastAsked" "J", Cond.methodLink RX6 9 yX4_init, Cond.instanceMethod yX4_init, Cond.code yX4_init cX4_init 1 none, Cond.methodLink RX4 3 objectInit, Cond.classLink RX4 9 "[[I", Cond.fieldLink RX4 11 "BathBook$Rows" "readings" "[[I", Cond.fieldLink RX4 16 "BathBook$Rows" "sizes" "[I", Cond.methodLink RX4 20 yJ7_fill_53178, Cond.static yJ7_fill_53178, Cond.initialized RJ7, Cond.code yJ7_fill_53178 cJ7_fill_53178 4 none, Cond.methodLink RX6 18 yX5_init, Cond.instanceMethod yX5_init, Cond.code yX5_init cX5_init 1 none, Cond.methodLink RX5 3 objectInit, Cond.classLink RX5 9 "[[I", Cond.fieldLink RX5 11 "BathBook$Tables" "xs" "[[I"]
def wsX6_init_r3 : List Cond := [Cond.fieldLink RX5 16 "BathBook$Tables" "ys" "[[I", Cond.fieldLink RX5 19 "BathBook$Tables" "sizes" "[I", Cond.methodLink RX6 25 yX0_init, Cond.instanceMethod yX0_init, Cond.code yX0_init cX0_init 1 none, Cond.methodLink RX0 3 objectInit, Cond.fieldLink RX0 9 "BathBook$Bulbs" "kinds" "[I", Cond.fieldLink RX0 15 "BathBook$Bulbs" "tolerances" "[I", Cond.fieldLink RX0 18 "BathBook$Bulbs" "made" "I", Cond.methodLink RX6 32 yX1_init, Cond.instanceMethod yX1_init, Cond.code yX1_init cX1_init 1 none, Cond.methodLink RX1 3 objectInit, Cond.classLink RX1 11 "[[I", Cond.fieldLink RX1 13 "BathBook$Certificates" "facts" "[[I", Cond.fieldLink RX1 16 "BathBook$Certificates" "made" "I", Cond.methodLink RX6 39 yX3_init, Cond.instanceMethod yX3_init, Cond.code yX3_init cX3_init 2 none, Cond.methodLink RX3 3 objectInit, Cond.classLink RX3 9 "[[I", Cond.fieldLink RX3 11 "BathBook$Round" "differences" "[[I", Cond.fieldLink RX3 16 "BathBook$Round" "ends" "[[I", Cond.methodLink RX3 19 yJ7_fill_53178]
def wsX6_init_r4 : List Cond := [Cond.methodLink RX6 46 yX2_init, Cond.instanceMethod yX2_init, Cond.code yX2_init cX2_init 1 none, Cond.methodLink RX2 1 objectInit, Cond.fieldLink RX2 7 "BathBook$Fraction" "top" "J", Cond.fieldLink RX2 13 "BathBook$Fraction" "bottom" "J"]
def wsX6_init : List Cond := .code yX6_init cX6_init 1 none :: ((wsX6_init_r1 ++ (wsX6_init_r2 ++ (wsX6_init_r3 ++ wsX6_init_r4))) ++ wsX40 ++ wsX60 ++ wsX50 ++ wsX00 ++ wsX10 ++ wsX30 ++ wsX20)
def wsX6_isRow : List Cond := .code yX6_isRow cX6_isRow 1 (some .boolean) :: ([.methodLink RX6 113 yX6_isBetween, .static yX6_isBetween, .initialized RX6, .code yX6_isBetween cX6_isBetween 3 (some .boolean)])
def wsX6_refuse : List Cond := .code yX6_refuse cX6_refuse 2 (some .int) :: ([.fieldLink RX6 55 "BathBook" "lastFinding" "I", .fieldLink RX6 51 "BathBook" "findingCounts" "[I", .methodLink RX6 113 yX6_isBetween, .static yX6_isBetween, .initialized RX6, .code yX6_isBetween cX6_isBetween 3 (some .boolean)] ++ wsX60)
def wsX6_row_r1 : List Cond := [Cond.fieldLink RX6 10 "BathBook" "rows" "LBathBook$Rows;", Cond.methodLink RX6 63 yX6_isRow, Cond.static yX6_isRow, Cond.initialized RX6, Cond.code yX6_isRow cX6_isRow 1 (some .boolean), Cond.methodLink RX6 113 yX6_isBetween, Cond.static yX6_isBetween, Cond.code yX6_isBetween cX6_isBetween 3 (some .boolean), Cond.methodLink RX6 67 yX6_refuse, Cond.instanceMethod yX6_refuse, Cond.selects RX6 yX6_refuse yX6_refuse, Cond.code yX6_refuse cX6_refuse 2 (some .int), Cond.fieldLink RX6 55 "BathBook" "lastFinding" "I", Cond.fieldLink RX6 51 "BathBook" "findingCounts" "[I", Cond.methodLink RX6 71 yX4_make, Cond.instanceMethod yX4_make, Cond.selects RX4 yX4_make yX4_make, Cond.initialized RX4, Cond.code yX4_make cX4_make 3 none, Cond.fieldLink RX4 11 "BathBook$Rows" "readings" "[[I", Cond.fieldLink RX4 16 "BathBook$Rows" "sizes" "[I", Cond.methodLink RX4 20 yJ7_fill_53178, Cond.static yJ7_fill_53178, Cond.initialized RJ7]
def wsX6_row_r2 : List Cond := [Cond.code yJ7_fill_53178 cJ7_fill_53178 4 none]
def wsX6_row : List Cond := .code yX6_row cX6_row 3 (some .int) :: ((wsX6_row_r1 ++ wsX6_row_r2) ++ wsX60 ++ wsX40)
def wsX6_isWithin : List Cond := .code yX6_isWithin cX6_isWithin 2 (some .boolean) :: ([.methodLink RX6 113 yX6_isBetween, .static yX6_isBetween, .initialized RX6, .code yX6_isBetween cX6_isBetween 3 (some .boolean)])
def wsX6_lay_r1 : List Cond := [Cond.constant RX6 75 (100000), Cond.fieldLink RX6 10 "BathBook" "rows" "LBathBook$Rows;", Cond.fieldLink RX6 59 "BathBook" "lastAsked" "J", Cond.methodLink RX6 63 yX6_isRow, Cond.static yX6_isRow, Cond.initialized RX6, Cond.code yX6_isRow cX6_isRow 1 (some .boolean), Cond.methodLink RX6 113 yX6_isBetween, Cond.static yX6_isBetween, Cond.code yX6_isBetween cX6_isBetween 3 (some .boolean), Cond.methodLink RX6 76 yX6_isWithin, Cond.static yX6_isWithin, Cond.code yX6_isWithin cX6_isWithin 2 (some .boolean), Cond.methodLink RX6 80 yX4_isMissing, Cond.instanceMethod yX4_isMissing, Cond.selects RX4 yX4_isMissing yX4_isMissing, Cond.initialized RX4, Cond.code yX4_isMissing cX4_isMissing 2 (some .boolean), Cond.fieldLink RX4 16 "BathBook$Rows" "sizes" "[I", Cond.methodLink RX6 67 yX6_refuse, Cond.instanceMethod yX6_refuse, Cond.selects RX6 yX6_refuse yX6_refuse, Cond.code yX6_refuse cX6_refuse 2 (some .int), Cond.fieldLink RX6 55 "BathBook" "lastFinding" "I"]
def wsX6_lay_r2 : List Cond := [Cond.fieldLink RX6 51 "BathBook" "findingCounts" "[I", Cond.methodLink RX6 83 yX4_hasPlaces, Cond.instanceMethod yX4_hasPlaces, Cond.selects RX4 yX4_hasPlaces yX4_hasPlaces, Cond.code yX4_hasPlaces cX4_hasPlaces 4 (some .boolean), Cond.methodLink RX6 87 yX4_readingAt, Cond.instanceMethod yX4_readingAt, Cond.selects RX4 yX4_readingAt yX4_readingAt, Cond.code yX4_readingAt cX4_readingAt 3 (some .int), Cond.fieldLink RX4 11 "BathBook$Rows" "readings" "[[I", Cond.methodLink RX6 91 yX4_put, Cond.instanceMethod yX4_put, Cond.selects RX4 yX4_put yX4_put, Cond.code yX4_put cX4_put 4 none]
def wsX6_lay : List Cond := .code yX6_lay cX6_lay 4 (some .int) :: ((wsX6_lay_r1 ++ wsX6_lay_r2) ++ wsX60 ++ wsX40)
def wsX6_tear : List Cond := .code yX6_tear cX6_tear 2 (some .int) :: ([.fieldLink RX6 10 "BathBook" "rows" "LBathBook$Rows;", .methodLink RX6 63 yX6_isRow, .static yX6_isRow, .initialized RX6, .code yX6_isRow cX6_isRow 1 (some .boolean), .methodLink RX6 113 yX6_isBetween, .static yX6_isBetween, .code yX6_isBetween cX6_isBetween 3 (some .boolean), .methodLink RX6 80 yX4_isMissing, .instanceMethod yX4_isMissing, .selects RX4 yX4_isMissing yX4_isMissing, .initialized RX4, .code yX4_isMissing cX4_isMissing 2 (some .boolean), .fieldLink RX4 16 "BathBook$Rows" "sizes" "[I", .methodLink RX6 67 yX6_refuse, .instanceMethod yX6_refuse, .selects RX6 yX6_refuse yX6_refuse, .code yX6_refuse cX6_refuse 2 (some .int), .fieldLink RX6 55 "BathBook" "lastFinding" "I", .fieldLink RX6 51 "BathBook" "findingCounts" "[I", .methodLink RX6 95 yX4_drop, .instanceMethod yX4_drop, .selects RX4 yX4_drop yX4_drop, .code yX4_drop cX4_drop 2 none] ++ wsX60 ++ wsX40)
def wsX6_copy_r1 : List Cond := [Cond.fieldLink RX6 10 "BathBook" "rows" "LBathBook$Rows;", Cond.methodLink RX6 63 yX6_isRow, Cond.static yX6_isRow, Cond.initialized RX6, Cond.code yX6_isRow cX6_isRow 1 (some .boolean), Cond.methodLink RX6 113 yX6_isBetween, Cond.static yX6_isBetween, Cond.code yX6_isBetween cX6_isBetween 3 (some .boolean), Cond.methodLink RX6 67 yX6_refuse, Cond.instanceMethod yX6_refuse, Cond.selects RX6 yX6_refuse yX6_refuse, Cond.code yX6_refuse cX6_refuse 2 (some .int), Cond.fieldLink RX6 55 "BathBook" "lastFinding" "I", Cond.fieldLink RX6 51 "BathBook" "findingCounts" "[I", Cond.methodLink RX6 80 yX4_isMissing, Cond.instanceMethod yX4_isMissing, Cond.selects RX4 yX4_isMissing yX4_isMissing, Cond.initialized RX4, Cond.code yX4_isMissing cX4_isMissing 2 (some .boolean), Cond.fieldLink RX4 16 "BathBook$Rows" "sizes" "[I", Cond.methodLink RX6 83 yX4_hasPlaces, Cond.instanceMethod yX4_hasPlaces, Cond.selects RX4 yX4_hasPlaces yX4_hasPlaces, Cond.code yX4_hasPlaces cX4_hasPlaces 4 (some .boolean)]
def wsX6_copy_r2 : List Cond := [Cond.methodLink RX6 99 yX4_carry, Cond.instanceMethod yX4_carry, Cond.selects RX4 yX4_carry yX4_carry, Cond.code yX4_carry cX4_carry 6 none, Cond.fieldLink RX4 11 "BathBook$Rows" "readings" "[[I", Cond.methodLink RX4 30 arraycopyName, Cond.native arraycopyName, Cond.static arraycopyName, Cond.initialized "java/lang/System"]
def wsX6_copy : List Cond := .code yX6_copy cX6_copy 6 (some .int) :: ((wsX6_copy_r1 ++ wsX6_copy_r2) ++ wsX60 ++ wsX40)
def wsX6_mean_r1 : List Cond := [Cond.fieldLink RX6 10 "BathBook" "rows" "LBathBook$Rows;", Cond.fieldLink RX6 59 "BathBook" "lastAsked" "J", Cond.methodLink RX6 63 yX6_isRow, Cond.static yX6_isRow, Cond.initialized RX6, Cond.code yX6_isRow cX6_isRow 1 (some .boolean), Cond.methodLink RX6 113 yX6_isBetween, Cond.static yX6_isBetween, Cond.code yX6_isBetween cX6_isBetween 3 (some .boolean), Cond.methodLink RX6 80 yX4_isMissing, Cond.instanceMethod yX4_isMissing, Cond.selects RX4 yX4_isMissing yX4_isMissing, Cond.initialized RX4, Cond.code yX4_isMissing cX4_isMissing 2 (some .boolean), Cond.fieldLink RX4 16 "BathBook$Rows" "sizes" "[I", Cond.methodLink RX6 67 yX6_refuse, Cond.instanceMethod yX6_refuse, Cond.selects RX6 yX6_refuse yX6_refuse, Cond.code yX6_refuse cX6_refuse 2 (some .int), Cond.fieldLink RX6 55 "BathBook" "lastFinding" "I", Cond.fieldLink RX6 51 "BathBook" "findingCounts" "[I", Cond.methodLink RX6 103 yX4_heldCount, Cond.instanceMethod yX4_heldCount, Cond.selects RX4 yX4_heldCount yX4_heldCount]
def wsX6_mean_r2 : List Cond := [Cond.code yX4_heldCount cX4_heldCount 4 (some .int), Cond.fieldLink RX4 11 "BathBook$Rows" "readings" "[[I", Cond.methodLink RX6 106 yX4_sizeOf, Cond.instanceMethod yX4_sizeOf, Cond.selects RX4 yX4_sizeOf yX4_sizeOf, Cond.code yX4_sizeOf cX4_sizeOf 2 (some .int), Cond.methodLink RX6 109 yX4_heldSum, Cond.instanceMethod yX4_heldSum, Cond.selects RX4 yX4_heldSum yX4_heldSum, Cond.code yX4_heldSum cX4_heldSum 6 (some .int)]
def wsX6_mean : List Cond := .code yX6_mean cX6_mean 3 (some .int) :: ((wsX6_mean_r1 ++ wsX6_mean_r2) ++ wsX60 ++ wsX40)
def wsX6_plateau_r1 : List Cond := [Cond.constant RX6 75 (100000), Cond.fieldLink RX6 10 "BathBook" "rows" "LBathBook$Rows;", Cond.fieldLink RX6 47 "BathBook" "fraction" "LBathBook$Fraction;", Cond.fieldLink RX6 59 "BathBook" "lastAsked" "J", Cond.methodLink RX6 63 yX6_isRow, Cond.static yX6_isRow, Cond.initialized RX6, Cond.code yX6_isRow cX6_isRow 1 (some .boolean), Cond.methodLink RX6 113 yX6_isBetween, Cond.static yX6_isBetween, Cond.code yX6_isBetween cX6_isBetween 3 (some .boolean), Cond.methodLink RX6 80 yX4_isMissing, Cond.instanceMethod yX4_isMissing, Cond.selects RX4 yX4_isMissing yX4_isMissing, Cond.initialized RX4, Cond.code yX4_isMissing cX4_isMissing 2 (some .boolean), Cond.fieldLink RX4 16 "BathBook$Rows" "sizes" "[I", Cond.methodLink RX6 67 yX6_refuse, Cond.instanceMethod yX6_refuse, Cond.selects RX6 yX6_refuse yX6_refuse, Cond.code yX6_refuse cX6_refuse 2 (some .int), Cond.fieldLink RX6 55 "BathBook" "lastFinding" "I", Cond.fieldLink RX6 51 "BathBook" "findingCounts" "[I", Cond.methodLink RX6 116 yX4_longestLevelStart]
def wsX6_plateau_r2 : List Cond := [Cond.instanceMethod yX4_longestLevelStart, Cond.selects RX4 yX4_longestLevelStart yX4_longestLevelStart, Cond.code yX4_longestLevelStart cX4_longestLevelStart 7 (some .int), Cond.methodLink RX4 36 yX4_levelLength, Cond.instanceMethod yX4_levelLength, Cond.selects RX4 yX4_levelLength yX4_levelLength, Cond.code yX4_levelLength cX4_levelLength 9 (some .int), Cond.constant RX4 40 (100000), Cond.constant RX4 41 (-100000), Cond.fieldLink RX4 11 "BathBook$Rows" "readings" "[[I", Cond.methodLink RX4 42 Lib.Math.min.name, Cond.static Lib.Math.min.name, Cond.initialized "java/lang/Math", Cond.code Lib.Math.min.name Lib.Math.min.code 2 (some .int), Cond.methodLink RX4 48 Lib.Math.max.name, Cond.static Lib.Math.max.name, Cond.code Lib.Math.max.name Lib.Math.max.code 2 (some .int), Cond.methodLink RX6 119 yX4_levelLength, Cond.methodLink RX6 109 yX4_heldSum, Cond.instanceMethod yX4_heldSum, Cond.selects RX4 yX4_heldSum yX4_heldSum, Cond.code yX4_heldSum cX4_heldSum 6 (some .int), Cond.methodLink RX6 122 yX2_tell, Cond.instanceMethod yX2_tell]
def wsX6_plateau_r3 : List Cond := [Cond.selects RX2 yX2_tell yX2_tell, Cond.initialized RX2, Cond.code yX2_tell cX2_tell 9 none, Cond.fieldLink RX2 7 "BathBook$Fraction" "top" "J", Cond.fieldLink RX2 13 "BathBook$Fraction" "bottom" "J", Cond.static yX6_greatestDivisor, Cond.code yX6_greatestDivisor cX6_greatestDivisor 11 (some .long), Cond.methodLink RX6 153 Lib.MathLoose.abs_long.x, Cond.static Lib.MathLoose.abs_long.x, Cond.code Lib.MathLoose.abs_long.x Lib.MathLoose.abs_long.code 2 (some .long)]
def wsX6_plateau : List Cond := .code yX6_plateau cX6_plateau 6 (some .int) :: ((wsX6_plateau_r1 ++ (wsX6_plateau_r2 ++ wsX6_plateau_r3)) ++ wsX60 ++ wsX40 ++ wsX20)
def wsX6_isTable : List Cond := .code yX6_isTable cX6_isTable 1 (some .boolean) :: ([.methodLink RX6 113 yX6_isBetween, .static yX6_isBetween, .initialized RX6, .code yX6_isBetween cX6_isBetween 3 (some .boolean)])
def wsX6_point_r1 : List Cond := [Cond.fieldLink RX6 19 "BathBook" "tables" "LBathBook$Tables;", Cond.methodLink RX6 126 yX6_isTable, Cond.static yX6_isTable, Cond.initialized RX6, Cond.code yX6_isTable cX6_isTable 1 (some .boolean), Cond.methodLink RX6 113 yX6_isBetween, Cond.static yX6_isBetween, Cond.code yX6_isBetween cX6_isBetween 3 (some .boolean), Cond.methodLink RX6 76 yX6_isWithin, Cond.static yX6_isWithin, Cond.code yX6_isWithin cX6_isWithin 2 (some .boolean), Cond.methodLink RX6 129 yX5_hasX, Cond.instanceMethod yX5_hasX, Cond.selects RX5 yX5_hasX yX5_hasX, Cond.initialized RX5, Cond.code yX5_hasX cX5_hasX 4 (some .boolean), Cond.fieldLink RX5 19 "BathBook$Tables" "sizes" "[I", Cond.fieldLink RX5 11 "BathBook$Tables" "xs" "[[I", Cond.methodLink RX6 132 yX5_sizeOf, Cond.instanceMethod yX5_sizeOf, Cond.selects RX5 yX5_sizeOf yX5_sizeOf, Cond.code yX5_sizeOf cX5_sizeOf 2 (some .int), Cond.methodLink RX6 133 yX5_add, Cond.instanceMethod yX5_add]
def wsX6_point_r2 : List Cond := [Cond.selects RX5 yX5_add yX5_add, Cond.code yX5_add cX5_add 5 (some .int), Cond.fieldLink RX5 16 "BathBook$Tables" "ys" "[[I"]
def wsX6_point : List Cond := .code yX6_point cX6_point 4 (some .int) :: ((wsX6_point_r1 ++ wsX6_point_r2) ++ wsX60 ++ wsX50)
def wsX6_clear : List Cond := .code yX6_clear cX6_clear 2 (some .int) :: ([.fieldLink RX6 19 "BathBook" "tables" "LBathBook$Tables;", .methodLink RX6 126 yX6_isTable, .static yX6_isTable, .initialized RX6, .code yX6_isTable cX6_isTable 1 (some .boolean), .methodLink RX6 113 yX6_isBetween, .static yX6_isBetween, .code yX6_isBetween cX6_isBetween 3 (some .boolean), .methodLink RX6 136 yX5_empty, .instanceMethod yX5_empty, .selects RX5 yX5_empty yX5_empty, .initialized RX5, .code yX5_empty cX5_empty 3 (some .int), .fieldLink RX5 19 "BathBook$Tables" "sizes" "[I"] ++ wsX60 ++ wsX50)
def wsX6_curve_r1 : List Cond := [Cond.fieldLink RX6 19 "BathBook" "tables" "LBathBook$Tables;", Cond.fieldLink RX6 47 "BathBook" "fraction" "LBathBook$Fraction;", Cond.methodLink RX6 126 yX6_isTable, Cond.static yX6_isTable, Cond.initialized RX6, Cond.code yX6_isTable cX6_isTable 1 (some .boolean), Cond.methodLink RX6 113 yX6_isBetween, Cond.static yX6_isBetween, Cond.code yX6_isBetween cX6_isBetween 3 (some .boolean), Cond.methodLink RX6 76 yX6_isWithin, Cond.static yX6_isWithin, Cond.code yX6_isWithin cX6_isWithin 2 (some .boolean), Cond.methodLink RX6 132 yX5_sizeOf, Cond.instanceMethod yX5_sizeOf, Cond.selects RX5 yX5_sizeOf yX5_sizeOf, Cond.initialized RX5, Cond.code yX5_sizeOf cX5_sizeOf 2 (some .int), Cond.fieldLink RX5 19 "BathBook$Tables" "sizes" "[I", Cond.methodLink RX6 139 yX5_commonLower, Cond.instanceMethod yX5_commonLower, Cond.selects RX5 yX5_commonLower yX5_commonLower, Cond.code yX5_commonLower cX5_commonLower 5 (some .long), Cond.fieldLink RX5 11 "BathBook$Tables" "xs" "[[I", Cond.methodLink RX5 23 yX5_productWithout]
def wsX6_curve_r2 : List Cond := [Cond.instanceMethod yX5_productWithout, Cond.selects RX5 yX5_productWithout yX5_productWithout, Cond.code yX5_productWithout cX5_productWithout 7 (some .long), Cond.static yX6_leastMultiple, Cond.code yX6_leastMultiple cX6_leastMultiple 6 (some .long), Cond.methodLink RX6 153 Lib.MathLoose.abs_long.x, Cond.static Lib.MathLoose.abs_long.x, Cond.initialized "java/lang/Math", Cond.code Lib.MathLoose.abs_long.x Lib.MathLoose.abs_long.code 2 (some .long), Cond.methodLink RX6 283 yX6_greatestDivisor, Cond.static yX6_greatestDivisor, Cond.code yX6_greatestDivisor cX6_greatestDivisor 11 (some .long), Cond.methodLink RX6 143 yX5_worthAt, Cond.instanceMethod yX5_worthAt, Cond.selects RX5 yX5_worthAt yX5_worthAt, Cond.code yX5_worthAt cX5_worthAt 10 (some .long), Cond.fieldLink RX5 16 "BathBook$Tables" "ys" "[[I", Cond.methodLink RX6 122 yX2_tell, Cond.instanceMethod yX2_tell, Cond.selects RX2 yX2_tell yX2_tell, Cond.initialized RX2, Cond.code yX2_tell cX2_tell 9 none, Cond.fieldLink RX2 7 "BathBook$Fraction" "top" "J", Cond.fieldLink RX2 13 "BathBook$Fraction" "bottom" "J"]
def wsX6_curve : List Cond := .code yX6_curve cX6_curve 5 (some .int) :: ((wsX6_curve_r1 ++ wsX6_curve_r2) ++ wsX60 ++ wsX50 ++ wsX20)
def wsX6_apart_r1 : List Cond := [Cond.fieldLink RX6 19 "BathBook" "tables" "LBathBook$Tables;", Cond.constantLong RX6 151 (-1), Cond.methodLink RX6 153 Lib.MathLoose.abs_long.x, Cond.static Lib.MathLoose.abs_long.x, Cond.initialized "java/lang/Math", Cond.code Lib.MathLoose.abs_long.x Lib.MathLoose.abs_long.code 2 (some .long), Cond.fieldLink RX6 47 "BathBook" "fraction" "LBathBook$Fraction;", Cond.methodLink RX6 126 yX6_isTable, Cond.static yX6_isTable, Cond.initialized RX6, Cond.code yX6_isTable cX6_isTable 1 (some .boolean), Cond.methodLink RX6 113 yX6_isBetween, Cond.static yX6_isBetween, Cond.code yX6_isBetween cX6_isBetween 3 (some .boolean), Cond.methodLink RX6 76 yX6_isWithin, Cond.static yX6_isWithin, Cond.code yX6_isWithin cX6_isWithin 2 (some .boolean), Cond.methodLink RX6 132 yX5_sizeOf, Cond.instanceMethod yX5_sizeOf, Cond.selects RX5 yX5_sizeOf yX5_sizeOf, Cond.initialized RX5, Cond.code yX5_sizeOf cX5_sizeOf 2 (some .int), Cond.fieldLink RX5 19 "BathBook$Tables" "sizes" "[I", Cond.methodLink RX6 139 yX5_commonLower]
def wsX6_apart_r2 : List Cond := [Cond.instanceMethod yX5_commonLower, Cond.selects RX5 yX5_commonLower yX5_commonLower, Cond.code yX5_commonLower cX5_commonLower 5 (some .long), Cond.fieldLink RX5 11 "BathBook$Tables" "xs" "[[I", Cond.methodLink RX5 23 yX5_productWithout, Cond.instanceMethod yX5_productWithout, Cond.selects RX5 yX5_productWithout yX5_productWithout, Cond.code yX5_productWithout cX5_productWithout 7 (some .long), Cond.static yX6_leastMultiple, Cond.code yX6_leastMultiple cX6_leastMultiple 6 (some .long), Cond.methodLink RX6 283 yX6_greatestDivisor, Cond.static yX6_greatestDivisor, Cond.code yX6_greatestDivisor cX6_greatestDivisor 11 (some .long), Cond.methodLink RX6 147 yX6_leastMultiple, Cond.methodLink RX6 143 yX5_worthAt, Cond.instanceMethod yX5_worthAt, Cond.selects RX5 yX5_worthAt yX5_worthAt, Cond.code yX5_worthAt cX5_worthAt 10 (some .long), Cond.fieldLink RX5 16 "BathBook$Tables" "ys" "[[I", Cond.methodLink RX6 122 yX2_tell, Cond.instanceMethod yX2_tell, Cond.selects RX2 yX2_tell yX2_tell, Cond.initialized RX2, Cond.code yX2_tell cX2_tell 9 none]
def wsX6_apart_r3 : List Cond := [Cond.fieldLink RX2 7 "BathBook$Fraction" "top" "J", Cond.fieldLink RX2 13 "BathBook$Fraction" "bottom" "J"]
def wsX6_apart : List Cond := .code yX6_apart cX6_apart 13 (some .int) :: ((wsX6_apart_r1 ++ (wsX6_apart_r2 ++ wsX6_apart_r3)) ++ wsX60 ++ wsX50 ++ wsX20)
def wsX6_bulb : List Cond := .code yX6_bulb cX6_bulb 3 (some .int) :: ([.fieldLink RX6 26 "BathBook" "bulbs" "LBathBook$Bulbs;", .methodLink RX6 113 yX6_isBetween, .static yX6_isBetween, .initialized RX6, .code yX6_isBetween cX6_isBetween 3 (some .boolean), .methodLink RX6 159 yX0_size, .instanceMethod yX0_size, .selects RX0 yX0_size yX0_size, .initialized RX0, .code yX0_size cX0_size 1 (some .int), .fieldLink RX0 18 "BathBook$Bulbs" "made" "I", .methodLink RX6 163 yX0_add, .instanceMethod yX0_add, .selects RX0 yX0_add yX0_add, .code yX0_add cX0_add 3 (some .int), .fieldLink RX0 9 "BathBook$Bulbs" "kinds" "[I", .fieldLink RX0 15 "BathBook$Bulbs" "tolerances" "[I"] ++ wsX60 ++ wsX00)
def wsX6_told_r1 : List Cond := [Cond.fieldLink RX6 26 "BathBook" "bulbs" "LBathBook$Bulbs;", Cond.fieldLink RX6 33 "BathBook" "certificates" "LBathBook$Certificates;", Cond.methodLink RX6 165 yX0_has, Cond.instanceMethod yX0_has, Cond.selects RX0 yX0_has yX0_has, Cond.initialized RX0, Cond.code yX0_has cX0_has 2 (some .boolean), Cond.fieldLink RX0 18 "BathBook$Bulbs" "made" "I", Cond.static yX6_isBetween, Cond.initialized RX6, Cond.code yX6_isBetween cX6_isBetween 3 (some .boolean), Cond.methodLink RX6 168 yX0_kindOf, Cond.instanceMethod yX0_kindOf, Cond.selects RX0 yX0_kindOf yX0_kindOf, Cond.code yX0_kindOf cX0_kindOf 2 (some .int), Cond.fieldLink RX0 9 "BathBook$Bulbs" "kinds" "[I", Cond.methodLink RX6 171 yX0_toleranceOf, Cond.instanceMethod yX0_toleranceOf, Cond.selects RX0 yX0_toleranceOf yX0_toleranceOf, Cond.code yX0_toleranceOf cX0_toleranceOf 2 (some .int), Cond.fieldLink RX0 15 "BathBook$Bulbs" "tolerances" "[I", Cond.methodLink RX6 174 yX1_countOf, Cond.instanceMethod yX1_countOf, Cond.selects RX1 yX1_countOf yX1_countOf]
def wsX6_told_r2 : List Cond := [Cond.initialized RX1, Cond.code yX1_countOf cX1_countOf 6 (some .int), Cond.fieldLink RX1 16 "BathBook$Certificates" "made" "I", Cond.fieldLink RX1 13 "BathBook$Certificates" "facts" "[[I", Cond.methodLink RX6 178 yX1_latestOf, Cond.instanceMethod yX1_latestOf, Cond.selects RX1 yX1_latestOf yX1_latestOf, Cond.code yX1_latestOf cX1_latestOf 2 (some .int), Cond.constant RX1 30 (100000), Cond.methodLink RX1 31 yX1_lastUntil, Cond.instanceMethod yX1_lastUntil, Cond.selects RX1 yX1_lastUntil yX1_lastUntil, Cond.code yX1_lastUntil cX1_lastUntil 5 (some .int), Cond.methodLink RX1 24 Lib.Math.min.name, Cond.static Lib.Math.min.name, Cond.initialized "java/lang/Math", Cond.code Lib.Math.min.name Lib.Math.min.code 2 (some .int)]
def wsX6_told : List Cond := .code yX6_told cX6_told 3 (some .int) :: ((wsX6_told_r1 ++ wsX6_told_r2) ++ wsX60 ++ wsX00 ++ wsX10)
def wsX6_mark_r1 : List Cond := [Cond.fieldLink RX6 26 "BathBook" "bulbs" "LBathBook$Bulbs;", Cond.fieldLink RX6 33 "BathBook" "certificates" "LBathBook$Certificates;", Cond.methodLink RX6 165 yX0_has, Cond.instanceMethod yX0_has, Cond.selects RX0 yX0_has yX0_has, Cond.initialized RX0, Cond.code yX0_has cX0_has 2 (some .boolean), Cond.fieldLink RX0 18 "BathBook$Bulbs" "made" "I", Cond.static yX6_isBetween, Cond.initialized RX6, Cond.code yX6_isBetween cX6_isBetween 3 (some .boolean), Cond.methodLink RX6 113 yX6_isBetween, Cond.methodLink RX6 181 yX0_isOf, Cond.instanceMethod yX0_isOf, Cond.selects RX0 yX0_isOf yX0_isOf, Cond.code yX0_isOf cX0_isOf 3 (some .boolean), Cond.fieldLink RX0 9 "BathBook$Bulbs" "kinds" "[I", Cond.methodLink RX6 67 yX6_refuse, Cond.instanceMethod yX6_refuse, Cond.selects RX6 yX6_refuse yX6_refuse, Cond.code yX6_refuse cX6_refuse 2 (some .int), Cond.fieldLink RX6 55 "BathBook" "lastFinding" "I", Cond.fieldLink RX6 51 "BathBook" "findingCounts" "[I", Cond.methodLink RX6 171 yX0_toleranceOf]
def wsX6_mark_r2 : List Cond := [Cond.instanceMethod yX0_toleranceOf, Cond.selects RX0 yX0_toleranceOf yX0_toleranceOf, Cond.code yX0_toleranceOf cX0_toleranceOf 2 (some .int), Cond.fieldLink RX0 15 "BathBook$Bulbs" "tolerances" "[I", Cond.methodLink RX6 174 yX1_countOf, Cond.instanceMethod yX1_countOf, Cond.selects RX1 yX1_countOf yX1_countOf, Cond.initialized RX1, Cond.code yX1_countOf cX1_countOf 6 (some .int), Cond.fieldLink RX1 16 "BathBook$Certificates" "made" "I", Cond.fieldLink RX1 13 "BathBook$Certificates" "facts" "[[I", Cond.methodLink RX6 184 yX1_countOverBulb, Cond.instanceMethod yX1_countOverBulb, Cond.selects RX1 yX1_countOverBulb yX1_countOverBulb, Cond.code yX1_countOverBulb cX1_countOverBulb 4 (some .int), Cond.methodLink RX1 46 yX1_isOverBulb, Cond.instanceMethod yX1_isOverBulb, Cond.selects RX1 yX1_isOverBulb yX1_isOverBulb, Cond.code yX1_isOverBulb cX1_isOverBulb 5 (some .boolean), Cond.methodLink RX1 39 yX1_has, Cond.instanceMethod yX1_has, Cond.selects RX1 yX1_has yX1_has, Cond.code yX1_has cX1_has 2 (some .boolean)]
def wsX6_mark : List Cond := .code yX6_mark cX6_mark 3 (some .int) :: ((wsX6_mark_r1 ++ wsX6_mark_r2) ++ wsX60 ++ wsX00 ++ wsX10)
def wsX6_stem_r1 : List Cond := [Cond.fieldLink RX6 26 "BathBook" "bulbs" "LBathBook$Bulbs;", Cond.constant RX6 75 (100000), Cond.fieldLink RX6 47 "BathBook" "fraction" "LBathBook$Fraction;", Cond.constantLong RX6 187 (100000), Cond.constantLong RX6 189 (16), Cond.methodLink RX6 165 yX0_has, Cond.instanceMethod yX0_has, Cond.selects RX0 yX0_has yX0_has, Cond.initialized RX0, Cond.code yX0_has cX0_has 2 (some .boolean), Cond.fieldLink RX0 18 "BathBook$Bulbs" "made" "I", Cond.static yX6_isBetween, Cond.initialized RX6, Cond.code yX6_isBetween cX6_isBetween 3 (some .boolean), Cond.methodLink RX6 76 yX6_isWithin, Cond.static yX6_isWithin, Cond.code yX6_isWithin cX6_isWithin 2 (some .boolean), Cond.methodLink RX6 113 yX6_isBetween, Cond.methodLink RX6 181 yX0_isOf, Cond.instanceMethod yX0_isOf, Cond.selects RX0 yX0_isOf yX0_isOf, Cond.code yX0_isOf cX0_isOf 3 (some .boolean), Cond.fieldLink RX0 9 "BathBook$Bulbs" "kinds" "[I", Cond.methodLink RX6 67 yX6_refuse]
def wsX6_stem_r2 : List Cond := [Cond.instanceMethod yX6_refuse, Cond.selects RX6 yX6_refuse yX6_refuse, Cond.code yX6_refuse cX6_refuse 2 (some .int), Cond.fieldLink RX6 55 "BathBook" "lastFinding" "I", Cond.fieldLink RX6 51 "BathBook" "findingCounts" "[I", Cond.methodLink RX6 122 yX2_tell, Cond.instanceMethod yX2_tell, Cond.selects RX2 yX2_tell yX2_tell, Cond.initialized RX2, Cond.code yX2_tell cX2_tell 9 none, Cond.fieldLink RX2 7 "BathBook$Fraction" "top" "J", Cond.fieldLink RX2 13 "BathBook$Fraction" "bottom" "J", Cond.static yX6_greatestDivisor, Cond.code yX6_greatestDivisor cX6_greatestDivisor 11 (some .long), Cond.methodLink RX6 153 Lib.MathLoose.abs_long.x, Cond.static Lib.MathLoose.abs_long.x, Cond.initialized "java/lang/Math", Cond.code Lib.MathLoose.abs_long.x Lib.MathLoose.abs_long.code 2 (some .long)]
def wsX6_stem : List Cond := .code yX6_stem cX6_stem 6 (some .int) :: ((wsX6_stem_r1 ++ wsX6_stem_r2) ++ wsX60 ++ wsX00 ++ wsX20)
def wsX6_currents_r1 : List Cond := [Cond.fieldLink RX6 26 "BathBook" "bulbs" "LBathBook$Bulbs;", Cond.constant RX6 75 (100000), Cond.fieldLink RX6 47 "BathBook" "fraction" "LBathBook$Fraction;", Cond.methodLink RX6 165 yX0_has, Cond.instanceMethod yX0_has, Cond.selects RX0 yX0_has yX0_has, Cond.initialized RX0, Cond.code yX0_has cX0_has 2 (some .boolean), Cond.fieldLink RX0 18 "BathBook$Bulbs" "made" "I", Cond.static yX6_isBetween, Cond.initialized RX6, Cond.code yX6_isBetween cX6_isBetween 3 (some .boolean), Cond.methodLink RX6 76 yX6_isWithin, Cond.static yX6_isWithin, Cond.code yX6_isWithin cX6_isWithin 2 (some .boolean), Cond.methodLink RX6 113 yX6_isBetween, Cond.methodLink RX6 181 yX0_isOf, Cond.instanceMethod yX0_isOf, Cond.selects RX0 yX0_isOf yX0_isOf, Cond.code yX0_isOf cX0_isOf 3 (some .boolean), Cond.fieldLink RX0 9 "BathBook$Bulbs" "kinds" "[I", Cond.methodLink RX6 67 yX6_refuse, Cond.instanceMethod yX6_refuse, Cond.selects RX6 yX6_refuse yX6_refuse]
def wsX6_currents_r2 : List Cond := [Cond.code yX6_refuse cX6_refuse 2 (some .int), Cond.fieldLink RX6 55 "BathBook" "lastFinding" "I", Cond.fieldLink RX6 51 "BathBook" "findingCounts" "[I", Cond.methodLink RX6 122 yX2_tell, Cond.instanceMethod yX2_tell, Cond.selects RX2 yX2_tell yX2_tell, Cond.initialized RX2, Cond.code yX2_tell cX2_tell 9 none, Cond.fieldLink RX2 7 "BathBook$Fraction" "top" "J", Cond.fieldLink RX2 13 "BathBook$Fraction" "bottom" "J", Cond.static yX6_greatestDivisor, Cond.code yX6_greatestDivisor cX6_greatestDivisor 11 (some .long), Cond.methodLink RX6 153 Lib.MathLoose.abs_long.x, Cond.static Lib.MathLoose.abs_long.x, Cond.initialized "java/lang/Math", Cond.code Lib.MathLoose.abs_long.x Lib.MathLoose.abs_long.code 2 (some .long)]
def wsX6_currents : List Cond := .code yX6_currents cX6_currents 10 (some .int) :: ((wsX6_currents_r1 ++ wsX6_currents_r2) ++ wsX60 ++ wsX00 ++ wsX20)
def wsX6_compare_r1 : List Cond := [Cond.fieldLink RX6 10 "BathBook" "rows" "LBathBook$Rows;", Cond.fieldLink RX6 47 "BathBook" "fraction" "LBathBook$Fraction;", Cond.constantLong RX6 194 (2), Cond.methodLink RX6 63 yX6_isRow, Cond.static yX6_isRow, Cond.initialized RX6, Cond.code yX6_isRow cX6_isRow 1 (some .boolean), Cond.methodLink RX6 113 yX6_isBetween, Cond.static yX6_isBetween, Cond.code yX6_isBetween cX6_isBetween 3 (some .boolean), Cond.methodLink RX6 80 yX4_isMissing, Cond.instanceMethod yX4_isMissing, Cond.selects RX4 yX4_isMissing yX4_isMissing, Cond.initialized RX4, Cond.code yX4_isMissing cX4_isMissing 2 (some .boolean), Cond.fieldLink RX4 16 "BathBook$Rows" "sizes" "[I", Cond.methodLink RX6 67 yX6_refuse, Cond.instanceMethod yX6_refuse, Cond.selects RX6 yX6_refuse yX6_refuse, Cond.code yX6_refuse cX6_refuse 2 (some .int), Cond.fieldLink RX6 55 "BathBook" "lastFinding" "I", Cond.fieldLink RX6 51 "BathBook" "findingCounts" "[I", Cond.methodLink RX6 106 yX4_sizeOf, Cond.instanceMethod yX4_sizeOf]
def wsX6_compare_r2 : List Cond := [Cond.selects RX4 yX4_sizeOf yX4_sizeOf, Cond.code yX4_sizeOf cX4_sizeOf 2 (some .int), Cond.methodLink RX6 103 yX4_heldCount, Cond.instanceMethod yX4_heldCount, Cond.selects RX4 yX4_heldCount yX4_heldCount, Cond.code yX4_heldCount cX4_heldCount 4 (some .int), Cond.fieldLink RX4 11 "BathBook$Rows" "readings" "[[I", Cond.methodLink RX6 191 yX4_mirrorSum, Cond.instanceMethod yX4_mirrorSum, Cond.selects RX4 yX4_mirrorSum yX4_mirrorSum, Cond.code yX4_mirrorSum cX4_mirrorSum 3 (some .int), Cond.methodLink RX6 122 yX2_tell, Cond.instanceMethod yX2_tell, Cond.selects RX2 yX2_tell yX2_tell, Cond.initialized RX2, Cond.code yX2_tell cX2_tell 9 none, Cond.fieldLink RX2 7 "BathBook$Fraction" "top" "J", Cond.fieldLink RX2 13 "BathBook$Fraction" "bottom" "J", Cond.static yX6_greatestDivisor, Cond.code yX6_greatestDivisor cX6_greatestDivisor 11 (some .long), Cond.methodLink RX6 153 Lib.MathLoose.abs_long.x, Cond.static Lib.MathLoose.abs_long.x, Cond.initialized "java/lang/Math", Cond.code Lib.MathLoose.abs_long.x Lib.MathLoose.abs_long.code 2 (some .long)]
def wsX6_compare : List Cond := .code yX6_compare cX6_compare 5 (some .int) :: ((wsX6_compare_r1 ++ wsX6_compare_r2) ++ wsX60 ++ wsX40 ++ wsX20)
def wsX6_isBath : List Cond := .code yX6_isBath cX6_isBath 1 (some .boolean) :: ([.methodLink RX6 113 yX6_isBetween, .static yX6_isBetween, .initialized RX6, .code yX6_isBetween cX6_isBetween 3 (some .boolean)])
def wsX6_isDay : List Cond := .code yX6_isDay cX6_isDay 1 (some .boolean) :: ([.constant RX6 75 (100000), .methodLink RX6 113 yX6_isBetween, .static yX6_isBetween, .initialized RX6, .code yX6_isBetween cX6_isBetween 3 (some .boolean)])
def wsX6_certify_r1 : List Cond := [Cond.fieldLink RX6 26 "BathBook" "bulbs" "LBathBook$Bulbs;", Cond.fieldLink RX6 33 "BathBook" "certificates" "LBathBook$Certificates;", Cond.methodLink RX6 165 yX0_has, Cond.instanceMethod yX0_has, Cond.selects RX0 yX0_has yX0_has, Cond.initialized RX0, Cond.code yX0_has cX0_has 2 (some .boolean), Cond.fieldLink RX0 18 "BathBook$Bulbs" "made" "I", Cond.static yX6_isBetween, Cond.initialized RX6, Cond.code yX6_isBetween cX6_isBetween 3 (some .boolean), Cond.methodLink RX6 196 yX6_isBath, Cond.static yX6_isBath, Cond.code yX6_isBath cX6_isBath 1 (some .boolean), Cond.methodLink RX6 113 yX6_isBetween, Cond.methodLink RX6 199 yX6_isDay, Cond.static yX6_isDay, Cond.code yX6_isDay cX6_isDay 1 (some .boolean), Cond.constant RX6 75 (100000), Cond.methodLink RX6 76 yX6_isWithin, Cond.static yX6_isWithin, Cond.code yX6_isWithin cX6_isWithin 2 (some .boolean), Cond.methodLink RX6 202 yX1_size, Cond.instanceMethod yX1_size]
def wsX6_certify_r2 : List Cond := [Cond.selects RX1 yX1_size yX1_size, Cond.initialized RX1, Cond.code yX1_size cX1_size 1 (some .int), Cond.fieldLink RX1 16 "BathBook$Certificates" "made" "I", Cond.methodLink RX6 203 yX1_lastUntil, Cond.instanceMethod yX1_lastUntil, Cond.selects RX1 yX1_lastUntil yX1_lastUntil, Cond.code yX1_lastUntil cX1_lastUntil 5 (some .int), Cond.methodLink RX1 24 Lib.Math.min.name, Cond.static Lib.Math.min.name, Cond.initialized "java/lang/Math", Cond.code Lib.Math.min.name Lib.Math.min.code 2 (some .int), Cond.fieldLink RX1 13 "BathBook$Certificates" "facts" "[[I", Cond.methodLink RX6 206 yX1_add, Cond.instanceMethod yX1_add, Cond.selects RX1 yX1_add yX1_add, Cond.code yX1_add cX1_add 9 (some .int)]
def wsX6_certify : List Cond := .code yX6_certify cX6_certify 8 (some .int) :: ((wsX6_certify_r1 ++ wsX6_certify_r2) ++ wsX60 ++ wsX00 ++ wsX10)
def wsX6_certificate : List Cond := .code yX6_certificate cX6_certificate 3 (some .int) :: ([.fieldLink RX6 33 "BathBook" "certificates" "LBathBook$Certificates;", .methodLink RX6 209 yX1_has, .instanceMethod yX1_has, .selects RX1 yX1_has yX1_has, .initialized RX1, .code yX1_has cX1_has 2 (some .boolean), .fieldLink RX1 16 "BathBook$Certificates" "made" "I", .static yX6_isBetween, .initialized RX6, .code yX6_isBetween cX6_isBetween 3 (some .boolean), .methodLink RX6 113 yX6_isBetween, .methodLink RX6 210 yX1_fact, .instanceMethod yX1_fact, .selects RX1 yX1_fact yX1_fact, .code yX1_fact cX1_fact 3 (some .int), .fieldLink RX1 13 "BathBook$Certificates" "facts" "[[I"] ++ wsX60 ++ wsX10)
def wsX6_offset : List Cond := .code yX6_offset cX6_offset 2 (some .int) :: ([.fieldLink RX6 33 "BathBook" "certificates" "LBathBook$Certificates;", .fieldLink RX6 59 "BathBook" "lastAsked" "J", .methodLink RX6 209 yX1_has, .instanceMethod yX1_has, .selects RX1 yX1_has yX1_has, .initialized RX1, .code yX1_has cX1_has 2 (some .boolean), .fieldLink RX1 16 "BathBook$Certificates" "made" "I", .static yX6_isBetween, .initialized RX6, .code yX6_isBetween cX6_isBetween 3 (some .boolean), .methodLink RX6 210 yX1_fact, .instanceMethod yX1_fact, .selects RX1 yX1_fact yX1_fact, .code yX1_fact cX1_fact 3 (some .int), .fieldLink RX1 13 "BathBook$Certificates" "facts" "[[I"] ++ wsX60 ++ wsX10)
def wsX6_wrong_r1 : List Cond := [Cond.fieldLink RX6 33 "BathBook" "certificates" "LBathBook$Certificates;", Cond.methodLink RX6 196 yX6_isBath, Cond.static yX6_isBath, Cond.initialized RX6, Cond.code yX6_isBath cX6_isBath 1 (some .boolean), Cond.methodLink RX6 113 yX6_isBetween, Cond.static yX6_isBetween, Cond.code yX6_isBetween cX6_isBetween 3 (some .boolean), Cond.methodLink RX6 199 yX6_isDay, Cond.static yX6_isDay, Cond.code yX6_isDay cX6_isDay 1 (some .boolean), Cond.constant RX6 75 (100000), Cond.methodLink RX6 213 yX1_makeVoid, Cond.instanceMethod yX1_makeVoid, Cond.selects RX1 yX1_makeVoid yX1_makeVoid, Cond.initialized RX1, Cond.code yX1_makeVoid cX1_makeVoid 7 (some .int), Cond.fieldLink RX1 16 "BathBook$Certificates" "made" "I", Cond.fieldLink RX1 13 "BathBook$Certificates" "facts" "[[I", Cond.methodLink RX1 35 yX1_restsOnVoid, Cond.instanceMethod yX1_restsOnVoid, Cond.selects RX1 yX1_restsOnVoid yX1_restsOnVoid, Cond.code yX1_restsOnVoid cX1_restsOnVoid 3 (some .boolean), Cond.methodLink RX1 39 yX1_has]
def wsX6_wrong_r2 : List Cond := [Cond.instanceMethod yX1_has, Cond.selects RX1 yX1_has yX1_has, Cond.code yX1_has cX1_has 2 (some .boolean)]
def wsX6_wrong : List Cond := .code yX6_wrong cX6_wrong 4 (some .int) :: ((wsX6_wrong_r1 ++ wsX6_wrong_r2) ++ wsX60 ++ wsX10)
def wsX6_passes_r1 : List Cond := [Cond.fieldLink RX6 26 "BathBook" "bulbs" "LBathBook$Bulbs;", Cond.fieldLink RX6 33 "BathBook" "certificates" "LBathBook$Certificates;", Cond.methodLink RX6 216 Lib.Math.abs.name, Cond.static Lib.Math.abs.name, Cond.initialized "java/lang/Math", Cond.code Lib.Math.abs.name Lib.Math.abs.code 1 (some .int), Cond.methodLink RX6 165 yX0_has, Cond.instanceMethod yX0_has, Cond.selects RX0 yX0_has yX0_has, Cond.initialized RX0, Cond.code yX0_has cX0_has 2 (some .boolean), Cond.fieldLink RX0 18 "BathBook$Bulbs" "made" "I", Cond.static yX6_isBetween, Cond.initialized RX6, Cond.code yX6_isBetween cX6_isBetween 3 (some .boolean), Cond.methodLink RX6 178 yX1_latestOf, Cond.instanceMethod yX1_latestOf, Cond.selects RX1 yX1_latestOf yX1_latestOf, Cond.initialized RX1, Cond.code yX1_latestOf cX1_latestOf 2 (some .int), Cond.constant RX1 30 (100000), Cond.fieldLink RX1 16 "BathBook$Certificates" "made" "I", Cond.methodLink RX1 31 yX1_lastUntil, Cond.instanceMethod yX1_lastUntil]
def wsX6_passes_r2 : List Cond := [Cond.selects RX1 yX1_lastUntil yX1_lastUntil, Cond.code yX1_lastUntil cX1_lastUntil 5 (some .int), Cond.methodLink RX1 24 Lib.Math.min.name, Cond.static Lib.Math.min.name, Cond.code Lib.Math.min.name Lib.Math.min.code 2 (some .int), Cond.fieldLink RX1 13 "BathBook$Certificates" "facts" "[[I", Cond.methodLink RX6 210 yX1_fact, Cond.instanceMethod yX1_fact, Cond.selects RX1 yX1_fact yX1_fact, Cond.code yX1_fact cX1_fact 3 (some .int), Cond.methodLink RX6 171 yX0_toleranceOf, Cond.instanceMethod yX0_toleranceOf, Cond.selects RX0 yX0_toleranceOf yX0_toleranceOf, Cond.code yX0_toleranceOf cX0_toleranceOf 2 (some .int), Cond.fieldLink RX0 15 "BathBook$Bulbs" "tolerances" "[I"]
def wsX6_passes : List Cond := .code yX6_passes cX6_passes 4 (some .int) :: ((wsX6_passes_r1 ++ wsX6_passes_r2) ++ wsX60 ++ wsX00 ++ wsX10)
def wsX6_whole : List Cond := .code yX6_whole cX6_whole 2 (some .int) :: ([.fieldLink RX6 33 "BathBook" "certificates" "LBathBook$Certificates;", .fieldLink RX6 59 "BathBook" "lastAsked" "J", .methodLink RX6 209 yX1_has, .instanceMethod yX1_has, .selects RX1 yX1_has yX1_has, .initialized RX1, .code yX1_has cX1_has 2 (some .boolean), .fieldLink RX1 16 "BathBook$Certificates" "made" "I", .static yX6_isBetween, .initialized RX6, .code yX6_isBetween cX6_isBetween 3 (some .boolean), .methodLink RX6 218 yX1_squaredEnds, .instanceMethod yX1_squaredEnds, .selects RX1 yX1_squaredEnds yX1_squaredEnds, .code yX1_squaredEnds cX1_squaredEnds 8 (some .long), .fieldLink RX1 13 "BathBook$Certificates" "facts" "[[I", .methodLink RX1 39 yX1_has, .methodLink RX6 221 yX1_chainLength, .instanceMethod yX1_chainLength, .selects RX1 yX1_chainLength yX1_chainLength, .code yX1_chainLength cX1_chainLength 5 (some .int)] ++ wsX60 ++ wsX10)
def wsX6_driftRefusal_r1 : List Cond := [Cond.fieldLink RX6 26 "BathBook" "bulbs" "LBathBook$Bulbs;", Cond.fieldLink RX6 33 "BathBook" "certificates" "LBathBook$Certificates;", Cond.constant RX6 75 (100000), Cond.methodLink RX6 165 yX0_has, Cond.instanceMethod yX0_has, Cond.selects RX0 yX0_has yX0_has, Cond.initialized RX0, Cond.code yX0_has cX0_has 2 (some .boolean), Cond.fieldLink RX0 18 "BathBook$Bulbs" "made" "I", Cond.static yX6_isBetween, Cond.initialized RX6, Cond.code yX6_isBetween cX6_isBetween 3 (some .boolean), Cond.methodLink RX6 178 yX1_latestOf, Cond.instanceMethod yX1_latestOf, Cond.selects RX1 yX1_latestOf yX1_latestOf, Cond.initialized RX1, Cond.code yX1_latestOf cX1_latestOf 2 (some .int), Cond.constant RX1 30 (100000), Cond.fieldLink RX1 16 "BathBook$Certificates" "made" "I", Cond.methodLink RX1 31 yX1_lastUntil, Cond.instanceMethod yX1_lastUntil, Cond.selects RX1 yX1_lastUntil yX1_lastUntil, Cond.code yX1_lastUntil cX1_lastUntil 5 (some .int), Cond.methodLink RX1 24 Lib.Math.min.name]
def wsX6_driftRefusal_r2 : List Cond := [Cond.static Lib.Math.min.name, Cond.initialized "java/lang/Math", Cond.code Lib.Math.min.name Lib.Math.min.code 2 (some .int), Cond.fieldLink RX1 13 "BathBook$Certificates" "facts" "[[I", Cond.methodLink RX6 203 yX1_lastUntil, Cond.methodLink RX6 227 yX1_rise, Cond.instanceMethod yX1_rise, Cond.selects RX1 yX1_rise yX1_rise, Cond.code yX1_rise cX1_rise 4 (some .int), Cond.methodLink RX6 67 yX6_refuse, Cond.instanceMethod yX6_refuse, Cond.selects RX6 yX6_refuse yX6_refuse, Cond.code yX6_refuse cX6_refuse 2 (some .int), Cond.fieldLink RX6 55 "BathBook" "lastFinding" "I", Cond.fieldLink RX6 51 "BathBook" "findingCounts" "[I", Cond.methodLink RX6 113 yX6_isBetween]
def wsX6_driftRefusal : List Cond := .code yX6_driftRefusal cX6_driftRefusal 4 (some .int) :: ((wsX6_driftRefusal_r1 ++ wsX6_driftRefusal_r2) ++ wsX60 ++ wsX00 ++ wsX10)
def wsX6_drift_r1 : List Cond := [Cond.fieldLink RX6 33 "BathBook" "certificates" "LBathBook$Certificates;", Cond.constant RX6 75 (100000), Cond.fieldLink RX6 47 "BathBook" "fraction" "LBathBook$Fraction;", Cond.methodLink RX6 224 yX6_driftRefusal, Cond.instanceMethod yX6_driftRefusal, Cond.selects RX6 yX6_driftRefusal yX6_driftRefusal, Cond.initialized RX6, Cond.code yX6_driftRefusal cX6_driftRefusal 4 (some .int), Cond.fieldLink RX6 26 "BathBook" "bulbs" "LBathBook$Bulbs;", Cond.methodLink RX6 165 yX0_has, Cond.instanceMethod yX0_has, Cond.selects RX0 yX0_has yX0_has, Cond.initialized RX0, Cond.code yX0_has cX0_has 2 (some .boolean), Cond.fieldLink RX0 18 "BathBook$Bulbs" "made" "I", Cond.static yX6_isBetween, Cond.code yX6_isBetween cX6_isBetween 3 (some .boolean), Cond.methodLink RX6 178 yX1_latestOf, Cond.instanceMethod yX1_latestOf, Cond.selects RX1 yX1_latestOf yX1_latestOf, Cond.initialized RX1, Cond.code yX1_latestOf cX1_latestOf 2 (some .int), Cond.constant RX1 30 (100000), Cond.fieldLink RX1 16 "BathBook$Certificates" "made" "I"]
def wsX6_drift_r2 : List Cond := [Cond.methodLink RX1 31 yX1_lastUntil, Cond.instanceMethod yX1_lastUntil, Cond.selects RX1 yX1_lastUntil yX1_lastUntil, Cond.code yX1_lastUntil cX1_lastUntil 5 (some .int), Cond.methodLink RX1 24 Lib.Math.min.name, Cond.static Lib.Math.min.name, Cond.initialized "java/lang/Math", Cond.code Lib.Math.min.name Lib.Math.min.code 2 (some .int), Cond.fieldLink RX1 13 "BathBook$Certificates" "facts" "[[I", Cond.methodLink RX6 203 yX1_lastUntil, Cond.methodLink RX6 227 yX1_rise, Cond.instanceMethod yX1_rise, Cond.selects RX1 yX1_rise yX1_rise, Cond.code yX1_rise cX1_rise 4 (some .int), Cond.methodLink RX6 67 yX6_refuse, Cond.instanceMethod yX6_refuse, Cond.selects RX6 yX6_refuse yX6_refuse, Cond.code yX6_refuse cX6_refuse 2 (some .int), Cond.fieldLink RX6 55 "BathBook" "lastFinding" "I", Cond.fieldLink RX6 51 "BathBook" "findingCounts" "[I", Cond.methodLink RX6 113 yX6_isBetween, Cond.methodLink RX6 122 yX2_tell, Cond.instanceMethod yX2_tell, Cond.selects RX2 yX2_tell yX2_tell]
def wsX6_drift_r3 : List Cond := [Cond.initialized RX2, Cond.code yX2_tell cX2_tell 9 none, Cond.fieldLink RX2 7 "BathBook$Fraction" "top" "J", Cond.fieldLink RX2 13 "BathBook$Fraction" "bottom" "J", Cond.static yX6_greatestDivisor, Cond.code yX6_greatestDivisor cX6_greatestDivisor 11 (some .long), Cond.methodLink RX6 153 Lib.MathLoose.abs_long.x, Cond.static Lib.MathLoose.abs_long.x, Cond.code Lib.MathLoose.abs_long.x Lib.MathLoose.abs_long.code 2 (some .long)]
def wsX6_drift : List Cond := .code yX6_drift cX6_drift 5 (some .int) :: ((wsX6_drift_r1 ++ (wsX6_drift_r2 ++ wsX6_drift_r3)) ++ wsX60 ++ wsX00 ++ wsX10 ++ wsX20)
def wsX6_daysWithin : List Cond := .code yX6_daysWithin cX6_daysWithin 14 (some .long) :: ([.methodLink RX6 153 Lib.MathLoose.abs_long.x, .static Lib.MathLoose.abs_long.x, .initialized "java/lang/Math", .code Lib.MathLoose.abs_long.x Lib.MathLoose.abs_long.code 2 (some .long), .constantLong RX6 234 (100001)])
def wsX6_due_r1 : List Cond := [Cond.fieldLink RX6 33 "BathBook" "certificates" "LBathBook$Certificates;", Cond.constant RX6 75 (100000), Cond.fieldLink RX6 26 "BathBook" "bulbs" "LBathBook$Bulbs;", Cond.constantLong RX6 234 (100001), Cond.methodLink RX6 236 Lib.MathLoose.min_long.x, Cond.static Lib.MathLoose.min_long.x, Cond.initialized "java/lang/Math", Cond.code Lib.MathLoose.min_long.x Lib.MathLoose.min_long.code 4 (some .long), Cond.methodLink RX6 224 yX6_driftRefusal, Cond.instanceMethod yX6_driftRefusal, Cond.selects RX6 yX6_driftRefusal yX6_driftRefusal, Cond.initialized RX6, Cond.code yX6_driftRefusal cX6_driftRefusal 4 (some .int), Cond.methodLink RX6 165 yX0_has, Cond.instanceMethod yX0_has, Cond.selects RX0 yX0_has yX0_has, Cond.initialized RX0, Cond.code yX0_has cX0_has 2 (some .boolean), Cond.fieldLink RX0 18 "BathBook$Bulbs" "made" "I", Cond.static yX6_isBetween, Cond.code yX6_isBetween cX6_isBetween 3 (some .boolean), Cond.methodLink RX6 178 yX1_latestOf, Cond.instanceMethod yX1_latestOf, Cond.selects RX1 yX1_latestOf yX1_latestOf]
def wsX6_due_r2 : List Cond := [Cond.initialized RX1, Cond.code yX1_latestOf cX1_latestOf 2 (some .int), Cond.constant RX1 30 (100000), Cond.fieldLink RX1 16 "BathBook$Certificates" "made" "I", Cond.methodLink RX1 31 yX1_lastUntil, Cond.instanceMethod yX1_lastUntil, Cond.selects RX1 yX1_lastUntil yX1_lastUntil, Cond.code yX1_lastUntil cX1_lastUntil 5 (some .int), Cond.methodLink RX1 24 Lib.Math.min.name, Cond.static Lib.Math.min.name, Cond.code Lib.Math.min.name Lib.Math.min.code 2 (some .int), Cond.fieldLink RX1 13 "BathBook$Certificates" "facts" "[[I", Cond.methodLink RX6 203 yX1_lastUntil, Cond.methodLink RX6 227 yX1_rise, Cond.instanceMethod yX1_rise, Cond.selects RX1 yX1_rise yX1_rise, Cond.code yX1_rise cX1_rise 4 (some .int), Cond.methodLink RX6 67 yX6_refuse, Cond.instanceMethod yX6_refuse, Cond.selects RX6 yX6_refuse yX6_refuse, Cond.code yX6_refuse cX6_refuse 2 (some .int), Cond.fieldLink RX6 55 "BathBook" "lastFinding" "I", Cond.fieldLink RX6 51 "BathBook" "findingCounts" "[I", Cond.methodLink RX6 113 yX6_isBetween]
def wsX6_due_r3 : List Cond := [Cond.methodLink RX6 171 yX0_toleranceOf, Cond.instanceMethod yX0_toleranceOf, Cond.selects RX0 yX0_toleranceOf yX0_toleranceOf, Cond.code yX0_toleranceOf cX0_toleranceOf 2 (some .int), Cond.fieldLink RX0 15 "BathBook$Bulbs" "tolerances" "[I", Cond.methodLink RX6 210 yX1_fact, Cond.instanceMethod yX1_fact, Cond.selects RX1 yX1_fact yX1_fact, Cond.code yX1_fact cX1_fact 3 (some .int), Cond.methodLink RX6 230 yX6_daysWithin, Cond.static yX6_daysWithin, Cond.code yX6_daysWithin cX6_daysWithin 14 (some .long), Cond.methodLink RX6 153 Lib.MathLoose.abs_long.x, Cond.static Lib.MathLoose.abs_long.x, Cond.code Lib.MathLoose.abs_long.x Lib.MathLoose.abs_long.code 2 (some .long)]
def wsX6_due : List Cond := .code yX6_due cX6_due 13 (some .int) :: ((wsX6_due_r1 ++ (wsX6_due_r2 ++ wsX6_due_r3)) ++ wsX60 ++ wsX00 ++ wsX10)
def wsX6_resting : List Cond := .code yX6_resting cX6_resting 2 (some .int) :: ([.fieldLink RX6 33 "BathBook" "certificates" "LBathBook$Certificates;", .methodLink RX6 209 yX1_has, .instanceMethod yX1_has, .selects RX1 yX1_has yX1_has, .initialized RX1, .code yX1_has cX1_has 2 (some .boolean), .fieldLink RX1 16 "BathBook$Certificates" "made" "I", .static yX6_isBetween, .initialized RX6, .code yX6_isBetween cX6_isBetween 3 (some .boolean), .methodLink RX6 239 yX1_countOver, .instanceMethod yX1_countOver, .selects RX1 yX1_countOver yX1_countOver, .code yX1_countOver cX1_countOver 4 (some .int), .methodLink RX1 42 yX1_isOver, .instanceMethod yX1_isOver, .selects RX1 yX1_isOver yX1_isOver, .code yX1_isOver cX1_isOver 5 (some .boolean), .fieldLink RX1 13 "BathBook$Certificates" "facts" "[[I", .methodLink RX1 39 yX1_has] ++ wsX60 ++ wsX10)
def wsX6_isLab : List Cond := .code yX6_isLab cX6_isLab 1 (some .boolean) :: ([.methodLink RX6 113 yX6_isBetween, .static yX6_isBetween, .initialized RX6, .code yX6_isBetween cX6_isBetween 3 (some .boolean)])
def wsX6_lab : List Cond := .code yX6_lab cX6_lab 5 (some .int) :: ([.fieldLink RX6 40 "BathBook" "round" "LBathBook$Round;", .methodLink RX6 242 yX6_isLab, .static yX6_isLab, .initialized RX6, .code yX6_isLab cX6_isLab 1 (some .boolean), .methodLink RX6 113 yX6_isBetween, .static yX6_isBetween, .code yX6_isBetween cX6_isBetween 3 (some .boolean), .methodLink RX6 76 yX6_isWithin, .static yX6_isWithin, .code yX6_isWithin cX6_isWithin 2 (some .boolean), .methodLink RX6 245 yX3_put, .instanceMethod yX3_put, .selects RX3 yX3_put yX3_put, .initialized RX3, .code yX3_put cX3_put 5 none, .fieldLink RX3 11 "BathBook$Round" "differences" "[[I", .fieldLink RX3 16 "BathBook$Round" "ends" "[[I"] ++ wsX60 ++ wsX30)
def wsX6_closes_r1 : List Cond := [Cond.fieldLink RX6 40 "BathBook" "round" "LBathBook$Round;", Cond.fieldLink RX6 59 "BathBook" "lastAsked" "J", Cond.methodLink RX6 242 yX6_isLab, Cond.static yX6_isLab, Cond.initialized RX6, Cond.code yX6_isLab cX6_isLab 1 (some .boolean), Cond.methodLink RX6 113 yX6_isBetween, Cond.static yX6_isBetween, Cond.code yX6_isBetween cX6_isBetween 3 (some .boolean), Cond.methodLink RX6 248 yX3_isKnown, Cond.instanceMethod yX3_isKnown, Cond.selects RX3 yX3_isKnown yX3_isKnown, Cond.initialized RX3, Cond.code yX3_isKnown cX3_isKnown 4 (some .boolean), Cond.fieldLink RX3 16 "BathBook$Round" "ends" "[[I", Cond.methodLink RX6 251 yX3_gap, Cond.instanceMethod yX3_gap, Cond.selects RX3 yX3_gap yX3_gap, Cond.code yX3_gap cX3_gap 4 (some .int), Cond.fieldLink RX3 11 "BathBook$Round" "differences" "[[I", Cond.methodLink RX6 254 yX3_isShut, Cond.instanceMethod yX3_isShut, Cond.selects RX3 yX3_isShut yX3_isShut, Cond.code yX3_isShut cX3_isShut 4 (some .boolean)]
def wsX6_closes_r2 : List Cond := [Cond.methodLink RX3 29 Lib.Math.abs.name, Cond.static Lib.Math.abs.name, Cond.initialized "java/lang/Math", Cond.code Lib.Math.abs.name Lib.Math.abs.code 1 (some .int), Cond.methodLink RX3 25 yX3_gap]
def wsX6_closes : List Cond := .code yX6_closes cX6_closes 4 (some .int) :: ((wsX6_closes_r1 ++ wsX6_closes_r2) ++ wsX60 ++ wsX30)
def wsX6_open : List Cond := .code yX6_open cX6_open 5 (some .int) :: ([.fieldLink RX6 40 "BathBook" "round" "LBathBook$Round;", .methodLink RX6 248 yX3_isKnown, .instanceMethod yX3_isKnown, .selects RX3 yX3_isKnown yX3_isKnown, .initialized RX3, .code yX3_isKnown cX3_isKnown 4 (some .boolean), .fieldLink RX3 16 "BathBook$Round" "ends" "[[I", .methodLink RX6 254 yX3_isShut, .instanceMethod yX3_isShut, .selects RX3 yX3_isShut yX3_isShut, .code yX3_isShut cX3_isShut 4 (some .boolean), .methodLink RX3 29 Lib.Math.abs.name, .static Lib.Math.abs.name, .initialized "java/lang/Math", .code Lib.Math.abs.name Lib.Math.abs.code 1 (some .int), .methodLink RX3 25 yX3_gap, .instanceMethod yX3_gap, .selects RX3 yX3_gap yX3_gap, .code yX3_gap cX3_gap 4 (some .int), .fieldLink RX3 11 "BathBook$Round" "differences" "[[I"] ++ wsX60 ++ wsX30)
def wsX6_asked : List Cond := .code yX6_asked cX6_asked 1 (some .long) :: ([.fieldLink RX6 59 "BathBook" "lastAsked" "J"] ++ wsX60)
def wsX6_upper : List Cond := .code yX6_upper cX6_upper 1 (some .long) :: ([.fieldLink RX6 47 "BathBook" "fraction" "LBathBook$Fraction;"] ++ wsX60 ++ wsX20)
def wsX6_lower : List Cond := .code yX6_lower cX6_lower 1 (some .long) :: ([.fieldLink RX6 47 "BathBook" "fraction" "LBathBook$Fraction;"] ++ wsX60 ++ wsX20)
def wsX6_count_r1 : List Cond := [Cond.fieldLink RX6 10 "BathBook" "rows" "LBathBook$Rows;", Cond.fieldLink RX6 19 "BathBook" "tables" "LBathBook$Tables;", Cond.fieldLink RX6 26 "BathBook" "bulbs" "LBathBook$Bulbs;", Cond.fieldLink RX6 33 "BathBook" "certificates" "LBathBook$Certificates;", Cond.methodLink RX6 263 yX4_presentCount, Cond.instanceMethod yX4_presentCount, Cond.selects RX4 yX4_presentCount yX4_presentCount, Cond.initialized RX4, Cond.code yX4_presentCount cX4_presentCount 3 (some .int), Cond.fieldLink RX4 16 "BathBook$Rows" "sizes" "[I", Cond.methodLink RX6 266 yX5_pointCount, Cond.instanceMethod yX5_pointCount, Cond.selects RX5 yX5_pointCount yX5_pointCount, Cond.initialized RX5, Cond.code yX5_pointCount cX5_pointCount 3 (some .int), Cond.fieldLink RX5 19 "BathBook$Tables" "sizes" "[I", Cond.methodLink RX6 159 yX0_size, Cond.instanceMethod yX0_size, Cond.selects RX0 yX0_size yX0_size, Cond.initialized RX0, Cond.code yX0_size cX0_size 1 (some .int), Cond.fieldLink RX0 18 "BathBook$Bulbs" "made" "I", Cond.methodLink RX6 202 yX1_size, Cond.instanceMethod yX1_size]
def wsX6_count_r2 : List Cond := [Cond.selects RX1 yX1_size yX1_size, Cond.initialized RX1, Cond.code yX1_size cX1_size 1 (some .int), Cond.fieldLink RX1 16 "BathBook$Certificates" "made" "I", Cond.methodLink RX6 174 yX1_countOf, Cond.instanceMethod yX1_countOf, Cond.selects RX1 yX1_countOf yX1_countOf, Cond.code yX1_countOf cX1_countOf 6 (some .int), Cond.fieldLink RX1 13 "BathBook$Certificates" "facts" "[[I"]
def wsX6_count : List Cond := .code yX6_count cX6_count 2 (some .int) :: ((wsX6_count_r1 ++ wsX6_count_r2) ++ wsX60 ++ wsX40 ++ wsX50 ++ wsX00 ++ wsX10)
def wsX6_finding : List Cond := .code yX6_finding cX6_finding 1 (some .int) :: ([.fieldLink RX6 55 "BathBook" "lastFinding" "I"] ++ wsX60)
def wsX6_findings : List Cond := .code yX6_findings cX6_findings 2 (some .int) :: ([.fieldLink RX6 51 "BathBook" "findingCounts" "[I", .methodLink RX6 113 yX6_isBetween, .static yX6_isBetween, .initialized RX6, .code yX6_isBetween cX6_isBetween 3 (some .boolean)] ++ wsX60)
def wsX6_digest_r1 : List Cond := [Cond.constantLong RX6 269 (17), Cond.constantLong RX6 271 (31), Cond.fieldLink RX6 26 "BathBook" "bulbs" "LBathBook$Bulbs;", Cond.fieldLink RX6 33 "BathBook" "certificates" "LBathBook$Certificates;", Cond.fieldLink RX6 10 "BathBook" "rows" "LBathBook$Rows;", Cond.methodLink RX6 273 yX6_count, Cond.instanceMethod yX6_count, Cond.selects RX6 yX6_count yX6_count, Cond.initialized RX6, Cond.code yX6_count cX6_count 2 (some .int), Cond.fieldLink RX6 19 "BathBook" "tables" "LBathBook$Tables;", Cond.methodLink RX6 263 yX4_presentCount, Cond.instanceMethod yX4_presentCount, Cond.selects RX4 yX4_presentCount yX4_presentCount, Cond.initialized RX4, Cond.code yX4_presentCount cX4_presentCount 3 (some .int), Cond.fieldLink RX4 16 "BathBook$Rows" "sizes" "[I", Cond.methodLink RX6 266 yX5_pointCount, Cond.instanceMethod yX5_pointCount, Cond.selects RX5 yX5_pointCount yX5_pointCount, Cond.initialized RX5, Cond.code yX5_pointCount cX5_pointCount 3 (some .int), Cond.fieldLink RX5 19 "BathBook$Tables" "sizes" "[I", Cond.methodLink RX6 159 yX0_size]
def wsX6_digest_r2 : List Cond := [Cond.instanceMethod yX0_size, Cond.selects RX0 yX0_size yX0_size, Cond.initialized RX0, Cond.code yX0_size cX0_size 1 (some .int), Cond.fieldLink RX0 18 "BathBook$Bulbs" "made" "I", Cond.methodLink RX6 202 yX1_size, Cond.instanceMethod yX1_size, Cond.selects RX1 yX1_size yX1_size, Cond.initialized RX1, Cond.code yX1_size cX1_size 1 (some .int), Cond.fieldLink RX1 16 "BathBook$Certificates" "made" "I", Cond.methodLink RX6 174 yX1_countOf, Cond.instanceMethod yX1_countOf, Cond.selects RX1 yX1_countOf yX1_countOf, Cond.code yX1_countOf cX1_countOf 6 (some .int), Cond.fieldLink RX1 13 "BathBook$Certificates" "facts" "[[I", Cond.methodLink RX6 276 yX6_told, Cond.instanceMethod yX6_told, Cond.selects RX6 yX6_told yX6_told, Cond.code yX6_told cX6_told 3 (some .int), Cond.methodLink RX6 165 yX0_has, Cond.instanceMethod yX0_has, Cond.selects RX0 yX0_has yX0_has, Cond.code yX0_has cX0_has 2 (some .boolean)]
def wsX6_digest_r3 : List Cond := [Cond.static yX6_isBetween, Cond.code yX6_isBetween cX6_isBetween 3 (some .boolean), Cond.methodLink RX6 168 yX0_kindOf, Cond.instanceMethod yX0_kindOf, Cond.selects RX0 yX0_kindOf yX0_kindOf, Cond.code yX0_kindOf cX0_kindOf 2 (some .int), Cond.fieldLink RX0 9 "BathBook$Bulbs" "kinds" "[I", Cond.methodLink RX6 171 yX0_toleranceOf, Cond.instanceMethod yX0_toleranceOf, Cond.selects RX0 yX0_toleranceOf yX0_toleranceOf, Cond.code yX0_toleranceOf cX0_toleranceOf 2 (some .int), Cond.fieldLink RX0 15 "BathBook$Bulbs" "tolerances" "[I", Cond.methodLink RX6 178 yX1_latestOf, Cond.instanceMethod yX1_latestOf, Cond.selects RX1 yX1_latestOf yX1_latestOf, Cond.code yX1_latestOf cX1_latestOf 2 (some .int), Cond.constant RX1 30 (100000), Cond.methodLink RX1 31 yX1_lastUntil, Cond.instanceMethod yX1_lastUntil, Cond.selects RX1 yX1_lastUntil yX1_lastUntil, Cond.code yX1_lastUntil cX1_lastUntil 5 (some .int), Cond.methodLink RX1 24 Lib.Math.min.name, Cond.static Lib.Math.min.name, Cond.initialized "java/lang/Math"]
def wsX6_digest_r4 : List Cond := [Cond.code Lib.Math.min.name Lib.Math.min.code 2 (some .int), Cond.methodLink RX6 210 yX1_fact, Cond.instanceMethod yX1_fact, Cond.selects RX1 yX1_fact yX1_fact, Cond.code yX1_fact cX1_fact 3 (some .int), Cond.methodLink RX6 279 yX4_digestOn, Cond.instanceMethod yX4_digestOn, Cond.selects RX4 yX4_digestOn yX4_digestOn, Cond.code yX4_digestOn cX4_digestOn 7 (some .long), Cond.constantLong RX4 51 (31), Cond.fieldLink RX4 11 "BathBook$Rows" "readings" "[[I"]
def wsX6_digest : List Cond := .code yX6_digest cX6_digest 5 (some .long) :: ((wsX6_digest_r1 ++ (wsX6_digest_r2 ++ (wsX6_digest_r3 ++ wsX6_digest_r4))) ++ wsX60 ++ wsX40 ++ wsX50 ++ wsX00 ++ wsX10)
def wsX7_init_r1 : List Cond := [Cond.methodLink RX7 1 objectInit, Cond.instanceMethod objectInit, Cond.code objectInit ⟨#[0xb1]⟩ 1 none, Cond.arrayClass .int, Cond.fieldLink RX7 7 "BathBookModel" "findings" "[I", Cond.fieldLink RX7 13 "BathBookModel" "lower" "J", Cond.fieldLink RX7 17 "BathBookModel" "sizes" "[I", Cond.fieldLink RX7 20 "BathBookModel" "rows" "[I", Cond.fieldLink RX7 23 "BathBookModel" "moving" "[I", Cond.fieldLink RX7 26 "BathBookModel" "points" "[I", Cond.fieldLink RX7 29 "BathBookModel" "xs" "[I", Cond.fieldLink RX7 32 "BathBookModel" "ys" "[I", Cond.fieldLink RX7 35 "BathBookModel" "kinds" "[I", Cond.fieldLink RX7 38 "BathBookModel" "tolerances" "[I", Cond.fieldLink RX7 41 "BathBookModel" "ofBulb" "[I", Cond.fieldLink RX7 44 "BathBookModel" "byBulb" "[I", Cond.fieldLink RX7 47 "BathBookModel" "inBath" "[I", Cond.fieldLink RX7 50 "BathBookModel" "onDay" "[I", Cond.fieldLink RX7 53 "BathBookModel" "offsets" "[I", Cond.fieldLink RX7 56 "BathBookModel" "ends" "[I", Cond.fieldLink RX7 59 "BathBookModel" "rest" "[I", Cond.arrayClass .boolean, Cond.fieldLink RX7 62 "BathBookModel" "isVoid" "[Z", Cond.fieldLink RX7 66 "BathBookModel" "isTold" "[Z"]
def wsX7_init_r2 : List Cond := [Cond.fieldLink RX7 69 "BathBookModel" "differences" "[I", Cond.fieldLink RX7 72 "BathBookModel" "labEnds" "[I"]
def wsX7_init : List Cond := .code yX7_init cX7_init 2 none :: ((wsX7_init_r1 ++ wsX7_init_r2) ++ wsX70)
def wsX7_in : List Cond := .code yX7_in cX7_in 3 (some .boolean) :: ([])
def wsX7_meets : List Cond := .code yX7_meets cX7_meets 2 (some .int) :: ([.fieldLink RX7 75 "BathBookModel" "finding" "I", .fieldLink RX7 7 "BathBookModel" "findings" "[I"] ++ wsX70)
def wsX7_size : List Cond := .code yX7_size cX7_size 2 (some .long) :: ([])
def wsX7_divisor : List Cond := .code yX7_divisor cX7_divisor 10 (some .long) :: ([.methodLink RX7 79 yX7_size, .static yX7_size, .initialized RX7, .code yX7_size cX7_size 2 (some .long)])
def wsX7_tell : List Cond := .code yX7_tell cX7_tell 8 (some .int) :: ([.fieldLink RX7 87 "BathBookModel" "upper" "J", .fieldLink RX7 13 "BathBookModel" "lower" "J", .methodLink RX7 83 yX7_divisor, .static yX7_divisor, .initialized RX7, .code yX7_divisor cX7_divisor 10 (some .long), .methodLink RX7 79 yX7_size, .static yX7_size, .code yX7_size cX7_size 2 (some .long)] ++ wsX70)
def wsX7_ask : List Cond := .code yX7_ask cX7_ask 4 (some .int) :: ([.fieldLink RX7 90 "BathBookModel" "asked" "J"] ++ wsX70)
def wsX7_isRow : List Cond := .code yX7_isRow cX7_isRow 1 (some .boolean) :: ([.methodLink RX7 93 yX7_in, .static yX7_in, .initialized RX7, .code yX7_in cX7_in 3 (some .boolean)])
def wsX7_looked : List Cond := .code yX7_looked cX7_looked 2 (some .int) :: ([.fieldLink RX7 17 "BathBookModel" "sizes" "[I", .methodLink RX7 97 yX7_isRow, .static yX7_isRow, .initialized RX7, .code yX7_isRow cX7_isRow 1 (some .boolean), .methodLink RX7 93 yX7_in, .static yX7_in, .code yX7_in cX7_in 3 (some .boolean), .methodLink RX7 101 yX7_meets, .instanceMethod yX7_meets, .selects RX7 yX7_meets yX7_meets, .code yX7_meets cX7_meets 2 (some .int), .fieldLink RX7 75 "BathBookModel" "finding" "I", .fieldLink RX7 7 "BathBookModel" "findings" "[I"] ++ wsX70)
def wsX7_row : List Cond := .code yX7_row cX7_row 4 (some .int) :: ([.fieldLink RX7 17 "BathBookModel" "sizes" "[I", .fieldLink RX7 20 "BathBookModel" "rows" "[I", .methodLink RX7 97 yX7_isRow, .static yX7_isRow, .initialized RX7, .code yX7_isRow cX7_isRow 1 (some .boolean), .methodLink RX7 93 yX7_in, .static yX7_in, .code yX7_in cX7_in 3 (some .boolean), .methodLink RX7 101 yX7_meets, .instanceMethod yX7_meets, .selects RX7 yX7_meets yX7_meets, .code yX7_meets cX7_meets 2 (some .int), .fieldLink RX7 75 "BathBookModel" "finding" "I", .fieldLink RX7 7 "BathBookModel" "findings" "[I"] ++ wsX70)
def wsX7_lay : List Cond := .code yX7_lay cX7_lay 5 (some .int) :: ([.constant RX7 105 (-100000), .constant RX7 106 (100000), .fieldLink RX7 17 "BathBookModel" "sizes" "[I", .fieldLink RX7 20 "BathBookModel" "rows" "[I", .fieldLink RX7 90 "BathBookModel" "asked" "J", .methodLink RX7 93 yX7_in, .static yX7_in, .initialized RX7, .code yX7_in cX7_in 3 (some .boolean), .methodLink RX7 107 yX7_looked, .instanceMethod yX7_looked, .selects RX7 yX7_looked yX7_looked, .code yX7_looked cX7_looked 2 (some .int), .methodLink RX7 97 yX7_isRow, .static yX7_isRow, .code yX7_isRow cX7_isRow 1 (some .boolean), .methodLink RX7 101 yX7_meets, .instanceMethod yX7_meets, .selects RX7 yX7_meets yX7_meets, .code yX7_meets cX7_meets 2 (some .int), .fieldLink RX7 75 "BathBookModel" "finding" "I", .fieldLink RX7 7 "BathBookModel" "findings" "[I"] ++ wsX70)
def wsX7_tear : List Cond := .code yX7_tear cX7_tear 3 (some .int) :: ([.fieldLink RX7 17 "BathBookModel" "sizes" "[I", .methodLink RX7 107 yX7_looked, .instanceMethod yX7_looked, .selects RX7 yX7_looked yX7_looked, .initialized RX7, .code yX7_looked cX7_looked 2 (some .int), .methodLink RX7 97 yX7_isRow, .static yX7_isRow, .code yX7_isRow cX7_isRow 1 (some .boolean), .methodLink RX7 93 yX7_in, .static yX7_in, .code yX7_in cX7_in 3 (some .boolean), .methodLink RX7 101 yX7_meets, .instanceMethod yX7_meets, .selects RX7 yX7_meets yX7_meets, .code yX7_meets cX7_meets 2 (some .int), .fieldLink RX7 75 "BathBookModel" "finding" "I", .fieldLink RX7 7 "BathBookModel" "findings" "[I"] ++ wsX70)
def wsX7_copy : List Cond := .code yX7_copy cX7_copy 7 (some .int) :: ([.fieldLink RX7 17 "BathBookModel" "sizes" "[I", .fieldLink RX7 23 "BathBookModel" "moving" "[I", .fieldLink RX7 20 "BathBookModel" "rows" "[I", .methodLink RX7 97 yX7_isRow, .static yX7_isRow, .initialized RX7, .code yX7_isRow cX7_isRow 1 (some .boolean), .methodLink RX7 93 yX7_in, .static yX7_in, .code yX7_in cX7_in 3 (some .boolean), .methodLink RX7 101 yX7_meets, .instanceMethod yX7_meets, .selects RX7 yX7_meets yX7_meets, .code yX7_meets cX7_meets 2 (some .int), .fieldLink RX7 75 "BathBookModel" "finding" "I", .fieldLink RX7 7 "BathBookModel" "findings" "[I"] ++ wsX70)
def wsX7_mean : List Cond := .code yX7_mean cX7_mean 8 (some .int) :: ([.fieldLink RX7 17 "BathBookModel" "sizes" "[I", .fieldLink RX7 20 "BathBookModel" "rows" "[I", .methodLink RX7 107 yX7_looked, .instanceMethod yX7_looked, .selects RX7 yX7_looked yX7_looked, .initialized RX7, .code yX7_looked cX7_looked 2 (some .int), .methodLink RX7 97 yX7_isRow, .static yX7_isRow, .code yX7_isRow cX7_isRow 1 (some .boolean), .methodLink RX7 93 yX7_in, .static yX7_in, .code yX7_in cX7_in 3 (some .boolean), .methodLink RX7 101 yX7_meets, .instanceMethod yX7_meets, .selects RX7 yX7_meets yX7_meets, .code yX7_meets cX7_meets 2 (some .int), .fieldLink RX7 75 "BathBookModel" "finding" "I", .fieldLink RX7 7 "BathBookModel" "findings" "[I", .methodLink RX7 110 yX7_ask, .instanceMethod yX7_ask, .selects RX7 yX7_ask yX7_ask, .code yX7_ask cX7_ask 4 (some .int), .fieldLink RX7 90 "BathBookModel" "asked" "J"] ++ wsX70)
def wsX7_plateau_r1 : List Cond := [Cond.constant RX7 106 (100000), Cond.fieldLink RX7 17 "BathBookModel" "sizes" "[I", Cond.constant RX7 105 (-100000), Cond.fieldLink RX7 20 "BathBookModel" "rows" "[I", Cond.methodLink RX7 93 yX7_in, Cond.static yX7_in, Cond.initialized RX7, Cond.code yX7_in cX7_in 3 (some .boolean), Cond.methodLink RX7 107 yX7_looked, Cond.instanceMethod yX7_looked, Cond.selects RX7 yX7_looked yX7_looked, Cond.code yX7_looked cX7_looked 2 (some .int), Cond.methodLink RX7 97 yX7_isRow, Cond.static yX7_isRow, Cond.code yX7_isRow cX7_isRow 1 (some .boolean), Cond.methodLink RX7 101 yX7_meets, Cond.instanceMethod yX7_meets, Cond.selects RX7 yX7_meets yX7_meets, Cond.code yX7_meets cX7_meets 2 (some .int), Cond.fieldLink RX7 75 "BathBookModel" "finding" "I", Cond.fieldLink RX7 7 "BathBookModel" "findings" "[I", Cond.methodLink RX7 114 yX7_tell, Cond.instanceMethod yX7_tell, Cond.selects RX7 yX7_tell yX7_tell]
def wsX7_plateau_r2 : List Cond := [Cond.code yX7_tell cX7_tell 8 (some .int), Cond.fieldLink RX7 87 "BathBookModel" "upper" "J", Cond.fieldLink RX7 13 "BathBookModel" "lower" "J", Cond.methodLink RX7 83 yX7_divisor, Cond.static yX7_divisor, Cond.code yX7_divisor cX7_divisor 10 (some .long), Cond.methodLink RX7 79 yX7_size, Cond.static yX7_size, Cond.code yX7_size cX7_size 2 (some .long), Cond.methodLink RX7 110 yX7_ask, Cond.instanceMethod yX7_ask, Cond.selects RX7 yX7_ask yX7_ask, Cond.code yX7_ask cX7_ask 4 (some .int), Cond.fieldLink RX7 90 "BathBookModel" "asked" "J"]
def wsX7_plateau : List Cond := .code yX7_plateau cX7_plateau 16 (some .int) :: ((wsX7_plateau_r1 ++ wsX7_plateau_r2) ++ wsX70)
def wsX7_isTable : List Cond := .code yX7_isTable cX7_isTable 1 (some .boolean) :: ([.methodLink RX7 93 yX7_in, .static yX7_in, .initialized RX7, .code yX7_in cX7_in 3 (some .boolean)])
def wsX7_isX : List Cond := .code yX7_isX cX7_isX 1 (some .boolean) :: ([.methodLink RX7 93 yX7_in, .static yX7_in, .initialized RX7, .code yX7_in cX7_in 3 (some .boolean)])
def wsX7_point : List Cond := .code yX7_point cX7_point 6 (some .int) :: ([.fieldLink RX7 26 "BathBookModel" "points" "[I", .fieldLink RX7 29 "BathBookModel" "xs" "[I", .fieldLink RX7 32 "BathBookModel" "ys" "[I", .methodLink RX7 118 yX7_isTable, .static yX7_isTable, .initialized RX7, .code yX7_isTable cX7_isTable 1 (some .boolean), .methodLink RX7 93 yX7_in, .static yX7_in, .code yX7_in cX7_in 3 (some .boolean), .methodLink RX7 121 yX7_isX, .static yX7_isX, .code yX7_isX cX7_isX 1 (some .boolean)] ++ wsX70)
def wsX7_clear : List Cond := .code yX7_clear cX7_clear 3 (some .int) :: ([.fieldLink RX7 26 "BathBookModel" "points" "[I", .methodLink RX7 118 yX7_isTable, .static yX7_isTable, .initialized RX7, .code yX7_isTable cX7_isTable 1 (some .boolean), .methodLink RX7 93 yX7_in, .static yX7_in, .code yX7_in cX7_in 3 (some .boolean)] ++ wsX70)
def wsX7_add : List Cond := .code yX7_add cX7_add 13 none :: ([.fieldLink RX7 124 "BathBookModel" "sumLow" "J", .fieldLink RX7 127 "BathBookModel" "sumUp" "J", .methodLink RX7 83 yX7_divisor, .static yX7_divisor, .initialized RX7, .code yX7_divisor cX7_divisor 10 (some .long), .methodLink RX7 79 yX7_size, .static yX7_size, .code yX7_size cX7_size 2 (some .long)] ++ wsX70)
def wsX7_addCurve : List Cond := .code yX7_addCurve cX7_addCurve 10 none :: ([.fieldLink RX7 26 "BathBookModel" "points" "[I", .fieldLink RX7 32 "BathBookModel" "ys" "[I", .fieldLink RX7 29 "BathBookModel" "xs" "[I", .methodLink RX7 79 yX7_size, .static yX7_size, .initialized RX7, .code yX7_size cX7_size 2 (some .long), .methodLink RX7 130 yX7_add, .instanceMethod yX7_add, .selects RX7 yX7_add yX7_add, .code yX7_add cX7_add 13 none, .fieldLink RX7 124 "BathBookModel" "sumLow" "J", .fieldLink RX7 127 "BathBookModel" "sumUp" "J", .methodLink RX7 83 yX7_divisor, .static yX7_divisor, .code yX7_divisor cX7_divisor 10 (some .long)] ++ wsX70)
def wsX7_curve_r1 : List Cond := [Cond.fieldLink RX7 26 "BathBookModel" "points" "[I", Cond.fieldLink RX7 127 "BathBookModel" "sumUp" "J", Cond.fieldLink RX7 124 "BathBookModel" "sumLow" "J", Cond.methodLink RX7 118 yX7_isTable, Cond.static yX7_isTable, Cond.initialized RX7, Cond.code yX7_isTable cX7_isTable 1 (some .boolean), Cond.methodLink RX7 93 yX7_in, Cond.static yX7_in, Cond.code yX7_in cX7_in 3 (some .boolean), Cond.methodLink RX7 121 yX7_isX, Cond.static yX7_isX, Cond.code yX7_isX cX7_isX 1 (some .boolean), Cond.methodLink RX7 134 yX7_addCurve, Cond.instanceMethod yX7_addCurve, Cond.selects RX7 yX7_addCurve yX7_addCurve, Cond.code yX7_addCurve cX7_addCurve 10 none, Cond.fieldLink RX7 32 "BathBookModel" "ys" "[I", Cond.fieldLink RX7 29 "BathBookModel" "xs" "[I", Cond.methodLink RX7 79 yX7_size, Cond.static yX7_size, Cond.code yX7_size cX7_size 2 (some .long), Cond.methodLink RX7 130 yX7_add, Cond.instanceMethod yX7_add]
def wsX7_curve_r2 : List Cond := [Cond.selects RX7 yX7_add yX7_add, Cond.code yX7_add cX7_add 13 none, Cond.methodLink RX7 83 yX7_divisor, Cond.static yX7_divisor, Cond.code yX7_divisor cX7_divisor 10 (some .long), Cond.methodLink RX7 114 yX7_tell, Cond.instanceMethod yX7_tell, Cond.selects RX7 yX7_tell yX7_tell, Cond.code yX7_tell cX7_tell 8 (some .int), Cond.fieldLink RX7 87 "BathBookModel" "upper" "J", Cond.fieldLink RX7 13 "BathBookModel" "lower" "J"]
def wsX7_curve : List Cond := .code yX7_curve cX7_curve 3 (some .int) :: ((wsX7_curve_r1 ++ wsX7_curve_r2) ++ wsX70)
def wsX7_isBelow : List Cond := .code yX7_isBelow cX7_isBelow 21 (some .boolean) :: ([])
def wsX7_apart_r1 : List Cond := [Cond.fieldLink RX7 26 "BathBookModel" "points" "[I", Cond.constantLong RX7 138 (-1), Cond.fieldLink RX7 127 "BathBookModel" "sumUp" "J", Cond.fieldLink RX7 124 "BathBookModel" "sumLow" "J", Cond.methodLink RX7 118 yX7_isTable, Cond.static yX7_isTable, Cond.initialized RX7, Cond.code yX7_isTable cX7_isTable 1 (some .boolean), Cond.methodLink RX7 93 yX7_in, Cond.static yX7_in, Cond.code yX7_in cX7_in 3 (some .boolean), Cond.methodLink RX7 121 yX7_isX, Cond.static yX7_isX, Cond.code yX7_isX cX7_isX 1 (some .boolean), Cond.methodLink RX7 134 yX7_addCurve, Cond.instanceMethod yX7_addCurve, Cond.selects RX7 yX7_addCurve yX7_addCurve, Cond.code yX7_addCurve cX7_addCurve 10 none, Cond.fieldLink RX7 32 "BathBookModel" "ys" "[I", Cond.fieldLink RX7 29 "BathBookModel" "xs" "[I", Cond.methodLink RX7 79 yX7_size, Cond.static yX7_size, Cond.code yX7_size cX7_size 2 (some .long), Cond.methodLink RX7 130 yX7_add]
def wsX7_apart_r2 : List Cond := [Cond.instanceMethod yX7_add, Cond.selects RX7 yX7_add yX7_add, Cond.code yX7_add cX7_add 13 none, Cond.methodLink RX7 83 yX7_divisor, Cond.static yX7_divisor, Cond.code yX7_divisor cX7_divisor 10 (some .long), Cond.methodLink RX7 140 yX7_isBelow, Cond.static yX7_isBelow, Cond.code yX7_isBelow cX7_isBelow 21 (some .boolean), Cond.methodLink RX7 114 yX7_tell, Cond.instanceMethod yX7_tell, Cond.selects RX7 yX7_tell yX7_tell, Cond.code yX7_tell cX7_tell 8 (some .int), Cond.fieldLink RX7 87 "BathBookModel" "upper" "J", Cond.fieldLink RX7 13 "BathBookModel" "lower" "J"]
def wsX7_apart : List Cond := .code yX7_apart cX7_apart 11 (some .int) :: ((wsX7_apart_r1 ++ wsX7_apart_r2) ++ wsX70)
def wsX7_isBulb : List Cond := .code yX7_isBulb cX7_isBulb 2 (some .boolean) :: ([.fieldLink RX7 144 "BathBookModel" "bulbs" "I", .methodLink RX7 93 yX7_in, .static yX7_in, .initialized RX7, .code yX7_in cX7_in 3 (some .boolean)] ++ wsX70)
def wsX7_bulb : List Cond := .code yX7_bulb cX7_bulb 3 (some .int) :: ([.fieldLink RX7 144 "BathBookModel" "bulbs" "I", .fieldLink RX7 35 "BathBookModel" "kinds" "[I", .fieldLink RX7 38 "BathBookModel" "tolerances" "[I", .methodLink RX7 93 yX7_in, .static yX7_in, .initialized RX7, .code yX7_in cX7_in 3 (some .boolean)] ++ wsX70)
def wsX7_lastOf : List Cond := .code yX7_lastOf cX7_lastOf 6 (some .int) :: ([.fieldLink RX7 41 "BathBookModel" "ofBulb" "[I", .fieldLink RX7 62 "BathBookModel" "isVoid" "[Z", .fieldLink RX7 50 "BathBookModel" "onDay" "[I"] ++ wsX70)
def wsX7_latestOf : List Cond := .code yX7_latestOf cX7_latestOf 2 (some .int) :: ([.constant RX7 106 (100000), .fieldLink RX7 147 "BathBookModel" "certificates" "I", .methodLink RX7 150 yX7_lastOf, .instanceMethod yX7_lastOf, .selects RX7 yX7_lastOf yX7_lastOf, .initialized RX7, .code yX7_lastOf cX7_lastOf 6 (some .int), .fieldLink RX7 41 "BathBookModel" "ofBulb" "[I", .fieldLink RX7 62 "BathBookModel" "isVoid" "[Z", .fieldLink RX7 50 "BathBookModel" "onDay" "[I"] ++ wsX70)
def wsX7_tells : List Cond := .code yX7_tells cX7_tells 6 (some .int) :: ([.fieldLink RX7 147 "BathBookModel" "certificates" "I", .fieldLink RX7 41 "BathBookModel" "ofBulb" "[I", .fieldLink RX7 62 "BathBookModel" "isVoid" "[Z", .fieldLink RX7 35 "BathBookModel" "kinds" "[I", .fieldLink RX7 38 "BathBookModel" "tolerances" "[I", .methodLink RX7 154 yX7_latestOf, .instanceMethod yX7_latestOf, .selects RX7 yX7_latestOf yX7_latestOf, .initialized RX7, .code yX7_latestOf cX7_latestOf 2 (some .int), .constant RX7 106 (100000), .methodLink RX7 150 yX7_lastOf, .instanceMethod yX7_lastOf, .selects RX7 yX7_lastOf yX7_lastOf, .code yX7_lastOf cX7_lastOf 6 (some .int), .fieldLink RX7 50 "BathBookModel" "onDay" "[I"] ++ wsX70)
def wsX7_told_r1 : List Cond := [Cond.methodLink RX7 157 yX7_isBulb, Cond.instanceMethod yX7_isBulb, Cond.selects RX7 yX7_isBulb yX7_isBulb, Cond.initialized RX7, Cond.code yX7_isBulb cX7_isBulb 2 (some .boolean), Cond.fieldLink RX7 144 "BathBookModel" "bulbs" "I", Cond.methodLink RX7 93 yX7_in, Cond.static yX7_in, Cond.code yX7_in cX7_in 3 (some .boolean), Cond.methodLink RX7 160 yX7_tells, Cond.instanceMethod yX7_tells, Cond.selects RX7 yX7_tells yX7_tells, Cond.code yX7_tells cX7_tells 6 (some .int), Cond.fieldLink RX7 147 "BathBookModel" "certificates" "I", Cond.fieldLink RX7 41 "BathBookModel" "ofBulb" "[I", Cond.fieldLink RX7 62 "BathBookModel" "isVoid" "[Z", Cond.fieldLink RX7 35 "BathBookModel" "kinds" "[I", Cond.fieldLink RX7 38 "BathBookModel" "tolerances" "[I", Cond.methodLink RX7 154 yX7_latestOf, Cond.instanceMethod yX7_latestOf, Cond.selects RX7 yX7_latestOf yX7_latestOf, Cond.code yX7_latestOf cX7_latestOf 2 (some .int), Cond.constant RX7 106 (100000), Cond.methodLink RX7 150 yX7_lastOf]
def wsX7_told_r2 : List Cond := [Cond.instanceMethod yX7_lastOf, Cond.selects RX7 yX7_lastOf yX7_lastOf, Cond.code yX7_lastOf cX7_lastOf 6 (some .int), Cond.fieldLink RX7 50 "BathBookModel" "onDay" "[I"]
def wsX7_told : List Cond := .code yX7_told cX7_told 3 (some .int) :: ((wsX7_told_r1 ++ wsX7_told_r2) ++ wsX70)
def wsX7_is : List Cond := .code yX7_is cX7_is 3 (some .boolean) :: ([.fieldLink RX7 35 "BathBookModel" "kinds" "[I"] ++ wsX70)
def wsX7_restsOn : List Cond := .code yX7_restsOn cX7_restsOn 5 (some .boolean) :: ([.fieldLink RX7 59 "BathBookModel" "rest" "[I", .fieldLink RX7 41 "BathBookModel" "ofBulb" "[I"] ++ wsX70)
def wsX7_mark_r1 : List Cond := [Cond.fieldLink RX7 38 "BathBookModel" "tolerances" "[I", Cond.fieldLink RX7 147 "BathBookModel" "certificates" "I", Cond.fieldLink RX7 62 "BathBookModel" "isVoid" "[Z", Cond.fieldLink RX7 44 "BathBookModel" "byBulb" "[I", Cond.methodLink RX7 157 yX7_isBulb, Cond.instanceMethod yX7_isBulb, Cond.selects RX7 yX7_isBulb yX7_isBulb, Cond.initialized RX7, Cond.code yX7_isBulb cX7_isBulb 2 (some .boolean), Cond.fieldLink RX7 144 "BathBookModel" "bulbs" "I", Cond.methodLink RX7 93 yX7_in, Cond.static yX7_in, Cond.code yX7_in cX7_in 3 (some .boolean), Cond.methodLink RX7 164 yX7_is, Cond.instanceMethod yX7_is, Cond.selects RX7 yX7_is yX7_is, Cond.code yX7_is cX7_is 3 (some .boolean), Cond.fieldLink RX7 35 "BathBookModel" "kinds" "[I", Cond.methodLink RX7 101 yX7_meets, Cond.instanceMethod yX7_meets, Cond.selects RX7 yX7_meets yX7_meets, Cond.code yX7_meets cX7_meets 2 (some .int), Cond.fieldLink RX7 75 "BathBookModel" "finding" "I", Cond.fieldLink RX7 7 "BathBookModel" "findings" "[I"]
def wsX7_mark_r2 : List Cond := [Cond.methodLink RX7 168 yX7_restsOn, Cond.instanceMethod yX7_restsOn, Cond.selects RX7 yX7_restsOn yX7_restsOn, Cond.code yX7_restsOn cX7_restsOn 5 (some .boolean), Cond.fieldLink RX7 59 "BathBookModel" "rest" "[I", Cond.fieldLink RX7 41 "BathBookModel" "ofBulb" "[I"]
def wsX7_mark : List Cond := .code yX7_mark cX7_mark 5 (some .int) :: ((wsX7_mark_r1 ++ wsX7_mark_r2) ++ wsX70)
def wsX7_stem_r1 : List Cond := [Cond.constant RX7 105 (-100000), Cond.constant RX7 106 (100000), Cond.constantLong RX7 171 (100000), Cond.constantLong RX7 173 (16), Cond.methodLink RX7 157 yX7_isBulb, Cond.instanceMethod yX7_isBulb, Cond.selects RX7 yX7_isBulb yX7_isBulb, Cond.initialized RX7, Cond.code yX7_isBulb cX7_isBulb 2 (some .boolean), Cond.fieldLink RX7 144 "BathBookModel" "bulbs" "I", Cond.methodLink RX7 93 yX7_in, Cond.static yX7_in, Cond.code yX7_in cX7_in 3 (some .boolean), Cond.methodLink RX7 164 yX7_is, Cond.instanceMethod yX7_is, Cond.selects RX7 yX7_is yX7_is, Cond.code yX7_is cX7_is 3 (some .boolean), Cond.fieldLink RX7 35 "BathBookModel" "kinds" "[I", Cond.methodLink RX7 101 yX7_meets, Cond.instanceMethod yX7_meets, Cond.selects RX7 yX7_meets yX7_meets, Cond.code yX7_meets cX7_meets 2 (some .int), Cond.fieldLink RX7 75 "BathBookModel" "finding" "I", Cond.fieldLink RX7 7 "BathBookModel" "findings" "[I"]
def wsX7_stem_r2 : List Cond := [Cond.methodLink RX7 114 yX7_tell, Cond.instanceMethod yX7_tell, Cond.selects RX7 yX7_tell yX7_tell, Cond.code yX7_tell cX7_tell 8 (some .int), Cond.fieldLink RX7 87 "BathBookModel" "upper" "J", Cond.fieldLink RX7 13 "BathBookModel" "lower" "J", Cond.methodLink RX7 83 yX7_divisor, Cond.static yX7_divisor, Cond.code yX7_divisor cX7_divisor 10 (some .long), Cond.methodLink RX7 79 yX7_size, Cond.static yX7_size, Cond.code yX7_size cX7_size 2 (some .long)]
def wsX7_stem : List Cond := .code yX7_stem cX7_stem 6 (some .int) :: ((wsX7_stem_r1 ++ wsX7_stem_r2) ++ wsX70)
def wsX7_currents_r1 : List Cond := [Cond.constant RX7 105 (-100000), Cond.constant RX7 106 (100000), Cond.methodLink RX7 157 yX7_isBulb, Cond.instanceMethod yX7_isBulb, Cond.selects RX7 yX7_isBulb yX7_isBulb, Cond.initialized RX7, Cond.code yX7_isBulb cX7_isBulb 2 (some .boolean), Cond.fieldLink RX7 144 "BathBookModel" "bulbs" "I", Cond.methodLink RX7 93 yX7_in, Cond.static yX7_in, Cond.code yX7_in cX7_in 3 (some .boolean), Cond.methodLink RX7 164 yX7_is, Cond.instanceMethod yX7_is, Cond.selects RX7 yX7_is yX7_is, Cond.code yX7_is cX7_is 3 (some .boolean), Cond.fieldLink RX7 35 "BathBookModel" "kinds" "[I", Cond.methodLink RX7 101 yX7_meets, Cond.instanceMethod yX7_meets, Cond.selects RX7 yX7_meets yX7_meets, Cond.code yX7_meets cX7_meets 2 (some .int), Cond.fieldLink RX7 75 "BathBookModel" "finding" "I", Cond.fieldLink RX7 7 "BathBookModel" "findings" "[I", Cond.methodLink RX7 114 yX7_tell, Cond.instanceMethod yX7_tell]
def wsX7_currents_r2 : List Cond := [Cond.selects RX7 yX7_tell yX7_tell, Cond.code yX7_tell cX7_tell 8 (some .int), Cond.fieldLink RX7 87 "BathBookModel" "upper" "J", Cond.fieldLink RX7 13 "BathBookModel" "lower" "J", Cond.methodLink RX7 83 yX7_divisor, Cond.static yX7_divisor, Cond.code yX7_divisor cX7_divisor 10 (some .long), Cond.methodLink RX7 79 yX7_size, Cond.static yX7_size, Cond.code yX7_size cX7_size 2 (some .long)]
def wsX7_currents : List Cond := .code yX7_currents cX7_currents 6 (some .int) :: ((wsX7_currents_r1 ++ wsX7_currents_r2) ++ wsX70)
def wsX7_compare_r1 : List Cond := [Cond.fieldLink RX7 17 "BathBookModel" "sizes" "[I", Cond.fieldLink RX7 20 "BathBookModel" "rows" "[I", Cond.constantLong RX7 175 (2), Cond.methodLink RX7 107 yX7_looked, Cond.instanceMethod yX7_looked, Cond.selects RX7 yX7_looked yX7_looked, Cond.initialized RX7, Cond.code yX7_looked cX7_looked 2 (some .int), Cond.methodLink RX7 97 yX7_isRow, Cond.static yX7_isRow, Cond.code yX7_isRow cX7_isRow 1 (some .boolean), Cond.methodLink RX7 93 yX7_in, Cond.static yX7_in, Cond.code yX7_in cX7_in 3 (some .boolean), Cond.methodLink RX7 101 yX7_meets, Cond.instanceMethod yX7_meets, Cond.selects RX7 yX7_meets yX7_meets, Cond.code yX7_meets cX7_meets 2 (some .int), Cond.fieldLink RX7 75 "BathBookModel" "finding" "I", Cond.fieldLink RX7 7 "BathBookModel" "findings" "[I", Cond.methodLink RX7 114 yX7_tell, Cond.instanceMethod yX7_tell, Cond.selects RX7 yX7_tell yX7_tell, Cond.code yX7_tell cX7_tell 8 (some .int)]
def wsX7_compare_r2 : List Cond := [Cond.fieldLink RX7 87 "BathBookModel" "upper" "J", Cond.fieldLink RX7 13 "BathBookModel" "lower" "J", Cond.methodLink RX7 83 yX7_divisor, Cond.static yX7_divisor, Cond.code yX7_divisor cX7_divisor 10 (some .long), Cond.methodLink RX7 79 yX7_size, Cond.static yX7_size, Cond.code yX7_size cX7_size 2 (some .long)]
def wsX7_compare : List Cond := .code yX7_compare cX7_compare 9 (some .int) :: ((wsX7_compare_r1 ++ wsX7_compare_r2) ++ wsX70)
def wsX7_isCertificate : List Cond := .code yX7_isCertificate cX7_isCertificate 2 (some .boolean) :: ([.fieldLink RX7 147 "BathBookModel" "certificates" "I", .methodLink RX7 93 yX7_in, .static yX7_in, .initialized RX7, .code yX7_in cX7_in 3 (some .boolean)] ++ wsX70)
def wsX7_isDay : List Cond := .code yX7_isDay cX7_isDay 1 (some .boolean) :: ([.constant RX7 106 (100000), .methodLink RX7 93 yX7_in, .static yX7_in, .initialized RX7, .code yX7_in cX7_in 3 (some .boolean)])
def wsX7_certify_r1 : List Cond := [Cond.fieldLink RX7 147 "BathBookModel" "certificates" "I", Cond.fieldLink RX7 41 "BathBookModel" "ofBulb" "[I", Cond.fieldLink RX7 44 "BathBookModel" "byBulb" "[I", Cond.fieldLink RX7 47 "BathBookModel" "inBath" "[I", Cond.fieldLink RX7 50 "BathBookModel" "onDay" "[I", Cond.fieldLink RX7 53 "BathBookModel" "offsets" "[I", Cond.fieldLink RX7 56 "BathBookModel" "ends" "[I", Cond.fieldLink RX7 59 "BathBookModel" "rest" "[I", Cond.methodLink RX7 157 yX7_isBulb, Cond.instanceMethod yX7_isBulb, Cond.selects RX7 yX7_isBulb yX7_isBulb, Cond.initialized RX7, Cond.code yX7_isBulb cX7_isBulb 2 (some .boolean), Cond.fieldLink RX7 144 "BathBookModel" "bulbs" "I", Cond.methodLink RX7 93 yX7_in, Cond.static yX7_in, Cond.code yX7_in cX7_in 3 (some .boolean), Cond.methodLink RX7 177 yX7_isDay, Cond.static yX7_isDay, Cond.code yX7_isDay cX7_isDay 1 (some .boolean), Cond.constant RX7 106 (100000), Cond.methodLink RX7 150 yX7_lastOf, Cond.instanceMethod yX7_lastOf, Cond.selects RX7 yX7_lastOf yX7_lastOf]
def wsX7_certify_r2 : List Cond := [Cond.code yX7_lastOf cX7_lastOf 6 (some .int), Cond.fieldLink RX7 62 "BathBookModel" "isVoid" "[Z"]
def wsX7_certify : List Cond := .code yX7_certify cX7_certify 8 (some .int) :: ((wsX7_certify_r1 ++ wsX7_certify_r2) ++ wsX70)
def wsX7_tellsOf : List Cond := .code yX7_tellsOf cX7_tellsOf 3 (some .int) :: ([.fieldLink RX7 41 "BathBookModel" "ofBulb" "[I", .fieldLink RX7 44 "BathBookModel" "byBulb" "[I", .fieldLink RX7 47 "BathBookModel" "inBath" "[I", .fieldLink RX7 50 "BathBookModel" "onDay" "[I", .fieldLink RX7 56 "BathBookModel" "ends" "[I", .fieldLink RX7 62 "BathBookModel" "isVoid" "[Z", .fieldLink RX7 59 "BathBookModel" "rest" "[I"] ++ wsX70)
def wsX7_certificate : List Cond := .code yX7_certificate cX7_certificate 3 (some .int) :: ([.methodLink RX7 180 yX7_isCertificate, .instanceMethod yX7_isCertificate, .selects RX7 yX7_isCertificate yX7_isCertificate, .initialized RX7, .code yX7_isCertificate cX7_isCertificate 2 (some .boolean), .fieldLink RX7 147 "BathBookModel" "certificates" "I", .methodLink RX7 93 yX7_in, .static yX7_in, .code yX7_in cX7_in 3 (some .boolean), .methodLink RX7 183 yX7_tellsOf, .instanceMethod yX7_tellsOf, .selects RX7 yX7_tellsOf yX7_tellsOf, .code yX7_tellsOf cX7_tellsOf 3 (some .int), .fieldLink RX7 41 "BathBookModel" "ofBulb" "[I", .fieldLink RX7 44 "BathBookModel" "byBulb" "[I", .fieldLink RX7 47 "BathBookModel" "inBath" "[I", .fieldLink RX7 50 "BathBookModel" "onDay" "[I", .fieldLink RX7 56 "BathBookModel" "ends" "[I", .fieldLink RX7 62 "BathBookModel" "isVoid" "[Z", .fieldLink RX7 59 "BathBookModel" "rest" "[I"] ++ wsX70)
def wsX7_offset : List Cond := .code yX7_offset cX7_offset 2 (some .int) :: ([.fieldLink RX7 53 "BathBookModel" "offsets" "[I", .methodLink RX7 180 yX7_isCertificate, .instanceMethod yX7_isCertificate, .selects RX7 yX7_isCertificate yX7_isCertificate, .initialized RX7, .code yX7_isCertificate cX7_isCertificate 2 (some .boolean), .fieldLink RX7 147 "BathBookModel" "certificates" "I", .methodLink RX7 93 yX7_in, .static yX7_in, .code yX7_in cX7_in 3 (some .boolean), .methodLink RX7 110 yX7_ask, .instanceMethod yX7_ask, .selects RX7 yX7_ask yX7_ask, .code yX7_ask cX7_ask 4 (some .int), .fieldLink RX7 90 "BathBookModel" "asked" "J"] ++ wsX70)
def wsX7_wrong : List Cond := .code yX7_wrong cX7_wrong 7 (some .int) :: ([.fieldLink RX7 147 "BathBookModel" "certificates" "I", .fieldLink RX7 47 "BathBookModel" "inBath" "[I", .fieldLink RX7 50 "BathBookModel" "onDay" "[I", .fieldLink RX7 59 "BathBookModel" "rest" "[I", .fieldLink RX7 62 "BathBookModel" "isVoid" "[Z", .methodLink RX7 93 yX7_in, .static yX7_in, .initialized RX7, .code yX7_in cX7_in 3 (some .boolean), .methodLink RX7 177 yX7_isDay, .static yX7_isDay, .code yX7_isDay cX7_isDay 1 (some .boolean), .constant RX7 106 (100000)] ++ wsX70)
def wsX7_passes_r1 : List Cond := [Cond.fieldLink RX7 53 "BathBookModel" "offsets" "[I", Cond.fieldLink RX7 56 "BathBookModel" "ends" "[I", Cond.fieldLink RX7 38 "BathBookModel" "tolerances" "[I", Cond.methodLink RX7 157 yX7_isBulb, Cond.instanceMethod yX7_isBulb, Cond.selects RX7 yX7_isBulb yX7_isBulb, Cond.initialized RX7, Cond.code yX7_isBulb cX7_isBulb 2 (some .boolean), Cond.fieldLink RX7 144 "BathBookModel" "bulbs" "I", Cond.methodLink RX7 93 yX7_in, Cond.static yX7_in, Cond.code yX7_in cX7_in 3 (some .boolean), Cond.methodLink RX7 154 yX7_latestOf, Cond.instanceMethod yX7_latestOf, Cond.selects RX7 yX7_latestOf yX7_latestOf, Cond.code yX7_latestOf cX7_latestOf 2 (some .int), Cond.constant RX7 106 (100000), Cond.fieldLink RX7 147 "BathBookModel" "certificates" "I", Cond.methodLink RX7 150 yX7_lastOf, Cond.instanceMethod yX7_lastOf, Cond.selects RX7 yX7_lastOf yX7_lastOf, Cond.code yX7_lastOf cX7_lastOf 6 (some .int), Cond.fieldLink RX7 41 "BathBookModel" "ofBulb" "[I", Cond.fieldLink RX7 62 "BathBookModel" "isVoid" "[Z"]
def wsX7_passes_r2 : List Cond := [Cond.fieldLink RX7 50 "BathBookModel" "onDay" "[I", Cond.methodLink RX7 79 yX7_size, Cond.static yX7_size, Cond.code yX7_size cX7_size 2 (some .long)]
def wsX7_passes : List Cond := .code yX7_passes cX7_passes 3 (some .int) :: ((wsX7_passes_r1 ++ wsX7_passes_r2) ++ wsX70)
def wsX7_whole : List Cond := .code yX7_whole cX7_whole 6 (some .int) :: ([.fieldLink RX7 56 "BathBookModel" "ends" "[I", .fieldLink RX7 59 "BathBookModel" "rest" "[I", .methodLink RX7 180 yX7_isCertificate, .instanceMethod yX7_isCertificate, .selects RX7 yX7_isCertificate yX7_isCertificate, .initialized RX7, .code yX7_isCertificate cX7_isCertificate 2 (some .boolean), .fieldLink RX7 147 "BathBookModel" "certificates" "I", .methodLink RX7 93 yX7_in, .static yX7_in, .code yX7_in cX7_in 3 (some .boolean), .methodLink RX7 110 yX7_ask, .instanceMethod yX7_ask, .selects RX7 yX7_ask yX7_ask, .code yX7_ask cX7_ask 4 (some .int), .fieldLink RX7 90 "BathBookModel" "asked" "J"] ++ wsX70)
def wsX7_askedTwo_r1 : List Cond := [Cond.fieldLink RX7 186 "BathBookModel" "last" "I", Cond.constant RX7 106 (100000), Cond.fieldLink RX7 189 "BathBookModel" "ahead" "I", Cond.fieldLink RX7 50 "BathBookModel" "onDay" "[I", Cond.methodLink RX7 157 yX7_isBulb, Cond.instanceMethod yX7_isBulb, Cond.selects RX7 yX7_isBulb yX7_isBulb, Cond.initialized RX7, Cond.code yX7_isBulb cX7_isBulb 2 (some .boolean), Cond.fieldLink RX7 144 "BathBookModel" "bulbs" "I", Cond.methodLink RX7 93 yX7_in, Cond.static yX7_in, Cond.code yX7_in cX7_in 3 (some .boolean), Cond.methodLink RX7 154 yX7_latestOf, Cond.instanceMethod yX7_latestOf, Cond.selects RX7 yX7_latestOf yX7_latestOf, Cond.code yX7_latestOf cX7_latestOf 2 (some .int), Cond.fieldLink RX7 147 "BathBookModel" "certificates" "I", Cond.methodLink RX7 150 yX7_lastOf, Cond.instanceMethod yX7_lastOf, Cond.selects RX7 yX7_lastOf yX7_lastOf, Cond.code yX7_lastOf cX7_lastOf 6 (some .int), Cond.fieldLink RX7 41 "BathBookModel" "ofBulb" "[I", Cond.fieldLink RX7 62 "BathBookModel" "isVoid" "[Z"]
def wsX7_askedTwo_r2 : List Cond := [Cond.methodLink RX7 101 yX7_meets, Cond.instanceMethod yX7_meets, Cond.selects RX7 yX7_meets yX7_meets, Cond.code yX7_meets cX7_meets 2 (some .int), Cond.fieldLink RX7 75 "BathBookModel" "finding" "I", Cond.fieldLink RX7 7 "BathBookModel" "findings" "[I"]
def wsX7_askedTwo : List Cond := .code yX7_askedTwo cX7_askedTwo 2 (some .int) :: ((wsX7_askedTwo_r1 ++ wsX7_askedTwo_r2) ++ wsX70)
def wsX7_drift_r1 : List Cond := [Cond.fieldLink RX7 53 "BathBookModel" "offsets" "[I", Cond.fieldLink RX7 186 "BathBookModel" "last" "I", Cond.fieldLink RX7 189 "BathBookModel" "ahead" "I", Cond.fieldLink RX7 50 "BathBookModel" "onDay" "[I", Cond.methodLink RX7 192 yX7_askedTwo, Cond.instanceMethod yX7_askedTwo, Cond.selects RX7 yX7_askedTwo yX7_askedTwo, Cond.initialized RX7, Cond.code yX7_askedTwo cX7_askedTwo 2 (some .int), Cond.constant RX7 106 (100000), Cond.methodLink RX7 157 yX7_isBulb, Cond.instanceMethod yX7_isBulb, Cond.selects RX7 yX7_isBulb yX7_isBulb, Cond.code yX7_isBulb cX7_isBulb 2 (some .boolean), Cond.fieldLink RX7 144 "BathBookModel" "bulbs" "I", Cond.methodLink RX7 93 yX7_in, Cond.static yX7_in, Cond.code yX7_in cX7_in 3 (some .boolean), Cond.methodLink RX7 154 yX7_latestOf, Cond.instanceMethod yX7_latestOf, Cond.selects RX7 yX7_latestOf yX7_latestOf, Cond.code yX7_latestOf cX7_latestOf 2 (some .int), Cond.fieldLink RX7 147 "BathBookModel" "certificates" "I", Cond.methodLink RX7 150 yX7_lastOf]
def wsX7_drift_r2 : List Cond := [Cond.instanceMethod yX7_lastOf, Cond.selects RX7 yX7_lastOf yX7_lastOf, Cond.code yX7_lastOf cX7_lastOf 6 (some .int), Cond.fieldLink RX7 41 "BathBookModel" "ofBulb" "[I", Cond.fieldLink RX7 62 "BathBookModel" "isVoid" "[Z", Cond.methodLink RX7 101 yX7_meets, Cond.instanceMethod yX7_meets, Cond.selects RX7 yX7_meets yX7_meets, Cond.code yX7_meets cX7_meets 2 (some .int), Cond.fieldLink RX7 75 "BathBookModel" "finding" "I", Cond.fieldLink RX7 7 "BathBookModel" "findings" "[I", Cond.methodLink RX7 114 yX7_tell, Cond.instanceMethod yX7_tell, Cond.selects RX7 yX7_tell yX7_tell, Cond.code yX7_tell cX7_tell 8 (some .int), Cond.fieldLink RX7 87 "BathBookModel" "upper" "J", Cond.fieldLink RX7 13 "BathBookModel" "lower" "J", Cond.methodLink RX7 83 yX7_divisor, Cond.static yX7_divisor, Cond.code yX7_divisor cX7_divisor 10 (some .long), Cond.methodLink RX7 79 yX7_size, Cond.static yX7_size, Cond.code yX7_size cX7_size 2 (some .long)]
def wsX7_drift : List Cond := .code yX7_drift cX7_drift 3 (some .int) :: ((wsX7_drift_r1 ++ wsX7_drift_r2) ++ wsX70)
def wsX7_due_r1 : List Cond := [Cond.fieldLink RX7 53 "BathBookModel" "offsets" "[I", Cond.fieldLink RX7 186 "BathBookModel" "last" "I", Cond.fieldLink RX7 189 "BathBookModel" "ahead" "I", Cond.fieldLink RX7 50 "BathBookModel" "onDay" "[I", Cond.constant RX7 106 (100000), Cond.fieldLink RX7 56 "BathBookModel" "ends" "[I", Cond.fieldLink RX7 38 "BathBookModel" "tolerances" "[I", Cond.constant RX7 195 (100001), Cond.methodLink RX7 192 yX7_askedTwo, Cond.instanceMethod yX7_askedTwo, Cond.selects RX7 yX7_askedTwo yX7_askedTwo, Cond.initialized RX7, Cond.code yX7_askedTwo cX7_askedTwo 2 (some .int), Cond.methodLink RX7 157 yX7_isBulb, Cond.instanceMethod yX7_isBulb, Cond.selects RX7 yX7_isBulb yX7_isBulb, Cond.code yX7_isBulb cX7_isBulb 2 (some .boolean), Cond.fieldLink RX7 144 "BathBookModel" "bulbs" "I", Cond.methodLink RX7 93 yX7_in, Cond.static yX7_in, Cond.code yX7_in cX7_in 3 (some .boolean), Cond.methodLink RX7 154 yX7_latestOf, Cond.instanceMethod yX7_latestOf, Cond.selects RX7 yX7_latestOf yX7_latestOf]
def wsX7_due_r2 : List Cond := [Cond.code yX7_latestOf cX7_latestOf 2 (some .int), Cond.fieldLink RX7 147 "BathBookModel" "certificates" "I", Cond.methodLink RX7 150 yX7_lastOf, Cond.instanceMethod yX7_lastOf, Cond.selects RX7 yX7_lastOf yX7_lastOf, Cond.code yX7_lastOf cX7_lastOf 6 (some .int), Cond.fieldLink RX7 41 "BathBookModel" "ofBulb" "[I", Cond.fieldLink RX7 62 "BathBookModel" "isVoid" "[Z", Cond.methodLink RX7 101 yX7_meets, Cond.instanceMethod yX7_meets, Cond.selects RX7 yX7_meets yX7_meets, Cond.code yX7_meets cX7_meets 2 (some .int), Cond.fieldLink RX7 75 "BathBookModel" "finding" "I", Cond.fieldLink RX7 7 "BathBookModel" "findings" "[I", Cond.methodLink RX7 79 yX7_size, Cond.static yX7_size, Cond.code yX7_size cX7_size 2 (some .long)]
def wsX7_due : List Cond := .code yX7_due cX7_due 10 (some .int) :: ((wsX7_due_r1 ++ wsX7_due_r2) ++ wsX70)
def wsX7_resting : List Cond := .code yX7_resting cX7_resting 5 (some .int) :: ([.fieldLink RX7 147 "BathBookModel" "certificates" "I", .fieldLink RX7 59 "BathBookModel" "rest" "[I", .methodLink RX7 180 yX7_isCertificate, .instanceMethod yX7_isCertificate, .selects RX7 yX7_isCertificate yX7_isCertificate, .initialized RX7, .code yX7_isCertificate cX7_isCertificate 2 (some .boolean), .methodLink RX7 93 yX7_in, .static yX7_in, .code yX7_in cX7_in 3 (some .boolean)] ++ wsX70)
def wsX7_isLab : List Cond := .code yX7_isLab cX7_isLab 1 (some .boolean) :: ([.methodLink RX7 93 yX7_in, .static yX7_in, .initialized RX7, .code yX7_in cX7_in 3 (some .boolean)])
def wsX7_lab : List Cond := .code yX7_lab cX7_lab 5 (some .int) :: ([.fieldLink RX7 66 "BathBookModel" "isTold" "[Z", .fieldLink RX7 69 "BathBookModel" "differences" "[I", .fieldLink RX7 72 "BathBookModel" "labEnds" "[I", .methodLink RX7 196 yX7_isLab, .static yX7_isLab, .initialized RX7, .code yX7_isLab cX7_isLab 1 (some .boolean), .methodLink RX7 93 yX7_in, .static yX7_in, .code yX7_in cX7_in 3 (some .boolean)] ++ wsX70)
def wsX7_isRing : List Cond := .code yX7_isRing cX7_isRing 4 (some .boolean) :: ([.fieldLink RX7 66 "BathBookModel" "isTold" "[Z"] ++ wsX70)
def wsX7_over : List Cond := .code yX7_over cX7_over 4 (some .int) :: ([.fieldLink RX7 69 "BathBookModel" "differences" "[I"] ++ wsX70)
def wsX7_isClosed : List Cond := .code yX7_isClosed cX7_isClosed 4 (some .boolean) :: ([.fieldLink RX7 72 "BathBookModel" "labEnds" "[I", .methodLink RX7 199 yX7_over, .instanceMethod yX7_over, .selects RX7 yX7_over yX7_over, .initialized RX7, .code yX7_over cX7_over 4 (some .int), .fieldLink RX7 69 "BathBookModel" "differences" "[I", .methodLink RX7 79 yX7_size, .static yX7_size, .code yX7_size cX7_size 2 (some .long)] ++ wsX70)
def wsX7_closes_r1 : List Cond := [Cond.methodLink RX7 196 yX7_isLab, Cond.static yX7_isLab, Cond.initialized RX7, Cond.code yX7_isLab cX7_isLab 1 (some .boolean), Cond.methodLink RX7 93 yX7_in, Cond.static yX7_in, Cond.code yX7_in cX7_in 3 (some .boolean), Cond.methodLink RX7 202 yX7_isRing, Cond.instanceMethod yX7_isRing, Cond.selects RX7 yX7_isRing yX7_isRing, Cond.code yX7_isRing cX7_isRing 4 (some .boolean), Cond.fieldLink RX7 66 "BathBookModel" "isTold" "[Z", Cond.methodLink RX7 199 yX7_over, Cond.instanceMethod yX7_over, Cond.selects RX7 yX7_over yX7_over, Cond.code yX7_over cX7_over 4 (some .int), Cond.fieldLink RX7 69 "BathBookModel" "differences" "[I", Cond.methodLink RX7 205 yX7_isClosed, Cond.instanceMethod yX7_isClosed, Cond.selects RX7 yX7_isClosed yX7_isClosed, Cond.code yX7_isClosed cX7_isClosed 4 (some .boolean), Cond.fieldLink RX7 72 "BathBookModel" "labEnds" "[I", Cond.methodLink RX7 79 yX7_size, Cond.static yX7_size]
def wsX7_closes_r2 : List Cond := [Cond.code yX7_size cX7_size 2 (some .long), Cond.methodLink RX7 110 yX7_ask, Cond.instanceMethod yX7_ask, Cond.selects RX7 yX7_ask yX7_ask, Cond.code yX7_ask cX7_ask 4 (some .int), Cond.fieldLink RX7 90 "BathBookModel" "asked" "J"]
def wsX7_closes : List Cond := .code yX7_closes cX7_closes 4 (some .int) :: ((wsX7_closes_r1 ++ wsX7_closes_r2) ++ wsX70)
def wsX7_open : List Cond := .code yX7_open cX7_open 5 (some .int) :: ([.methodLink RX7 202 yX7_isRing, .instanceMethod yX7_isRing, .selects RX7 yX7_isRing yX7_isRing, .initialized RX7, .code yX7_isRing cX7_isRing 4 (some .boolean), .fieldLink RX7 66 "BathBookModel" "isTold" "[Z", .methodLink RX7 205 yX7_isClosed, .instanceMethod yX7_isClosed, .selects RX7 yX7_isClosed yX7_isClosed, .code yX7_isClosed cX7_isClosed 4 (some .boolean), .fieldLink RX7 72 "BathBookModel" "labEnds" "[I", .methodLink RX7 199 yX7_over, .instanceMethod yX7_over, .selects RX7 yX7_over yX7_over, .code yX7_over cX7_over 4 (some .int), .fieldLink RX7 69 "BathBookModel" "differences" "[I", .methodLink RX7 79 yX7_size, .static yX7_size, .code yX7_size cX7_size 2 (some .long)] ++ wsX70)
def wsX7_asked : List Cond := .code yX7_asked cX7_asked 1 (some .long) :: ([.fieldLink RX7 90 "BathBookModel" "asked" "J"] ++ wsX70)
def wsX7_upper : List Cond := .code yX7_upper cX7_upper 1 (some .long) :: ([.fieldLink RX7 87 "BathBookModel" "upper" "J"] ++ wsX70)
def wsX7_lower : List Cond := .code yX7_lower cX7_lower 1 (some .long) :: ([.fieldLink RX7 13 "BathBookModel" "lower" "J"] ++ wsX70)
def wsX7_tellsCount : List Cond := .code yX7_tellsCount cX7_tellsCount 4 (some .int) :: ([.fieldLink RX7 17 "BathBookModel" "sizes" "[I", .fieldLink RX7 26 "BathBookModel" "points" "[I", .fieldLink RX7 147 "BathBookModel" "certificates" "I", .fieldLink RX7 62 "BathBookModel" "isVoid" "[Z", .fieldLink RX7 144 "BathBookModel" "bulbs" "I"] ++ wsX70)
def wsX7_count : List Cond := .code yX7_count cX7_count 2 (some .int) :: ([.methodLink RX7 93 yX7_in, .static yX7_in, .initialized RX7, .code yX7_in cX7_in 3 (some .boolean), .methodLink RX7 208 yX7_tellsCount, .instanceMethod yX7_tellsCount, .selects RX7 yX7_tellsCount yX7_tellsCount, .code yX7_tellsCount cX7_tellsCount 4 (some .int), .fieldLink RX7 17 "BathBookModel" "sizes" "[I", .fieldLink RX7 26 "BathBookModel" "points" "[I", .fieldLink RX7 147 "BathBookModel" "certificates" "I", .fieldLink RX7 62 "BathBookModel" "isVoid" "[Z", .fieldLink RX7 144 "BathBookModel" "bulbs" "I"] ++ wsX70)
def wsX7_finding : List Cond := .code yX7_finding cX7_finding 1 (some .int) :: ([.fieldLink RX7 75 "BathBookModel" "finding" "I"] ++ wsX70)
def wsX7_findings : List Cond := .code yX7_findings cX7_findings 2 (some .int) :: ([.fieldLink RX7 7 "BathBookModel" "findings" "[I", .methodLink RX7 93 yX7_in, .static yX7_in, .initialized RX7, .code yX7_in cX7_in 3 (some .boolean)] ++ wsX70)
def wsX7_digest_r1 : List Cond := [Cond.constantLong RX7 211 (17), Cond.constantLong RX7 213 (31), Cond.fieldLink RX7 144 "BathBookModel" "bulbs" "I", Cond.fieldLink RX7 147 "BathBookModel" "certificates" "I", Cond.fieldLink RX7 53 "BathBookModel" "offsets" "[I", Cond.fieldLink RX7 17 "BathBookModel" "sizes" "[I", Cond.fieldLink RX7 20 "BathBookModel" "rows" "[I", Cond.methodLink RX7 208 yX7_tellsCount, Cond.instanceMethod yX7_tellsCount, Cond.selects RX7 yX7_tellsCount yX7_tellsCount, Cond.initialized RX7, Cond.code yX7_tellsCount cX7_tellsCount 4 (some .int), Cond.fieldLink RX7 26 "BathBookModel" "points" "[I", Cond.fieldLink RX7 62 "BathBookModel" "isVoid" "[Z", Cond.methodLink RX7 160 yX7_tells, Cond.instanceMethod yX7_tells, Cond.selects RX7 yX7_tells yX7_tells, Cond.code yX7_tells cX7_tells 6 (some .int), Cond.fieldLink RX7 41 "BathBookModel" "ofBulb" "[I", Cond.fieldLink RX7 35 "BathBookModel" "kinds" "[I", Cond.fieldLink RX7 38 "BathBookModel" "tolerances" "[I", Cond.methodLink RX7 154 yX7_latestOf, Cond.instanceMethod yX7_latestOf, Cond.selects RX7 yX7_latestOf yX7_latestOf]
def wsX7_digest_r2 : List Cond := [Cond.code yX7_latestOf cX7_latestOf 2 (some .int), Cond.constant RX7 106 (100000), Cond.methodLink RX7 150 yX7_lastOf, Cond.instanceMethod yX7_lastOf, Cond.selects RX7 yX7_lastOf yX7_lastOf, Cond.code yX7_lastOf cX7_lastOf 6 (some .int), Cond.fieldLink RX7 50 "BathBookModel" "onDay" "[I", Cond.methodLink RX7 183 yX7_tellsOf, Cond.instanceMethod yX7_tellsOf, Cond.selects RX7 yX7_tellsOf yX7_tellsOf, Cond.code yX7_tellsOf cX7_tellsOf 3 (some .int), Cond.fieldLink RX7 44 "BathBookModel" "byBulb" "[I", Cond.fieldLink RX7 47 "BathBookModel" "inBath" "[I", Cond.fieldLink RX7 56 "BathBookModel" "ends" "[I", Cond.fieldLink RX7 59 "BathBookModel" "rest" "[I"]
def wsX7_digest : List Cond := .code yX7_digest cX7_digest 5 (some .long) :: ((wsX7_digest_r1 ++ wsX7_digest_r2) ++ wsX70)
def wsJ9_abs_0f7a4 : List Cond := .code yJ9_abs_0f7a4 cJ9_abs_0f7a4 1 (some .int) :: ([])
def wsJ9_abs_067f4 : List Cond := .code yJ9_abs_067f4 cJ9_abs_067f4 2 (some .long) :: ([])
def wsJ9_max_7cf53 : List Cond := .code yJ9_max_7cf53 cJ9_max_7cf53 2 (some .int) :: ([])
def wsJ9_min_7cf53 : List Cond := .code yJ9_min_7cf53 cJ9_min_7cf53 2 (some .int) :: ([])
def wsJ9_min_f86c9 : List Cond := .code yJ9_min_f86c9 cJ9_min_f86c9 4 (some .long) :: ([])
def wsL_law_r1 : List Cond := [Cond.classLink RL 7 RX6, Cond.instantiable RX6 9, Cond.initialized RX6, Cond.classLink RL 10 RX7, Cond.instantiable RX7 30, Cond.initialized RX7, Cond.methodLink RL 9 yX6_init, Cond.instanceMethod yX6_init, Cond.code yX6_init cX6_init 1 none, Cond.methodLink RX6 1 objectInit, Cond.instanceMethod objectInit, Cond.code objectInit ⟨#[0xb1]⟩ 1 none, Cond.classLink RX6 7 RX4, Cond.instantiable RX4 2, Cond.initialized RX4, Cond.fieldLink RX6 10 "BathBook" "rows" "LBathBook$Rows;", Cond.classLink RX6 16 RX5, Cond.instantiable RX5 3, Cond.initialized RX5, Cond.fieldLink RX6 19 "BathBook" "tables" "LBathBook$Tables;", Cond.classLink RX6 23 RX0, Cond.instantiable RX0 3, Cond.initialized RX0, Cond.fieldLink RX6 26 "BathBook" "bulbs" "LBathBook$Bulbs;"]
def wsL_law_r2 : List Cond := [Cond.classLink RX6 30 RX1, Cond.instantiable RX1 2, Cond.initialized RX1, Cond.fieldLink RX6 33 "BathBook" "certificates" "LBathBook$Certificates;", Cond.classLink RX6 37 RX3, Cond.instantiable RX3 2, Cond.initialized RX3, Cond.fieldLink RX6 40 "BathBook" "round" "LBathBook$Round;", Cond.classLink RX6 44 RX2, Cond.instantiable RX2 2, Cond.initialized RX2, Cond.fieldLink RX6 47 "BathBook" "fraction" "LBathBook$Fraction;", Cond.arrayClass .int, Cond.fieldLink RX6 51 "BathBook" "findingCounts" "[I", Cond.fieldLink RX6 55 "BathBook" "lastFinding" "I", Cond.fieldLink RX6 59 "BathBook" "lastAsked" "J", Cond.methodLink RX6 9 yX4_init, Cond.instanceMethod yX4_init, Cond.code yX4_init cX4_init 1 none, Cond.methodLink RX4 3 objectInit, Cond.classLink RX4 9 "[[I", Cond.fieldLink RX4 11 "BathBook$Rows" "readings" "[[I", Cond.fieldLink RX4 16 "BathBook$Rows" "sizes" "[I", Cond.methodLink RX4 20 yJ7_fill_53178]
def wsL_law_r3 : List Cond := [Cond.static yJ7_fill_53178, Cond.initialized RJ7, Cond.code yJ7_fill_53178 cJ7_fill_53178 4 none, Cond.methodLink RX6 18 yX5_init, Cond.instanceMethod yX5_init, Cond.code yX5_init cX5_init 1 none, Cond.methodLink RX5 3 objectInit, Cond.classLink RX5 9 "[[I", Cond.fieldLink RX5 11 "BathBook$Tables" "xs" "[[I", Cond.fieldLink RX5 16 "BathBook$Tables" "ys" "[[I", Cond.fieldLink RX5 19 "BathBook$Tables" "sizes" "[I", Cond.methodLink RX6 25 yX0_init, Cond.instanceMethod yX0_init, Cond.code yX0_init cX0_init 1 none, Cond.methodLink RX0 3 objectInit, Cond.fieldLink RX0 9 "BathBook$Bulbs" "kinds" "[I", Cond.fieldLink RX0 15 "BathBook$Bulbs" "tolerances" "[I", Cond.fieldLink RX0 18 "BathBook$Bulbs" "made" "I", Cond.methodLink RX6 32 yX1_init, Cond.instanceMethod yX1_init, Cond.code yX1_init cX1_init 1 none, Cond.methodLink RX1 3 objectInit, Cond.classLink RX1 11 "[[I", Cond.fieldLink RX1 13 "BathBook$Certificates" "facts" "[[I"]
def wsL_law_r4 : List Cond := [Cond.fieldLink RX1 16 "BathBook$Certificates" "made" "I", Cond.methodLink RX6 39 yX3_init, Cond.instanceMethod yX3_init, Cond.code yX3_init cX3_init 2 none, Cond.methodLink RX3 3 objectInit, Cond.classLink RX3 9 "[[I", Cond.fieldLink RX3 11 "BathBook$Round" "differences" "[[I", Cond.fieldLink RX3 16 "BathBook$Round" "ends" "[[I", Cond.methodLink RX3 19 yJ7_fill_53178, Cond.methodLink RX6 46 yX2_init, Cond.instanceMethod yX2_init, Cond.code yX2_init cX2_init 1 none, Cond.methodLink RX2 1 objectInit, Cond.fieldLink RX2 7 "BathBook$Fraction" "top" "J", Cond.fieldLink RX2 13 "BathBook$Fraction" "bottom" "J", Cond.methodLink RL 12 yX7_init, Cond.instanceMethod yX7_init, Cond.code yX7_init cX7_init 2 none, Cond.methodLink RX7 1 objectInit, Cond.fieldLink RX7 7 "BathBookModel" "findings" "[I", Cond.fieldLink RX7 13 "BathBookModel" "lower" "J", Cond.fieldLink RX7 17 "BathBookModel" "sizes" "[I", Cond.fieldLink RX7 20 "BathBookModel" "rows" "[I", Cond.fieldLink RX7 23 "BathBookModel" "moving" "[I"]
def wsL_law_r5 : List Cond := [Cond.fieldLink RX7 26 "BathBookModel" "points" "[I", Cond.fieldLink RX7 29 "BathBookModel" "xs" "[I", Cond.fieldLink RX7 32 "BathBookModel" "ys" "[I", Cond.fieldLink RX7 35 "BathBookModel" "kinds" "[I", Cond.fieldLink RX7 38 "BathBookModel" "tolerances" "[I", Cond.fieldLink RX7 41 "BathBookModel" "ofBulb" "[I", Cond.fieldLink RX7 44 "BathBookModel" "byBulb" "[I", Cond.fieldLink RX7 47 "BathBookModel" "inBath" "[I", Cond.fieldLink RX7 50 "BathBookModel" "onDay" "[I", Cond.fieldLink RX7 53 "BathBookModel" "offsets" "[I", Cond.fieldLink RX7 56 "BathBookModel" "ends" "[I", Cond.fieldLink RX7 59 "BathBookModel" "rest" "[I", Cond.arrayClass .boolean, Cond.fieldLink RX7 62 "BathBookModel" "isVoid" "[Z", Cond.fieldLink RX7 66 "BathBookModel" "isTold" "[Z", Cond.fieldLink RX7 69 "BathBookModel" "differences" "[I", Cond.fieldLink RX7 72 "BathBookModel" "labEnds" "[I", Cond.methodLink RL 13 yX6_row, Cond.instanceMethod yX6_row, Cond.selects RX6 yX6_row yX6_row, Cond.code yX6_row cX6_row 3 (some .int), Cond.methodLink RX6 63 yX6_isRow, Cond.static yX6_isRow, Cond.code yX6_isRow cX6_isRow 1 (some .boolean)]
def wsL_law_r6 : List Cond := [Cond.methodLink RX6 113 yX6_isBetween, Cond.static yX6_isBetween, Cond.code yX6_isBetween cX6_isBetween 3 (some .boolean), Cond.methodLink RX6 67 yX6_refuse, Cond.instanceMethod yX6_refuse, Cond.selects RX6 yX6_refuse yX6_refuse, Cond.code yX6_refuse cX6_refuse 2 (some .int), Cond.methodLink RX6 71 yX4_make, Cond.instanceMethod yX4_make, Cond.selects RX4 yX4_make yX4_make, Cond.code yX4_make cX4_make 3 none, Cond.methodLink RL 17 yX7_row, Cond.instanceMethod yX7_row, Cond.selects RX7 yX7_row yX7_row, Cond.code yX7_row cX7_row 4 (some .int), Cond.methodLink RX7 97 yX7_isRow, Cond.static yX7_isRow, Cond.code yX7_isRow cX7_isRow 1 (some .boolean), Cond.methodLink RX7 93 yX7_in, Cond.static yX7_in, Cond.code yX7_in cX7_in 3 (some .boolean), Cond.methodLink RX7 101 yX7_meets, Cond.instanceMethod yX7_meets, Cond.selects RX7 yX7_meets yX7_meets]
def wsL_law_r7 : List Cond := [Cond.code yX7_meets cX7_meets 2 (some .int), Cond.fieldLink RX7 75 "BathBookModel" "finding" "I", Cond.methodLink RL 18 yX6_lay, Cond.instanceMethod yX6_lay, Cond.selects RX6 yX6_lay yX6_lay, Cond.code yX6_lay cX6_lay 4 (some .int), Cond.constant RX6 75 (100000), Cond.methodLink RX6 76 yX6_isWithin, Cond.static yX6_isWithin, Cond.code yX6_isWithin cX6_isWithin 2 (some .boolean), Cond.methodLink RX6 80 yX4_isMissing, Cond.instanceMethod yX4_isMissing, Cond.selects RX4 yX4_isMissing yX4_isMissing, Cond.code yX4_isMissing cX4_isMissing 2 (some .boolean), Cond.methodLink RX6 83 yX4_hasPlaces, Cond.instanceMethod yX4_hasPlaces, Cond.selects RX4 yX4_hasPlaces yX4_hasPlaces, Cond.code yX4_hasPlaces cX4_hasPlaces 4 (some .boolean), Cond.methodLink RX6 87 yX4_readingAt, Cond.instanceMethod yX4_readingAt, Cond.selects RX4 yX4_readingAt yX4_readingAt, Cond.code yX4_readingAt cX4_readingAt 3 (some .int), Cond.methodLink RX6 91 yX4_put, Cond.instanceMethod yX4_put]
def wsL_law_r8 : List Cond := [Cond.selects RX4 yX4_put yX4_put, Cond.code yX4_put cX4_put 4 none, Cond.methodLink RL 22 yX7_lay, Cond.instanceMethod yX7_lay, Cond.selects RX7 yX7_lay yX7_lay, Cond.code yX7_lay cX7_lay 5 (some .int), Cond.constant RX7 105 (-100000), Cond.constant RX7 106 (100000), Cond.fieldLink RX7 90 "BathBookModel" "asked" "J", Cond.methodLink RX7 107 yX7_looked, Cond.instanceMethod yX7_looked, Cond.selects RX7 yX7_looked yX7_looked, Cond.code yX7_looked cX7_looked 2 (some .int), Cond.methodLink RL 23 yX6_tear, Cond.instanceMethod yX6_tear, Cond.selects RX6 yX6_tear yX6_tear, Cond.code yX6_tear cX6_tear 2 (some .int), Cond.methodLink RX6 95 yX4_drop, Cond.instanceMethod yX4_drop, Cond.selects RX4 yX4_drop yX4_drop, Cond.code yX4_drop cX4_drop 2 none, Cond.methodLink RL 27 yX7_tear, Cond.instanceMethod yX7_tear, Cond.selects RX7 yX7_tear yX7_tear]
def wsL_law_r9 : List Cond := [Cond.code yX7_tear cX7_tear 3 (some .int), Cond.methodLink RL 28 yX6_copy, Cond.instanceMethod yX6_copy, Cond.selects RX6 yX6_copy yX6_copy, Cond.code yX6_copy cX6_copy 6 (some .int), Cond.methodLink RX6 99 yX4_carry, Cond.instanceMethod yX4_carry, Cond.selects RX4 yX4_carry yX4_carry, Cond.code yX4_carry cX4_carry 6 none, Cond.methodLink RX4 30 arraycopyName, Cond.native arraycopyName, Cond.static arraycopyName, Cond.initialized "java/lang/System", Cond.methodLink RL 32 yX7_copy, Cond.instanceMethod yX7_copy, Cond.selects RX7 yX7_copy yX7_copy, Cond.code yX7_copy cX7_copy 7 (some .int), Cond.methodLink RL 33 yX6_mean, Cond.instanceMethod yX6_mean, Cond.selects RX6 yX6_mean yX6_mean, Cond.code yX6_mean cX6_mean 3 (some .int), Cond.methodLink RX6 103 yX4_heldCount, Cond.instanceMethod yX4_heldCount, Cond.selects RX4 yX4_heldCount yX4_heldCount]
def wsL_law_r10 : List Cond := [Cond.code yX4_heldCount cX4_heldCount 4 (some .int), Cond.methodLink RX6 106 yX4_sizeOf, Cond.instanceMethod yX4_sizeOf, Cond.selects RX4 yX4_sizeOf yX4_sizeOf, Cond.code yX4_sizeOf cX4_sizeOf 2 (some .int), Cond.methodLink RX6 109 yX4_heldSum, Cond.instanceMethod yX4_heldSum, Cond.selects RX4 yX4_heldSum yX4_heldSum, Cond.code yX4_heldSum cX4_heldSum 6 (some .int), Cond.methodLink RL 36 yX7_mean, Cond.instanceMethod yX7_mean, Cond.selects RX7 yX7_mean yX7_mean, Cond.code yX7_mean cX7_mean 8 (some .int), Cond.methodLink RX7 110 yX7_ask, Cond.instanceMethod yX7_ask, Cond.selects RX7 yX7_ask yX7_ask, Cond.code yX7_ask cX7_ask 4 (some .int), Cond.methodLink RL 37 yX6_plateau, Cond.instanceMethod yX6_plateau, Cond.selects RX6 yX6_plateau yX6_plateau, Cond.code yX6_plateau cX6_plateau 6 (some .int), Cond.methodLink RX6 116 yX4_longestLevelStart, Cond.instanceMethod yX4_longestLevelStart, Cond.selects RX4 yX4_longestLevelStart yX4_longestLevelStart]
def wsL_law_r11 : List Cond := [Cond.code yX4_longestLevelStart cX4_longestLevelStart 7 (some .int), Cond.methodLink RX4 36 yX4_levelLength, Cond.instanceMethod yX4_levelLength, Cond.selects RX4 yX4_levelLength yX4_levelLength, Cond.code yX4_levelLength cX4_levelLength 9 (some .int), Cond.constant RX4 40 (100000), Cond.constant RX4 41 (-100000), Cond.methodLink RX4 42 Lib.Math.min.name, Cond.static Lib.Math.min.name, Cond.initialized "java/lang/Math", Cond.code Lib.Math.min.name Lib.Math.min.code 2 (some .int), Cond.methodLink RX4 48 Lib.Math.max.name, Cond.static Lib.Math.max.name, Cond.code Lib.Math.max.name Lib.Math.max.code 2 (some .int), Cond.methodLink RX6 119 yX4_levelLength, Cond.methodLink RX6 122 yX2_tell, Cond.instanceMethod yX2_tell, Cond.selects RX2 yX2_tell yX2_tell, Cond.code yX2_tell cX2_tell 9 none, Cond.static yX6_greatestDivisor, Cond.code yX6_greatestDivisor cX6_greatestDivisor 11 (some .long), Cond.methodLink RX6 153 Lib.MathLoose.abs_long.x, Cond.static Lib.MathLoose.abs_long.x, Cond.code Lib.MathLoose.abs_long.x Lib.MathLoose.abs_long.code 2 (some .long)]
def wsL_law_r12 : List Cond := [Cond.methodLink RL 40 yX7_plateau, Cond.instanceMethod yX7_plateau, Cond.selects RX7 yX7_plateau yX7_plateau, Cond.code yX7_plateau cX7_plateau 16 (some .int), Cond.methodLink RX7 114 yX7_tell, Cond.instanceMethod yX7_tell, Cond.selects RX7 yX7_tell yX7_tell, Cond.code yX7_tell cX7_tell 8 (some .int), Cond.fieldLink RX7 87 "BathBookModel" "upper" "J", Cond.methodLink RX7 83 yX7_divisor, Cond.static yX7_divisor, Cond.code yX7_divisor cX7_divisor 10 (some .long), Cond.methodLink RX7 79 yX7_size, Cond.static yX7_size, Cond.code yX7_size cX7_size 2 (some .long), Cond.methodLink RL 41 yX6_point, Cond.instanceMethod yX6_point, Cond.selects RX6 yX6_point yX6_point, Cond.code yX6_point cX6_point 4 (some .int), Cond.methodLink RX6 126 yX6_isTable, Cond.static yX6_isTable, Cond.code yX6_isTable cX6_isTable 1 (some .boolean), Cond.methodLink RX6 129 yX5_hasX, Cond.instanceMethod yX5_hasX]
def wsL_law_r13 : List Cond := [Cond.selects RX5 yX5_hasX yX5_hasX, Cond.code yX5_hasX cX5_hasX 4 (some .boolean), Cond.methodLink RX6 132 yX5_sizeOf, Cond.instanceMethod yX5_sizeOf, Cond.selects RX5 yX5_sizeOf yX5_sizeOf, Cond.code yX5_sizeOf cX5_sizeOf 2 (some .int), Cond.methodLink RX6 133 yX5_add, Cond.instanceMethod yX5_add, Cond.selects RX5 yX5_add yX5_add, Cond.code yX5_add cX5_add 5 (some .int), Cond.methodLink RL 44 yX7_point, Cond.instanceMethod yX7_point, Cond.selects RX7 yX7_point yX7_point, Cond.code yX7_point cX7_point 6 (some .int), Cond.methodLink RX7 118 yX7_isTable, Cond.static yX7_isTable, Cond.code yX7_isTable cX7_isTable 1 (some .boolean), Cond.methodLink RX7 121 yX7_isX, Cond.static yX7_isX, Cond.code yX7_isX cX7_isX 1 (some .boolean), Cond.methodLink RL 45 yX6_clear, Cond.instanceMethod yX6_clear, Cond.selects RX6 yX6_clear yX6_clear, Cond.code yX6_clear cX6_clear 2 (some .int)]
def wsL_law_r14 : List Cond := [Cond.methodLink RX6 136 yX5_empty, Cond.instanceMethod yX5_empty, Cond.selects RX5 yX5_empty yX5_empty, Cond.code yX5_empty cX5_empty 3 (some .int), Cond.methodLink RL 48 yX7_clear, Cond.instanceMethod yX7_clear, Cond.selects RX7 yX7_clear yX7_clear, Cond.code yX7_clear cX7_clear 3 (some .int), Cond.methodLink RL 49 yX6_curve, Cond.instanceMethod yX6_curve, Cond.selects RX6 yX6_curve yX6_curve, Cond.code yX6_curve cX6_curve 5 (some .int), Cond.methodLink RX6 139 yX5_commonLower, Cond.instanceMethod yX5_commonLower, Cond.selects RX5 yX5_commonLower yX5_commonLower, Cond.code yX5_commonLower cX5_commonLower 5 (some .long), Cond.methodLink RX5 23 yX5_productWithout, Cond.instanceMethod yX5_productWithout, Cond.selects RX5 yX5_productWithout yX5_productWithout, Cond.code yX5_productWithout cX5_productWithout 7 (some .long), Cond.static yX6_leastMultiple, Cond.code yX6_leastMultiple cX6_leastMultiple 6 (some .long), Cond.methodLink RX6 283 yX6_greatestDivisor, Cond.methodLink RX6 143 yX5_worthAt]
def wsL_law_r15 : List Cond := [Cond.instanceMethod yX5_worthAt, Cond.selects RX5 yX5_worthAt yX5_worthAt, Cond.code yX5_worthAt cX5_worthAt 10 (some .long), Cond.methodLink RL 52 yX7_curve, Cond.instanceMethod yX7_curve, Cond.selects RX7 yX7_curve yX7_curve, Cond.code yX7_curve cX7_curve 3 (some .int), Cond.fieldLink RX7 127 "BathBookModel" "sumUp" "J", Cond.fieldLink RX7 124 "BathBookModel" "sumLow" "J", Cond.methodLink RX7 134 yX7_addCurve, Cond.instanceMethod yX7_addCurve, Cond.selects RX7 yX7_addCurve yX7_addCurve, Cond.code yX7_addCurve cX7_addCurve 10 none, Cond.methodLink RX7 130 yX7_add, Cond.instanceMethod yX7_add, Cond.selects RX7 yX7_add yX7_add, Cond.code yX7_add cX7_add 13 none, Cond.methodLink RL 53 yX6_apart, Cond.instanceMethod yX6_apart, Cond.selects RX6 yX6_apart yX6_apart, Cond.code yX6_apart cX6_apart 13 (some .int), Cond.constantLong RX6 151 (-1), Cond.methodLink RX6 147 yX6_leastMultiple, Cond.methodLink RL 57 yX7_apart]
def wsL_law_r16 : List Cond := [Cond.instanceMethod yX7_apart, Cond.selects RX7 yX7_apart yX7_apart, Cond.code yX7_apart cX7_apart 11 (some .int), Cond.constantLong RX7 138 (-1), Cond.methodLink RX7 140 yX7_isBelow, Cond.static yX7_isBelow, Cond.code yX7_isBelow cX7_isBelow 21 (some .boolean), Cond.methodLink RL 58 yX6_bulb, Cond.instanceMethod yX6_bulb, Cond.selects RX6 yX6_bulb yX6_bulb, Cond.code yX6_bulb cX6_bulb 3 (some .int), Cond.methodLink RX6 159 yX0_size, Cond.instanceMethod yX0_size, Cond.selects RX0 yX0_size yX0_size, Cond.code yX0_size cX0_size 1 (some .int), Cond.methodLink RX6 163 yX0_add, Cond.instanceMethod yX0_add, Cond.selects RX0 yX0_add yX0_add, Cond.code yX0_add cX0_add 3 (some .int), Cond.methodLink RL 61 yX7_bulb, Cond.instanceMethod yX7_bulb, Cond.selects RX7 yX7_bulb yX7_bulb, Cond.code yX7_bulb cX7_bulb 3 (some .int), Cond.fieldLink RX7 144 "BathBookModel" "bulbs" "I"]
def wsL_law_r17 : List Cond := [Cond.methodLink RL 62 yX6_told, Cond.instanceMethod yX6_told, Cond.selects RX6 yX6_told yX6_told, Cond.code yX6_told cX6_told 3 (some .int), Cond.methodLink RX6 165 yX0_has, Cond.instanceMethod yX0_has, Cond.selects RX0 yX0_has yX0_has, Cond.code yX0_has cX0_has 2 (some .boolean), Cond.methodLink RX6 168 yX0_kindOf, Cond.instanceMethod yX0_kindOf, Cond.selects RX0 yX0_kindOf yX0_kindOf, Cond.code yX0_kindOf cX0_kindOf 2 (some .int), Cond.methodLink RX6 171 yX0_toleranceOf, Cond.instanceMethod yX0_toleranceOf, Cond.selects RX0 yX0_toleranceOf yX0_toleranceOf, Cond.code yX0_toleranceOf cX0_toleranceOf 2 (some .int), Cond.methodLink RX6 174 yX1_countOf, Cond.instanceMethod yX1_countOf, Cond.selects RX1 yX1_countOf yX1_countOf, Cond.code yX1_countOf cX1_countOf 6 (some .int), Cond.methodLink RX6 178 yX1_latestOf, Cond.instanceMethod yX1_latestOf, Cond.selects RX1 yX1_latestOf yX1_latestOf, Cond.code yX1_latestOf cX1_latestOf 2 (some .int)]
def wsL_law_r18 : List Cond := [Cond.constant RX1 30 (100000), Cond.methodLink RX1 31 yX1_lastUntil, Cond.instanceMethod yX1_lastUntil, Cond.selects RX1 yX1_lastUntil yX1_lastUntil, Cond.code yX1_lastUntil cX1_lastUntil 5 (some .int), Cond.methodLink RX1 24 Lib.Math.min.name, Cond.methodLink RL 65 yX7_told, Cond.instanceMethod yX7_told, Cond.selects RX7 yX7_told yX7_told, Cond.code yX7_told cX7_told 3 (some .int), Cond.methodLink RX7 157 yX7_isBulb, Cond.instanceMethod yX7_isBulb, Cond.selects RX7 yX7_isBulb yX7_isBulb, Cond.code yX7_isBulb cX7_isBulb 2 (some .boolean), Cond.methodLink RX7 160 yX7_tells, Cond.instanceMethod yX7_tells, Cond.selects RX7 yX7_tells yX7_tells, Cond.code yX7_tells cX7_tells 6 (some .int), Cond.fieldLink RX7 147 "BathBookModel" "certificates" "I", Cond.methodLink RX7 154 yX7_latestOf, Cond.instanceMethod yX7_latestOf, Cond.selects RX7 yX7_latestOf yX7_latestOf, Cond.code yX7_latestOf cX7_latestOf 2 (some .int), Cond.methodLink RX7 150 yX7_lastOf]
def wsL_law_r19 : List Cond := [Cond.instanceMethod yX7_lastOf, Cond.selects RX7 yX7_lastOf yX7_lastOf, Cond.code yX7_lastOf cX7_lastOf 6 (some .int), Cond.methodLink RL 66 yX6_mark, Cond.instanceMethod yX6_mark, Cond.selects RX6 yX6_mark yX6_mark, Cond.code yX6_mark cX6_mark 3 (some .int), Cond.methodLink RX6 181 yX0_isOf, Cond.instanceMethod yX0_isOf, Cond.selects RX0 yX0_isOf yX0_isOf, Cond.code yX0_isOf cX0_isOf 3 (some .boolean), Cond.methodLink RX6 184 yX1_countOverBulb, Cond.instanceMethod yX1_countOverBulb, Cond.selects RX1 yX1_countOverBulb yX1_countOverBulb, Cond.code yX1_countOverBulb cX1_countOverBulb 4 (some .int), Cond.methodLink RX1 46 yX1_isOverBulb, Cond.instanceMethod yX1_isOverBulb, Cond.selects RX1 yX1_isOverBulb yX1_isOverBulb, Cond.code yX1_isOverBulb cX1_isOverBulb 5 (some .boolean), Cond.methodLink RX1 39 yX1_has, Cond.instanceMethod yX1_has, Cond.selects RX1 yX1_has yX1_has, Cond.code yX1_has cX1_has 2 (some .boolean), Cond.methodLink RL 69 yX7_mark]
def wsL_law_r20 : List Cond := [Cond.instanceMethod yX7_mark, Cond.selects RX7 yX7_mark yX7_mark, Cond.code yX7_mark cX7_mark 5 (some .int), Cond.methodLink RX7 164 yX7_is, Cond.instanceMethod yX7_is, Cond.selects RX7 yX7_is yX7_is, Cond.code yX7_is cX7_is 3 (some .boolean), Cond.methodLink RX7 168 yX7_restsOn, Cond.instanceMethod yX7_restsOn, Cond.selects RX7 yX7_restsOn yX7_restsOn, Cond.code yX7_restsOn cX7_restsOn 5 (some .boolean), Cond.methodLink RL 70 yX6_stem, Cond.instanceMethod yX6_stem, Cond.selects RX6 yX6_stem yX6_stem, Cond.code yX6_stem cX6_stem 6 (some .int), Cond.constantLong RX6 187 (100000), Cond.constantLong RX6 189 (16), Cond.methodLink RL 73 yX7_stem, Cond.instanceMethod yX7_stem, Cond.selects RX7 yX7_stem yX7_stem, Cond.code yX7_stem cX7_stem 6 (some .int), Cond.constantLong RX7 171 (100000), Cond.constantLong RX7 173 (16), Cond.methodLink RL 74 yX6_currents]
def wsL_law_r21 : List Cond := [Cond.instanceMethod yX6_currents, Cond.selects RX6 yX6_currents yX6_currents, Cond.code yX6_currents cX6_currents 10 (some .int), Cond.methodLink RL 77 yX7_currents, Cond.instanceMethod yX7_currents, Cond.selects RX7 yX7_currents yX7_currents, Cond.code yX7_currents cX7_currents 6 (some .int), Cond.methodLink RL 78 yX6_compare, Cond.instanceMethod yX6_compare, Cond.selects RX6 yX6_compare yX6_compare, Cond.code yX6_compare cX6_compare 5 (some .int), Cond.constantLong RX6 194 (2), Cond.methodLink RX6 191 yX4_mirrorSum, Cond.instanceMethod yX4_mirrorSum, Cond.selects RX4 yX4_mirrorSum yX4_mirrorSum, Cond.code yX4_mirrorSum cX4_mirrorSum 3 (some .int), Cond.methodLink RL 81 yX7_compare, Cond.instanceMethod yX7_compare, Cond.selects RX7 yX7_compare yX7_compare, Cond.code yX7_compare cX7_compare 9 (some .int), Cond.constantLong RX7 175 (2), Cond.methodLink RL 82 yX6_certify, Cond.instanceMethod yX6_certify, Cond.selects RX6 yX6_certify yX6_certify]
def wsL_law_r22 : List Cond := [Cond.code yX6_certify cX6_certify 8 (some .int), Cond.methodLink RX6 196 yX6_isBath, Cond.static yX6_isBath, Cond.code yX6_isBath cX6_isBath 1 (some .boolean), Cond.methodLink RX6 199 yX6_isDay, Cond.static yX6_isDay, Cond.code yX6_isDay cX6_isDay 1 (some .boolean), Cond.methodLink RX6 202 yX1_size, Cond.instanceMethod yX1_size, Cond.selects RX1 yX1_size yX1_size, Cond.code yX1_size cX1_size 1 (some .int), Cond.methodLink RX6 203 yX1_lastUntil, Cond.methodLink RX6 206 yX1_add, Cond.instanceMethod yX1_add, Cond.selects RX1 yX1_add yX1_add, Cond.code yX1_add cX1_add 9 (some .int), Cond.methodLink RL 86 yX7_certify, Cond.instanceMethod yX7_certify, Cond.selects RX7 yX7_certify yX7_certify, Cond.code yX7_certify cX7_certify 8 (some .int), Cond.methodLink RX7 177 yX7_isDay, Cond.static yX7_isDay, Cond.code yX7_isDay cX7_isDay 1 (some .boolean), Cond.methodLink RL 87 yX6_certificate]
def wsL_law_r23 : List Cond := [Cond.instanceMethod yX6_certificate, Cond.selects RX6 yX6_certificate yX6_certificate, Cond.code yX6_certificate cX6_certificate 3 (some .int), Cond.methodLink RX6 209 yX1_has, Cond.methodLink RX6 210 yX1_fact, Cond.instanceMethod yX1_fact, Cond.selects RX1 yX1_fact yX1_fact, Cond.code yX1_fact cX1_fact 3 (some .int), Cond.methodLink RL 90 yX7_certificate, Cond.instanceMethod yX7_certificate, Cond.selects RX7 yX7_certificate yX7_certificate, Cond.code yX7_certificate cX7_certificate 3 (some .int), Cond.methodLink RX7 180 yX7_isCertificate, Cond.instanceMethod yX7_isCertificate, Cond.selects RX7 yX7_isCertificate yX7_isCertificate, Cond.code yX7_isCertificate cX7_isCertificate 2 (some .boolean), Cond.methodLink RX7 183 yX7_tellsOf, Cond.instanceMethod yX7_tellsOf, Cond.selects RX7 yX7_tellsOf yX7_tellsOf, Cond.code yX7_tellsOf cX7_tellsOf 3 (some .int), Cond.methodLink RL 91 yX6_offset, Cond.instanceMethod yX6_offset, Cond.selects RX6 yX6_offset yX6_offset, Cond.code yX6_offset cX6_offset 2 (some .int)]
def wsL_law_r24 : List Cond := [Cond.methodLink RL 94 yX7_offset, Cond.instanceMethod yX7_offset, Cond.selects RX7 yX7_offset yX7_offset, Cond.code yX7_offset cX7_offset 2 (some .int), Cond.methodLink RL 95 yX6_wrong, Cond.instanceMethod yX6_wrong, Cond.selects RX6 yX6_wrong yX6_wrong, Cond.code yX6_wrong cX6_wrong 4 (some .int), Cond.methodLink RX6 213 yX1_makeVoid, Cond.instanceMethod yX1_makeVoid, Cond.selects RX1 yX1_makeVoid yX1_makeVoid, Cond.code yX1_makeVoid cX1_makeVoid 7 (some .int), Cond.methodLink RX1 35 yX1_restsOnVoid, Cond.instanceMethod yX1_restsOnVoid, Cond.selects RX1 yX1_restsOnVoid yX1_restsOnVoid, Cond.code yX1_restsOnVoid cX1_restsOnVoid 3 (some .boolean), Cond.methodLink RL 98 yX7_wrong, Cond.instanceMethod yX7_wrong, Cond.selects RX7 yX7_wrong yX7_wrong, Cond.code yX7_wrong cX7_wrong 7 (some .int), Cond.methodLink RL 99 yX6_passes, Cond.instanceMethod yX6_passes, Cond.selects RX6 yX6_passes yX6_passes, Cond.code yX6_passes cX6_passes 4 (some .int)]
def wsL_law_r25 : List Cond := [Cond.methodLink RX6 216 Lib.Math.abs.name, Cond.static Lib.Math.abs.name, Cond.code Lib.Math.abs.name Lib.Math.abs.code 1 (some .int), Cond.methodLink RL 102 yX7_passes, Cond.instanceMethod yX7_passes, Cond.selects RX7 yX7_passes yX7_passes, Cond.code yX7_passes cX7_passes 3 (some .int), Cond.methodLink RL 103 yX6_whole, Cond.instanceMethod yX6_whole, Cond.selects RX6 yX6_whole yX6_whole, Cond.code yX6_whole cX6_whole 2 (some .int), Cond.methodLink RX6 218 yX1_squaredEnds, Cond.instanceMethod yX1_squaredEnds, Cond.selects RX1 yX1_squaredEnds yX1_squaredEnds, Cond.code yX1_squaredEnds cX1_squaredEnds 8 (some .long), Cond.methodLink RX6 221 yX1_chainLength, Cond.instanceMethod yX1_chainLength, Cond.selects RX1 yX1_chainLength yX1_chainLength, Cond.code yX1_chainLength cX1_chainLength 5 (some .int), Cond.methodLink RL 106 yX7_whole, Cond.instanceMethod yX7_whole, Cond.selects RX7 yX7_whole yX7_whole, Cond.code yX7_whole cX7_whole 6 (some .int), Cond.methodLink RL 107 yX6_drift]
def wsL_law_r26 : List Cond := [Cond.instanceMethod yX6_drift, Cond.selects RX6 yX6_drift yX6_drift, Cond.code yX6_drift cX6_drift 5 (some .int), Cond.methodLink RX6 224 yX6_driftRefusal, Cond.instanceMethod yX6_driftRefusal, Cond.selects RX6 yX6_driftRefusal yX6_driftRefusal, Cond.code yX6_driftRefusal cX6_driftRefusal 4 (some .int), Cond.methodLink RX6 227 yX1_rise, Cond.instanceMethod yX1_rise, Cond.selects RX1 yX1_rise yX1_rise, Cond.code yX1_rise cX1_rise 4 (some .int), Cond.methodLink RL 110 yX7_drift, Cond.instanceMethod yX7_drift, Cond.selects RX7 yX7_drift yX7_drift, Cond.code yX7_drift cX7_drift 3 (some .int), Cond.fieldLink RX7 186 "BathBookModel" "last" "I", Cond.fieldLink RX7 189 "BathBookModel" "ahead" "I", Cond.methodLink RX7 192 yX7_askedTwo, Cond.instanceMethod yX7_askedTwo, Cond.selects RX7 yX7_askedTwo yX7_askedTwo, Cond.code yX7_askedTwo cX7_askedTwo 2 (some .int), Cond.methodLink RL 111 yX6_due, Cond.instanceMethod yX6_due, Cond.selects RX6 yX6_due yX6_due]
def wsL_law_r27 : List Cond := [Cond.code yX6_due cX6_due 13 (some .int), Cond.constantLong RX6 234 (100001), Cond.methodLink RX6 236 Lib.MathLoose.min_long.x, Cond.static Lib.MathLoose.min_long.x, Cond.code Lib.MathLoose.min_long.x Lib.MathLoose.min_long.code 4 (some .long), Cond.methodLink RX6 230 yX6_daysWithin, Cond.static yX6_daysWithin, Cond.code yX6_daysWithin cX6_daysWithin 14 (some .long), Cond.methodLink RL 114 yX7_due, Cond.instanceMethod yX7_due, Cond.selects RX7 yX7_due yX7_due, Cond.code yX7_due cX7_due 10 (some .int), Cond.constant RX7 195 (100001), Cond.methodLink RL 115 yX6_resting, Cond.instanceMethod yX6_resting, Cond.selects RX6 yX6_resting yX6_resting, Cond.code yX6_resting cX6_resting 2 (some .int), Cond.methodLink RX6 239 yX1_countOver, Cond.instanceMethod yX1_countOver, Cond.selects RX1 yX1_countOver yX1_countOver, Cond.code yX1_countOver cX1_countOver 4 (some .int), Cond.methodLink RX1 42 yX1_isOver, Cond.instanceMethod yX1_isOver, Cond.selects RX1 yX1_isOver yX1_isOver]
def wsL_law_r28 : List Cond := [Cond.code yX1_isOver cX1_isOver 5 (some .boolean), Cond.methodLink RL 118 yX7_resting, Cond.instanceMethod yX7_resting, Cond.selects RX7 yX7_resting yX7_resting, Cond.code yX7_resting cX7_resting 5 (some .int), Cond.methodLink RL 119 yX6_lab, Cond.instanceMethod yX6_lab, Cond.selects RX6 yX6_lab yX6_lab, Cond.code yX6_lab cX6_lab 5 (some .int), Cond.methodLink RX6 242 yX6_isLab, Cond.static yX6_isLab, Cond.code yX6_isLab cX6_isLab 1 (some .boolean), Cond.methodLink RX6 245 yX3_put, Cond.instanceMethod yX3_put, Cond.selects RX3 yX3_put yX3_put, Cond.code yX3_put cX3_put 5 none, Cond.methodLink RL 122 yX7_lab, Cond.instanceMethod yX7_lab, Cond.selects RX7 yX7_lab yX7_lab, Cond.code yX7_lab cX7_lab 5 (some .int), Cond.methodLink RX7 196 yX7_isLab, Cond.static yX7_isLab, Cond.code yX7_isLab cX7_isLab 1 (some .boolean), Cond.methodLink RL 123 yX6_closes]
def wsL_law_r29 : List Cond := [Cond.instanceMethod yX6_closes, Cond.selects RX6 yX6_closes yX6_closes, Cond.code yX6_closes cX6_closes 4 (some .int), Cond.methodLink RX6 248 yX3_isKnown, Cond.instanceMethod yX3_isKnown, Cond.selects RX3 yX3_isKnown yX3_isKnown, Cond.code yX3_isKnown cX3_isKnown 4 (some .boolean), Cond.methodLink RX6 251 yX3_gap, Cond.instanceMethod yX3_gap, Cond.selects RX3 yX3_gap yX3_gap, Cond.code yX3_gap cX3_gap 4 (some .int), Cond.methodLink RX6 254 yX3_isShut, Cond.instanceMethod yX3_isShut, Cond.selects RX3 yX3_isShut yX3_isShut, Cond.code yX3_isShut cX3_isShut 4 (some .boolean), Cond.methodLink RX3 29 Lib.Math.abs.name, Cond.methodLink RX3 25 yX3_gap, Cond.methodLink RL 126 yX7_closes, Cond.instanceMethod yX7_closes, Cond.selects RX7 yX7_closes yX7_closes, Cond.code yX7_closes cX7_closes 4 (some .int), Cond.methodLink RX7 202 yX7_isRing, Cond.instanceMethod yX7_isRing, Cond.selects RX7 yX7_isRing yX7_isRing]
def wsL_law_r30 : List Cond := [Cond.code yX7_isRing cX7_isRing 4 (some .boolean), Cond.methodLink RX7 199 yX7_over, Cond.instanceMethod yX7_over, Cond.selects RX7 yX7_over yX7_over, Cond.code yX7_over cX7_over 4 (some .int), Cond.methodLink RX7 205 yX7_isClosed, Cond.instanceMethod yX7_isClosed, Cond.selects RX7 yX7_isClosed yX7_isClosed, Cond.code yX7_isClosed cX7_isClosed 4 (some .boolean), Cond.methodLink RL 127 yX6_open, Cond.instanceMethod yX6_open, Cond.selects RX6 yX6_open yX6_open, Cond.code yX6_open cX6_open 5 (some .int), Cond.methodLink RL 131 yX7_open, Cond.instanceMethod yX7_open, Cond.selects RX7 yX7_open yX7_open, Cond.code yX7_open cX7_open 5 (some .int), Cond.methodLink RL 132 yX6_asked, Cond.instanceMethod yX6_asked, Cond.selects RX6 yX6_asked yX6_asked, Cond.code yX6_asked cX6_asked 1 (some .long), Cond.methodLink RL 136 yX7_asked, Cond.instanceMethod yX7_asked, Cond.selects RX7 yX7_asked yX7_asked]
def wsL_law_r31 : List Cond := [Cond.code yX7_asked cX7_asked 1 (some .long), Cond.methodLink RL 137 yX6_upper, Cond.instanceMethod yX6_upper, Cond.selects RX6 yX6_upper yX6_upper, Cond.code yX6_upper cX6_upper 1 (some .long), Cond.methodLink RL 140 yX7_upper, Cond.instanceMethod yX7_upper, Cond.selects RX7 yX7_upper yX7_upper, Cond.code yX7_upper cX7_upper 1 (some .long), Cond.methodLink RL 141 yX6_lower, Cond.instanceMethod yX6_lower, Cond.selects RX6 yX6_lower yX6_lower, Cond.code yX6_lower cX6_lower 1 (some .long), Cond.methodLink RL 144 yX7_lower, Cond.instanceMethod yX7_lower, Cond.selects RX7 yX7_lower yX7_lower, Cond.code yX7_lower cX7_lower 1 (some .long), Cond.methodLink RL 145 yX6_count, Cond.instanceMethod yX6_count, Cond.selects RX6 yX6_count yX6_count, Cond.code yX6_count cX6_count 2 (some .int), Cond.methodLink RX6 263 yX4_presentCount, Cond.instanceMethod yX4_presentCount, Cond.selects RX4 yX4_presentCount yX4_presentCount]
def wsL_law_r32 : List Cond := [Cond.code yX4_presentCount cX4_presentCount 3 (some .int), Cond.methodLink RX6 266 yX5_pointCount, Cond.instanceMethod yX5_pointCount, Cond.selects RX5 yX5_pointCount yX5_pointCount, Cond.code yX5_pointCount cX5_pointCount 3 (some .int), Cond.methodLink RL 148 yX7_count, Cond.instanceMethod yX7_count, Cond.selects RX7 yX7_count yX7_count, Cond.code yX7_count cX7_count 2 (some .int), Cond.methodLink RX7 208 yX7_tellsCount, Cond.instanceMethod yX7_tellsCount, Cond.selects RX7 yX7_tellsCount yX7_tellsCount, Cond.code yX7_tellsCount cX7_tellsCount 4 (some .int), Cond.methodLink RL 149 yX6_finding, Cond.instanceMethod yX6_finding, Cond.selects RX6 yX6_finding yX6_finding, Cond.code yX6_finding cX6_finding 1 (some .int), Cond.methodLink RL 152 yX7_finding, Cond.instanceMethod yX7_finding, Cond.selects RX7 yX7_finding yX7_finding, Cond.code yX7_finding cX7_finding 1 (some .int), Cond.methodLink RL 153 yX6_findings, Cond.instanceMethod yX6_findings, Cond.selects RX6 yX6_findings yX6_findings]
def wsL_law_r33 : List Cond := [Cond.code yX6_findings cX6_findings 2 (some .int), Cond.methodLink RL 156 yX7_findings, Cond.instanceMethod yX7_findings, Cond.selects RX7 yX7_findings yX7_findings, Cond.code yX7_findings cX7_findings 2 (some .int), Cond.methodLink RL 157 yX6_digest, Cond.instanceMethod yX6_digest, Cond.selects RX6 yX6_digest yX6_digest, Cond.code yX6_digest cX6_digest 5 (some .long), Cond.constantLong RX6 269 (17), Cond.constantLong RX6 271 (31), Cond.methodLink RX6 273 yX6_count, Cond.methodLink RX6 276 yX6_told, Cond.methodLink RX6 279 yX4_digestOn, Cond.instanceMethod yX4_digestOn, Cond.selects RX4 yX4_digestOn yX4_digestOn, Cond.code yX4_digestOn cX4_digestOn 7 (some .long), Cond.constantLong RX4 51 (31), Cond.methodLink RL 160 yX7_digest, Cond.instanceMethod yX7_digest, Cond.selects RX7 yX7_digest yX7_digest, Cond.code yX7_digest cX7_digest 5 (some .long), Cond.constantLong RX7 211 (17), Cond.constantLong RX7 213 (31)]
def wsL_law : List Cond := (wsL_law_r1 ++ (wsL_law_r2 ++ (wsL_law_r3 ++ (wsL_law_r4 ++ (wsL_law_r5 ++ (wsL_law_r6 ++ (wsL_law_r7 ++ (wsL_law_r8 ++ (wsL_law_r9 ++ (wsL_law_r10 ++ (wsL_law_r11 ++ (wsL_law_r12 ++ (wsL_law_r13 ++ (wsL_law_r14 ++ (wsL_law_r15 ++ (wsL_law_r16 ++ (wsL_law_r17 ++ (wsL_law_r18 ++ (wsL_law_r19 ++ (wsL_law_r20 ++ (wsL_law_r21 ++ (wsL_law_r22 ++ (wsL_law_r23 ++ (wsL_law_r24 ++ (wsL_law_r25 ++ (wsL_law_r26 ++ (wsL_law_r27 ++ (wsL_law_r28 ++ (wsL_law_r29 ++ (wsL_law_r30 ++ (wsL_law_r31 ++ (wsL_law_r32 ++ wsL_law_r33)))))))))))))))))))))))))))))))) ++ wsX60 ++ wsX70 ++ wsX40 ++ wsX50 ++ wsX00 ++ wsX10 ++ wsX30 ++ wsX20 ++ ([] : List Cond)
end
section
abbrev vwCl : List vw_C := [(RX0, TX0, 3), (RX1, TX1, 2), (RX2, TX2, 2), (RX3, TX3, 2), (RX4, TX4, 2), (RX5, TX5, 3), (RX6, TX6, 9), (RX7, TX7, 30)]
abbrev mm_I : Type := Nat → Nat → Int32
abbrev mm_L : Type := Nat → Nat → Int64
abbrev mm_E : Type := (Nat → Nat) × ClassId × ClassId × ClassId × va_G × Launch
def up2 (g : mm_I) (k j : Nat) (v : Int32) : mm_I := fun a => if a = k then upd (g k) j v else g a
def upL (h : mm_L) (k j : Nat) (v : Int64) : mm_L := fun a b => if a = k ∧ b = j then v else h a b
theorem up2_s (g : mm_I) (k j : Nat) (v : Int32) : up2 g k j v k = upd (g k) j v := if_pos rfl
theorem up2_n (g : mm_I) {k a : Nat} (j : Nat) (v : Int32) (h : a ≠ k) : up2 g k j v a = g a := if_neg h
theorem up2_ss (g : mm_I) (k j : Nat) (v : Int32) : up2 g k j v k j = v := by rw [up2_s]; exact pk_us
theorem up2_sn (g : mm_I) (k : Nat) {j b : Nat} (v : Int32) (h : b ≠ j) : up2 g k j v k b = g k b := by rw [up2_s]; exact pk_un h
theorem upL_s (h : mm_L) (k j : Nat) (v : Int64) : upL h k j v k j = v := if_pos ⟨rfl, rfl⟩
theorem upL_n (h : mm_L) {k j a b : Nat} (v : Int64) (hn : ¬ (a = k ∧ b = j)) : upL h k j v a b = h a b := if_neg hn
def mm_len (k : Nat) : Nat := ([0, 0, 0, 0, 0, 0, 0, 0, 6, 6, 4, 16, 16, 6, 6, 240, 40, 4, 16, 16, 16, 16, 40, 40, 40, 40, 40, 40, 40, 36, 36, 40, 36, 6, 4, 4, 40, 6, 6] : List Nat).getD k (if k < 45 then 40 else if k < 53 then 4 else if k < 93 then 8 else 6)
def mm_base (k : Nat) : Nat := if k = 33 then 39 else if k = 34 then 45 else if k = 35 then 49 else if k = 36 then 53 else if k = 37 then 93 else 99
def mm_ob (E : mm_E) (g : mm_I) (h : mm_L) (k : Nat) : Nat × List Value := match k with
  | 0 => (6, [.ref (E.1 1), .ref (E.1 2), .ref (E.1 3), .ref (E.1 4), .ref (E.1 5), .ref (E.1 6), .ref (E.1 8), .int (g 0 7), .long (h 0 8)])
  | 1 => (4, [.ref (E.1 33), .ref (E.1 9)])
  | 2 => (5, [.ref (E.1 34), .ref (E.1 35), .ref (E.1 10)])
  | 3 => (0, [.ref (E.1 11), .ref (E.1 12), .int (g 3 2)])
  | 4 => (1, [.ref (E.1 36), .int (g 4 1)])
  | 5 => (3, [.ref (E.1 37), .ref (E.1 38)])
  | 6 => (2, [.long (h 6 0), .long (h 6 1)])
  | _ => (7, [.int (g 7 0), .ref (E.1 13), .long (h 7 2), .long (h 7 3), .long (h 7 4), .ref (E.1 14), .ref (E.1 15), .ref (E.1 16), .ref (E.1 17), .ref (E.1 18), .ref (E.1 19), .long (h 7 11), .long (h 7 12), .int (g 7 13), .ref (E.1 20), .ref (E.1 21), .int (g 7 16), .ref (E.1 22), .ref (E.1 23), .ref (E.1 24), .ref (E.1 25), .ref (E.1 26), .ref (E.1 27), .ref (E.1 28), .ref (E.1 31), .int (g 7 25), .int (g 7 26), .ref (E.1 32), .ref (E.1 29), .ref (E.1 30)])
def mm_ce (E : mm_E) (g : mm_I) (h : mm_L) (k : Nat) : va_E :=
  if k < 8 then .inr (mm_ob E g h k) else if k = 31 ∨ k = 32 then .inl (E.2.2.1, mm_len k, .inl (g k)) else if 33 ≤ k ∧ k ≤ 38 then .inl (E.2.2.2.1, mm_len k, .inr (.inr (.inr (.inr (fun i => if i < mm_len k then some (E.1 (mm_base k + i)) else none))))) else .inl (E.2.1, mm_len k, .inl (g k))
def mm_wl (E : mm_E) (g : mm_I) (h : mm_L) : va_W := (List.range 105).map (fun k => (E.1 k, mm_ce E g h k))
def mm_isI (k : Nat) : Prop := (8 ≤ k ∧ k ≤ 30) ∨ (39 ≤ k ∧ k < 105)
def mm_isZ (k : Nat) : Prop := k = 31 ∨ k = 32
def mm_isG (k : Nat) : Prop := 33 ≤ k ∧ k ≤ 38
theorem mm_ce_o (E : mm_E) (g : mm_I) (h : mm_L) {k : Nat} (hk : k < 8) : mm_ce E g h k = .inr (mm_ob E g h k) := if_pos hk
theorem mm_ce_i (E : mm_E) (g : mm_I) (h : mm_L) {k : Nat} (hk : mm_isI k) : mm_ce E g h k = .inl (E.2.1, mm_len k, .inl (g k)) := by
  unfold mm_isI at hk
  unfold mm_ce
  rw [if_neg (by omega), if_neg (by omega), if_neg (by omega)]
theorem mm_ce_z (E : mm_E) (g : mm_I) (h : mm_L) {k : Nat} (hk : mm_isZ k) : mm_ce E g h k = .inl (E.2.2.1, mm_len k, .inl (g k)) := by
  unfold mm_isZ at hk
  unfold mm_ce
  rw [if_neg (by omega), if_pos hk]
theorem mm_ce_g (E : mm_E) (g : mm_I) (h : mm_L) {k : Nat} (hk : mm_isG k) : mm_ce E g h k = .inl (E.2.2.2.1, mm_len k, .inr (.inr (.inr (.inr (fun i => if i < mm_len k then some (E.1 (mm_base k + i)) else none))))) := by
  unfold mm_isG at hk
  unfold mm_ce
  rw [if_neg (by omega), if_neg (by omega), if_pos hk]
theorem mm_at (E : mm_E) (g : mm_I) (h : mm_L) {k : Nat} (hk : k < 105) : (mm_wl E g h)[k]? = some (E.1 k, mm_ce E g h k) := by
  unfold mm_wl
  rw [List.getElem?_map, List.getElem?_range hk]
  rfl
theorem mm_at_o (E : mm_E) (g : mm_I) (h : mm_L) {k : Nat} {q : Nat × List Value} (hk : k < 8) (hq : mm_ob E g h k = q) : (mm_wl E g h)[k]? = some (E.1 k, .inr q) := by
  rw [mm_at E g h (by omega), mm_ce_o E g h hk, hq]
theorem mm_set (E : mm_E) (g g' : mm_I) (h h' : mm_L) {k : Nat} (hk : k < 105) {e : va_E} (he : mm_ce E g' h' k = e) (ho : ∀ j, j < 105 → j ≠ k → mm_ce E g' h' j = mm_ce E g h j) : (mm_wl E g h).set k (E.1 k, e) = mm_wl E g' h' := by
  apply List.ext_getElem?
  intro i
  have hlen : (mm_wl E g h).length = 105 := by simp [mm_wl]
  have hlen' : (mm_wl E g' h').length = 105 := by simp [mm_wl]
  by_cases hi : i < 105
  · by_cases e1 : i = k
    · subst e1
      rw [List.getElem?_set_self (by omega), mm_at E g' h' hi, he]
    · rw [List.getElem?_set_ne (Ne.symm e1), mm_at E g h hi, mm_at E g' h' hi, ho i hi e1]
  · rw [List.getElem?_eq_none (by rw [List.length_set]; omega), List.getElem?_eq_none (by omega)]
def mm_Pw (E : mm_E) (g : mm_I) (h : mm_L) (H : Heap) : Prop := va_P E.2.2.2.2.1 vwCl (mm_wl E g h) H
def mm_N1 : Cond := .fieldLinkNest RX6 257 "BathBook$Fraction" "top" "J" RX6
def mm_Nst (U : State) : Prop := va_Nw (.fieldLinkNest RX6 257 "BathBook$Fraction" "top" "J" RX6) U ∧ va_Nw (.fieldLinkNest RX6 260 "BathBook$Fraction" "bottom" "J" RX6) U ∧ va_Nw (.methodLinkNest RX0 22 yX6_isBetween RX6) U ∧ va_Nw (.methodLinkNest RX1 20 yX6_isBetween RX6) U ∧ va_Nw (.methodLinkNest RX2 16 yX6_greatestDivisor RX6) U ∧ va_Nw (.methodLinkNest RX4 26 yX6_isBetween RX6) U ∧ va_Nw (.methodLinkNest RX5 27 yX6_leastMultiple RX6) U
abbrev mm_tys (E : mm_E) : List (ClassId × FieldType) := [(E.2.1, .int), (E.2.2.1, .boolean), (E.2.2.2.1, .array .int)]
def mm_Ij (E : mm_E) : Prop := ∀ i j, i < 105 → j < 105 → E.1 i = E.1 j → i = j
def mm_Kn (E : mm_E) (U : State) : Prop := mm_Ij E ∧ va_K E.2.2.2.2.1 vwCl (mm_tys E) U ∧ mm_Nst U
theorem mm_Kn.same {E : mm_E} {u U : State} (hv : u.vm = U.vm) (h : mm_Kn E u) : mm_Kn E U := by
  obtain ⟨a, b, c1, c2, c3, c4, c5, c6, c7⟩ := h
  exact ⟨a, va_K.moved (by rw [hv]; exact Vm.Alike.refl U.vm) b, c1.same rfl hv, c2.same rfl hv, c3.same rfl hv, c4.same rfl hv, c5.same rfl hv, c6.same rfl hv, c7.same rfl hv⟩
theorem mm_Kn.warm {E : mm_E} {u U : State} (hW : u.WarmedH U.vm) (h : mm_Kn E u) : mm_Kn E U := by
  obtain ⟨a, b, c1, c2, c3, c4, c5, c6, c7⟩ := h
  exact ⟨a, va_K.moved hW.alike b, c1.warmF hW, c2.warmF hW, c3.warmM hW, c4.warmM hW, c5.warmM hW, c6.warmM hW, c7.warmM hW⟩
def mm_A (E : mm_E) : Nat → Prop := fun q => ∃ k, k < 105 ∧ q = E.1 k
theorem mm_D {E : mm_E} (hI : mm_Ij E) {A : Nat → Prop} (hA : ∀ k, k < 105 → A (E.1 k)) (g : mm_I) (h : mm_L) : va_D A (mm_wl E g h) := by
  have hlt : ∀ (i : Nat) (p : Nat × va_E), (mm_wl E g h)[i]? = some p → i < 105 := fun i p hp => by
    have := (List.getElem?_eq_some_iff.mp hp).1
    simpa [mm_wl] using this
  refine ⟨fun i j p q hp hq e => ?_, fun k q hq => ?_⟩
  · have hi := hlt i p hp
    have hj := hlt j q hq
    rw [mm_at E g h hi] at hp
    rw [mm_at E g h hj] at hq
    cases hp
    cases hq
    exact hI i j hi hj e
  · have hk := hlt k q hq
    rw [mm_at E g h hk] at hq
    cases hq
    exact hA k hk
abbrev mm_X : Type := Program × Env × Room × State × MethodId × Array Value × List Frame × Method × Code × Nat × Nat × (State → Prop) × (Nat → Prop)
def JJ (E : mm_E) (X : mm_X) (g : mm_I) (h : mm_L) (pc : Nat) (L : List (Nat × Value)) (st : List Value) : Prop := match X with
  | (p, e, R, s, m, args, below, meth, c, cells, slots, Q, A) => ∀ (ls : Array Slot) (H : Heap) (locs : List Loc), lv_has ls c.maxLocals L → mm_Pw E g h H → va_S A s.heap H locs → W p E.2.2.2.2.2 e R s m args below meth c H locs cells slots Q (F0 m pc ls st)
def Cx (E : mm_E) (X : mm_X) (cc : ByteArray) (own : String) (Ts : List Cond) (nL fr lo : Nat) : Prop := match X with
  | (p, e, R, s, m, args, below, meth, c, cells, slots, Q, A) => p.tables.exec = Jvm.exec ∧ c.code = cc ∧ c.maxLocals = nL ∧ s.vm.findClass own = some m.cls ∧ (∀ w ∈ Ts, w.before args s = true) ∧ mm_Kn E s ∧ (∀ k, k < 105 → A (E.1 k)) ∧ fr ≤ R.frames ∧ lo ≤ R.locals ∧ cells ≤ R.cells ∧ slots ≤ R.slots
section JR
variable {E : mm_E} {X : mm_X} {cc : ByteArray} {own : String} {Ts : List Cond} {nL fr lo pc : Nat} {g g' : mm_I} {h h' : mm_L} {L L' : List (Nat × Value)} {st st' : List Value}
theorem jr_is (hL : L = L') (hs : st = st') (hg : g = g') (hh : h = h') (k : JJ E X g' h' pc L' st') : JJ E X g h pc L st := by subst hL hs hg hh; exact k
theorem jr_pick (ks : List Nat) (hl : lv_pick L ks = L') (k : JJ E X g h pc L' st) : JJ E X g h pc L st := by
  obtain ⟨p, e, R, s, m, args, below, meth, c, cells, slots, Q, A⟩ := X
  intro ls H locs hl2 hP hS
  exact k ls H locs (lv_sub hl2 ks hl) hP hS
theorem jr_iconst {n : Int} {v : Int32} (cx : Cx E X cc own Ts nL fr lo) (hd : decode cc pc = .ok (.iconst n, 1)) (hv : Int32.ofInt n = v) (k : JJ E X g h (pc + 1) L (.int v :: st)) : JJ E X g h pc L (st) := by
  obtain ⟨p, e, R, s, m, args, below, meth, c, cells, slots, Q, A⟩ := X
  obtain ⟨hx, hb, hml, hown, hts, hK, hA, hfr, hlo, hc, hs⟩ := cx
  intro ls H locs hl hP hS
  exact lv_iconst hx hb hd hv (k ls H locs hl hP hS)
theorem jr_bipush {n : Int} {v : Int32} (cx : Cx E X cc own Ts nL fr lo) (hd : decode cc pc = .ok (.bipush n, 2)) (hv : (Int8.ofInt n).toInt32 = v) (k : JJ E X g h (pc + 2) L (.int v :: st)) : JJ E X g h pc L (st) := by
  obtain ⟨p, e, R, s, m, args, below, meth, c, cells, slots, Q, A⟩ := X
  obtain ⟨hx, hb, hml, hown, hts, hK, hA, hfr, hlo, hc, hs⟩ := cx
  intro ls H locs hl hP hS
  exact lv_bipush hx hb hd hv (k ls H locs hl hP hS)
theorem jr_sipush {n : Int} {v : Int32} (cx : Cx E X cc own Ts nL fr lo) (hd : decode cc pc = .ok (.sipush n, 3)) (hv : (Int16.ofInt n).toInt32 = v) (k : JJ E X g h (pc + 3) L (.int v :: st)) : JJ E X g h pc L (st) := by
  obtain ⟨p, e, R, s, m, args, below, meth, c, cells, slots, Q, A⟩ := X
  obtain ⟨hx, hb, hml, hown, hts, hK, hA, hfr, hlo, hc, hs⟩ := cx
  intro ls H locs hl hP hS
  exact lv_sipush hx hb hd hv (k ls H locs hl hP hS)
theorem jr_lconst {n : Fin 2} {v : Int64} (cx : Cx E X cc own Ts nL fr lo) (hd : decode cc pc = .ok (.lconst n, 1)) (hv : Int64.ofNat (n : Nat) = v) (k : JJ E X g h (pc + 1) L (.long v :: st)) : JJ E X g h pc L (st) := by
  obtain ⟨p, e, R, s, m, args, below, meth, c, cells, slots, Q, A⟩ := X
  obtain ⟨hx, hb, hml, hown, hts, hK, hA, hfr, hlo, hc, hs⟩ := cx
  intro ls H locs hl hP hS
  exact lv_lconst hx hb hd hv (k ls H locs hl hP hS)
theorem jr_ldc {index : Nat} {v : Int32} (cx : Cx E X cc own Ts nL fr lo) (hd : decode cc pc = .ok (.ldc index, 2)) (hm : Cond.constant own index v ∈ Ts) (k : JJ E X g h (pc + 2) L (.int v :: st)) : JJ E X g h pc L (st) := by
  obtain ⟨p, e, R, s, m, args, below, meth, c, cells, slots, Q, A⟩ := X
  obtain ⟨hx, hb, hml, hown, hts, hK, hA, hfr, hlo, hc, hs⟩ := cx
  intro ls H locs hl hP hS
  exact lv_ldc hx hb hown (hts _ hm) hd (k ls H locs hl hP hS)
theorem jr_ldc2 {index : Nat} {v : Int64} (cx : Cx E X cc own Ts nL fr lo) (hd : decode cc pc = .ok (.ldc2_w index, 3)) (hm : Cond.constantLong own index v ∈ Ts) (k : JJ E X g h (pc + 3) L (.long v :: st)) : JJ E X g h pc L (st) := by
  obtain ⟨p, e, R, s, m, args, below, meth, c, cells, slots, Q, A⟩ := X
  obtain ⟨hx, hb, hml, hown, hts, hK, hA, hfr, hlo, hc, hs⟩ := cx
  intro ls H locs hl hP hS
  exact lv_ldc2 hx hb hown (hts _ hm) hd (k ls H locs hl hP hS)
theorem jr_iload_n {q : Fin 4} {i : Nat} {x : Int32} (cx : Cx E X cc own Ts nL fr lo) (hd : decode cc pc = .ok (.iload_n q, 1)) (n : Nat) (hi : (q : Nat) = i) (hn : L[n]? = some (i, .int x)) (k : JJ E X g h (pc + 1) L (.int x :: st)) : JJ E X g h pc L (st) := by
  obtain ⟨p, e, R, s, m, args, below, meth, c, cells, slots, Q, A⟩ := X
  obtain ⟨hx, hb, hml, hown, hts, hK, hA, hfr, hlo, hc, hs⟩ := cx
  intro ls H locs hl hP hS
  exact lv_iload_n hx hb hd hi (lv_at hl n hn) (k ls H locs hl hP hS)
theorem jr_iload {i : Nat} {x : Int32} (cx : Cx E X cc own Ts nL fr lo) (hd : decode cc pc = .ok (.iload i, 2)) (n : Nat) (hn : L[n]? = some (i, .int x)) (k : JJ E X g h (pc + 2) L (.int x :: st)) : JJ E X g h pc L (st) := by
  obtain ⟨p, e, R, s, m, args, below, meth, c, cells, slots, Q, A⟩ := X
  obtain ⟨hx, hb, hml, hown, hts, hK, hA, hfr, hlo, hc, hs⟩ := cx
  intro ls H locs hl hP hS
  exact lv_iload hx hb hd (lv_at hl n hn) (k ls H locs hl hP hS)
theorem jr_istore_n {q : Fin 4} {i : Nat} {x : Int32} (cx : Cx E X cc own Ts nL fr lo) (hd : decode cc pc = .ok (.istore_n q, 1)) (hi : (q : Nat) = i) (hn : i < nL) (hl2 : (i, Value.int x) :: L.filter (fun q => !(q.1 == i) && !(q.1 + 1 == i && q.2.category == 2)) = L') (k : JJ E X g h (pc + 1) L' st) : JJ E X g h pc L (.int x :: st) := by
  obtain ⟨p, e, R, s, m, args, below, meth, c, cells, slots, Q, A⟩ := X
  obtain ⟨hx, hb, hml, hown, hts, hK, hA, hfr, hlo, hc, hs⟩ := cx
  intro ls H locs hl hP hS
  subst hml
  exact lv_istore_n hx hb hd hi hl hn hl2 (fun ls2 hl3 => k ls2 H locs hl3 hP hS)
theorem jr_istore {i : Nat} {x : Int32} (cx : Cx E X cc own Ts nL fr lo) (hd : decode cc pc = .ok (.istore i, 2)) (hn : i < nL) (hl2 : (i, Value.int x) :: L.filter (fun q => !(q.1 == i) && !(q.1 + 1 == i && q.2.category == 2)) = L') (k : JJ E X g h (pc + 2) L' st) : JJ E X g h pc L (.int x :: st) := by
  obtain ⟨p, e, R, s, m, args, below, meth, c, cells, slots, Q, A⟩ := X
  obtain ⟨hx, hb, hml, hown, hts, hK, hA, hfr, hlo, hc, hs⟩ := cx
  intro ls H locs hl hP hS
  subst hml
  exact lv_istore hx hb hd hl hn hl2 (fun ls2 hl3 => k ls2 H locs hl3 hP hS)
theorem jr_lload_n {q : Fin 4} {i : Nat} {x : Int64} (cx : Cx E X cc own Ts nL fr lo) (hd : decode cc pc = .ok (.lload_n q, 1)) (n : Nat) (hi : (q : Nat) = i) (hn : L[n]? = some (i, .long x)) (k : JJ E X g h (pc + 1) L (.long x :: st)) : JJ E X g h pc L (st) := by
  obtain ⟨p, e, R, s, m, args, below, meth, c, cells, slots, Q, A⟩ := X
  obtain ⟨hx, hb, hml, hown, hts, hK, hA, hfr, hlo, hc, hs⟩ := cx
  intro ls H locs hl hP hS
  exact lv_lload_n hx hb hd hi (lv_at hl n hn) (k ls H locs hl hP hS)
theorem jr_lload {i : Nat} {x : Int64} (cx : Cx E X cc own Ts nL fr lo) (hd : decode cc pc = .ok (.lload i, 2)) (n : Nat) (hn : L[n]? = some (i, .long x)) (k : JJ E X g h (pc + 2) L (.long x :: st)) : JJ E X g h pc L (st) := by
  obtain ⟨p, e, R, s, m, args, below, meth, c, cells, slots, Q, A⟩ := X
  obtain ⟨hx, hb, hml, hown, hts, hK, hA, hfr, hlo, hc, hs⟩ := cx
  intro ls H locs hl hP hS
  exact lv_lload hx hb hd (lv_at hl n hn) (k ls H locs hl hP hS)
theorem jr_lstore_n {q : Fin 4} {i : Nat} {x : Int64} (cx : Cx E X cc own Ts nL fr lo) (hd : decode cc pc = .ok (.lstore_n q, 1)) (hi : (q : Nat) = i) (hn : i + 1 < nL) (hl2 : (i, Value.long x) :: L.filter (fun q => !(q.1 == i) && (!(q.1 == i + 1) && !(q.1 + 1 == i && q.2.category == 2))) = L') (k : JJ E X g h (pc + 1) L' st) : JJ E X g h pc L (.long x :: st) := by
  obtain ⟨p, e, R, s, m, args, below, meth, c, cells, slots, Q, A⟩ := X
  obtain ⟨hx, hb, hml, hown, hts, hK, hA, hfr, hlo, hc, hs⟩ := cx
  intro ls H locs hl hP hS
  subst hml
  exact lv_lstore_n hx hb hd hi hl hn hl2 (fun ls2 hl3 => k ls2 H locs hl3 hP hS)
theorem jr_lstore {i : Nat} {x : Int64} (cx : Cx E X cc own Ts nL fr lo) (hd : decode cc pc = .ok (.lstore i, 2)) (hn : i + 1 < nL) (hl2 : (i, Value.long x) :: L.filter (fun q => !(q.1 == i) && (!(q.1 == i + 1) && !(q.1 + 1 == i && q.2.category == 2))) = L') (k : JJ E X g h (pc + 2) L' st) : JJ E X g h pc L (.long x :: st) := by
  obtain ⟨p, e, R, s, m, args, below, meth, c, cells, slots, Q, A⟩ := X
  obtain ⟨hx, hb, hml, hown, hts, hK, hA, hfr, hlo, hc, hs⟩ := cx
  intro ls H locs hl hP hS
  subst hml
  exact lv_lstore hx hb hd hl hn hl2 (fun ls2 hl3 => k ls2 H locs hl3 hP hS)
theorem jr_aload_n {q : Fin 4} {i : Nat} {x : Nat} (cx : Cx E X cc own Ts nL fr lo) (hd : decode cc pc = .ok (.aload_n q, 1)) (n : Nat) (hi : (q : Nat) = i) (hn : L[n]? = some (i, .ref x)) (k : JJ E X g h (pc + 1) L (.ref x :: st)) : JJ E X g h pc L (st) := by
  obtain ⟨p, e, R, s, m, args, below, meth, c, cells, slots, Q, A⟩ := X
  obtain ⟨hx, hb, hml, hown, hts, hK, hA, hfr, hlo, hc, hs⟩ := cx
  intro ls H locs hl hP hS
  exact lv_aload_n hx hb hd hi (lv_at hl n hn) (k ls H locs hl hP hS)
theorem jr_aload {i : Nat} {x : Nat} (cx : Cx E X cc own Ts nL fr lo) (hd : decode cc pc = .ok (.aload i, 2)) (n : Nat) (hn : L[n]? = some (i, .ref x)) (k : JJ E X g h (pc + 2) L (.ref x :: st)) : JJ E X g h pc L (st) := by
  obtain ⟨p, e, R, s, m, args, below, meth, c, cells, slots, Q, A⟩ := X
  obtain ⟨hx, hb, hml, hown, hts, hK, hA, hfr, hlo, hc, hs⟩ := cx
  intro ls H locs hl hP hS
  exact lv_aload hx hb hd (lv_at hl n hn) (k ls H locs hl hP hS)
theorem jr_astore_n {q : Fin 4} {i : Nat} {x : Nat} (cx : Cx E X cc own Ts nL fr lo) (hd : decode cc pc = .ok (.astore_n q, 1)) (hi : (q : Nat) = i) (hn : i < nL) (hl2 : (i, Value.ref x) :: L.filter (fun q => !(q.1 == i) && !(q.1 + 1 == i && q.2.category == 2)) = L') (k : JJ E X g h (pc + 1) L' st) : JJ E X g h pc L (.ref x :: st) := by
  obtain ⟨p, e, R, s, m, args, below, meth, c, cells, slots, Q, A⟩ := X
  obtain ⟨hx, hb, hml, hown, hts, hK, hA, hfr, hlo, hc, hs⟩ := cx
  intro ls H locs hl hP hS
  subst hml
  exact lv_astore_n hx hb hd hi hl hn hl2 (fun ls2 hl3 => k ls2 H locs hl3 hP hS)
theorem jr_astore {i : Nat} {x : Nat} (cx : Cx E X cc own Ts nL fr lo) (hd : decode cc pc = .ok (.astore i, 2)) (hn : i < nL) (hl2 : (i, Value.ref x) :: L.filter (fun q => !(q.1 == i) && !(q.1 + 1 == i && q.2.category == 2)) = L') (k : JJ E X g h (pc + 2) L' st) : JJ E X g h pc L (.ref x :: st) := by
  obtain ⟨p, e, R, s, m, args, below, meth, c, cells, slots, Q, A⟩ := X
  obtain ⟨hx, hb, hml, hown, hts, hK, hA, hfr, hlo, hc, hs⟩ := cx
  intro ls H locs hl hP hS
  subst hml
  exact lv_astore hx hb hd hl hn hl2 (fun ls2 hl3 => k ls2 H locs hl3 hP hS)
theorem jr_iinc {i n : Nat} {z : Int} {x v : Int32} (cx : Cx E X cc own Ts nL fr lo) (hd : decode cc pc = .ok (.iinc i z, 3)) (hk : L[n]? = some (i, .int x)) (hv : x + Int32.ofInt z = v) (hn : i < nL) (hl2 : (i, Value.int v) :: L.filter (fun q => !(q.1 == i) && !(q.1 + 1 == i && q.2.category == 2)) = L') (k : JJ E X g h (pc + 3) L' st) : JJ E X g h pc L st := by
  obtain ⟨p, e, R, s, m, args, below, meth, c, cells, slots, Q, A⟩ := X
  obtain ⟨hx, hb, hml, hown, hts, hK, hA, hfr, hlo, hc, hs⟩ := cx
  intro ls H locs hl hP hS
  subst hml
  exact lv_iinc hx hb hd hl hk hv hn hl2 (fun ls2 hl3 => k ls2 H locs hl3 hP hS)
theorem jr_iadd {x y : Int32} (cx : Cx E X cc own Ts nL fr lo) (hd : decode cc pc = .ok (.iadd, 1)) (k : JJ E X g h (pc + 1) L (.int (x + y) :: st)) : JJ E X g h pc L (.int y :: .int x :: st) := by
  obtain ⟨p, e, R, s, m, args, below, meth, c, cells, slots, Q, A⟩ := X
  obtain ⟨hx, hb, hml, hown, hts, hK, hA, hfr, hlo, hc, hs⟩ := cx
  intro ls H locs hl hP hS
  exact lv_iadd hx hb hd (k ls H locs hl hP hS)
theorem jr_isub {x y : Int32} (cx : Cx E X cc own Ts nL fr lo) (hd : decode cc pc = .ok (.isub, 1)) (k : JJ E X g h (pc + 1) L (.int (x - y) :: st)) : JJ E X g h pc L (.int y :: .int x :: st) := by
  obtain ⟨p, e, R, s, m, args, below, meth, c, cells, slots, Q, A⟩ := X
  obtain ⟨hx, hb, hml, hown, hts, hK, hA, hfr, hlo, hc, hs⟩ := cx
  intro ls H locs hl hP hS
  exact lv_isub hx hb hd (k ls H locs hl hP hS)
theorem jr_imul {x y : Int32} (cx : Cx E X cc own Ts nL fr lo) (hd : decode cc pc = .ok (.imul, 1)) (k : JJ E X g h (pc + 1) L (.int (x * y) :: st)) : JJ E X g h pc L (.int y :: .int x :: st) := by
  obtain ⟨p, e, R, s, m, args, below, meth, c, cells, slots, Q, A⟩ := X
  obtain ⟨hx, hb, hml, hown, hts, hK, hA, hfr, hlo, hc, hs⟩ := cx
  intro ls H locs hl hP hS
  exact lv_imul hx hb hd (k ls H locs hl hP hS)
theorem jr_iand {x y : Int32} (cx : Cx E X cc own Ts nL fr lo) (hd : decode cc pc = .ok (.iand, 1)) (k : JJ E X g h (pc + 1) L (.int (x &&& y) :: st)) : JJ E X g h pc L (.int y :: .int x :: st) := by
  obtain ⟨p, e, R, s, m, args, below, meth, c, cells, slots, Q, A⟩ := X
  obtain ⟨hx, hb, hml, hown, hts, hK, hA, hfr, hlo, hc, hs⟩ := cx
  intro ls H locs hl hP hS
  exact lv_iand hx hb hd (k ls H locs hl hP hS)
theorem jr_idiv {x y : Int32} (cx : Cx E X cc own Ts nL fr lo) (hd : decode cc pc = .ok (.idiv, 1)) (hne : ¬ y = 0) (k : JJ E X g h (pc + 1) L (.int (x / y) :: st)) : JJ E X g h pc L (.int y :: .int x :: st) := by
  obtain ⟨p, e, R, s, m, args, below, meth, c, cells, slots, Q, A⟩ := X
  obtain ⟨hx, hb, hml, hown, hts, hK, hA, hfr, hlo, hc, hs⟩ := cx
  intro ls H locs hl hP hS
  exact lv_idiv hx hb hd hne (k ls H locs hl hP hS)
theorem jr_irem {x y : Int32} (cx : Cx E X cc own Ts nL fr lo) (hd : decode cc pc = .ok (.irem, 1)) (hne : ¬ y = 0) (k : JJ E X g h (pc + 1) L (.int (x - x / y * y) :: st)) : JJ E X g h pc L (.int y :: .int x :: st) := by
  obtain ⟨p, e, R, s, m, args, below, meth, c, cells, slots, Q, A⟩ := X
  obtain ⟨hx, hb, hml, hown, hts, hK, hA, hfr, hlo, hc, hs⟩ := cx
  intro ls H locs hl hP hS
  exact lv_irem hx hb hd hne (k ls H locs hl hP hS)
theorem jr_ladd {x y : Int64} (cx : Cx E X cc own Ts nL fr lo) (hd : decode cc pc = .ok (.ladd, 1)) (k : JJ E X g h (pc + 1) L (.long (x + y) :: st)) : JJ E X g h pc L (.long y :: .long x :: st) := by
  obtain ⟨p, e, R, s, m, args, below, meth, c, cells, slots, Q, A⟩ := X
  obtain ⟨hx, hb, hml, hown, hts, hK, hA, hfr, hlo, hc, hs⟩ := cx
  intro ls H locs hl hP hS
  exact lv_ladd hx hb hd (k ls H locs hl hP hS)
theorem jr_lsub {x y : Int64} (cx : Cx E X cc own Ts nL fr lo) (hd : decode cc pc = .ok (.lsub, 1)) (k : JJ E X g h (pc + 1) L (.long (x - y) :: st)) : JJ E X g h pc L (.long y :: .long x :: st) := by
  obtain ⟨p, e, R, s, m, args, below, meth, c, cells, slots, Q, A⟩ := X
  obtain ⟨hx, hb, hml, hown, hts, hK, hA, hfr, hlo, hc, hs⟩ := cx
  intro ls H locs hl hP hS
  exact lv_lsub hx hb hd (k ls H locs hl hP hS)
theorem jr_lmul {x y : Int64} (cx : Cx E X cc own Ts nL fr lo) (hd : decode cc pc = .ok (.lmul, 1)) (k : JJ E X g h (pc + 1) L (.long (x * y) :: st)) : JJ E X g h pc L (.long y :: .long x :: st) := by
  obtain ⟨p, e, R, s, m, args, below, meth, c, cells, slots, Q, A⟩ := X
  obtain ⟨hx, hb, hml, hown, hts, hK, hA, hfr, hlo, hc, hs⟩ := cx
  intro ls H locs hl hP hS
  exact lv_lmul hx hb hd (k ls H locs hl hP hS)
theorem jr_ldiv {x y : Int64} (cx : Cx E X cc own Ts nL fr lo) (hd : decode cc pc = .ok (.ldiv, 1)) (hne : ¬ y = 0) (k : JJ E X g h (pc + 1) L (.long (x / y) :: st)) : JJ E X g h pc L (.long y :: .long x :: st) := by
  obtain ⟨p, e, R, s, m, args, below, meth, c, cells, slots, Q, A⟩ := X
  obtain ⟨hx, hb, hml, hown, hts, hK, hA, hfr, hlo, hc, hs⟩ := cx
  intro ls H locs hl hP hS
  exact lv_ldiv hx hb hd hne (k ls H locs hl hP hS)
theorem jr_lrem {x y : Int64} (cx : Cx E X cc own Ts nL fr lo) (hd : decode cc pc = .ok (.lrem, 1)) (hne : ¬ y = 0) (k : JJ E X g h (pc + 1) L (.long (x - x / y * y) :: st)) : JJ E X g h pc L (.long y :: .long x :: st) := by
  obtain ⟨p, e, R, s, m, args, below, meth, c, cells, slots, Q, A⟩ := X
  obtain ⟨hx, hb, hml, hown, hts, hK, hA, hfr, hlo, hc, hs⟩ := cx
  intro ls H locs hl hP hS
  exact lv_lrem hx hb hd hne (k ls H locs hl hP hS)
theorem jr_ineg {x : Int32} (cx : Cx E X cc own Ts nL fr lo) (hd : decode cc pc = .ok (.ineg, 1)) (k : JJ E X g h (pc + 1) L (.int (-x) :: st)) : JJ E X g h pc L (.int x :: st) := by
  obtain ⟨p, e, R, s, m, args, below, meth, c, cells, slots, Q, A⟩ := X
  obtain ⟨hx, hb, hml, hown, hts, hK, hA, hfr, hlo, hc, hs⟩ := cx
  intro ls H locs hl hP hS
  exact lv_ineg hx hb hd (k ls H locs hl hP hS)
theorem jr_lneg {x : Int64} (cx : Cx E X cc own Ts nL fr lo) (hd : decode cc pc = .ok (.lneg, 1)) (k : JJ E X g h (pc + 1) L (.long (-x) :: st)) : JJ E X g h pc L (.long x :: st) := by
  obtain ⟨p, e, R, s, m, args, below, meth, c, cells, slots, Q, A⟩ := X
  obtain ⟨hx, hb, hml, hown, hts, hK, hA, hfr, hlo, hc, hs⟩ := cx
  intro ls H locs hl hP hS
  exact lv_lneg hx hb hd (k ls H locs hl hP hS)
theorem jr_i2l {x : Int32} (cx : Cx E X cc own Ts nL fr lo) (hd : decode cc pc = .ok (.i2l, 1)) (k : JJ E X g h (pc + 1) L (.long x.toInt64 :: st)) : JJ E X g h pc L (.int x :: st) := by
  obtain ⟨p, e, R, s, m, args, below, meth, c, cells, slots, Q, A⟩ := X
  obtain ⟨hx, hb, hml, hown, hts, hK, hA, hfr, hlo, hc, hs⟩ := cx
  intro ls H locs hl hP hS
  exact lv_i2l hx hb hd rfl (k ls H locs hl hP hS)
theorem jr_l2i {x : Int64} (cx : Cx E X cc own Ts nL fr lo) (hd : decode cc pc = .ok (.l2i, 1)) (k : JJ E X g h (pc + 1) L (.int x.toInt32 :: st)) : JJ E X g h pc L (.long x :: st) := by
  obtain ⟨p, e, R, s, m, args, below, meth, c, cells, slots, Q, A⟩ := X
  obtain ⟨hx, hb, hml, hown, hts, hK, hA, hfr, hlo, hc, hs⟩ := cx
  intro ls H locs hl hP hS
  exact lv_l2i hx hb hd rfl (k ls H locs hl hP hS)
theorem jr_lcmp {x y : Int64} (cx : Cx E X cc own Ts nL fr lo) (hd : decode cc pc = .ok (.lcmp, 1)) (k : JJ E X g h (pc + 1) L (.int (lg_cmp x y) :: st)) : JJ E X g h pc L (.long y :: .long x :: st) := by
  obtain ⟨p, e, R, s, m, args, below, meth, c, cells, slots, Q, A⟩ := X
  obtain ⟨hx, hb, hml, hown, hts, hK, hA, hfr, hlo, hc, hs⟩ := cx
  intro ls H locs hl hP hS
  exact W.lcmp hx hb hd (k ls H locs hl hP hS)
theorem jr_dup {v : Value} (cx : Cx E X cc own Ts nL fr lo) (hd : decode cc pc = .ok (.dup, 1)) (hv : v.category = 1) (k : JJ E X g h (pc + 1) L (v :: v :: st)) : JJ E X g h pc L (v :: st) := by
  obtain ⟨p, e, R, s, m, args, below, meth, c, cells, slots, Q, A⟩ := X
  obtain ⟨hx, hb, hml, hown, hts, hK, hA, hfr, hlo, hc, hs⟩ := cx
  intro ls H locs hl hP hS
  exact lv_dup hx hb hd hv (k ls H locs hl hP hS)
theorem jr_dup2 {v u : Value} (cx : Cx E X cc own Ts nL fr lo) (hd : decode cc pc = .ok (.dup2, 1)) (hv : v.category = 1) (hu : u.category = 1) (k : JJ E X g h (pc + 1) L (v :: u :: v :: u :: st)) : JJ E X g h pc L (v :: u :: st) := by
  obtain ⟨p, e, R, s, m, args, below, meth, c, cells, slots, Q, A⟩ := X
  obtain ⟨hx, hb, hml, hown, hts, hK, hA, hfr, hlo, hc, hs⟩ := cx
  intro ls H locs hl hP hS
  exact lv_dup2_11 hx hb hd hv hu (k ls H locs hl hP hS)
theorem jr_pop {v : Value} (cx : Cx E X cc own Ts nL fr lo) (hd : decode cc pc = .ok (.pop, 1)) (hv : v.category = 1) (k : JJ E X g h (pc + 1) L (st)) : JJ E X g h pc L (v :: st) := by
  obtain ⟨p, e, R, s, m, args, below, meth, c, cells, slots, Q, A⟩ := X
  obtain ⟨hx, hb, hml, hown, hts, hK, hA, hfr, hlo, hc, hs⟩ := cx
  intro ls H locs hl hP hS
  exact lv_pop hx hb hd hv (k ls H locs hl hP hS)
theorem jr_goto {off : Int} {tgt : Nat} (cx : Cx E X cc own Ts nL fr lo) (hd : decode cc pc = .ok (.goto off, 3)) (ht : (pc : Int) + off = (tgt : Int)) (k : JJ E X g h tgt L st) : JJ E X g h pc L st := by
  obtain ⟨p, e, R, s, m, args, below, meth, c, cells, slots, Q, A⟩ := X
  obtain ⟨hx, hb, hml, hown, hts, hK, hA, hfr, hlo, hc, hs⟩ := cx
  intro ls H locs hl hP hS
  exact lv_goto hx hb hd ht (k ls H locs hl hP hS)
theorem jr_if_eq {x : Int32} {off : Int} {tgt : Nat} (cx : Cx E X cc own Ts nL fr lo) (hd : decode cc pc = .ok (.ifCond .eq off, 3)) (ht : (pc : Int) + off = (tgt : Int)) (kt : x = 0 → JJ E X g h tgt L st) (kf : ¬ x = 0 → JJ E X g h (pc + 3) L st) : JJ E X g h pc L (.int x :: st) := by
  obtain ⟨p, e, R, s, m, args, below, meth, c, cells, slots, Q, A⟩ := X
  obtain ⟨hx, hb, hml, hown, hts, hK, hA, hfr, hlo, hc, hs⟩ := cx
  intro ls H locs hl hP hS
  exact lv_if_eq hx hb hd ht (fun q => kt q ls H locs hl hP hS) (fun q => kf q ls H locs hl hP hS)
theorem jr_icmp_eq {x y : Int32} {off : Int} {tgt : Nat} (cx : Cx E X cc own Ts nL fr lo) (hd : decode cc pc = .ok (.if_icmp .eq off, 3)) (ht : (pc : Int) + off = (tgt : Int)) (kt : x = y → JJ E X g h tgt L st) (kf : ¬ x = y → JJ E X g h (pc + 3) L st) : JJ E X g h pc L (.int y :: .int x :: st) := by
  obtain ⟨p, e, R, s, m, args, below, meth, c, cells, slots, Q, A⟩ := X
  obtain ⟨hx, hb, hml, hown, hts, hK, hA, hfr, hlo, hc, hs⟩ := cx
  intro ls H locs hl hP hS
  exact lv_icmp_eq hx hb hd ht (fun q => kt q ls H locs hl hP hS) (fun q => kf q ls H locs hl hP hS)
theorem jr_if_ne {x : Int32} {off : Int} {tgt : Nat} (cx : Cx E X cc own Ts nL fr lo) (hd : decode cc pc = .ok (.ifCond .ne off, 3)) (ht : (pc : Int) + off = (tgt : Int)) (kt : ¬ x = 0 → JJ E X g h tgt L st) (kf : x = 0 → JJ E X g h (pc + 3) L st) : JJ E X g h pc L (.int x :: st) := by
  obtain ⟨p, e, R, s, m, args, below, meth, c, cells, slots, Q, A⟩ := X
  obtain ⟨hx, hb, hml, hown, hts, hK, hA, hfr, hlo, hc, hs⟩ := cx
  intro ls H locs hl hP hS
  exact lv_if_ne hx hb hd ht (fun q => kt q ls H locs hl hP hS) (fun q => kf q ls H locs hl hP hS)
theorem jr_icmp_ne {x y : Int32} {off : Int} {tgt : Nat} (cx : Cx E X cc own Ts nL fr lo) (hd : decode cc pc = .ok (.if_icmp .ne off, 3)) (ht : (pc : Int) + off = (tgt : Int)) (kt : ¬ x = y → JJ E X g h tgt L st) (kf : x = y → JJ E X g h (pc + 3) L st) : JJ E X g h pc L (.int y :: .int x :: st) := by
  obtain ⟨p, e, R, s, m, args, below, meth, c, cells, slots, Q, A⟩ := X
  obtain ⟨hx, hb, hml, hown, hts, hK, hA, hfr, hlo, hc, hs⟩ := cx
  intro ls H locs hl hP hS
  exact lv_icmp_ne hx hb hd ht (fun q => kt q ls H locs hl hP hS) (fun q => kf q ls H locs hl hP hS)
theorem jr_if_lt {x : Int32} {off : Int} {tgt : Nat} (cx : Cx E X cc own Ts nL fr lo) (hd : decode cc pc = .ok (.ifCond .lt off, 3)) (ht : (pc : Int) + off = (tgt : Int)) (kt : x < 0 → JJ E X g h tgt L st) (kf : ¬ x < 0 → JJ E X g h (pc + 3) L st) : JJ E X g h pc L (.int x :: st) := by
  obtain ⟨p, e, R, s, m, args, below, meth, c, cells, slots, Q, A⟩ := X
  obtain ⟨hx, hb, hml, hown, hts, hK, hA, hfr, hlo, hc, hs⟩ := cx
  intro ls H locs hl hP hS
  exact lv_if_lt hx hb hd ht (fun q => kt q ls H locs hl hP hS) (fun q => kf q ls H locs hl hP hS)
theorem jr_icmp_lt {x y : Int32} {off : Int} {tgt : Nat} (cx : Cx E X cc own Ts nL fr lo) (hd : decode cc pc = .ok (.if_icmp .lt off, 3)) (ht : (pc : Int) + off = (tgt : Int)) (kt : x < y → JJ E X g h tgt L st) (kf : ¬ x < y → JJ E X g h (pc + 3) L st) : JJ E X g h pc L (.int y :: .int x :: st) := by
  obtain ⟨p, e, R, s, m, args, below, meth, c, cells, slots, Q, A⟩ := X
  obtain ⟨hx, hb, hml, hown, hts, hK, hA, hfr, hlo, hc, hs⟩ := cx
  intro ls H locs hl hP hS
  exact lv_icmp_lt hx hb hd ht (fun q => kt q ls H locs hl hP hS) (fun q => kf q ls H locs hl hP hS)
theorem jr_if_ge {x : Int32} {off : Int} {tgt : Nat} (cx : Cx E X cc own Ts nL fr lo) (hd : decode cc pc = .ok (.ifCond .ge off, 3)) (ht : (pc : Int) + off = (tgt : Int)) (kt : 0 ≤ x → JJ E X g h tgt L st) (kf : ¬ 0 ≤ x → JJ E X g h (pc + 3) L st) : JJ E X g h pc L (.int x :: st) := by
  obtain ⟨p, e, R, s, m, args, below, meth, c, cells, slots, Q, A⟩ := X
  obtain ⟨hx, hb, hml, hown, hts, hK, hA, hfr, hlo, hc, hs⟩ := cx
  intro ls H locs hl hP hS
  exact lv_if_ge hx hb hd ht (fun q => kt q ls H locs hl hP hS) (fun q => kf q ls H locs hl hP hS)
theorem jr_icmp_ge {x y : Int32} {off : Int} {tgt : Nat} (cx : Cx E X cc own Ts nL fr lo) (hd : decode cc pc = .ok (.if_icmp .ge off, 3)) (ht : (pc : Int) + off = (tgt : Int)) (kt : y ≤ x → JJ E X g h tgt L st) (kf : ¬ y ≤ x → JJ E X g h (pc + 3) L st) : JJ E X g h pc L (.int y :: .int x :: st) := by
  obtain ⟨p, e, R, s, m, args, below, meth, c, cells, slots, Q, A⟩ := X
  obtain ⟨hx, hb, hml, hown, hts, hK, hA, hfr, hlo, hc, hs⟩ := cx
  intro ls H locs hl hP hS
  exact lv_icmp_ge hx hb hd ht (fun q => kt q ls H locs hl hP hS) (fun q => kf q ls H locs hl hP hS)
theorem jr_if_gt {x : Int32} {off : Int} {tgt : Nat} (cx : Cx E X cc own Ts nL fr lo) (hd : decode cc pc = .ok (.ifCond .gt off, 3)) (ht : (pc : Int) + off = (tgt : Int)) (kt : 0 < x → JJ E X g h tgt L st) (kf : ¬ 0 < x → JJ E X g h (pc + 3) L st) : JJ E X g h pc L (.int x :: st) := by
  obtain ⟨p, e, R, s, m, args, below, meth, c, cells, slots, Q, A⟩ := X
  obtain ⟨hx, hb, hml, hown, hts, hK, hA, hfr, hlo, hc, hs⟩ := cx
  intro ls H locs hl hP hS
  exact lv_if_gt hx hb hd ht (fun q => kt q ls H locs hl hP hS) (fun q => kf q ls H locs hl hP hS)
theorem jr_icmp_gt {x y : Int32} {off : Int} {tgt : Nat} (cx : Cx E X cc own Ts nL fr lo) (hd : decode cc pc = .ok (.if_icmp .gt off, 3)) (ht : (pc : Int) + off = (tgt : Int)) (kt : y < x → JJ E X g h tgt L st) (kf : ¬ y < x → JJ E X g h (pc + 3) L st) : JJ E X g h pc L (.int y :: .int x :: st) := by
  obtain ⟨p, e, R, s, m, args, below, meth, c, cells, slots, Q, A⟩ := X
  obtain ⟨hx, hb, hml, hown, hts, hK, hA, hfr, hlo, hc, hs⟩ := cx
  intro ls H locs hl hP hS
  exact lv_icmp_gt hx hb hd ht (fun q => kt q ls H locs hl hP hS) (fun q => kf q ls H locs hl hP hS)
theorem jr_if_le {x : Int32} {off : Int} {tgt : Nat} (cx : Cx E X cc own Ts nL fr lo) (hd : decode cc pc = .ok (.ifCond .le off, 3)) (ht : (pc : Int) + off = (tgt : Int)) (kt : x ≤ 0 → JJ E X g h tgt L st) (kf : ¬ x ≤ 0 → JJ E X g h (pc + 3) L st) : JJ E X g h pc L (.int x :: st) := by
  obtain ⟨p, e, R, s, m, args, below, meth, c, cells, slots, Q, A⟩ := X
  obtain ⟨hx, hb, hml, hown, hts, hK, hA, hfr, hlo, hc, hs⟩ := cx
  intro ls H locs hl hP hS
  exact lv_if_le hx hb hd ht (fun q => kt q ls H locs hl hP hS) (fun q => kf q ls H locs hl hP hS)
theorem jr_icmp_le {x y : Int32} {off : Int} {tgt : Nat} (cx : Cx E X cc own Ts nL fr lo) (hd : decode cc pc = .ok (.if_icmp .le off, 3)) (ht : (pc : Int) + off = (tgt : Int)) (kt : x ≤ y → JJ E X g h tgt L st) (kf : ¬ x ≤ y → JJ E X g h (pc + 3) L st) : JJ E X g h pc L (.int y :: .int x :: st) := by
  obtain ⟨p, e, R, s, m, args, below, meth, c, cells, slots, Q, A⟩ := X
  obtain ⟨hx, hb, hml, hown, hts, hK, hA, hfr, hlo, hc, hs⟩ := cx
  intro ls H locs hl hP hS
  exact lv_icmp_le hx hb hd ht (fun q => kt q ls H locs hl hP hS) (fun q => kf q ls H locs hl hP hS)
end JR
end
section
theorem mm_len_lt (k : Nat) : mm_len k < 2 ^ 31 := by
  have h1 : ∀ k, k < 39 → mm_len k < 241 := by decide +kernel
  by_cases hk : k < 39
  · have := h1 k hk; omega
  · unfold mm_len
    rw [List.getD_eq_getElem?_getD, List.getElem?_eq_none (by simpa using hk), Option.getD_none]
    split
    · decide
    · split
      · decide
      · split <;> decide
theorem mm_set_i (E : mm_E) (g : mm_I) (h : mm_L) {k : Nat} (hk : k < 105) (h8 : 8 ≤ k) (hG : ¬ mm_isG k) (j : Nat) (x : Int32) {cA : ClassId} (he : mm_ce E g h k = .inl (cA, mm_len k, .inl (g k))) : (mm_wl E g h).set k (E.1 k, .inl (cA, mm_len k, .inl (upd (g k) j x))) = mm_wl E (up2 g k j x) h := by
  have hob : ∀ i, i < 8 → mm_ob E (up2 g k j x) h i = mm_ob E g h i := fun i hi => by
    have hne : ∀ a, a < 8 → up2 g k j x a = g a := fun a ha => up2_n g j x (by omega)
    rcases (show i = 0 ∨ i = 1 ∨ i = 2 ∨ i = 3 ∨ i = 4 ∨ i = 5 ∨ i = 6 ∨ i = 7 by omega) with rfl | rfl | rfl | rfl | rfl | rfl | rfl | rfl <;> simp [mm_ob, hne]
  refine mm_set E g _ h h hk ?_ ?_
  · by_cases hz : mm_isZ k
    · rw [mm_ce_z E g h hz] at he
      cases he
      rw [mm_ce_z E _ h hz, up2_s]
    · have hi : mm_isI k := by unfold mm_isI mm_isZ mm_isG at *; omega
      rw [mm_ce_i E g h hi] at he
      cases he
      rw [mm_ce_i E _ h hi, up2_s]
  · intro i hi hn
    by_cases h1 : i < 8
    · rw [mm_ce_o E _ h h1, mm_ce_o E _ h h1, hob i h1]
    · by_cases hz : mm_isZ i
      · rw [mm_ce_z E _ h hz, mm_ce_z E _ h hz, up2_n g j x hn]
      · by_cases hg2 : mm_isG i
        · rw [mm_ce_g E _ h hg2, mm_ce_g E _ h hg2]
        · have h2 : mm_isI i := by unfold mm_isI mm_isZ mm_isG at *; omega
          rw [mm_ce_i E _ h h2, mm_ce_i E _ h h2, up2_n g j x hn]
section JH
variable {E : mm_E} {X : mm_X} {cc : ByteArray} {own : String} {Ts : List Cond} {nL fr lo pc : Nat} {g g' : mm_I} {h h' : mm_L} {L L' : List (Nat × Value)} {st st' : List Value}
theorem jr_iald {k : Nat} {i : Int32} (cx : Cx E X cc own Ts nL fr lo) (hd : decode cc pc = .ok (.iaload, 1)) (hk : mm_isI k) (j : Nat) (hi : i = nI j) (hj : j < mm_len k) (kk : JJ E X g h (pc + 1) L (.int (g k j) :: st)) : JJ E X g h pc L (.int i :: .ref (E.1 k) :: st) := by
  obtain ⟨p, e, R, s, m, args, below, meth, c, cells, slots, Q, A⟩ := X
  obtain ⟨hx, hb, hml, hown, hts, hK, hA, hfr, hlo, hc, hs⟩ := cx
  intro ls H locs hl hP hS
  have hk5 : k < 105 := by unfold mm_isI at hk; omega
  have hlt := mm_len_lt k
  subst hi
  have e1 : (nI j).toNatClampNeg = j := nI_clamp (by omega)
  refine va_iald hx hb hK.2.1 hP k 0 ((mm_at E g h hk5).trans (by rw [mm_ce_i E g h hk])) rfl (vp_in_nI hj hlt) hd ?_
  rw [e1]
  exact kk ls H locs hl hP hS
theorem jr_zald {k : Nat} {i : Int32} (cx : Cx E X cc own Ts nL fr lo) (hd : decode cc pc = .ok (.baload, 1)) (hk : mm_isZ k) (j : Nat) (hi : i = nI j) (hj : j < mm_len k) (kk : JJ E X g h (pc + 1) L (.int (g k j) :: st)) : JJ E X g h pc L (.int i :: .ref (E.1 k) :: st) := by
  obtain ⟨p, e, R, s, m, args, below, meth, c, cells, slots, Q, A⟩ := X
  obtain ⟨hx, hb, hml, hown, hts, hK, hA, hfr, hlo, hc, hs⟩ := cx
  intro ls H locs hl hP hS
  have hk5 : k < 105 := by unfold mm_isZ at hk; omega
  have hlt := mm_len_lt k
  subst hi
  have e1 : (nI j).toNatClampNeg = j := nI_clamp (by omega)
  refine va_zald hx hb hK.2.1 hP k 1 ((mm_at E g h hk5).trans (by rw [mm_ce_z E g h hk])) rfl (vp_in_nI hj hlt) hd ?_
  rw [e1]
  exact kk ls H locs hl hP hS
theorem jr_iast {k : Nat} {i x : Int32} (cx : Cx E X cc own Ts nL fr lo) (hd : decode cc pc = .ok (.iastore, 1)) (hk : mm_isI k) (j : Nat) (hi : i = nI j) (hj : j < mm_len k) (kk : JJ E X (up2 g k j x) h (pc + 1) L st) : JJ E X g h pc L (.int x :: .int i :: .ref (E.1 k) :: st) := by
  obtain ⟨p, e, R, s, m, args, below, meth, c, cells, slots, Q, A⟩ := X
  obtain ⟨hx, hb, hml, hown, hts, hK, hA, hfr, hlo, hc, hs⟩ := cx
  intro ls H locs hl hP hS
  have hk5 : k < 105 := by unfold mm_isI at hk; omega
  have hlt := mm_len_lt k
  subst hi
  have e1 : (nI j).toNatClampNeg = j := nI_clamp (by omega)
  refine va_iast hx hb hK.2.1 hP (mm_D hK.1 hA g h) hS k 0 ((mm_at E g h hk5).trans (by rw [mm_ce_i E g h hk])) rfl (vp_in_nI hj hlt) hd (fun H1 locs1 hP1 _ hS1 => ?_)
  rw [e1, mm_set_i E g h hk5 (by unfold mm_isI at hk; omega) (by unfold mm_isI at hk; unfold mm_isG; omega) j x (mm_ce_i E g h hk)] at hP1
  exact kk ls H1 locs1 hl hP1 hS1
theorem jr_zast {k : Nat} {i x : Int32} (cx : Cx E X cc own Ts nL fr lo) (hd : decode cc pc = .ok (.bastore, 1)) (hk : mm_isZ k) (j : Nat) (hi : i = nI j) (hj : j < mm_len k) (hx2 : x = 0 ∨ x = 1) (kk : JJ E X (up2 g k j x) h (pc + 1) L st) : JJ E X g h pc L (.int x :: .int i :: .ref (E.1 k) :: st) := by
  obtain ⟨p, e, R, s, m, args, below, meth, c, cells, slots, Q, A⟩ := X
  obtain ⟨hx, hb, hml, hown, hts, hK, hA, hfr, hlo, hc, hs⟩ := cx
  intro ls H locs hl hP hS
  have hk5 : k < 105 := by unfold mm_isZ at hk; omega
  have hlt := mm_len_lt k
  subst hi
  have e1 : (nI j).toNatClampNeg = j := nI_clamp (by omega)
  have e2 : vp_nar .boolean x = x := by rcases hx2 with rfl | rfl <;> decide +kernel
  refine va_zast hx hb hK.2.1 hP (mm_D hK.1 hA g h) hS k 1 ((mm_at E g h hk5).trans (by rw [mm_ce_z E g h hk])) rfl (vp_in_nI hj hlt) hd (fun H1 locs1 hP1 _ hS1 => ?_)
  rw [e1, e2, mm_set_i E g h hk5 (by unfold mm_isZ at hk; omega) (by unfold mm_isZ at hk; unfold mm_isG; omega) j x (mm_ce_z E g h hk)] at hP1
  exact kk ls H1 locs1 hl hP1 hS1
theorem jr_aald {k : Nat} {i : Int32} (cx : Cx E X cc own Ts nL fr lo) (hd : decode cc pc = .ok (.aaload, 1)) (hk : mm_isG k) (j : Nat) (hi : i = nI j) (hj : j < mm_len k) (q : Nat) (hq : mm_base k + j = q) (kk : JJ E X g h (pc + 1) L (.ref (E.1 q) :: st)) : JJ E X g h pc L (.int i :: .ref (E.1 k) :: st) := by
  obtain ⟨p, e, R, s, m, args, below, meth, c, cells, slots, Q, A⟩ := X
  obtain ⟨hx, hb, hml, hown, hts, hK, hA, hfr, hlo, hc, hs⟩ := cx
  intro ls H locs hl hP hS
  have hk5 : k < 105 := by unfold mm_isG at hk; omega
  have hlt := mm_len_lt k
  subst hi hq
  have e1 : (nI j).toNatClampNeg = j := nI_clamp (by omega)
  have hc2 := hP k _ (mm_at E g h hk5)
  rw [mm_ce_g E g h hk] at hc2
  refine W.aald (v := .ref (E.1 (mm_base k + j))) (ty := .array .int) hx hb hc2 ((hK.2.1.2 2 _ rfl).1 (mm_len k) (fun x => va_rf (if x < mm_len k then some (E.1 (mm_base k + x)) else none))) rfl (fun q => by cases q) (by show ¬ (nI j < 0 ∨ (arrV _ _ _).slots.size ≤ _); rw [arrV_size]; exact vp_in_nI hj hlt) (by show (arrV _ _ _).slots[_]? = _; rw [e1, arrV_read _ _ hj]; simp only [hj, if_true]; rfl) rfl rfl hd ?_
  exact kk ls H locs hl hP hS
theorem jr_get {k ci f N idx : Nat} {C : String} {T : u_T} {fs : List Value} {v : Value} (cx : Cx E X cc own Ts nL fr lo) (hd : decode cc pc = .ok (.getfield idx, 3)) (hk : k < 8) (ho : mm_ob E g h k = (ci, fs)) (hc : vwCl[ci]? = some (C, T, N)) (hin : ∀ w ∈ u_ws C T N, w ∈ Ts) (hf : f < N) (hlk : Cond.fieldLink own idx (T f).1 (T f).2.1 (T f).2.2.1 ∈ Ts) (hv : fs[f]? = some v) (kk : JJ E X g h (pc + 3) L (v :: st)) : JJ E X g h pc L (.ref (E.1 k) :: st) := by
  obtain ⟨p, e, R, s, m, args, below, meth, c, cells, slots, Q, A⟩ := X
  obtain ⟨hx, hb, hml, hown, hts, hK, hA, hfr, hlo, -, hs⟩ := cx
  intro ls H locs hl hP hS
  exact va_get hx hb hts hin hown hK.2.1 hP k (mm_at_o E g h hk ho) hc f hf (hts _ hlk) (fun _ h9 => h9) hv hd (kk ls H locs hl hP hS)
theorem jr_getN {k ci f N idx : Nat} {C host : String} {T : u_T} {fs : List Value} {v : Value} (cx : Cx E X cc own Ts nL fr lo) (hd : decode cc pc = .ok (.getfield idx, 3)) (hk : k < 8) (ho : mm_ob E g h k = (ci, fs)) (hc : vwCl[ci]? = some (C, T, N)) (hin : ∀ w ∈ u_ws C T N, w ∈ Ts) (hf : f < N) (hlk : ∀ U, mm_Nst U → va_Nw (.fieldLinkNest own idx (T f).1 (T f).2.1 (T f).2.2.1 host) U) (hv : fs[f]? = some v) (kk : JJ E X g h (pc + 3) L (v :: st)) : JJ E X g h pc L (.ref (E.1 k) :: st) := by
  obtain ⟨p, e, R, s, m, args, below, meth, c, cells, slots, Q, A⟩ := X
  obtain ⟨hx, hb, hml, hown, hts, hK, hA, hfr, hlo, -, hs⟩ := cx
  intro ls H locs hl hP hS
  exact va_getN hx hb hts hin hown hK.2.1 hP k (mm_at_o E g h hk ho) hc f hf ((hlk s hK.2.2).use rfl) (fun _ h9 => h9) hv hd (kk ls H locs hl hP hS)
theorem jr_put {k ci f N idx : Nat} {C : String} {T : u_T} {ty0 : Nat → FieldType} {ty : FieldType} {fs : List Value} {v : Value} (cx : Cx E X cc own Ts nL fr lo) (hd : decode cc pc = .ok (.putfield idx, 3)) (hk : k < 8) (ho : mm_ob E g h k = (ci, fs)) (hc : vwCl[ci]? = some (C, T, N)) (hin : ∀ w ∈ u_ws C T N, w ∈ Ts) (hty : ∀ k, k < N → parseFieldDescriptor (T k).2.2.1 = some (ty0 k)) (hnm : ∀ a, a < N → ∀ b, b < N → a ≠ b → (T a).2.1 ≠ (T b).2.1) (hf : f < N) (hlk : Cond.fieldLink own idx (T f).1 (T f).2.1 (T f).2.2.1 ∈ Ts) (hfin : (T f).2.2.2 = false) (hd2 : parseFieldDescriptor (T f).2.2.1 = some ty) (hn : narrow ty v = v) (hfit : fits ty v = true) (hlf : f < fs.length) (hnew : mm_ob E g' h' k = (ci, fs.set f v)) (hold : ∀ i, i < 8 → i ≠ k → mm_ob E g' h' i = mm_ob E g h i) (hga : ∀ i, 8 ≤ i → g' i = g i) (kk : JJ E X g' h' (pc + 3) L st) : JJ E X g h pc L (v :: .ref (E.1 k) :: st) := by
  obtain ⟨p, e, R, s, m, args, below, meth, c, cells, slots, Q, A⟩ := X
  obtain ⟨hx, hb, hml, hown, hts, hK, hA, hfr, hlo, -, hs⟩ := cx
  intro ls H locs hl hP hS
  refine va_put hx hb hts hin ty0 hty hnm hown hK.2.1 hP (mm_D hK.1 hA g h) hS k (mm_at_o E g h hk ho) hc f hf (hts _ hlk) (fun _ h9 => h9) hfin hd2 hn hfit hlf hd (fun H1 locs1 hP1 _ hS1 => ?_)
  rw [mm_set E g g' h h' (by omega) (by rw [mm_ce_o E g' h' hk, hnew]) (fun i hi hne => by
    by_cases h1 : i < 8
    · rw [mm_ce_o E _ _ h1, mm_ce_o E _ _ h1, hold i h1 hne]
    · unfold mm_ce
      rw [if_neg h1, if_neg h1, hga i (by omega)])] at hP1
  exact kk ls H1 locs1 hl hP1 hS1
theorem jr_mmin {x y : Int32} {idx : Nat} (cx : Cx E X cc own Ts nL fr lo) (hd : decode cc pc = .ok (.invokestatic idx, 3)) (hm : Cond.methodLink own idx Lib.Math.min.name ∈ Ts) (h1 : Cond.static Lib.Math.min.name ∈ Ts) (h2 : Cond.initialized "java/lang/Math" ∈ Ts) (h3 : Cond.code Lib.Math.min.name Lib.Math.min.code 2 (some .int) ∈ Ts) (h4 : 1 ≤ fr) (h5 : (st.map fun v => v.category).sum + 13 ≤ lo) (kk : JJ E X g h (pc + 3) L (.int (if y < x then y else x) :: st)) : JJ E X g h pc L (.int y :: .int x :: st) := by
  obtain ⟨p, e, R, s, m, args, below, meth, c, cells, slots, Q, A⟩ := X
  obtain ⟨hx, hb, hml, hown, hts, hK, hA, hfr, hlo, hc, hs⟩ := cx
  intro ls H locs hl hP hS
  exact va_mmin hx hb hl.1.symm hown (hts _ hm) (hts _ h1) (hts _ h2) (hts _ h3) (by omega) (by omega) hc hs hd (kk ls H locs hl hP hS)
theorem jr_mmax {x y : Int32} {idx : Nat} (cx : Cx E X cc own Ts nL fr lo) (hd : decode cc pc = .ok (.invokestatic idx, 3)) (hm : Cond.methodLink own idx Lib.Math.max.name ∈ Ts) (h1 : Cond.static Lib.Math.max.name ∈ Ts) (h2 : Cond.initialized "java/lang/Math" ∈ Ts) (h3 : Cond.code Lib.Math.max.name Lib.Math.max.code 2 (some .int) ∈ Ts) (h4 : 1 ≤ fr) (h5 : (st.map fun v => v.category).sum + 13 ≤ lo) (kk : JJ E X g h (pc + 3) L (.int (if x < y then y else x) :: st)) : JJ E X g h pc L (.int y :: .int x :: st) := by
  obtain ⟨p, e, R, s, m, args, below, meth, c, cells, slots, Q, A⟩ := X
  obtain ⟨hx, hb, hml, hown, hts, hK, hA, hfr, hlo, hc, hs⟩ := cx
  intro ls H locs hl hP hS
  exact va_mmax hx hb hl.1.symm hown (hts _ hm) (hts _ h1) (hts _ h2) (hts _ h3) (by omega) (by omega) hc hs hd (kk ls H locs hl hP hS)
theorem jr_mabs {x : Int32} {idx : Nat} (cx : Cx E X cc own Ts nL fr lo) (hd : decode cc pc = .ok (.invokestatic idx, 3)) (hm : Cond.methodLink own idx Lib.Math.abs.name ∈ Ts) (h1 : Cond.static Lib.Math.abs.name ∈ Ts) (h2 : Cond.initialized "java/lang/Math" ∈ Ts) (h3 : Cond.code Lib.Math.abs.name Lib.Math.abs.code 1 (some .int) ∈ Ts) (h4 : 1 ≤ fr) (h5 : (st.map fun v => v.category).sum + 13 ≤ lo) (kk : JJ E X g h (pc + 3) L (.int (if 0 ≤ x then x else 0 - x) :: st)) : JJ E X g h pc L (.int x :: st) := by
  obtain ⟨p, e, R, s, m, args, below, meth, c, cells, slots, Q, A⟩ := X
  obtain ⟨hx, hb, hml, hown, hts, hK, hA, hfr, hlo, hc, hs⟩ := cx
  intro ls H locs hl hP hS
  exact va_mabs hx hb hl.1.symm hown (hts _ hm) (hts _ h1) (hts _ h2) (hts _ h3) (by omega) (by omega) hc hs hd (kk ls H locs hl hP hS)
theorem jr_mmin_long {x y : Int64} {idx : Nat} (cx : Cx E X cc own Ts nL fr lo) (hd : decode cc pc = .ok (.invokestatic idx, 3)) (hm : Cond.methodLink own idx Lib.MathLoose.min_long.x ∈ Ts) (h1 : Cond.static Lib.MathLoose.min_long.x ∈ Ts) (h2 : Cond.initialized "java/lang/Math" ∈ Ts) (h3 : Cond.code Lib.MathLoose.min_long.x Lib.MathLoose.min_long.code 4 (some .long) ∈ Ts) (h4 : 1 ≤ fr) (h5 : (st.map fun v => v.category).sum + 15 ≤ lo) (kk : JJ E X g h (pc + 3) L (.long (if y < x then y else x) :: st)) : JJ E X g h pc L (.long y :: .long x :: st) := by
  obtain ⟨p, e, R, s, m, args, below, meth, c, cells, slots, Q, A⟩ := X
  obtain ⟨hx, hb, hml, hown, hts, hK, hA, hfr, hlo, hc, hs⟩ := cx
  intro ls H locs hl hP hS
  exact va_mmin_long hx hb hl.1.symm hown (hts _ hm) (hts _ h1) (hts _ h2) (hts _ h3) (by omega) (by omega) hc hs hd (kk ls H locs hl hP hS)
theorem jr_mabs_long {x : Int64} {idx : Nat} (cx : Cx E X cc own Ts nL fr lo) (hd : decode cc pc = .ok (.invokestatic idx, 3)) (hm : Cond.methodLink own idx Lib.MathLoose.abs_long.x ∈ Ts) (h1 : Cond.static Lib.MathLoose.abs_long.x ∈ Ts) (h2 : Cond.initialized "java/lang/Math" ∈ Ts) (h3 : Cond.code Lib.MathLoose.abs_long.x Lib.MathLoose.abs_long.code 2 (some .long) ∈ Ts) (h4 : 1 ≤ fr) (h5 : (st.map fun v => v.category).sum + 13 ≤ lo) (kk : JJ E X g h (pc + 3) L (.long (if 0 < x then x else -x) :: st)) : JJ E X g h pc L (.long x :: st) := by
  obtain ⟨p, e, R, s, m, args, below, meth, c, cells, slots, Q, A⟩ := X
  obtain ⟨hx, hb, hml, hown, hts, hK, hA, hfr, hlo, hc, hs⟩ := cx
  intro ls H locs hl hP hS
  exact va_mabs_long hx hb hl.1.symm hown (hts _ hm) (hts _ h1) (hts _ h2) (hts _ h3) (by omega) (by omega) hc hs hd (kk ls H locs hl hP hS)
theorem jr_tableOut {dflt lo1 hi : Int} {offs : Array Int} {len tgt : Nat} {x : Int32} (cx : Cx E X cc own Ts nL fr lo) (hd : decode cc pc = .ok (.tableswitch dflt lo1 hi offs, len)) (h9 : x.toInt < lo1 ∨ hi < x.toInt) (ht : (pc : Int) + dflt = (tgt : Int)) (kk : JJ E X g h tgt L st) : JJ E X g h pc L (.int x :: st) := by
  obtain ⟨p, e, R, s, m, args, below, meth, c, cells, slots, Q, A⟩ := X
  obtain ⟨hx, hb, hml, hown, hts, hK, hA, hfr, hlo, hc, hs⟩ := cx
  intro ls H locs hl hP hS
  exact lv_tableOut hx hb hd h9 ht (kk ls H locs hl hP hS)
theorem jr_tableIn {dflt lo1 hi off : Int} {offs : Array Int} {len tgt : Nat} {x : Int32} (cx : Cx E X cc own Ts nL fr lo) (hd : decode cc pc = .ok (.tableswitch dflt lo1 hi offs, len)) (h8 : ¬ x.toInt < lo1) (h9 : ¬ hi < x.toInt) (ho : offs[(x.toInt - lo1).toNat]? = some off) (ht : (pc : Int) + off = (tgt : Int)) (kk : JJ E X g h tgt L st) : JJ E X g h pc L (.int x :: st) := by
  obtain ⟨p, e, R, s, m, args, below, meth, c, cells, slots, Q, A⟩ := X
  obtain ⟨hx, hb, hml, hown, hts, hK, hA, hfr, hlo, hc, hs⟩ := cx
  intro ls H locs hl hP hS
  exact lv_tableIn hx hb hd h8 h9 ho ht (kk ls H locs hl hP hS)
theorem jr_copy {k k2 idx : Nat} {sp dp n : Int32} (cx : Cx E X cc own Ts nL fr lo) (hd : decode cc pc = .ok (.invokestatic idx, 3)) (hm : Cond.methodLink own idx arraycopyName ∈ Ts) (h0 : Cond.native arraycopyName ∈ Ts) (h1 : Cond.static arraycopyName ∈ Ts) (h2 : Cond.initialized "java/lang/System" ∈ Ts) (hk : mm_isI k) (hk2 : mm_isI k2) (a b z : Nat) (ha : sp = nI a) (hb2 : dp = nI b) (hz : n = nI z) (hl1 : a + z ≤ mm_len k) (hl2 : b + z ≤ mm_len k2) (h4 : 1 ≤ fr) (h5 : (st.map fun v => v.category).sum + (nativeFrameWords "java/lang/System" "arraycopy" 5 + 11) ≤ lo) (kk : JJ E X (fun q => if q = k2 then va_cpy (g k) (g k2) a b z else g q) h (pc + 3) L st) : JJ E X g h pc L (.int n :: .int dp :: .ref (E.1 k2) :: .int sp :: .ref (E.1 k) :: st) := by
  obtain ⟨p, e, R, s, m, args, below, meth, c, cells, slots, Q, A⟩ := X
  obtain ⟨hx, hb, hml, hown, hts, hK, hA, hfr, hlo, hc, hs⟩ := cx
  intro ls H locs hl hP hS
  have hk5 : k < 105 := by unfold mm_isI at hk; omega
  have hk6 : k2 < 105 := by unfold mm_isI at hk2; omega
  have hq1 := mm_len_lt k
  have hq2 := mm_len_lt k2
  subst ha hb2 hz
  have e1 : (nI a).toNatClampNeg = a := nI_clamp (by omega)
  have e2 : (nI b).toNatClampNeg = b := nI_clamp (by omega)
  have e3 : (nI z).toNatClampNeg = z := nI_clamp (by omega)
  refine va_copyi (ty := .int) hx hb hl.1.symm hown (hts _ hm) (hts _ h0) (hts _ h1) (hts _ h2) hK.2.1 hP (mm_D hK.1 hA g h) hS k k2 0 0 ((mm_at E g h hk5).trans (by rw [mm_ce_i E g h hk])) ((mm_at E g h hk6).trans (by rw [mm_ce_i E g h hk2])) rfl rfl rfl (nI_pos (by omega)) (nI_pos (by omega)) (nI_pos (by omega)) (by rw [e1, e3]; exact hl1) (by rw [e2, e3]; exact hl2) (fun i hi => rfl) (by omega) (by omega) hd (fun H1 locs1 hP1 _ hS1 => ?_)
  rw [e1, e2, e3, mm_set E g (fun q => if q = k2 then va_cpy (g k) (g k2) a b z else g q) h h hk6 (by rw [mm_ce_i E _ h hk2, if_pos rfl]) (fun i hi hne => ?_)] at hP1
  · exact kk ls H1 locs1 hl hP1 hS1
  · have hob : ∀ i, i < 8 → mm_ob E (fun q => if q = k2 then va_cpy (g k) (g k2) a b z else g q) h i = mm_ob E g h i := fun i hi => by
      have hne : ∀ a, a < 8 → ¬ a = k2 := fun a ha => by unfold mm_isI at hk2; omega
      rcases (show i = 0 ∨ i = 1 ∨ i = 2 ∨ i = 3 ∨ i = 4 ∨ i = 5 ∨ i = 6 ∨ i = 7 by omega) with rfl | rfl | rfl | rfl | rfl | rfl | rfl | rfl <;> simp [mm_ob, hne]
    by_cases h1 : i < 8
    · rw [mm_ce_o E _ h h1, mm_ce_o E _ h h1, hob i h1]
    · unfold mm_ce
      simp only [h1, hne, if_false]
end JH
/-! contracts: from the memory g h the method with the arguments av answers r and leaves the memory g' h' -/
def mm_rm (fr lo : Nat) : Room := { frames := fr, cells := 0, slots := 0, locals := lo }
def mm_Pc (E : mm_E) (av : List Value) (g : mm_I) (h : mm_L) : Array Value → State → Prop := va_Pc av (fun U => mm_Pw E g h U.heap ∧ mm_Kn E U)
def Ci (E : mm_E) (y : MethodName) (ws : List Cond) (fr lo : Nat) (av : List Value) (g : mm_I) (h : mm_L) (r : Int32) (g' : mm_I) (h' : mm_L) : Prop := Met E.2.2.2.2.2 y ws (mm_rm fr lo) (mm_Pc E av g h) (va_Qi (fun x (_ : Unit) => x = r) (fun _ t => mm_Pw E g' h' t.heap) (mm_A E)) 0 0 (mm_A E)
def Cl (E : mm_E) (y : MethodName) (ws : List Cond) (fr lo : Nat) (av : List Value) (g : mm_I) (h : mm_L) (r : Int64) (g' : mm_I) (h' : mm_L) : Prop := Met E.2.2.2.2.2 y ws (mm_rm fr lo) (mm_Pc E av g h) (va_Ql (fun x (_ : Unit) => x = r) (fun _ t => mm_Pw E g' h' t.heap) (mm_A E)) 0 0 (mm_A E)
def Cv (E : mm_E) (y : MethodName) (ws : List Cond) (fr lo : Nat) (av : List Value) (g : mm_I) (h : mm_L) (g' : mm_I) (h' : mm_L) : Prop := Met E.2.2.2.2.2 y ws (mm_rm fr lo) (mm_Pc E av g h) (va_Qv (fun (_ : Unit) => True) (fun _ t => mm_Pw E g' h' t.heap) (mm_A E)) 0 0 (mm_A E)
theorem mm_blind (E : mm_E) (av : List Value) (g : mm_I) (h : mm_L) : FrameBlind (mm_Pc E av g h) := fun a U gg mk q => ⟨q.1, q.2.1, mm_Kn.same (u := U) rfl q.2.2⟩
theorem mm_pre {E : mm_E} {av : List Value} {g : mm_I} {h : mm_L} {s : State} {H : Heap} (hP : mm_Pw E g h H) (hK : mm_Kn E s) : ∀ U : State, U.heap = H → s.WarmedH U.vm → mm_Pc E av g h av.toArray U := fun U hU hW => ⟨rfl, by rw [hU]; exact hP, hK.warm hW⟩
section JC
variable {E : mm_E} {X : mm_X} {cc : ByteArray} {own : String} {Ts : List Cond} {nL fr lo pc : Nat} {g g' : mm_I} {h h' : mm_L} {L L' : List (Nat × Value)} {st st0 st' : List Value} {y : MethodName} {ws ws' : List Cond} {f2 l2 maxL idx : Nat} {ret : Option FieldType} {bytes : ByteArray}
theorem jr_si {r : Int32} (av : List Value) (n : Nat) (cx : Cx E X cc own Ts nL fr lo) (hd : decode cc pc = .ok (.invokestatic idx, 3)) (hM : Ci E y ws f2 l2 av g h r g' h') (hG : GoodIn Ts (va_wsS own idx y ws)) (hw : ws = Cond.code y bytes maxL ret :: ws') (hy : y.cls ≠ "java/lang/invoke/MethodHandle" ∧ y.cls ≠ "java/lang/invoke/VarHandle" ∧ (parseMethodDescriptor y.desc).map (fun d => d.parameters.length) = some n) (hR : f2 + 1 ≤ fr ∧ 8 + (maxL + 11) + l2 ≤ lo) (hn : av.length = n) (hst : st0 = av.reverse ++ st) (hcat : (st.map fun v => v.category).sum ≤ 8) (kk : JJ E X g' h' (pc + 3) L (.int r :: st)) : JJ E X g h pc L st0 := by
  obtain ⟨p, e, R, s, m, args, below, meth, c, cells, slots, Q, A⟩ := X
  obtain ⟨hx, hb, hml, hown, hts, hK, hA, hfr, hlo, hc, hs⟩ := cx
  intro ls H locs hl hP hS
  refine va_calli (va_runS (As := av) (rest := st) ⟨hx, hb, hml, hown, hts⟩ hM (va_cwS n hts hG hw rfl rfl hy ⟨Nat.le_trans hR.1 hfr, Nat.le_trans hR.2 hlo⟩) ⟨mm_blind E av g h, mm_pre hP hK⟩ rfl hn (by rw [← hml]; exact hl.1) hst (lv_room hcat) hd ⟨hc, hs⟩) hS (fun q _ hq => by obtain ⟨k, hk, rfl⟩ := hq; exact hA k hk) (fun q hq => by obtain ⟨k, hk, rfl⟩ := hq; exact hA k hk) (fun x u t H1 locs1 ht hvm hw hB hz1 hk1 hS1 => ?_)
  cases hw
  rw [ht] at hB
  exact kk ls H1 locs1 hl hB hS1
theorem jr_vi {r : Int32} {k ci N : Nat} {C : String} {T : u_T} {fs : List Value} (av : List Value) (n : Nat) (cx : Cx E X cc own Ts nL fr lo) (hd : decode cc pc = .ok (.invokevirtual idx, 3)) (hM : Ci E y ws f2 l2 (.ref (E.1 k) :: av) g h r g' h') (hk : k < 8) (ho : mm_ob E g h k = (ci, fs)) (hcl : vwCl[ci]? = some (C, T, N)) (hG : GoodIn Ts (wsV own idx C y ws)) (hw : ws = Cond.code y bytes maxL ret :: ws') (hy : y.cls = C ∧ y.cls ≠ "java/lang/invoke/MethodHandle" ∧ y.cls ≠ "java/lang/invoke/VarHandle" ∧ (parseMethodDescriptor y.desc).map (fun d => d.parameters.length) = some n) (hR : f2 + 1 ≤ fr ∧ 8 + (maxL + 11) + l2 ≤ lo) (hn : av.length = n) (hst : st0 = av.reverse ++ .ref (E.1 k) :: st) (hcat : (st.map fun v => v.category).sum ≤ 8) (kk : JJ E X g' h' (pc + 3) L (.int r :: st)) : JJ E X g h pc L st0 := by
  obtain ⟨p, e, R, s, m, args, below, meth, c, cells, slots, Q, A⟩ := X
  obtain ⟨hx, hb, hml, hown, hts, hK, hA, hfr, hlo, hc, hs⟩ := cx
  intro ls H locs hl hP hS
  refine va_calli (va_runV (As := av) (rest := st) ⟨hx, hb, hml, hown, hts⟩ hM (cwV n hts hG hw rfl rfl hy ⟨Nat.le_trans hR.1 hfr, Nat.le_trans hR.2 hlo⟩) ⟨mm_blind E _ g h, va_recv hK.2.1 hP hcl (mm_at_o E g h hk ho), mm_pre hP hK⟩ rfl hn (by rw [← hml]; exact hl.1) hst (lv_room hcat) hd ⟨hc, hs⟩) hS (fun q _ hq => by obtain ⟨k, hk, rfl⟩ := hq; exact hA k hk) (fun q hq => by obtain ⟨k, hk, rfl⟩ := hq; exact hA k hk) (fun x u t H1 locs1 ht hvm hw hB hz1 hk1 hS1 => ?_)
  cases hw
  rw [ht] at hB
  exact kk ls H1 locs1 hl hB hS1
theorem jr_ni {r : Int32} {host : String} (av : List Value) (n : Nat) (cx : Cx E X cc own Ts nL fr lo) (hd : decode cc pc = .ok (.invokestatic idx, 3)) (hM : Ci E y ws f2 l2 av g h r g' h') (hG : GoodIn Ts ws) (hw : ws = Cond.code y bytes maxL ret :: ws') (hlk : ∀ U, mm_Nst U → va_Nw (.methodLinkNest own idx y host) U) (hini : Cond.initialized y.cls ∈ Ts) (hsta : Cond.static y ∈ Ts) (hy : y.cls ≠ "java/lang/invoke/MethodHandle" ∧ y.cls ≠ "java/lang/invoke/VarHandle" ∧ (parseMethodDescriptor y.desc).map (fun d => d.parameters.length) = some n) (hR : f2 + 1 ≤ fr ∧ 8 + (maxL + 11) + l2 ≤ lo) (hn : av.length = n) (hst : st0 = av.reverse ++ st) (hcat : (st.map fun v => v.category).sum ≤ 8) (kk : JJ E X g' h' (pc + 3) L (.int r :: st)) : JJ E X g h pc L st0 := by
  obtain ⟨p, e, R, s, m, args, below, meth, c, cells, slots, Q, A⟩ := X
  obtain ⟨hx, hb, hml, hown, hts, hK, hA, hfr, hlo, hc, hs⟩ := cx
  intro ls H locs hl hP hS
  refine va_calli (va_runSN (As := av) (rest := st) ⟨hx, hb, hml, hown, hts⟩ hM ⟨va_cnB n hts hG hw rfl rfl (hlk s hK.2.2) (hts _ hini) hy ⟨Nat.le_trans hR.1 hfr, Nat.le_trans hR.2 hlo⟩, hts _ hsta, trivial⟩ ⟨mm_blind E av g h, mm_pre hP hK⟩ rfl hn (by rw [← hml]; exact hl.1) hst (lv_room hcat) hd ⟨hc, hs⟩) hS (fun q _ hq => by obtain ⟨k, hk, rfl⟩ := hq; exact hA k hk) (fun q hq => by obtain ⟨k, hk, rfl⟩ := hq; exact hA k hk) (fun x u t H1 locs1 ht hvm hw hB hz1 hk1 hS1 => ?_)
  cases hw
  rw [ht] at hB
  exact kk ls H1 locs1 hl hB hS1
theorem jr_sl {r : Int64} (av : List Value) (n : Nat) (cx : Cx E X cc own Ts nL fr lo) (hd : decode cc pc = .ok (.invokestatic idx, 3)) (hM : Cl E y ws f2 l2 av g h r g' h') (hG : GoodIn Ts (va_wsS own idx y ws)) (hw : ws = Cond.code y bytes maxL ret :: ws') (hy : y.cls ≠ "java/lang/invoke/MethodHandle" ∧ y.cls ≠ "java/lang/invoke/VarHandle" ∧ (parseMethodDescriptor y.desc).map (fun d => d.parameters.length) = some n) (hR : f2 + 1 ≤ fr ∧ 8 + (maxL + 11) + l2 ≤ lo) (hn : av.length = n) (hst : st0 = av.reverse ++ st) (hcat : (st.map fun v => v.category).sum ≤ 8) (kk : JJ E X g' h' (pc + 3) L (.long r :: st)) : JJ E X g h pc L st0 := by
  obtain ⟨p, e, R, s, m, args, below, meth, c, cells, slots, Q, A⟩ := X
  obtain ⟨hx, hb, hml, hown, hts, hK, hA, hfr, hlo, hc, hs⟩ := cx
  intro ls H locs hl hP hS
  refine va_calll (va_runS (As := av) (rest := st) ⟨hx, hb, hml, hown, hts⟩ hM (va_cwS n hts hG hw rfl rfl hy ⟨Nat.le_trans hR.1 hfr, Nat.le_trans hR.2 hlo⟩) ⟨mm_blind E av g h, mm_pre hP hK⟩ rfl hn (by rw [← hml]; exact hl.1) hst (lv_room hcat) hd ⟨hc, hs⟩) hS (fun q _ hq => by obtain ⟨k, hk, rfl⟩ := hq; exact hA k hk) (fun q hq => by obtain ⟨k, hk, rfl⟩ := hq; exact hA k hk) (fun x u t H1 locs1 ht hvm hw hB hz1 hk1 hS1 => ?_)
  cases hw
  rw [ht] at hB
  exact kk ls H1 locs1 hl hB hS1
theorem jr_vl {r : Int64} {k ci N : Nat} {C : String} {T : u_T} {fs : List Value} (av : List Value) (n : Nat) (cx : Cx E X cc own Ts nL fr lo) (hd : decode cc pc = .ok (.invokevirtual idx, 3)) (hM : Cl E y ws f2 l2 (.ref (E.1 k) :: av) g h r g' h') (hk : k < 8) (ho : mm_ob E g h k = (ci, fs)) (hcl : vwCl[ci]? = some (C, T, N)) (hG : GoodIn Ts (wsV own idx C y ws)) (hw : ws = Cond.code y bytes maxL ret :: ws') (hy : y.cls = C ∧ y.cls ≠ "java/lang/invoke/MethodHandle" ∧ y.cls ≠ "java/lang/invoke/VarHandle" ∧ (parseMethodDescriptor y.desc).map (fun d => d.parameters.length) = some n) (hR : f2 + 1 ≤ fr ∧ 8 + (maxL + 11) + l2 ≤ lo) (hn : av.length = n) (hst : st0 = av.reverse ++ .ref (E.1 k) :: st) (hcat : (st.map fun v => v.category).sum ≤ 8) (kk : JJ E X g' h' (pc + 3) L (.long r :: st)) : JJ E X g h pc L st0 := by
  obtain ⟨p, e, R, s, m, args, below, meth, c, cells, slots, Q, A⟩ := X
  obtain ⟨hx, hb, hml, hown, hts, hK, hA, hfr, hlo, hc, hs⟩ := cx
  intro ls H locs hl hP hS
  refine va_calll (va_runV (As := av) (rest := st) ⟨hx, hb, hml, hown, hts⟩ hM (cwV n hts hG hw rfl rfl hy ⟨Nat.le_trans hR.1 hfr, Nat.le_trans hR.2 hlo⟩) ⟨mm_blind E _ g h, va_recv hK.2.1 hP hcl (mm_at_o E g h hk ho), mm_pre hP hK⟩ rfl hn (by rw [← hml]; exact hl.1) hst (lv_room hcat) hd ⟨hc, hs⟩) hS (fun q _ hq => by obtain ⟨k, hk, rfl⟩ := hq; exact hA k hk) (fun q hq => by obtain ⟨k, hk, rfl⟩ := hq; exact hA k hk) (fun x u t H1 locs1 ht hvm hw hB hz1 hk1 hS1 => ?_)
  cases hw
  rw [ht] at hB
  exact kk ls H1 locs1 hl hB hS1
theorem jr_nl {r : Int64} {host : String} (av : List Value) (n : Nat) (cx : Cx E X cc own Ts nL fr lo) (hd : decode cc pc = .ok (.invokestatic idx, 3)) (hM : Cl E y ws f2 l2 av g h r g' h') (hG : GoodIn Ts ws) (hw : ws = Cond.code y bytes maxL ret :: ws') (hlk : ∀ U, mm_Nst U → va_Nw (.methodLinkNest own idx y host) U) (hini : Cond.initialized y.cls ∈ Ts) (hsta : Cond.static y ∈ Ts) (hy : y.cls ≠ "java/lang/invoke/MethodHandle" ∧ y.cls ≠ "java/lang/invoke/VarHandle" ∧ (parseMethodDescriptor y.desc).map (fun d => d.parameters.length) = some n) (hR : f2 + 1 ≤ fr ∧ 8 + (maxL + 11) + l2 ≤ lo) (hn : av.length = n) (hst : st0 = av.reverse ++ st) (hcat : (st.map fun v => v.category).sum ≤ 8) (kk : JJ E X g' h' (pc + 3) L (.long r :: st)) : JJ E X g h pc L st0 := by
  obtain ⟨p, e, R, s, m, args, below, meth, c, cells, slots, Q, A⟩ := X
  obtain ⟨hx, hb, hml, hown, hts, hK, hA, hfr, hlo, hc, hs⟩ := cx
  intro ls H locs hl hP hS
  refine va_calll (va_runSN (As := av) (rest := st) ⟨hx, hb, hml, hown, hts⟩ hM ⟨va_cnB n hts hG hw rfl rfl (hlk s hK.2.2) (hts _ hini) hy ⟨Nat.le_trans hR.1 hfr, Nat.le_trans hR.2 hlo⟩, hts _ hsta, trivial⟩ ⟨mm_blind E av g h, mm_pre hP hK⟩ rfl hn (by rw [← hml]; exact hl.1) hst (lv_room hcat) hd ⟨hc, hs⟩) hS (fun q _ hq => by obtain ⟨k, hk, rfl⟩ := hq; exact hA k hk) (fun q hq => by obtain ⟨k, hk, rfl⟩ := hq; exact hA k hk) (fun x u t H1 locs1 ht hvm hw hB hz1 hk1 hS1 => ?_)
  cases hw
  rw [ht] at hB
  exact kk ls H1 locs1 hl hB hS1
theorem jr_sv (av : List Value) (n : Nat) (cx : Cx E X cc own Ts nL fr lo) (hd : decode cc pc = .ok (.invokestatic idx, 3)) (hM : Cv E y ws f2 l2 av g h g' h') (hG : GoodIn Ts (va_wsS own idx y ws)) (hw : ws = Cond.code y bytes maxL ret :: ws') (hy : y.cls ≠ "java/lang/invoke/MethodHandle" ∧ y.cls ≠ "java/lang/invoke/VarHandle" ∧ (parseMethodDescriptor y.desc).map (fun d => d.parameters.length) = some n) (hR : f2 + 1 ≤ fr ∧ 8 + (maxL + 11) + l2 ≤ lo) (hn : av.length = n) (hst : st0 = av.reverse ++ st) (hcat : (st.map fun v => v.category).sum ≤ 8) (kk : JJ E X g' h' (pc + 3) L (st)) : JJ E X g h pc L st0 := by
  obtain ⟨p, e, R, s, m, args, below, meth, c, cells, slots, Q, A⟩ := X
  obtain ⟨hx, hb, hml, hown, hts, hK, hA, hfr, hlo, hc, hs⟩ := cx
  intro ls H locs hl hP hS
  refine va_callv (va_runS (As := av) (rest := st) ⟨hx, hb, hml, hown, hts⟩ hM (va_cwS n hts hG hw rfl rfl hy ⟨Nat.le_trans hR.1 hfr, Nat.le_trans hR.2 hlo⟩) ⟨mm_blind E av g h, mm_pre hP hK⟩ rfl hn (by rw [← hml]; exact hl.1) hst (lv_room hcat) hd ⟨hc, hs⟩) hS (fun q _ hq => by obtain ⟨k, hk, rfl⟩ := hq; exact hA k hk) (fun q hq => by obtain ⟨k, hk, rfl⟩ := hq; exact hA k hk) (fun u t H1 locs1 ht hvm hw hB hz1 hk1 hS1 => ?_)
  rw [ht] at hB
  exact kk ls H1 locs1 hl hB hS1
theorem jr_vv {k ci N : Nat} {C : String} {T : u_T} {fs : List Value} (av : List Value) (n : Nat) (cx : Cx E X cc own Ts nL fr lo) (hd : decode cc pc = .ok (.invokevirtual idx, 3)) (hM : Cv E y ws f2 l2 (.ref (E.1 k) :: av) g h g' h') (hk : k < 8) (ho : mm_ob E g h k = (ci, fs)) (hcl : vwCl[ci]? = some (C, T, N)) (hG : GoodIn Ts (wsV own idx C y ws)) (hw : ws = Cond.code y bytes maxL ret :: ws') (hy : y.cls = C ∧ y.cls ≠ "java/lang/invoke/MethodHandle" ∧ y.cls ≠ "java/lang/invoke/VarHandle" ∧ (parseMethodDescriptor y.desc).map (fun d => d.parameters.length) = some n) (hR : f2 + 1 ≤ fr ∧ 8 + (maxL + 11) + l2 ≤ lo) (hn : av.length = n) (hst : st0 = av.reverse ++ .ref (E.1 k) :: st) (hcat : (st.map fun v => v.category).sum ≤ 8) (kk : JJ E X g' h' (pc + 3) L (st)) : JJ E X g h pc L st0 := by
  obtain ⟨p, e, R, s, m, args, below, meth, c, cells, slots, Q, A⟩ := X
  obtain ⟨hx, hb, hml, hown, hts, hK, hA, hfr, hlo, hc, hs⟩ := cx
  intro ls H locs hl hP hS
  refine va_callv (va_runV (As := av) (rest := st) ⟨hx, hb, hml, hown, hts⟩ hM (cwV n hts hG hw rfl rfl hy ⟨Nat.le_trans hR.1 hfr, Nat.le_trans hR.2 hlo⟩) ⟨mm_blind E _ g h, va_recv hK.2.1 hP hcl (mm_at_o E g h hk ho), mm_pre hP hK⟩ rfl hn (by rw [← hml]; exact hl.1) hst (lv_room hcat) hd ⟨hc, hs⟩) hS (fun q _ hq => by obtain ⟨k, hk, rfl⟩ := hq; exact hA k hk) (fun q hq => by obtain ⟨k, hk, rfl⟩ := hq; exact hA k hk) (fun u t H1 locs1 ht hvm hw hB hz1 hk1 hS1 => ?_)
  rw [ht] at hB
  exact kk ls H1 locs1 hl hB hS1
theorem jr_nv {host : String} (av : List Value) (n : Nat) (cx : Cx E X cc own Ts nL fr lo) (hd : decode cc pc = .ok (.invokestatic idx, 3)) (hM : Cv E y ws f2 l2 av g h g' h') (hG : GoodIn Ts ws) (hw : ws = Cond.code y bytes maxL ret :: ws') (hlk : ∀ U, mm_Nst U → va_Nw (.methodLinkNest own idx y host) U) (hini : Cond.initialized y.cls ∈ Ts) (hsta : Cond.static y ∈ Ts) (hy : y.cls ≠ "java/lang/invoke/MethodHandle" ∧ y.cls ≠ "java/lang/invoke/VarHandle" ∧ (parseMethodDescriptor y.desc).map (fun d => d.parameters.length) = some n) (hR : f2 + 1 ≤ fr ∧ 8 + (maxL + 11) + l2 ≤ lo) (hn : av.length = n) (hst : st0 = av.reverse ++ st) (hcat : (st.map fun v => v.category).sum ≤ 8) (kk : JJ E X g' h' (pc + 3) L (st)) : JJ E X g h pc L st0 := by
  obtain ⟨p, e, R, s, m, args, below, meth, c, cells, slots, Q, A⟩ := X
  obtain ⟨hx, hb, hml, hown, hts, hK, hA, hfr, hlo, hc, hs⟩ := cx
  intro ls H locs hl hP hS
  refine va_callv (va_runSN (As := av) (rest := st) ⟨hx, hb, hml, hown, hts⟩ hM ⟨va_cnB n hts hG hw rfl rfl (hlk s hK.2.2) (hts _ hini) hy ⟨Nat.le_trans hR.1 hfr, Nat.le_trans hR.2 hlo⟩, hts _ hsta, trivial⟩ ⟨mm_blind E av g h, mm_pre hP hK⟩ rfl hn (by rw [← hml]; exact hl.1) hst (lv_room hcat) hd ⟨hc, hs⟩) hS (fun q _ hq => by obtain ⟨k, hk, rfl⟩ := hq; exact hA k hk) (fun q hq => by obtain ⟨k, hk, rfl⟩ := hq; exact hA k hk) (fun u t H1 locs1 ht hvm hw hB hz1 hk1 hS1 => ?_)
  rw [ht] at hB
  exact kk ls H1 locs1 hl hB hS1
end JC
section JI
variable {E : mm_E} {y : MethodName} {ws ws' : List Cond} {fr lo maxL : Nat} {av : List Value} {g g' : mm_I} {h h' : mm_L} {bytes : ByteArray}
theorem ci_i {r : Int32} (hy : plainName y.cls = true) (hw : ws = Cond.code y bytes maxL (some .int) :: ws') (hl0 : (lg_sl av).length ≤ maxL) (body : ∀ X, Cx E X bytes y.cls ws maxL fr lo → (∀ (pc : Nat) (L : List (Nat × Value)), decode bytes pc = .ok (.ireturn, 1) → JJ E X g' h' pc L [.int r]) → JJ E X g h 0 (lv_args 0 av) []) : Ci E y ws fr lo av g h r g' h' := by
  refine Met.ofW (cc := bytes) (maxL := maxL) (ret := (some .int)) hy hw ?_
  intro p e s m args below meth c s₁ B hml hv
  obtain ⟨rfl, hP, hK⟩ := hv
  have hts := atoms_spec (ws := ws) B.pre
  have hown : s.vm.findClass y.cls = some m.cls := findClass_of_methodNamed B.named
  have hlocks := B.notSynchronized
  have hl := lv_entry av (n := maxL) hl0
  have hS : va_S (mm_A E) s.heap s.heap [] := va_S.rf
  rw [lg_entry_eq]
  generalize (lg_sl av ++ List.replicate (maxL - (lg_sl av).length) Slot.unset).toArray = ls at hl ⊢
  refine body (p, e, (headSpec ws (mm_rm fr lo)).room, s, m, av.toArray, below, meth, c, 0, 0, MQ below (va_Qi (fun x (_ : Unit) => x = r) (fun _ t => mm_Pw E g' h' t.heap) (mm_A E)) av.toArray s 0 0 (mm_A E), mm_A E) ⟨B.exec, B.bytes, hml, hown, hts, hK, fun k hk => ⟨k, hk, rfl⟩, Nat.le_refl _, Nat.le_refl _, Nat.le_refl _, Nat.le_refl _⟩ ?_ ls s.heap [] (by rw [hml]; exact hl) hP hS
  intro pc L hd ls2 H2 locs2 hl2 hP2 hS2
  exact W.iret B.exec B.bytes B.returns (fun t ht hW => ⟨⟨r, (), rfl, rfl, by show mm_Pw _ _ _ t.heap; rw [ht]; exact hP2⟩, hS2.F ht⟩) hS2.2.2 hd hlocks
theorem ci_z {r : Int32} (hy : plainName y.cls = true) (hw : ws = Cond.code y bytes maxL (some .boolean) :: ws') (hl0 : (lg_sl av).length ≤ maxL) (hz : r = 0 ∨ r = 1) (body : ∀ X, Cx E X bytes y.cls ws maxL fr lo → (∀ (pc : Nat) (L : List (Nat × Value)), decode bytes pc = .ok (.ireturn, 1) → JJ E X g' h' pc L [.int r]) → JJ E X g h 0 (lv_args 0 av) []) : Ci E y ws fr lo av g h r g' h' := by
  refine Met.ofW (cc := bytes) (maxL := maxL) (ret := (some .boolean)) hy hw ?_
  intro p e s m args below meth c s₁ B hml hv
  obtain ⟨rfl, hP, hK⟩ := hv
  have hts := atoms_spec (ws := ws) B.pre
  have hown : s.vm.findClass y.cls = some m.cls := findClass_of_methodNamed B.named
  have hlocks := B.notSynchronized
  have hl := lv_entry av (n := maxL) hl0
  have hS : va_S (mm_A E) s.heap s.heap [] := va_S.rf
  rw [lg_entry_eq]
  generalize (lg_sl av ++ List.replicate (maxL - (lg_sl av).length) Slot.unset).toArray = ls at hl ⊢
  refine body (p, e, (headSpec ws (mm_rm fr lo)).room, s, m, av.toArray, below, meth, c, 0, 0, MQ below (va_Qi (fun x (_ : Unit) => x = r) (fun _ t => mm_Pw E g' h' t.heap) (mm_A E)) av.toArray s 0 0 (mm_A E), mm_A E) ⟨B.exec, B.bytes, hml, hown, hts, hK, fun k hk => ⟨k, hk, rfl⟩, Nat.le_refl _, Nat.le_refl _, Nat.le_refl _, Nat.le_refl _⟩ ?_ ls s.heap [] (by rw [hml]; exact hl) hP hS
  intro pc L hd ls2 H2 locs2 hl2 hP2 hS2
  exact W.zret B.exec B.bytes B.returns (by rcases hz with rfl | rfl <;> decide +kernel) (fun t ht hW => ⟨⟨r, (), rfl, rfl, by show mm_Pw _ _ _ t.heap; rw [ht]; exact hP2⟩, hS2.F ht⟩) hS2.2.2 hd hlocks
theorem ci_l {r : Int64} (hy : plainName y.cls = true) (hw : ws = Cond.code y bytes maxL (some .long) :: ws') (hl0 : (lg_sl av).length ≤ maxL) (body : ∀ X, Cx E X bytes y.cls ws maxL fr lo → (∀ (pc : Nat) (L : List (Nat × Value)), decode bytes pc = .ok (.lreturn, 1) → JJ E X g' h' pc L [.long r]) → JJ E X g h 0 (lv_args 0 av) []) : Cl E y ws fr lo av g h r g' h' := by
  refine Met.ofW (cc := bytes) (maxL := maxL) (ret := (some .long)) hy hw ?_
  intro p e s m args below meth c s₁ B hml hv
  obtain ⟨rfl, hP, hK⟩ := hv
  have hts := atoms_spec (ws := ws) B.pre
  have hown : s.vm.findClass y.cls = some m.cls := findClass_of_methodNamed B.named
  have hlocks := B.notSynchronized
  have hl := lv_entry av (n := maxL) hl0
  have hS : va_S (mm_A E) s.heap s.heap [] := va_S.rf
  rw [lg_entry_eq]
  generalize (lg_sl av ++ List.replicate (maxL - (lg_sl av).length) Slot.unset).toArray = ls at hl ⊢
  refine body (p, e, (headSpec ws (mm_rm fr lo)).room, s, m, av.toArray, below, meth, c, 0, 0, MQ below (va_Ql (fun x (_ : Unit) => x = r) (fun _ t => mm_Pw E g' h' t.heap) (mm_A E)) av.toArray s 0 0 (mm_A E), mm_A E) ⟨B.exec, B.bytes, hml, hown, hts, hK, fun k hk => ⟨k, hk, rfl⟩, Nat.le_refl _, Nat.le_refl _, Nat.le_refl _, Nat.le_refl _⟩ ?_ ls s.heap [] (by rw [hml]; exact hl) hP hS
  intro pc L hd ls2 H2 locs2 hl2 hP2 hS2
  exact W.lret B.exec B.bytes B.returns (fun t ht hW => ⟨⟨r, (), rfl, rfl, by show mm_Pw _ _ _ t.heap; rw [ht]; exact hP2⟩, hS2.F ht⟩) hS2.2.2 hd hlocks
theorem ci_v (hy : plainName y.cls = true) (hw : ws = Cond.code y bytes maxL none :: ws') (hl0 : (lg_sl av).length ≤ maxL) (body : ∀ X, Cx E X bytes y.cls ws maxL fr lo → (∀ (pc : Nat) (L : List (Nat × Value)), decode bytes pc = .ok (.return_, 1) → JJ E X g' h' pc L []) → JJ E X g h 0 (lv_args 0 av) []) : Cv E y ws fr lo av g h g' h' := by
  refine Met.ofW (cc := bytes) (maxL := maxL) (ret := none) hy hw ?_
  intro p e s m args below meth c s₁ B hml hv
  obtain ⟨rfl, hP, hK⟩ := hv
  have hts := atoms_spec (ws := ws) B.pre
  have hown : s.vm.findClass y.cls = some m.cls := findClass_of_methodNamed B.named
  have hlocks := B.notSynchronized
  have hl := lv_entry av (n := maxL) hl0
  have hS : va_S (mm_A E) s.heap s.heap [] := va_S.rf
  rw [lg_entry_eq]
  generalize (lg_sl av ++ List.replicate (maxL - (lg_sl av).length) Slot.unset).toArray = ls at hl ⊢
  refine body (p, e, (headSpec ws (mm_rm fr lo)).room, s, m, av.toArray, below, meth, c, 0, 0, MQ below (va_Qv (fun (_ : Unit) => True) (fun _ t => mm_Pw E g' h' t.heap) (mm_A E)) av.toArray s 0 0 (mm_A E), mm_A E) ⟨B.exec, B.bytes, hml, hown, hts, hK, fun k hk => ⟨k, hk, rfl⟩, Nat.le_refl _, Nat.le_refl _, Nat.le_refl _, Nat.le_refl _⟩ ?_ ls s.heap [] (by rw [hml]; exact hl) hP hS
  intro pc L hd ls2 H2 locs2 hl2 hP2 hS2
  exact W.vret B.exec B.bytes B.returns (fun t ht hW => ⟨⟨(), rfl, trivial, by show mm_Pw _ _ _ t.heap; rw [ht]; exact hP2⟩, hS2.F ht⟩) hS2.2.2 hd hlocks
end JI
end
