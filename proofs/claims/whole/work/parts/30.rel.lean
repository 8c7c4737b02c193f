def grp (k j : Nat) : Nat := if k = 7 then (if j = 0 then 6 else if j = 13 then 3 else if j = 16 then 4 else 0) else if k = 0 ∨ k = 8 ∨ k = 13 then 6 else if k = 9 ∨ k = 14 ∨ k = 15 ∨ (39 ≤ k ∧ k < 45) then 1 else if k = 10 ∨ (17 ≤ k ∧ k ≤ 19) ∨ (45 ≤ k ∧ k < 53) then 2 else if k = 3 ∨ k = 11 ∨ k = 12 ∨ k = 20 ∨ k = 21 then 3 else if k = 4 ∨ (22 ≤ k ∧ k ≤ 28) ∨ k = 31 ∨ (53 ≤ k ∧ k < 93) then 4 else if k = 29 ∨ k = 30 ∨ k = 32 ∨ (93 ≤ k ∧ k < 105) then 5 else 0
def Ag (G : Nat) (g g' : mm_I) : Prop := ∀ k j, grp k j = G → g' k j = g k j
theorem Ag.refl (G : Nat) (g : mm_I) : Ag G g g := fun _ _ _ => rfl
theorem Ag.trans {G : Nat} {a b c : mm_I} (h : Ag G a b) (k : Ag G b c) : Ag G a c := fun x j e => (k x j e).trans (h x j e)
theorem Ag.up {G k j : Nat} {g : mm_I} {v : Int32} (hn : grp k j ≠ G) : Ag G g (up2 g k j v) := by
  intro a b e
  by_cases ha : a = k
  · subst ha
    by_cases hb : b = j
    · subst hb; exact absurd e hn
    · exact up2_sn g a v hb
  · exact congrFun (up2_n g j v ha) b
theorem Ag.up' {G k j : Nat} {g0 g : mm_I} {v : Int32} (A : Ag G g0 g) (hn : grp k j ≠ G) : Ag G g0 (up2 g k j v) := A.trans (Ag.up hn)
def RR (g : mm_I) : Prop := ∀ j, j < 6 → ((g 9 j = -1 ∧ g 14 j = -9) ∨ ∃ n, n ≤ 40 ∧ g 9 j = nI n ∧ g 14 j = nI n) ∧ ∀ i, i < 40 → g (39 + j) i = g 15 (40 * j + i) ∧ BdI (g (39 + j) i) 100000
def RT (g : mm_I) : Prop := ∀ t, t < 4 → ∃ n, n ≤ 4 ∧ g 10 t = nI n ∧ g 17 t = nI n ∧ (∀ i, i < 4 → g (45 + t) i = g 18 (4 * t + i) ∧ g (49 + t) i = g 19 (4 * t + i)) ∧ (∀ i, i < n → BdI (g (45 + t) i) 20 ∧ BdI (g (49 + t) i) 10000) ∧ (∀ i, i < n → ∀ k, k < i → ¬ g (45 + t) k = g (45 + t) i)
def RB (g : mm_I) : Prop := ∃ nb, nb ≤ 16 ∧ g 3 2 = nI nb ∧ g 7 13 = nI nb ∧ ∀ i, i < 16 → g 11 i = g 20 i ∧ g 12 i = g 21 i ∧ ∃ t, t ≤ 10000 ∧ g 12 i = nI t
def RC1 (g : mm_I) (c : Nat) : Prop := (g (53 + c) 0 = g 22 c ∧ g (53 + c) 1 = g 23 c ∧ g (53 + c) 2 = g 24 c ∧ g (53 + c) 3 = g 25 c ∧ g (53 + c) 4 = g 27 c ∧ g (53 + c) 5 = g 31 c ∧ g (53 + c) 6 = g 28 c ∧ g (53 + c) 7 = g 26 c) ∧ (g 31 c = 0 ∨ g 31 c = 1) ∧ (g 28 c = -9 ∨ ∃ d, d < c ∧ g 28 c = nI d) ∧ BdI (g 26 c) 10000 ∧ (∃ t, t ≤ 100000 ∧ g 25 c = nI t) ∧ (∃ t, t ≤ 10000 ∧ g 27 c = nI t)
def RC (g : mm_I) : Prop := ∃ n, n ≤ 40 ∧ g 4 1 = nI n ∧ g 7 16 = nI n ∧ (∀ c, c < n → RC1 g c) ∧ ∀ c, n ≤ c → c < 40 → g 31 c = 0
def RL5 (g : mm_I) : Prop := ∀ a, a < 6 → ∀ b, b < 6 → (g (99 + a) b = -1 ∧ g 32 (6 * a + b) = 0) ∨ (g 32 (6 * a + b) = 1 ∧ g (93 + a) b = g 29 (6 * a + b) ∧ g (99 + a) b = g 30 (6 * a + b) ∧ BdI (g (93 + a) b) 10000 ∧ ∃ t, t ≤ 10000 ∧ g (99 + a) b = nI t)
def RF (g : mm_I) : Prop := g 0 7 = g 7 0 ∧ ∀ f, f < 6 → g 8 f = g 13 f
def RH (h : mm_L) : Prop := h 0 8 = h 7 2 ∧ h 6 0 = h 7 3 ∧ h 6 1 = h 7 4
def Rl (g : mm_I) (h : mm_L) : Prop := RR g ∧ RT g ∧ RB g ∧ RC g ∧ RL5 g ∧ RF g ∧ RH h
theorem gr_39 {j i : Nat} (h : j < 6) : grp (39 + j) i = 1 := by unfold grp; rw [if_neg (by omega), if_neg (by omega), if_pos (by omega)]
theorem gr_45 {j i : Nat} (h : j < 4) : grp (45 + j) i = 2 := by unfold grp; rw [if_neg (by omega), if_neg (by omega), if_neg (by omega), if_pos (by omega)]
theorem gr_49 {j i : Nat} (h : j < 4) : grp (49 + j) i = 2 := by unfold grp; rw [if_neg (by omega), if_neg (by omega), if_neg (by omega), if_pos (by omega)]
theorem gr_53 {j i : Nat} (h : j < 40) : grp (53 + j) i = 4 := by unfold grp; rw [if_neg (by omega), if_neg (by omega), if_neg (by omega), if_neg (by omega), if_neg (by omega), if_pos (by omega)]
theorem gr_93 {j i : Nat} (h : j < 6) : grp (93 + j) i = 5 := by unfold grp; rw [if_neg (by omega), if_neg (by omega), if_neg (by omega), if_neg (by omega), if_neg (by omega), if_neg (by omega), if_pos (by omega)]
theorem gr_99 {j i : Nat} (h : j < 6) : grp (99 + j) i = 5 := by unfold grp; rw [if_neg (by omega), if_neg (by omega), if_neg (by omega), if_neg (by omega), if_neg (by omega), if_neg (by omega), if_pos (by omega)]
theorem RR.c {g g' : mm_I} (A : Ag 1 g g') (R : RR g) : RR g' := by
  intro j hj
  obtain ⟨h1, h2⟩ := R j hj
  rw [A 9 j rfl, A 14 j rfl]
  refine ⟨h1, fun i hi => ?_⟩
  rw [A (39 + j) i (gr_39 hj), A 15 _ rfl]
  exact h2 i hi
theorem RT.c {g g' : mm_I} (A : Ag 2 g g') (R : RT g) : RT g' := by
  intro j hj
  obtain ⟨n, hn, h1, h2, h3, h4, h5⟩ := R j hj
  refine ⟨n, hn, by rw [A 10 j rfl]; exact h1, by rw [A 17 j rfl]; exact h2, fun i hi => ?_, fun i hi => ?_, fun i hi k hk => ?_⟩
  · rw [A (45 + j) i (gr_45 hj), A (49 + j) i (gr_49 hj), A 18 _ rfl, A 19 _ rfl]; exact h3 i hi
  · rw [A (45 + j) i (gr_45 hj), A (49 + j) i (gr_49 hj)]; exact h4 i hi
  · rw [A (45 + j) i (gr_45 hj), A (45 + j) k (gr_45 hj)]; exact h5 i hi k hk
theorem RB.c {g g' : mm_I} (A : Ag 3 g g') (R : RB g) : RB g' := by
  obtain ⟨n, hn, h1, h2, h3⟩ := R
  refine ⟨n, hn, by rw [A 3 2 rfl]; exact h1, by rw [A 7 13 rfl]; exact h2, fun i hi => ?_⟩
  rw [A 11 i rfl, A 12 i rfl, A 20 i rfl, A 21 i rfl]; exact h3 i hi
theorem RC1.c {g g' : mm_I} {c : Nat} (hc : c < 40) (A : Ag 4 g g') (R : RC1 g c) : RC1 g' c := by
  unfold RC1 at R ⊢
  rw [A (53 + c) 0 (gr_53 hc), A (53 + c) 1 (gr_53 hc), A (53 + c) 2 (gr_53 hc), A (53 + c) 3 (gr_53 hc), A (53 + c) 4 (gr_53 hc), A (53 + c) 5 (gr_53 hc), A (53 + c) 6 (gr_53 hc), A (53 + c) 7 (gr_53 hc), A 22 c rfl, A 23 c rfl, A 24 c rfl, A 25 c rfl, A 26 c rfl, A 27 c rfl, A 28 c rfl, A 31 c rfl]
  exact R
theorem RC.c {g g' : mm_I} (A : Ag 4 g g') (R : RC g) : RC g' := by
  obtain ⟨n, hn, h1, h2, h3, h4⟩ := R
  refine ⟨n, hn, by rw [A 4 1 rfl]; exact h1, by rw [A 7 16 rfl]; exact h2, fun c hc => (h3 c hc).c (by omega) A, fun c hc hc2 => by rw [A 31 c rfl]; exact h4 c hc hc2⟩
theorem RL5.c {g g' : mm_I} (A : Ag 5 g g') (R : RL5 g) : RL5 g' := by
  intro a ha b hb
  rw [A (99 + a) b (gr_99 ha), A (93 + a) b (gr_93 ha), A 32 _ rfl, A 29 _ rfl, A 30 _ rfl]
  exact R a ha b hb
theorem RF.c {g g' : mm_I} (A : Ag 6 g g') (R : RF g) : RF g' := by
  refine ⟨by rw [A 0 7 rfl, A 7 0 rfl]; exact R.1, fun f hf => by rw [A 8 f rfl, A 13 f rfl]; exact R.2 f hf⟩
def OpI (E : mm_E) (y6 : MethodName) (ws6 : List Cond) (f6 l6 : Nat) (y7 : MethodName) (ws7 : List Cond) (f7 l7 : Nat) (as : List Value) (g : mm_I) (h : mm_L) : Prop := ∃ (r : Int32) (g1 : mm_I) (h1 : mm_L) (g2 : mm_I) (h2 : mm_L), Ci E y6 ws6 f6 l6 (.ref (E.1 0) :: as) g h r g1 h1 ∧ Ci E y7 ws7 f7 l7 (.ref (E.1 7) :: as) g1 h1 r g2 h2 ∧ Rl g2 h2
def OpL (E : mm_E) (y6 : MethodName) (ws6 : List Cond) (f6 l6 : Nat) (y7 : MethodName) (ws7 : List Cond) (f7 l7 : Nat) (as : List Value) (g : mm_I) (h : mm_L) : Prop := ∃ (r : Int64) (g1 : mm_I) (h1 : mm_L) (g2 : mm_I) (h2 : mm_L), Cl E y6 ws6 f6 l6 (.ref (E.1 0) :: as) g h r g1 h1 ∧ Cl E y7 ws7 f7 l7 (.ref (E.1 7) :: as) g1 h1 r g2 h2 ∧ Rl g2 h2
theorem op_i {E : mm_E} {y6 y7 : MethodName} {ws6 ws7 : List Cond} {f6 l6 f7 l7 : Nat} {as : List Value} {g g1 g2 g1' : mm_I} {h h1 h2 h1' : mm_L} {r r1 r2 : Int32} (A : Ci E y6 ws6 f6 l6 (.ref (E.1 0) :: as) g h r1 g1 h1) (B : Ci E y7 ws7 f7 l7 (.ref (E.1 7) :: as) g1' h1' r2 g2 h2) (e1 : r1 = r) (e2 : r2 = r) (eg : g1' = g1) (eh : h1' = h1) (R : Rl g2 h2) : OpI E y6 ws6 f6 l6 y7 ws7 f7 l7 as g h := by
  subst e1 e2 eg eh
  exact ⟨_, _, _, _, _, A, B, R⟩
theorem rl_refuse {g : mm_I} {h : mm_L} (w : Nat) (hw : w < 6) (R : Rl g h) : Rl (mtM (rfM g w) w) h := by
  obtain ⟨r1, r2, r3, r4, r5, r6, r7⟩ := R
  have A : ∀ G, G ≠ 6 → Ag G g (mtM (rfM g w) w) := fun G hG => by
    have e8 : grp 8 w = 6 := rfl
    have e13 : grp 13 w = 6 := rfl
    unfold mtM rfM
    exact ((((Ag.up (by show (6 : Nat) ≠ G; omega)).up' (by rw [e8]; omega)).up' (by show (6 : Nat) ≠ G; omega)).up' (by rw [e13]; omega))
  refine ⟨r1.c (A 1 (by decide)), r2.c (A 2 (by decide)), r3.c (A 3 (by decide)), r4.c (A 4 (by decide)), r5.c (A 5 (by decide)), ⟨?_, fun f hf => ?_⟩, r7⟩
  · show up2 (up2 (rfM g w) 7 0 (nI w)) 13 w _ 0 7 = up2 (up2 (rfM g w) 7 0 (nI w)) 13 w _ 7 0
    rfl
  · have e := r6.2 f hf
    by_cases hfw : f = w
    · subst hfw
      show upd (g 8) f (g 8 f + 1) f = upd (g 13) f (g 13 f + 1) f
      rw [pk_us, pk_us, e]
    · show upd (g 8) w (g 8 w + 1) f = upd (g 13) w (g 13 w + 1) f
      rw [pk_un hfw, pk_un hfw, e]
