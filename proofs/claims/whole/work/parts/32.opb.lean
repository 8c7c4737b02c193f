theorem sHas_cong {f f' : Nat → Int32} {x : Int32} : ∀ {n : Nat}, (∀ i, i < n → f i = f' i) → sHas f x n = sHas f' x n
  | 0, _ => rfl
  | n + 1, h => by rw [sHas, sHas, sHas_cong (n := n) (fun i hi => h i (by omega)), h n (by omega)]
theorem sLast_cong {p q : Nat → Prop} [DecidablePred p] [DecidablePred q] : ∀ {n : Nat}, (∀ i, i < n → (p i ↔ q i)) → sLast p n = sLast q n
  | 0, _ => rfl
  | n + 1, h => by
    rw [sLast, sLast, sLast_cong (n := n) (fun i hi => h i (by omega))]
    by_cases e : p n
    · rw [if_pos e, if_pos ((h n (by omega)).mp e)]
    · rw [if_neg e, if_neg (fun z => e ((h n (by omega)).mpr z))]
theorem sCn_cong {p q : Nat → Prop} [DecidablePred p] [DecidablePred q] : ∀ {n : Nat}, (∀ i, i < n → (p i ↔ q i)) → sCn p n = sCn q n
  | 0, _ => rfl
  | n + 1, h => by
    rw [sCn, sCn, sCn_cong (n := n) (fun i hi => h i (by omega))]
    by_cases e : p n
    · rw [if_pos e, if_pos ((h n (by omega)).mp e)]
    · rw [if_neg e, if_neg (fun z => e ((h n (by omega)).mpr z))]
theorem rt_st {g : mm_I} (R : RT g) : ∀ t, t < 4 → ∃ n, n ≤ 4 ∧ g 10 t = nI n := fun t ht => by obtain ⟨n, hn, e, _⟩ := R t ht; exact ⟨n, hn, e⟩
theorem rt_stM {g : mm_I} (R : RT g) : ∀ t, t < 4 → ∃ n, n ≤ 4 ∧ g 17 t = nI n := fun t ht => by obtain ⟨n, hn, _, e, _⟩ := R t ht; exact ⟨n, hn, e⟩
theorem rl_clear {g : mm_I} {h : mm_L} (R : Rl g h) {j : Nat} : Rl (up2 (up2 g 10 j 0) 17 j 0) h := by
  refine rl_2 R (fun G hG => (Ag.up (by show (2 : Nat) ≠ G; exact hG.symm)).up' (by show (2 : Nat) ≠ G; exact hG.symm)) (fun t ht => ?_) R.2.2.2.2.2.2
  obtain ⟨n, hn, h1, h2, h3, h4, h5⟩ := R.2.1 t ht
  have ex : ∀ x, x ≠ 10 → x ≠ 17 → up2 (up2 g 10 j 0) 17 j 0 x = g x := fun x e1 e2 => by rw [up2_n _ _ _ e2, up2_n _ _ _ e1]
  rw [ex (45 + t) (by omega) (by omega), ex (49 + t) (by omega) (by omega), ex 18 (by decide) (by decide), ex 19 (by decide) (by decide), up2_n _ _ _ (show 10 ≠ 17 by decide), up2_s, up2_s]
  by_cases e : t = j
  · subst e
    rw [pk_us, pk_us]
    exact ⟨0, by omega, rfl, rfl, h3, fun i hi => absurd hi (Nat.not_lt_zero i), fun i hi => absurd hi (Nat.not_lt_zero i)⟩
  · rw [pk_un e, pk_un e]
    exact ⟨n, hn, h1, h2, h3, h4, h5⟩
theorem sHas_f {f : Nat → Int32} {x : Int32} {n k : Nat} (h : ¬ sHas f x n = true) (hk : k < n) : ¬ f k = x := fun e => h (sHas_of hk e)
theorem rl_point {g : mm_I} {h : mm_L} (R : Rl g h) {j n : Nat} {x y : Int32} (hj : j < 4) (hn : n < 4) (e10 : g 10 j = nI n) (hx : BdI x 20) (hy : BdI y 10000) (hh : ¬ sHas (g (45 + j)) x n = true) : Rl (adTM (adT g j n x y) j n x y) h := by
  have hA : ∀ G, G ≠ 2 → Ag G g (adTM (adT g j n x y) j n x y) := fun G hG => by
    unfold adTM adT
    exact (((((Ag.up (by rw [gr_45 hj]; exact hG.symm)).up' (by rw [gr_49 hj]; exact hG.symm)).up' (by show (2 : Nat) ≠ G; exact hG.symm)).up' (by show (2 : Nat) ≠ G; exact hG.symm)).up' (by show (2 : Nat) ≠ G; exact hG.symm)).up' (by show (2 : Nat) ≠ G; exact hG.symm)
  refine rl_2 R hA (fun t ht => ?_) R.2.2.2.2.2.2
  obtain ⟨m, hm, h1, h2, h3, h4, h5⟩ := R.2.1 t ht
  have v10 : adTM (adT g j n x y) j n x y 10 t = upd (g 10) j (nI (n + 1)) t := by
    unfold adTM adT
    rw [up2_n _ _ _ (by decide), up2_n _ _ _ (by decide), up2_n _ _ _ (by decide), up2_s, up2_n _ _ _ (by omega), up2_n _ _ _ (by omega)]
  have v17 : adTM (adT g j n x y) j n x y 17 t = upd (g 17) j (nI (n + 1)) t := by
    unfold adTM adT
    rw [up2_s, up2_n _ _ _ (by decide), up2_n _ _ _ (by decide), up2_n _ _ _ (by decide), up2_n _ _ _ (by omega), up2_n _ _ _ (by omega)]
  have v18 : ∀ i, adTM (adT g j n x y) j n x y 18 i = upd (g 18) (4 * j + n) x i := fun i => by
    unfold adTM adT
    rw [up2_n _ _ _ (by decide), up2_n _ _ _ (by decide), up2_s, up2_n _ _ _ (by decide), up2_n _ _ _ (by omega), up2_n _ _ _ (by omega)]
  have v19 : ∀ i, adTM (adT g j n x y) j n x y 19 i = upd (g 19) (4 * j + n) y i := fun i => by
    unfold adTM adT
    rw [up2_n _ _ _ (by decide), up2_s, up2_n _ _ _ (by decide), up2_n _ _ _ (by decide), up2_n _ _ _ (by omega), up2_n _ _ _ (by omega)]
  by_cases e : t = j
  · subst e
    have v45 : adTM (adT g t n x y) t n x y (45 + t) = upd (g (45 + t)) n x := by
      unfold adTM adT
      rw [up2_n _ _ _ (by omega), up2_n _ _ _ (by omega), up2_n _ _ _ (by omega), up2_n _ _ _ (by omega), up2_n _ _ _ (by omega), up2_s]
    have v49 : adTM (adT g t n x y) t n x y (49 + t) = upd (g (49 + t)) n y := by
      unfold adTM adT
      rw [up2_n _ _ _ (by omega), up2_n _ _ _ (by omega), up2_n _ _ _ (by omega), up2_n _ _ _ (by omega), up2_s, up2_n _ _ _ (by omega)]
    have em : m = n := (nI_eq (by omega) (by omega)).mp (h1.symm.trans e10)
    subst em
    rw [v10, v17, v45, v49, pk_us, pk_us]
    refine ⟨m + 1, by omega, rfl, rfl, fun i hi => ?_, fun i hi => ?_, fun i hi k hk => ?_⟩
    · rw [v18, v19]
      by_cases ei : i = m
      · subst ei
        rw [pk_us, pk_us, pk_us, pk_us]
        exact ⟨rfl, rfl⟩
      · rw [pk_un ei, pk_un ei, pk_un (show 4 * t + i ≠ 4 * t + m by omega), pk_un (show 4 * t + i ≠ 4 * t + m by omega)]
        exact h3 i hi
    · by_cases ei : i = m
      · subst ei
        rw [pk_us, pk_us]
        exact ⟨hx, hy⟩
      · rw [pk_un ei, pk_un ei]
        exact h4 i (by omega)
    · rw [pk_un (show k ≠ m by omega)]
      by_cases ei : i = m
      · subst ei
        rw [pk_us]
        exact sHas_f hh hk
      · rw [pk_un ei]
        exact h5 i (by omega) k hk
  · have v45 : adTM (adT g j n x y) j n x y (45 + t) = g (45 + t) := by
      unfold adTM adT
      rw [up2_n _ _ _ (by omega), up2_n _ _ _ (by omega), up2_n _ _ _ (by omega), up2_n _ _ _ (by omega), up2_n _ _ _ (by omega), up2_n _ _ _ (by omega)]
    have v49 : adTM (adT g j n x y) j n x y (49 + t) = g (49 + t) := by
      unfold adTM adT
      rw [up2_n _ _ _ (by omega), up2_n _ _ _ (by omega), up2_n _ _ _ (by omega), up2_n _ _ _ (by omega), up2_n _ _ _ (by omega), up2_n _ _ _ (by omega)]
    rw [v10, v17, v45, v49, pk_un e, pk_un e]
    refine ⟨m, hm, h1, h2, fun i hi => ?_, h4, h5⟩
    rw [v18, v19, pk_un (show 4 * t + i ≠ 4 * j + n by omega), pk_un (show 4 * t + i ≠ 4 * j + n by omega)]
    exact h3 i hi
theorem rl_bulb {g : mm_I} {h : mm_L} (R : Rl g h) {n q : Nat} {k : Int32} (hn : n < 16) (e3 : g 3 2 = nI n) (hq : q ≤ 10000) : Rl (adM (adB g n k (nI q)) n k (nI q)) h := by
  refine rl_3 R (fun G hG => ?_) ⟨n + 1, by omega, rfl, rfl, fun i hi => ?_⟩ R.2.2.2.2.2.2
  · unfold adM adB
    exact (((((Ag.up (by show (3 : Nat) ≠ G; exact hG.symm)).up' (by show (3 : Nat) ≠ G; exact hG.symm)).up' (by show (3 : Nat) ≠ G; exact hG.symm)).up' (by show (3 : Nat) ≠ G; exact hG.symm)).up' (by show (3 : Nat) ≠ G; exact hG.symm)).up' (by show (3 : Nat) ≠ G; exact hG.symm)
  · obtain ⟨nb, hnb, _, _, h3⟩ := R.2.2.1
    obtain ⟨a1, a2, a3⟩ := h3 i hi
    show upd (g 11) n k i = upd (g 20) n k i ∧ upd (g 12) n (nI q) i = upd (g 21) n (nI q) i ∧ ∃ t, t ≤ 10000 ∧ upd (g 12) n (nI q) i = nI t
    by_cases e : i = n
    · subst e
      rw [pk_us, pk_us, pk_us, pk_us]
      exact ⟨rfl, rfl, q, hq, rfl⟩
    · rw [pk_un e, pk_un e, pk_un e, pk_un e]
      exact ⟨a1, a2, a3⟩
theorem rb_kd {g : mm_I} (R : RB g) {i : Nat} (hi : i < 16) : g 20 i = g 11 i := by obtain ⟨_, _, _, _, h⟩ := R; exact (h i hi).1.symm
theorem rl_cert {g : mm_I} {h : mm_L} (R : Rl g h) {n dd ee : Nat} {b y ba o r : Int32} (hn : n < 40) (e4 : g 4 1 = nI n) (hd : dd ≤ 100000) (he : ee ≤ 10000) (ho : BdI o 10000) (hr : r = -9 ∨ ∃ d, d < n ∧ r = nI d) : Rl (adCM (adC g n b y ba (nI dd) o (nI ee) r) n b y ba (nI dd) o (nI ee) r) h := by
  obtain ⟨m, hm, h1, h2, h3, h4⟩ := R.2.2.2.1
  have em : m = n := (nI_eq (by omega) (by omega)).mp (h1.symm.trans e4)
  subst em
  obtain ⟨G, hG⟩ : ∃ G, G = adCM (adC g m b y ba (nI dd) o (nI ee) r) m b y ba (nI dd) o (nI ee) r := ⟨_, rfl⟩
  have v22 : G 22 = upd (g 22) m b := by rw [hG]; unfold adCM adC; rw [up2_n _ _ _ (by decide), up2_n _ _ _ (by decide), up2_n _ _ _ (by decide), up2_n _ _ _ (by decide), up2_n _ _ _ (by decide), up2_n _ _ _ (by decide), up2_n _ _ _ (by decide), up2_s]; congr 1; simp only [up2_n _ _ _ (show 22 ≠ 4 by decide), up2_n _ _ _ (show 22 ≠ 53 + m by omega)]
  have v23 : G 23 = upd (g 23) m y := by rw [hG]; unfold adCM adC; rw [up2_n _ _ _ (by decide), up2_n _ _ _ (by decide), up2_n _ _ _ (by decide), up2_n _ _ _ (by decide), up2_n _ _ _ (by decide), up2_n _ _ _ (by decide), up2_s, up2_n _ _ _ (by decide)]; congr 1; simp only [up2_n _ _ _ (show 23 ≠ 4 by decide), up2_n _ _ _ (show 23 ≠ 53 + m by omega)]
  have v24 : G 24 = upd (g 24) m ba := by rw [hG]; unfold adCM adC; rw [up2_n _ _ _ (by decide), up2_n _ _ _ (by decide), up2_n _ _ _ (by decide), up2_n _ _ _ (by decide), up2_n _ _ _ (by decide), up2_s, up2_n _ _ _ (by decide), up2_n _ _ _ (by decide)]; congr 1; simp only [up2_n _ _ _ (show 24 ≠ 4 by decide), up2_n _ _ _ (show 24 ≠ 53 + m by omega)]
  have v25 : G 25 = upd (g 25) m (nI dd) := by rw [hG]; unfold adCM adC; rw [up2_n _ _ _ (by decide), up2_n _ _ _ (by decide), up2_n _ _ _ (by decide), up2_n _ _ _ (by decide), up2_s, up2_n _ _ _ (by decide), up2_n _ _ _ (by decide), up2_n _ _ _ (by decide)]; congr 1; simp only [up2_n _ _ _ (show 25 ≠ 4 by decide), up2_n _ _ _ (show 25 ≠ 53 + m by omega)]
  have v26 : G 26 = upd (g 26) m o := by rw [hG]; unfold adCM adC; rw [up2_n _ _ _ (by decide), up2_n _ _ _ (by decide), up2_n _ _ _ (by decide), up2_s, up2_n _ _ _ (by decide), up2_n _ _ _ (by decide), up2_n _ _ _ (by decide), up2_n _ _ _ (by decide)]; congr 1; simp only [up2_n _ _ _ (show 26 ≠ 4 by decide), up2_n _ _ _ (show 26 ≠ 53 + m by omega)]
  have v27 : G 27 = upd (g 27) m (nI ee) := by rw [hG]; unfold adCM adC; rw [up2_n _ _ _ (by decide), up2_n _ _ _ (by decide), up2_s, up2_n _ _ _ (by decide), up2_n _ _ _ (by decide), up2_n _ _ _ (by decide), up2_n _ _ _ (by decide), up2_n _ _ _ (by decide)]; congr 1; simp only [up2_n _ _ _ (show 27 ≠ 4 by decide), up2_n _ _ _ (show 27 ≠ 53 + m by omega)]
  have v28 : G 28 = upd (g 28) m r := by rw [hG]; unfold adCM adC; rw [up2_n _ _ _ (by decide), up2_s, up2_n _ _ _ (by decide), up2_n _ _ _ (by decide), up2_n _ _ _ (by decide), up2_n _ _ _ (by decide), up2_n _ _ _ (by decide), up2_n _ _ _ (by decide)]; congr 1; simp only [up2_n _ _ _ (show 28 ≠ 4 by decide), up2_n _ _ _ (show 28 ≠ 53 + m by omega)]
  have v31 : G 31 = g 31 := by rw [hG]; unfold adCM adC; simp only [up2_n _ _ _ (show 31 ≠ 7 by decide), up2_n _ _ _ (show 31 ≠ 28 by decide), up2_n _ _ _ (show 31 ≠ 27 by decide), up2_n _ _ _ (show 31 ≠ 26 by decide), up2_n _ _ _ (show 31 ≠ 25 by decide), up2_n _ _ _ (show 31 ≠ 24 by decide), up2_n _ _ _ (show 31 ≠ 23 by decide), up2_n _ _ _ (show 31 ≠ 22 by decide), up2_n _ _ _ (show 31 ≠ 4 by decide), up2_n _ _ _ (show 31 ≠ 53 + m by omega)]
  have v53 : ∀ c, c < 40 → G (53 + c) = if c = m then upd (upd (upd (upd (upd (upd (upd (upd (g (53 + m)) 0 b) 1 y) 2 ba) 3 (nI dd)) 4 (nI ee)) 5 0) 6 r) 7 o else g (53 + c) := fun c hc => by
    rw [hG]; unfold adCM adC
    rw [up2_n _ _ _ (by omega), up2_n _ _ _ (by omega), up2_n _ _ _ (by omega), up2_n _ _ _ (by omega), up2_n _ _ _ (by omega), up2_n _ _ _ (by omega), up2_n _ _ _ (by omega), up2_n _ _ _ (by omega), up2_n _ _ _ (by omega)]
    by_cases e : c = m
    · subst e
      rw [if_pos rfl, up2_s, up2_s, up2_s, up2_s, up2_s, up2_s, up2_s, up2_s]
    · rw [if_neg e, up2_n _ _ _ (by omega), up2_n _ _ _ (by omega), up2_n _ _ _ (by omega), up2_n _ _ _ (by omega), up2_n _ _ _ (by omega), up2_n _ _ _ (by omega), up2_n _ _ _ (by omega), up2_n _ _ _ (by omega)]
  have hA : ∀ X, X ≠ 4 → Ag X g G := fun X hX => by
    rw [hG]; unfold adCM adC
    have p : ∀ i, grp (53 + m) i ≠ X := fun i => by rw [gr_53 hn]; exact hX.symm
    exact ((((((((((((((((Ag.up (p 0)).up' (p 1)).up' (p 2)).up' (p 3)).up' (p 4)).up' (p 5)).up' (p 6)).up' (p 7)).up' (by show (4 : Nat) ≠ X; exact hX.symm)).up' (by show (4 : Nat) ≠ X; exact hX.symm)).up' (by show (4 : Nat) ≠ X; exact hX.symm)).up' (by show (4 : Nat) ≠ X; exact hX.symm)).up' (by show (4 : Nat) ≠ X; exact hX.symm)).up' (by show (4 : Nat) ≠ X; exact hX.symm)).up' (by show (4 : Nat) ≠ X; exact hX.symm)).up' (by show (4 : Nat) ≠ X; exact hX.symm)).up' (by show (4 : Nat) ≠ X; exact hX.symm)
  rw [← hG]
  refine rl_4 R hA ⟨m + 1, by omega, by rw [hG]; rfl, by rw [hG]; rfl, fun c hc => ?_, fun c hc hc2 => by rw [v31]; exact h4 c (by omega) hc2⟩ R.2.2.2.2.2.2
  unfold RC1
  rw [v53 c (by omega), v22, v23, v24, v25, v26, v27, v28, v31]
  by_cases e : c = m
  · subst e
    rw [if_pos rfl, h4 c (Nat.le_refl _) hn, show upd (g 22) c b c = b from pk_us, show upd (g 23) c y c = y from pk_us, show upd (g 24) c ba c = ba from pk_us, show upd (g 25) c (nI dd) c = nI dd from pk_us, show upd (g 26) c o c = o from pk_us, show upd (g 27) c (nI ee) c = nI ee from pk_us, show upd (g 28) c r c = r from pk_us]
    exact ⟨⟨rfl, rfl, rfl, rfl, rfl, rfl, rfl, rfl⟩, Or.inl rfl, hr, ho, ⟨dd, hd, rfl⟩, ⟨ee, he, rfl⟩⟩
  · rw [if_neg e, pk_un e, pk_un e, pk_un e, pk_un e, pk_un e, pk_un e, pk_un e]
    exact h3 c (by omega)
theorem rc_L {g : mm_I} {n : Nat} (hc : ∀ c, c < n → RC1 g c) (y d : Int32) {m : Nat} (hm : m ≤ n) : sLast (pLM g y d) m = sLast (pLU g y d) m := sLast_cong (fun i hi => by
  obtain ⟨⟨a0, a1, a2, a3, a4, a5, a6, a7⟩, _⟩ := hc i (by omega)
  show (g 22 i = y ∧ g 31 i = 0 ∧ ¬ d < g 25 i) ↔ (g (53 + i) 0 = y ∧ g (53 + i) 5 = 0 ∧ ¬ d < g (53 + i) 3)
  rw [a0, a3, a5])
theorem RL5.get {g : mm_I} (R : RL5 g) {a b : Nat} (ha : a < 6) (hb : b < 6) : (¬ g (99 + a) b = -1 ↔ ¬ g 32 (6 * a + b) = 0) ∧ (¬ g (99 + a) b = -1 → g (93 + a) b = g 29 (6 * a + b) ∧ g (99 + a) b = g 30 (6 * a + b) ∧ BdI (g (93 + a) b) 10000 ∧ ∃ t, t ≤ 10000 ∧ g (99 + a) b = nI t) := by
  rcases R a ha b hb with ⟨e1, e2⟩ | ⟨e1, e2, e3, e4, t, ht, e5⟩
  · exact ⟨⟨fun z => absurd e1 z, fun z => absurd e2 z⟩, fun z => absurd e1 z⟩
  · refine ⟨⟨fun _ => by rw [e1]; decide, fun _ z => ?_⟩, fun _ => ⟨e2, e3, e4, t, ht, e5⟩⟩
    rw [e5] at z
    exact nI_pos (n := t) (by omega) (by rw [z]; decide)
theorem neg_bd {v : Int32} (h : BdI v 10000) : BdI (-v) 10000 := by
  have e : (-v).toInt = -v.toInt := by
    have := (show (0 - v).toInt = (0 : Int32).toInt - v.toInt from subIV (A := 0) (B := 10000) (by unfold BdI; decide) h (by decide))
    rw [Int32.zero_sub] at this
    rw [this]
    show (0 : Int) - _ = _
    omega
  unfold BdI at h ⊢
  rw [e]
  omega
theorem rl_lab {g : mm_I} {h : mm_L} (R : Rl g h) {a b t : Nat} {v : Int32} (ha : a < 6) (hb : b < 6) (hab : a ≠ b) (hv : BdI v 10000) (ht : t ≤ 10000) : Rl (puM (puR g a b v (nI t)) a b v (nI t)) h := by
  obtain ⟨G, hG⟩ : ∃ G, G = puM (puR g a b v (nI t)) a b v (nI t) := ⟨_, rfl⟩
  have hA : ∀ X, X ≠ 5 → Ag X g G := fun X hX => by
    rw [hG]; unfold puM puR
    exact (((((((((Ag.up (by rw [gr_93 ha]; exact hX.symm)).up' (by rw [gr_93 hb]; exact hX.symm)).up' (by rw [gr_99 ha]; exact hX.symm)).up' (by rw [gr_99 hb]; exact hX.symm)).up' (by show (5 : Nat) ≠ X; exact hX.symm)).up' (by show (5 : Nat) ≠ X; exact hX.symm)).up' (by show (5 : Nat) ≠ X; exact hX.symm)).up' (by show (5 : Nat) ≠ X; exact hX.symm)).up' (by show (5 : Nat) ≠ X; exact hX.symm)).up' (by show (5 : Nat) ≠ X; exact hX.symm)
  have q : ∀ x, x ≠ 32 → x ≠ 29 → x ≠ 30 → G x = puR g a b v (nI t) x := fun x e1 e2 e3 => by
    rw [hG]; unfold puM
    rw [up2_n _ _ _ e3, up2_n _ _ _ e3, up2_n _ _ _ e2, up2_n _ _ _ e2, up2_n _ _ _ e1, up2_n _ _ _ e1]
  have q2 : ∀ x, x < 93 → puR g a b v (nI t) x = g x := fun x hx => by
    unfold puR
    rw [up2_n _ _ _ (by omega), up2_n _ _ _ (by omega), up2_n _ _ _ (by omega), up2_n _ _ _ (by omega)]
  have v32 : G 32 = upd (upd (g 32) (6 * a + b) 1) (6 * b + a) 1 := by
    rw [hG]; unfold puM
    rw [up2_n _ _ _ (by decide), up2_n _ _ _ (by decide), up2_n _ _ _ (by decide), up2_n _ _ _ (by decide), up2_s, up2_s, q2 32 (by decide)]
  have v29 : G 29 = upd (upd (g 29) (6 * a + b) v) (6 * b + a) (-v) := by
    rw [hG]; unfold puM
    rw [up2_n _ _ _ (by decide), up2_n _ _ _ (by decide), up2_s, up2_s, up2_n _ _ _ (by decide), up2_n _ _ _ (by decide), q2 29 (by decide)]
  have v30 : G 30 = upd (upd (g 30) (6 * a + b) (nI t)) (6 * b + a) (nI t) := by
    rw [hG]; unfold puM
    rw [up2_s, up2_s, up2_n _ _ _ (by decide), up2_n _ _ _ (by decide), up2_n _ _ _ (by decide), up2_n _ _ _ (by decide), q2 30 (by decide)]
  rw [← hG]
  refine rl_5 R hA (fun c hc d hd => ?_) R.2.2.2.2.2.2
  have old := R.2.2.2.2.1 c hc d hd
  rw [v32, v29, v30, q (99 + c) (by omega) (by omega) (by omega), q (93 + c) (by omega) (by omega) (by omega)]
  unfold puR
  rw [up2_n _ _ _ (show 93 + c ≠ 99 + b by omega), up2_n _ _ _ (show 93 + c ≠ 99 + a by omega)]
  by_cases e1 : c = a ∧ d = b
  · obtain ⟨rfl, rfl⟩ := e1
    rw [up2_n _ _ _ (show 99 + c ≠ 99 + d by omega), up2_ss, up2_n _ _ _ (show 93 + c ≠ 93 + d by omega), up2_ss, pk_un (show 6 * c + d ≠ 6 * d + c by omega), pk_un (show 6 * c + d ≠ 6 * d + c by omega), pk_un (show 6 * c + d ≠ 6 * d + c by omega), pk_us, pk_us, pk_us]
    exact Or.inr ⟨rfl, rfl, rfl, hv, t, ht, rfl⟩
  by_cases e2 : c = b ∧ d = a
  · obtain ⟨rfl, rfl⟩ := e2
    rw [up2_ss, up2_ss, pk_us, pk_us, pk_us]
    exact Or.inr ⟨rfl, rfl, rfl, neg_bd hv, t, ht, rfl⟩
  have n1 : 6 * c + d ≠ 6 * a + b := fun z => e1 (by omega)
  have n2 : 6 * c + d ≠ 6 * b + a := fun z => e2 (by omega)
  rw [pk_un n2, pk_un n1, pk_un n2, pk_un n1, pk_un n2, pk_un n1]
  have s1 : up2 (up2 (up2 (up2 g (93 + a) b v) (93 + b) a (-v)) (99 + a) b (nI t)) (99 + b) a (nI t) (99 + c) d = g (99 + c) d := by
    by_cases x1 : c = b
    · subst x1
      rw [up2_sn _ _ _ (show d ≠ a from fun z => e2 ⟨rfl, z⟩), up2_n _ _ _ (show 99 + c ≠ 99 + a by omega), up2_n _ _ _ (show 99 + c ≠ 93 + c by omega), up2_n _ _ _ (show 99 + c ≠ 93 + a by omega)]
    · rw [up2_n _ _ _ (show 99 + c ≠ 99 + b by omega)]
      by_cases x2 : c = a
      · subst x2
        rw [up2_sn _ _ _ (show d ≠ b from fun z => e1 ⟨rfl, z⟩), up2_n _ _ _ (show 99 + c ≠ 93 + b by omega), up2_n _ _ _ (show 99 + c ≠ 93 + c by omega)]
      · rw [up2_n _ _ _ (show 99 + c ≠ 99 + a by omega), up2_n _ _ _ (show 99 + c ≠ 93 + b by omega), up2_n _ _ _ (show 99 + c ≠ 93 + a by omega)]
  have s2 : up2 (up2 g (93 + a) b v) (93 + b) a (-v) (93 + c) d = g (93 + c) d := by
    by_cases x1 : c = b
    · subst x1
      rw [up2_sn _ _ _ (show d ≠ a from fun z => e2 ⟨rfl, z⟩), up2_n _ _ _ (show 93 + c ≠ 93 + a by omega)]
    · rw [up2_n _ _ _ (show 93 + c ≠ 93 + b by omega)]
      by_cases x2 : c = a
      · subst x2
        rw [up2_sn _ _ _ (show d ≠ b from fun z => e1 ⟨rfl, z⟩)]
      · rw [up2_n _ _ _ (show 93 + c ≠ 93 + a by omega)]
  rw [s1, s2]
  exact old
theorem op_clear (a0 : Int32) (E : mm_E) (g : mm_I) (h : mm_L) (R : Rl g h) : OpI E yX6_clear wsX6_clear 2 42 yX7_clear wsX7_clear 2 42 [.int a0] g h := by
  by_cases q1 : ¬ a0 < 0 ∧ ¬ 3 < a0
  · obtain ⟨j, hj, ej⟩ := to_nat (M := 3) (m := 3) rfl q1
    have cj : a0.toNatClampNeg = j := by rw [ej]; exact cl_nI (by omega)
    obtain ⟨n, hn, e1, e2, e3, e4, e5⟩ := R.2.1 j (by omega)
    have A := c_X6_clear E g h a0 (rt_st R.2.1)
    have B := c_X7_clear E (up2 g 10 j 0) h a0 (rt_stM (g := g) R.2.1)
    simp only [dClear, if_pos q1, cj, up2_n g j 0 (show 17 ≠ 10 by decide)] at A B
    rw [e2, ← e1] at B
    exact ⟨_, _, _, _, _, A, B, rl_clear R⟩
  · have A := c_X6_clear E g h a0 (rt_st R.2.1)
    have B := c_X7_clear E g h a0 (rt_stM (g := g) R.2.1)
    simp only [dClear, if_neg q1] at A B
    exact ⟨_, _, _, _, _, A, B, R⟩
theorem op_point (a0 a1 a2 : Int32) (E : mm_E) (g : mm_I) (h : mm_L) (R : Rl g h) : OpI E yX6_point wsX6_point 2 43 yX7_point wsX7_point 2 42 [.int a0, .int a1, .int a2] g h := by
  by_cases q1 : ¬ a0 < 0 ∧ ¬ 3 < a0
  · obtain ⟨j, hj, ej⟩ := to_nat (M := 3) (m := 3) rfl q1
    have cj : a0.toNatClampNeg = j := by rw [ej]; exact cl_nI (by omega)
    obtain ⟨n, hn, e1, e2, e3, e4, e5⟩ := R.2.1 j (by omega)
    have cn : (g 10 j).toNatClampNeg = n := by rw [e1]; exact cl_nI (by omega)
    have cn2 : (g 17 j).toNatClampNeg = n := by rw [e2]; exact cl_nI (by omega)
    have hse : sHas (fun q => g 18 (4 * j + q)) a1 n = sHas (g (45 + j)) a1 n := sHas_cong (fun i hi => (e3 i (by omega)).1.symm)
    by_cases q2 : inX a1
    · by_cases q3 : inY a2
      · by_cases q4 : sHas (g (45 + j)) a1 n = true
        · have A := c_X6_point E g h a0 a1 a2 (rt_st R.2.1)
          have B := c_X7_point E g h a0 a1 a2 (rt_stM R.2.1)
          simp only [dPoint, if_pos q1, cj, cn, cn2, hse, if_pos q2, if_pos q3, if_pos q4] at A B
          exact ⟨_, _, _, _, _, A, B, R⟩
        · by_cases q5 : n = 4
          · have A := c_X6_point E g h a0 a1 a2 (rt_st R.2.1)
            have B := c_X7_point E g h a0 a1 a2 (rt_stM R.2.1)
            simp only [dPoint, if_pos q1, cj, cn, cn2, hse, if_pos q2, if_pos q3, if_neg q4, if_pos q5] at A B
            exact ⟨_, _, _, _, _, A, B, R⟩
          · have v17 : adT g j n a1 a2 17 = g 17 := by unfold adT; rw [up2_n _ _ _ (by decide), up2_n _ _ _ (by omega), up2_n _ _ _ (by omega)]
            have v18 : adT g j n a1 a2 18 = g 18 := by unfold adT; rw [up2_n _ _ _ (by decide), up2_n _ _ _ (by omega), up2_n _ _ _ (by omega)]
            have A := c_X6_point E g h a0 a1 a2 (rt_st R.2.1)
            have B := c_X7_point E (adT g j n a1 a2) h a0 a1 a2 (by rw [v17]; exact rt_stM R.2.1)
            simp only [dPoint, v17, v18, if_pos q1, cj, cn, cn2, hse, if_pos q2, if_pos q3, if_neg q4, if_neg q5] at A B
            exact ⟨_, _, _, _, _, A, B, rl_point R (by omega) (by omega) e1 (BdI.x q2) (BdI.y q3) q4⟩
      · have A := c_X6_point E g h a0 a1 a2 (rt_st R.2.1)
        have B := c_X7_point E g h a0 a1 a2 (rt_stM R.2.1)
        simp only [dPoint, if_pos q1, cj, cn, cn2, hse, if_pos q2, if_neg q3] at A B
        exact ⟨_, _, _, _, _, A, B, R⟩
    · have A := c_X6_point E g h a0 a1 a2 (rt_st R.2.1)
      have B := c_X7_point E g h a0 a1 a2 (rt_stM R.2.1)
      simp only [dPoint, if_pos q1, cj, cn, cn2, hse, if_neg q2] at A B
      exact ⟨_, _, _, _, _, A, B, R⟩
  · have A := c_X6_point E g h a0 a1 a2 (rt_st R.2.1)
    have B := c_X7_point E g h a0 a1 a2 (rt_stM R.2.1)
    simp only [dPoint, if_neg q1] at A B
    exact ⟨_, _, _, _, _, A, B, R⟩
theorem op_bulb (a0 a1 : Int32) (E : mm_E) (g : mm_I) (h : mm_L) (R : Rl g h) : OpI E yX6_bulb wsX6_bulb 1 22 yX7_bulb wsX7_bulb 1 22 [.int a0, .int a1] g h := by
  obtain ⟨nb, hnb, b1, b2, b3⟩ := R.2.2.1
  by_cases q1 : ¬ a0 < 0 ∧ ¬ 3 < a0
  · by_cases q2 : ¬ a1 < 0 ∧ ¬ 10000 < a1
    · by_cases q3 : nb = 16
      · have A := c_X6_bulb E g h a0 a1 nb hnb b1
        have B := c_X7_bulb E g h a0 a1 nb hnb b2
        simp only [dBulb, if_pos q1, if_pos q2, if_pos q3] at A B
        exact ⟨_, _, _, _, _, A, B, R⟩
      · obtain ⟨t, ht, et⟩ := to_nat (M := 10000) (m := 10000) rfl q2
        have A := c_X6_bulb E g h a0 a1 nb hnb b1
        have B := c_X7_bulb E (adB g nb a0 a1) h a0 a1 nb hnb b2
        simp only [dBulb, if_pos q1, if_pos q2, if_neg q3] at A B
        exact ⟨_, _, _, _, _, A, B, (et ▸ rl_bulb R (by omega) b1 ht)⟩
    · have A := c_X6_bulb E g h a0 a1 nb hnb b1
      have B := c_X7_bulb E g h a0 a1 nb hnb b2
      simp only [dBulb, if_pos q1, if_neg q2] at A B
      exact ⟨_, _, _, _, _, A, B, R⟩
  · have A := c_X6_bulb E g h a0 a1 nb hnb b1
    have B := c_X7_bulb E g h a0 a1 nb hnb b2
    simp only [dBulb, if_neg q1] at A B
    exact ⟨_, _, _, _, _, A, B, R⟩
theorem op_certificate (a0 a1 : Int32) (E : mm_E) (g : mm_I) (h : mm_L) (R : Rl g h) : OpI E yX6_certificate wsX6_certificate 2 43 yX7_certificate wsX7_certificate 2 43 [.int a0, .int a1] g h := by
  obtain ⟨n, hn, c1, c2, c3, c4⟩ := R.2.2.2.1
  by_cases q1 : ¬ a0 < 0 ∧ ¬ nI n - 1 < a0
  · obtain ⟨d, hd, ed⟩ := has_nat (by omega) q1
    have cd : a0.toNatClampNeg = d := by rw [ed]; exact cl_nI (by omega)
    obtain ⟨⟨f0, f1, f2, f3, f4, f5, f6, f7⟩, f8, f9, f10, f11, f12⟩ := c3 d hd
    by_cases q2 : ¬ a1 < 0 ∧ ¬ 6 < a1
    · obtain ⟨k, hk, ek⟩ := to_nat (M := 6) (m := 6) rfl q2
      have ck : a1.toNatClampNeg = k := by rw [ek]; exact cl_nI (by omega)
      have fe : fM g d k = g (53 + d) k := by
        unfold fM
        rcases (show k = 0 ∨ k = 1 ∨ k = 2 ∨ k = 3 ∨ k = 4 ∨ k = 5 ∨ k = 6 by omega) with rfl | rfl | rfl | rfl | rfl | rfl | rfl
        · exact f0.symm
        · exact f1.symm
        · exact f2.symm
        · exact f3.symm
        · exact f4.symm
        · show bI (¬ g 31 d = 0) = _
          rw [f5]
          rcases f8 with z | z <;> rw [z] <;> rfl
        · exact f6.symm
      have A := c_X6_certificate E g h a0 a1 n hn c1
      have B := c_X7_certificate E g h a0 a1 n hn c2
      simp only [dCf, if_pos q1, cd, if_pos q2, ck, fe] at A B
      exact ⟨_, _, _, _, _, A, B, R⟩
    · have A := c_X6_certificate E g h a0 a1 n hn c1
      have B := c_X7_certificate E g h a0 a1 n hn c2
      simp only [dCf, if_pos q1, cd, if_neg q2] at A B
      exact ⟨_, _, _, _, _, A, B, R⟩
  · have A := c_X6_certificate E g h a0 a1 n hn c1
    have B := c_X7_certificate E g h a0 a1 n hn c2
    simp only [dCf, if_neg q1] at A B
    exact ⟨_, _, _, _, _, A, B, R⟩
theorem op_offset (a0 : Int32) (E : mm_E) (g : mm_I) (h : mm_L) (R : Rl g h) : OpI E yX6_offset wsX6_offset 2 43 yX7_offset wsX7_offset 2 43 [.int a0] g h := by
  obtain ⟨n, hn, c1, c2, c3, c4⟩ := R.2.2.2.1
  by_cases q1 : ¬ a0 < 0 ∧ ¬ nI n - 1 < a0
  · obtain ⟨d, hd, ed⟩ := has_nat (by omega) q1
    have cd : a0.toNatClampNeg = d := by rw [ed]; exact cl_nI (by omega)
    obtain ⟨⟨f0, f1, f2, f3, f4, f5, f6, f7⟩, f8, f9, f10, f11, f12⟩ := c3 d hd
    have A := c_X6_offset E g h a0 n hn c1
    have B := c_X7_offset E g (upL h 0 8 (g (53 + d) 7).toInt64) a0 n hn c2
    simp only [dHas, if_pos q1, cd] at A B
    exact ⟨_, _, _, _, _, A, B, rl_ask R (by rw [f7])⟩
  · have A := c_X6_offset E g h a0 n hn c1
    have B := c_X7_offset E g h a0 n hn c2
    simp only [dHas, if_neg q1] at A B
    exact ⟨_, _, _, _, _, A, B, R⟩
theorem op_lab (a0 a1 a2 a3 : Int32) (E : mm_E) (g : mm_I) (h : mm_L) (R : Rl g h) : OpI E yX6_lab wsX6_lab 2 43 yX7_lab wsX7_lab 2 42 [.int a0, .int a1, .int a2, .int a3] g h := by
  by_cases q1 : ¬ a0 < 0 ∧ ¬ 5 < a0
  · by_cases q2 : ¬ a1 < 0 ∧ ¬ 5 < a1
    · by_cases q3 : a0 = a1
      · have A := c_X6_lab E g h a0 a1 a2 a3
        have B := c_X7_lab E g h a0 a1 a2 a3
        simp only [dLab, if_pos q1, if_pos q2, if_pos q3] at A B
        exact ⟨_, _, _, _, _, A, B, R⟩
      · by_cases q4 : inY a2
        · by_cases q5 : ¬ a3 < 0 ∧ ¬ 10000 < a3
          · obtain ⟨pa, hpa, ea⟩ := to_nat (M := 5) (m := 5) rfl q1
            obtain ⟨pb, hpb, eb⟩ := to_nat (M := 5) (m := 5) rfl q2
            obtain ⟨t, ht, et⟩ := to_nat (M := 10000) (m := 10000) rfl q5
            have ca : a0.toNatClampNeg = pa := by rw [ea]; exact cl_nI (by omega)
            have cb : a1.toNatClampNeg = pb := by rw [eb]; exact cl_nI (by omega)
            have R2 := rl_lab R (show pa < 6 by omega) (show pb < 6 by omega) (fun z => q3 (by rw [ea, eb, z])) (BdI.y q4) ht
            rw [← et] at R2
            have A := c_X6_lab E g h a0 a1 a2 a3
            have B := c_X7_lab E (puR g pa pb a2 a3) h a0 a1 a2 a3
            simp only [dLab, if_pos q1, if_pos q2, if_neg q3, if_pos q4, if_pos q5, ca, cb] at A B
            exact ⟨_, _, _, _, _, A, B, R2⟩
          · have A := c_X6_lab E g h a0 a1 a2 a3
            have B := c_X7_lab E g h a0 a1 a2 a3
            simp only [dLab, if_pos q1, if_pos q2, if_neg q3, if_pos q4, if_neg q5] at A B
            exact ⟨_, _, _, _, _, A, B, R⟩
        · have A := c_X6_lab E g h a0 a1 a2 a3
          have B := c_X7_lab E g h a0 a1 a2 a3
          simp only [dLab, if_pos q1, if_pos q2, if_neg q3, if_neg q4] at A B
          exact ⟨_, _, _, _, _, A, B, R⟩
    · have A := c_X6_lab E g h a0 a1 a2 a3
      have B := c_X7_lab E g h a0 a1 a2 a3
      simp only [dLab, if_pos q1, if_neg q2] at A B
      exact ⟨_, _, _, _, _, A, B, R⟩
  · have A := c_X6_lab E g h a0 a1 a2 a3
    have B := c_X7_lab E g h a0 a1 a2 a3
    simp only [dLab, if_neg q1] at A B
    exact ⟨_, _, _, _, _, A, B, R⟩
theorem op_stem (a0 a1 a2 a3 a4 : Int32) (E : mm_E) (g : mm_I) (h : mm_L) (R : Rl g h) : OpI E yX6_stem wsX6_stem 3 81 yX7_stem wsX7_stem 3 77 [.int a0, .int a1, .int a2, .int a3, .int a4] g h := by
  obtain ⟨nb, hnb, b1, b2, b3⟩ := R.2.2.1
  by_cases q1 : ¬ a0 < 0 ∧ ¬ nI nb - 1 < a0
  · obtain ⟨d, hd, ed⟩ := has_nat (by omega) q1
    have cd : a0.toNatClampNeg = d := by rw [ed]; exact cl_nI (by omega)
    have ek := rb_kd R.2.2.1 (show d < 16 by omega)
    by_cases q2 : inW a1
    · by_cases q3 : ¬ a2 < 0 ∧ ¬ 1000 < a2
      · by_cases q4 : inW a3
        · by_cases q5 : inW a4
          · by_cases q6 : g 11 d = 1 ∨ g 11 d = 3 ∧ (1 : Int32) = 2
            · have A := c_X6_stem E g h a0 a1 a2 a3 a4 nb hnb b1
              have B := c_X7_stem E g (tlC h (stU a1 a2 a3 a4) 100000) a0 a1 a2 a3 a4 nb hnb b2
              simp only [dStem, if_pos q1, cd, ek, if_pos q2, if_pos q3, if_pos q4, if_pos q5, if_pos q6] at A B
              exact ⟨_, _, _, _, _, A, B, rl_tell R⟩
            · have A := c_X6_stem E g h a0 a1 a2 a3 a4 nb hnb b1
              have B := c_X7_stem E (rfM g 3) h a0 a1 a2 a3 a4 nb hnb b2
              simp only [dStem, if_pos q1, cd, ek, if_pos q2, if_pos q3, if_pos q4, if_pos q5, if_neg q6, rf_20] at A B
              exact ⟨_, _, _, _, _, A, B, rl_refuse 3 (by decide) R⟩
          · have A := c_X6_stem E g h a0 a1 a2 a3 a4 nb hnb b1
            have B := c_X7_stem E g h a0 a1 a2 a3 a4 nb hnb b2
            simp only [dStem, if_pos q1, cd, ek, if_pos q2, if_pos q3, if_pos q4, if_neg q5] at A B
            exact ⟨_, _, _, _, _, A, B, R⟩
        · have A := c_X6_stem E g h a0 a1 a2 a3 a4 nb hnb b1
          have B := c_X7_stem E g h a0 a1 a2 a3 a4 nb hnb b2
          simp only [dStem, if_pos q1, cd, ek, if_pos q2, if_pos q3, if_neg q4] at A B
          exact ⟨_, _, _, _, _, A, B, R⟩
      · have A := c_X6_stem E g h a0 a1 a2 a3 a4 nb hnb b1
        have B := c_X7_stem E g h a0 a1 a2 a3 a4 nb hnb b2
        simp only [dStem, if_pos q1, cd, ek, if_pos q2, if_neg q3] at A B
        exact ⟨_, _, _, _, _, A, B, R⟩
    · have A := c_X6_stem E g h a0 a1 a2 a3 a4 nb hnb b1
      have B := c_X7_stem E g h a0 a1 a2 a3 a4 nb hnb b2
      simp only [dStem, if_pos q1, cd, ek, if_neg q2] at A B
      exact ⟨_, _, _, _, _, A, B, R⟩
  · have A := c_X6_stem E g h a0 a1 a2 a3 a4 nb hnb b1
    have B := c_X7_stem E g h a0 a1 a2 a3 a4 nb hnb b2
    simp only [dStem, if_neg q1] at A B
    exact ⟨_, _, _, _, _, A, B, R⟩
theorem op_currents (a0 a1 a2 a3 a4 : Int32) (E : mm_E) (g : mm_I) (h : mm_L) (R : Rl g h) : OpI E yX6_currents wsX6_currents 3 81 yX7_currents wsX7_currents 3 77 [.int a0, .int a1, .int a2, .int a3, .int a4] g h := by
  obtain ⟨nb, hnb, b1, b2, b3⟩ := R.2.2.1
  by_cases q1 : ¬ a0 < 0 ∧ ¬ nI nb - 1 < a0
  · obtain ⟨d, hd, ed⟩ := has_nat (by omega) q1
    have cd : a0.toNatClampNeg = d := by rw [ed]; exact cl_nI (by omega)
    have ek := rb_kd R.2.2.1 (show d < 16 by omega)
    by_cases q2 : inW a1
    · by_cases q3 : inW a3
      · by_cases q4 : ¬ a2 < 1 ∧ ¬ 100 < a2
        · by_cases q5 : ¬ a4 < 1 ∧ ¬ 100 < a4
          · by_cases q6 : g 11 d = 2 ∨ g 11 d = 3
            · by_cases q7 : a2 = a4
              · have A := c_X6_currents E g h a0 a1 a2 a3 a4 nb hnb b1
                have B := c_X7_currents E (rfM g 4) h a0 a1 a2 a3 a4 nb hnb b2
                simp only [dCur, if_pos q1, cd, ek, if_pos q2, if_pos q3, if_pos q4, if_pos q5, if_pos q6, if_pos q7, rf_20] at A B
                exact ⟨_, _, _, _, _, A, B, rl_refuse 4 (by decide) R⟩
              · have A := c_X6_currents E g h a0 a1 a2 a3 a4 nb hnb b1
                have B := c_X7_currents E g (tlC h (cuU a1 a2 a3 a4) (cuL a2 a4)) a0 a1 a2 a3 a4 nb hnb b2
                simp only [dCur, if_pos q1, cd, ek, if_pos q2, if_pos q3, if_pos q4, if_pos q5, if_pos q6, if_neg q7] at A B
                exact ⟨_, _, _, _, _, A, B, rl_tell R⟩
            · have A := c_X6_currents E g h a0 a1 a2 a3 a4 nb hnb b1
              have B := c_X7_currents E (rfM g 3) h a0 a1 a2 a3 a4 nb hnb b2
              simp only [dCur, if_pos q1, cd, ek, if_pos q2, if_pos q3, if_pos q4, if_pos q5, if_neg q6, rf_20] at A B
              exact ⟨_, _, _, _, _, A, B, rl_refuse 3 (by decide) R⟩
          · have A := c_X6_currents E g h a0 a1 a2 a3 a4 nb hnb b1
            have B := c_X7_currents E g h a0 a1 a2 a3 a4 nb hnb b2
            simp only [dCur, if_pos q1, cd, ek, if_pos q2, if_pos q3, if_pos q4, if_neg q5] at A B
            exact ⟨_, _, _, _, _, A, B, R⟩
        · have A := c_X6_currents E g h a0 a1 a2 a3 a4 nb hnb b1
          have B := c_X7_currents E g h a0 a1 a2 a3 a4 nb hnb b2
          simp only [dCur, if_pos q1, cd, ek, if_pos q2, if_pos q3, if_neg q4] at A B
          exact ⟨_, _, _, _, _, A, B, R⟩
      · have A := c_X6_currents E g h a0 a1 a2 a3 a4 nb hnb b1
        have B := c_X7_currents E g h a0 a1 a2 a3 a4 nb hnb b2
        simp only [dCur, if_pos q1, cd, ek, if_pos q2, if_neg q3] at A B
        exact ⟨_, _, _, _, _, A, B, R⟩
    · have A := c_X6_currents E g h a0 a1 a2 a3 a4 nb hnb b1
      have B := c_X7_currents E g h a0 a1 a2 a3 a4 nb hnb b2
      simp only [dCur, if_pos q1, cd, ek, if_neg q2] at A B
      exact ⟨_, _, _, _, _, A, B, R⟩
  · have A := c_X6_currents E g h a0 a1 a2 a3 a4 nb hnb b1
    have B := c_X7_currents E g h a0 a1 a2 a3 a4 nb hnb b2
    simp only [dCur, if_neg q1] at A B
    exact ⟨_, _, _, _, _, A, B, R⟩
theorem op_certify (a0 a1 a2 a3 a4 a5 : Int32) (E : mm_E) (g : mm_I) (h : mm_L) (R : Rl g h) : OpI E yX6_certify wsX6_certify 2 47 yX7_certify wsX7_certify 2 43 [.int a0, .int a1, .int a2, .int a3, .int a4, .int a5] g h := by
  obtain ⟨nb, hnb, b1, b2, b3⟩ := R.2.2.1
  obtain ⟨n, hn, c1, c2, c3, c4⟩ := R.2.2.2.1
  by_cases q1 : ¬ a0 < 0 ∧ ¬ nI nb - 1 < a0
  · by_cases q2 : a1 = -9 ∨ (¬ a1 < 0 ∧ ¬ nI nb - 1 < a1)
    · by_cases q3 : a1 = a0
      · have A := c_X6_certify E g h a0 a1 a2 a3 a4 a5 nb hnb b1 n hn c1
        have B := c_X7_certify E g h a0 a1 a2 a3 a4 a5 nb hnb b2 n hn c2
        simp only [dCert, if_pos q1, if_pos q2, if_pos q3] at A B
        exact ⟨_, _, _, _, _, A, B, R⟩
      · by_cases q4 : ¬ a2 < 0 ∧ ¬ 7 < a2
        · by_cases q5 : ¬ a3 < 0 ∧ ¬ 100000 < a3
          · by_cases q6 : inY a4
            · by_cases q7 : ¬ a5 < 0 ∧ ¬ 10000 < a5
              · by_cases q8 : n = 40
                · have A := c_X6_certify E g h a0 a1 a2 a3 a4 a5 nb hnb b1 n hn c1
                  have B := c_X7_certify E g h a0 a1 a2 a3 a4 a5 nb hnb b2 n hn c2
                  simp only [dCert, if_pos q1, if_pos q2, if_neg q3, if_pos q4, if_pos q5, if_pos q6, if_pos q7, if_pos q8] at A B
                  exact ⟨_, _, _, _, _, A, B, R⟩
                · by_cases q9 : ¬ a1 = -9 ∧ sLast (pLU g a1 a3) n = -9
                  · have lM := rc_L c3 a1 a3 (Nat.le_refl n)
                    have A := c_X6_certify E g h a0 a1 a2 a3 a4 a5 nb hnb b1 n hn c1
                    have B := c_X7_certify E g h a0 a1 a2 a3 a4 a5 nb hnb b2 n hn c2
                    simp only [dCert, if_pos q1, if_pos q2, if_neg q3, if_pos q4, if_pos q5, if_pos q6, if_pos q7, if_neg q8, if_pos q9, lM] at A B
                    exact ⟨_, _, _, _, _, A, B, R⟩
                  · obtain ⟨t, ht, et⟩ := to_nat (M := 100000) (m := 100000) rfl q5
                    obtain ⟨u, hu, eu⟩ := to_nat (M := 10000) (m := 10000) rfl q7
                    obtain ⟨r, er⟩ : ∃ r, r = (if a1 = -9 then -9 else sLast (pLU g a1 a3) n) := ⟨_, rfl⟩
                    have v13 : adC g n a0 a1 a2 a3 a4 a5 r 7 = g 7 := by unfold adC; simp only [up2_n _ _ _ (show 7 ≠ 4 by decide), up2_n _ _ _ (show 7 ≠ 53 + n by omega)]
                    have vx : ∀ x, x < 53 → x ≠ 4 → adC g n a0 a1 a2 a3 a4 a5 r x = g x := fun x hx h4 => by unfold adC; simp only [up2_n _ _ _ h4, up2_n _ _ _ (show x ≠ 53 + n by omega)]
                    have lM : sLast (pLM (adC g n a0 a1 a2 a3 a4 a5 r) a1 a3) n = sLast (pLU g a1 a3) n := by rw [← rc_L c3 a1 a3 (Nat.le_refl n)]; exact sLast_cong (fun i hi => by show (adC g n a0 a1 a2 a3 a4 a5 r 22 i = a1 ∧ adC g n a0 a1 a2 a3 a4 a5 r 31 i = 0 ∧ ¬ a3 < adC g n a0 a1 a2 a3 a4 a5 r 25 i) ↔ (g 22 i = a1 ∧ g 31 i = 0 ∧ ¬ a3 < g 25 i); rw [vx 22 (by decide) (by decide), vx 31 (by decide) (by decide), vx 25 (by decide) (by decide)])
                    have hr : r = -9 ∨ ∃ d, d < n ∧ r = nI d := by
                      rw [er]
                      by_cases z : a1 = -9
                      · exact Or.inl (if_pos z)
                      · rw [if_neg z]
                        rcases sLast_nat (pLU g a1 a3) n with q | ⟨d, hd, q, _⟩
                        · exact Or.inl q
                        · exact Or.inr ⟨d, hd, q⟩
                    have A := c_X6_certify E g h a0 a1 a2 a3 a4 a5 nb hnb b1 n hn c1
                    have B := c_X7_certify E (adC g n a0 a1 a2 a3 a4 a5 r) h a0 a1 a2 a3 a4 a5 nb hnb (by rw [v13]; exact b2) n hn (by rw [v13]; exact c2)
                    simp only [dCert, lM, if_pos q1, if_pos q2, if_neg q3, if_pos q4, if_pos q5, if_pos q6, if_pos q7, if_neg q8, if_neg q9, ← er] at A B
                    have R2 := rl_cert R (b := a0) (y := a1) (ba := a2) (show n < 40 by omega) c1 ht hu (BdI.y q6) hr
                    rw [← et, ← eu] at R2
                    exact ⟨_, _, _, _, _, A, B, R2⟩
              · have A := c_X6_certify E g h a0 a1 a2 a3 a4 a5 nb hnb b1 n hn c1
                have B := c_X7_certify E g h a0 a1 a2 a3 a4 a5 nb hnb b2 n hn c2
                simp only [dCert, if_pos q1, if_pos q2, if_neg q3, if_pos q4, if_pos q5, if_pos q6, if_neg q7] at A B
                exact ⟨_, _, _, _, _, A, B, R⟩
            · have A := c_X6_certify E g h a0 a1 a2 a3 a4 a5 nb hnb b1 n hn c1
              have B := c_X7_certify E g h a0 a1 a2 a3 a4 a5 nb hnb b2 n hn c2
              simp only [dCert, if_pos q1, if_pos q2, if_neg q3, if_pos q4, if_pos q5, if_neg q6] at A B
              exact ⟨_, _, _, _, _, A, B, R⟩
          · have A := c_X6_certify E g h a0 a1 a2 a3 a4 a5 nb hnb b1 n hn c1
            have B := c_X7_certify E g h a0 a1 a2 a3 a4 a5 nb hnb b2 n hn c2
            simp only [dCert, if_pos q1, if_pos q2, if_neg q3, if_pos q4, if_neg q5] at A B
            exact ⟨_, _, _, _, _, A, B, R⟩
        · have A := c_X6_certify E g h a0 a1 a2 a3 a4 a5 nb hnb b1 n hn c1
          have B := c_X7_certify E g h a0 a1 a2 a3 a4 a5 nb hnb b2 n hn c2
          simp only [dCert, if_pos q1, if_pos q2, if_neg q3, if_neg q4] at A B
          exact ⟨_, _, _, _, _, A, B, R⟩
    · have A := c_X6_certify E g h a0 a1 a2 a3 a4 a5 nb hnb b1 n hn c1
      have B := c_X7_certify E g h a0 a1 a2 a3 a4 a5 nb hnb b2 n hn c2
      simp only [dCert, if_pos q1, if_neg q2] at A B
      exact ⟨_, _, _, _, _, A, B, R⟩
  · have A := c_X6_certify E g h a0 a1 a2 a3 a4 a5 nb hnb b1 n hn c1
    have B := c_X7_certify E g h a0 a1 a2 a3 a4 a5 nb hnb b2 n hn c2
    simp only [dCert, if_neg q1] at A B
    exact ⟨_, _, _, _, _, A, B, R⟩
