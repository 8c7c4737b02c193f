def tsum (f : Nat → Int32) : Nat → Nat → Int64
  | _, 0 => 0
  | i, k + 1 => (f i).toInt64 + tsum f (i + 1) k
theorem tsum_b (f : Nat → Int32) : ∀ (k i : Nat), tsum f i (k + 1) = tsum f i k + (f (i + k)).toInt64
  | 0, i => by show (f i).toInt64 + 0 = 0 + (f (i + 0)).toInt64; rw [Int64.add_zero, Int64.zero_add, Nat.add_zero]
  | k + 1, i => by
    have ih := tsum_b f k (i + 1)
    show (f i).toInt64 + tsum f (i + 1) (k + 1) = (f i).toInt64 + tsum f (i + 1) k + _
    rw [ih, ← Int64.add_assoc, show i + 1 + k = i + (k + 1) by omega]
theorem hi_eq (x hi : Int32) : (if x ≤ hi then hi else x) = (if hi < x then x else hi) := by
  by_cases c : hi < x
  · rw [if_pos c, if_neg (fun z => absurd c (Int32.not_lt.mpr z))]
  · rw [if_neg c, if_pos (Int32.not_lt.mp c)]
theorem lo_eq (x lo : Int32) : (if lo ≤ x then lo else x) = (if x < lo then x else lo) := by
  by_cases c : x < lo
  · rw [if_pos c, if_neg (fun z => absurd c (Int32.not_lt.mpr z))]
  · rw [if_neg c, if_pos (Int32.not_lt.mp c)]
theorem hi_b {x hi : Int32} (hx : BdI x 100000) (hh : BdI hi 100000) : BdI (if hi < x then x else hi) 100000 ∧ hi.toInt ≤ (if hi < x then x else hi).toInt := by
  by_cases c : hi < x
  · rw [if_pos c]
    rw [fa_lt] at c
    exact ⟨hx, by omega⟩
  · rw [if_neg c]
    exact ⟨hh, Int.le_refl _⟩
theorem lo_b {x lo : Int32} (hx : BdI x 100000) (hh : BdI lo 100000) : BdI (if x < lo then x else lo) 100000 ∧ (if x < lo then x else lo).toInt ≤ lo.toInt := by
  by_cases c : x < lo
  · rw [if_pos c]
    rw [fa_lt] at c
    exact ⟨hx, by omega⟩
  · rw [if_neg c]
    exact ⟨hh, Int.le_refl _⟩
theorem pl_dead {f : Nat → Int32} {w : Int32} {fr n : Nat} (hf : ∀ i, i < n → BdI (f i) 100000) : ∀ (k i : Nat) (lo hi : Int32) (sm : Int64) (s : plT), i + k ≤ n → BdI lo 100000 → BdI hi 100000 → w < hi - lo → plI f w fr k i lo hi sm s = s
  | 0, _, _, _, _, _, _, _, _, _ => rfl
  | k + 1, i, lo, hi, sm, s, hk, hl, hh, hw => by
    by_cases c : f i = -9
    · exact plI_z c
    · obtain ⟨h1, h2⟩ := hi_b (hf i (by omega)) hh
      obtain ⟨l1, l2⟩ := lo_b (hf i (by omega)) hl
      have hw2 : w < (if hi < f i then f i else hi) - (if f i < lo then f i else lo) := by
        rw [fa_lt] at hw ⊢
        rw [subIV hh hl (by decide)] at hw
        rw [subIV h1 l1 (by decide)]
        omega
      rw [plI_s c, hi_eq, lo_eq]
      generalize (if hi < f i then f i else hi) = H at *
      generalize (if f i < lo then f i else lo) = O at *
      rw [if_neg (show ¬ (¬ w < H - O ∧ ¬ i - fr + 1 ≤ s.2.1) from fun z => z.1 hw2)]
      exact pl_dead hf k (i + 1) _ _ _ s (by omega) l1 h1 hw2
theorem pl_in {f : Nat → Int32} {w : Int32} {fr n : Nat} (hf : ∀ i, i < n → BdI (f i) 100000) : ∀ (k i : Nat) (lo hi : Int32) (sm : Int64) (s : plT), fr ≤ i → i + k ≤ n → BdI lo 100000 → BdI hi 100000 → plI f w fr k i lo hi sm s = if 0 < sLvl f w lo hi i k ∧ s.2.1 < i - fr + sLvl f w lo hi i k then (nI fr, i - fr + sLvl f w lo hi i k, sm + tsum f i (sLvl f w lo hi i k)) else s
  | 0, _, _, _, _, _, _, _, _, _ => by rw [plI, sLvl, if_neg (fun z => absurd z.1 (Nat.lt_irrefl 0))]
  | k + 1, i, lo, hi, sm, s, hfi, hk, hl, hh => by
    by_cases c : f i = -9
    · rw [plI_z c, sLvl_z (Or.inl c), if_neg (fun z => absurd z.1 (Nat.lt_irrefl 0))]
    · obtain ⟨h1, h2⟩ := hi_b (hf i (by omega)) hh
      obtain ⟨l1, l2⟩ := lo_b (hf i (by omega)) hl
      rw [plI_s c, hi_eq, lo_eq]
      by_cases cw : (if hi < f i then f i else hi) - (if f i < lo then f i else lo) ≤ w
      · rw [sLvl_s (fun z => z.elim c (fun y => y cw))]
        have cw2 : ¬ w < (if hi < f i then f i else hi) - (if f i < lo then f i else lo) := Int32.not_lt.mpr cw
        generalize (if hi < f i then f i else hi) = H at *
        generalize (if f i < lo then f i else lo) = O at *
        rw [pl_in hf k (i + 1) _ _ _ _ (by omega) (by omega) l1 h1]
        generalize sLvl f w O H (i + 1) k = l
        have e1 : i + 1 - fr + l = i - fr + (l + 1) := by omega
        have e2 : sm + (f i).toInt64 + tsum f (i + 1) l = sm + tsum f i (l + 1) := by rw [tsum, Int64.add_assoc]
        rw [e1, e2]
        by_cases c1 : i - fr + 1 ≤ s.2.1
        · rw [if_neg (show ¬ (¬ w < H - O ∧ ¬ i - fr + 1 ≤ s.2.1) from fun z => z.2 c1)]
          by_cases c2 : s.2.1 < i - fr + (l + 1)
          · rw [if_pos (show 0 < l ∧ s.2.1 < i - fr + (l + 1) from ⟨by omega, c2⟩), if_pos (show 0 < l + 1 ∧ s.2.1 < i - fr + (l + 1) from ⟨by omega, c2⟩)]
          · rw [if_neg (show ¬ (0 < l ∧ s.2.1 < i - fr + (l + 1)) from fun z => c2 z.2), if_neg (show ¬ (0 < l + 1 ∧ s.2.1 < i - fr + (l + 1)) from fun z => c2 z.2)]
        · rw [if_pos (show ¬ w < H - O ∧ ¬ i - fr + 1 ≤ s.2.1 from ⟨cw2, c1⟩), if_pos (show 0 < l + 1 ∧ s.2.1 < i - fr + (l + 1) by omega)]
          by_cases c2 : 0 < l
          · rw [if_pos (show 0 < l ∧ (nI fr, i - fr + 1, sm + (f i).toInt64).2.1 < i - fr + (l + 1) from ⟨c2, by show i - fr + 1 < _; omega⟩)]
          · have l0 : l = 0 := by omega
            rw [if_neg (show ¬ (0 < l ∧ (nI fr, i - fr + 1, sm + (f i).toInt64).2.1 < i - fr + (l + 1)) from fun z => c2 z.1), l0]
            show (nI fr, i - fr + 1, sm + (f i).toInt64) = (nI fr, i - fr + (0 + 1), sm + ((f i).toInt64 + 0))
            rw [Int64.add_zero]
      · rw [sLvl_z (Or.inr cw), if_neg (show ¬ (0 < 0 ∧ s.2.1 < i - fr + 0) from fun z => absurd z.1 (Nat.lt_irrefl 0))]
        have cw2 : w < (if hi < f i then f i else hi) - (if f i < lo then f i else lo) := Int32.not_le.mp cw
        generalize (if hi < f i then f i else hi) = H at *
        generalize (if f i < lo then f i else lo) = O at *
        rw [if_neg (show ¬ (¬ w < H - O ∧ ¬ i - fr + 1 ≤ s.2.1) from fun z => z.1 cw2)]
        exact pl_dead hf k (i + 1) _ _ _ s (by omega) l1 h1 cw2
def plB (f : Nat → Int32) (n : Nat) (w : Int32) (q : Nat) : Nat × Nat := sBest (fun q => sLvl f w 100000 (-100000) q (n - q)) q
def plQ (f : Nat → Int32) (n : Nat) (w : Int32) (m q : Nat) : plT := if m ≤ (plB f n w q).2 then (nI (plB f n w q).1, (plB f n w q).2, tsum f (plB f n w q).1 (plB f n w q).2) else (-9, m - 1, 0)
theorem plQ_s {f : Nat → Int32} {n : Nat} {w : Int32} {m : Nat} (hm : 1 ≤ m) (hf : ∀ i, i < n → BdI (f i) 100000) {q : Nat} (hq : q < n) : plI f w q (n - q) q 100000 (-100000) 0 (plQ f n w m q) = plQ f n w m (q + 1) := by
  rw [pl_in hf (n - q) q 100000 (-100000) 0 (plQ f n w m q) (Nat.le_refl q) (by omega) (by unfold BdI; decide) (by unfold BdI; decide), Nat.sub_self, Nat.zero_add, Int64.zero_add]
  have hB : plB f n w (q + 1) = if sLvl f w 100000 (-100000) q (n - q) ≤ (plB f n w q).2 then plB f n w q else (q, sLvl f w 100000 (-100000) q (n - q)) := rfl
  obtain ⟨l, hl⟩ : ∃ l, l = sLvl f w 100000 (-100000) q (n - q) := ⟨_, rfl⟩
  rw [← hl] at hB ⊢
  obtain ⟨b1, b2⟩ : ∃ b : Nat × Nat, b = plB f n w q := ⟨_, rfl⟩
  unfold plQ
  rw [hB, ← b2]
  by_cases c : m ≤ b1.2
  · rw [if_pos c]
    by_cases c2 : l ≤ b1.2
    · rw [if_pos c2, if_pos c, if_neg (fun z => absurd c2 (Nat.not_le.mpr z.2))]
    · rw [if_neg c2, if_pos ⟨by omega, by show b1.2 < l; omega⟩, if_pos (show m ≤ l by omega)]
  · rw [if_neg c]
    by_cases c2 : m ≤ l
    · rw [if_neg (show ¬ l ≤ b1.2 by omega), if_pos ⟨by omega, by show m - 1 < l; omega⟩, if_pos c2]
    · rw [if_neg (fun z => c2 (by have h2 : m - 1 < l := z.2; omega))]
      by_cases c3 : l ≤ b1.2
      · rw [if_pos c3, if_neg c]
      · rw [if_neg c3, if_neg c2]
theorem plO_q {f : Nat → Int32} {n : Nat} {w : Int32} {m : Nat} (hm : 1 ≤ m) (hf : ∀ i, i < n → BdI (f i) 100000) : ∀ (k q : Nat), q + k = n → plO f w n k q (plQ f n w m q) = plQ f n w m n
  | 0, q, h => by rw [show q = n by omega]; rfl
  | k + 1, q, h => by
    rw [plO, plQ_s hm hf (by omega)]
    exact plO_q hm hf k (q + 1) (by omega)
theorem plR_q {f : Nat → Int32} {n : Nat} {w m : Int32} {m' : Nat} (em : m.toNatClampNeg = m') (hm : 1 ≤ m') (hf : ∀ i, i < n → BdI (f i) 100000) : plR f w n m = plQ f n w m' n := by
  have h := plO_q (w := w) hm hf n 0 (by omega)
  have e0 : plQ f n w m' 0 = (-9, m' - 1, 0) := if_neg (show ¬ m' ≤ 0 by omega)
  rw [e0] at h
  unfold plR
  rw [em]
  exact h
theorem sBest_2 {len : Nat → Nat} (h : len 0 = 0 ∨ True) : ∀ n, n = 0 ∨ (sBest len n).2 = len (sBest len n).1
  | 0 => Or.inl rfl
  | n + 1 => by
    refine Or.inr ?_
    rw [sBest]
    by_cases c : len n ≤ (sBest len n).2
    · rw [if_pos c]
      rcases sBest_2 h n with z | z
      · subst z
        have c2 : len 0 ≤ 0 := c
        show 0 = len 0
        omega
      · exact z
    · rw [if_neg c]
theorem plB_N (f : Nat → Int32) (n : Nat) (w : Int32) : plB f n w n = (plS f n w, plN f n w) := by
  have h : (plB f n w n).2 = plN f n w := by
    unfold plB plN plS
    rcases sBest_2 (len := fun q => sLvl f w 100000 (-100000) q (n - q)) (Or.inr trivial) n with z | z
    · subst z; rfl
    · exact z
  rw [← h]
  rfl
theorem sLvl_ne {f : Nat → Int32} {w : Int32} : ∀ (k i : Nat) (lo hi : Int32) (x : Nat), x < sLvl f w lo hi i k → ¬ f (i + x) = -9
  | 0, _, _, _, x, h => by rw [sLvl] at h; exact absurd h (Nat.not_lt_zero x)
  | k + 1, i, lo, hi, x, h => by
    by_cases c : f i = -9 ∨ ¬ (if hi < f i then f i else hi) - (if f i < lo then f i else lo) ≤ w
    · rw [sLvl_z c] at h; exact absurd h (Nat.not_lt_zero x)
    · rw [sLvl_s c] at h
      cases x with
      | zero => exact fun z => c (Or.inl z)
      | succ x =>
        have := sLvl_ne k (i + 1) _ _ x (Nat.lt_of_succ_lt_succ h)
        rw [show i + 1 + x = i + (x + 1) by omega] at this
        exact this
theorem sSum_t {f : Nat → Int32} {n a : Nat} (hn : n ≤ 40) (hf : ∀ i, i < n → BdI (f i) 100000) : ∀ k, a + k ≤ n → (∀ x, x < k → ¬ f (a + x) = -9) → BdI (sSum f a k) (100000 * k) ∧ (sSum f a k).toInt64 = tsum f a k
  | 0, _, _ => ⟨(by decide : (0 : Int32).toInt.natAbs ≤ 0), rfl⟩
  | k + 1, hk, hx => by
    obtain ⟨i1, i2⟩ := sSum_t hn hf k (by omega) (fun x h => hx x (by omega))
    have b := hf (a + k) (by omega)
    rw [sSum, if_neg (hx k (by omega)), tsum_b, ← i2]
    refine ⟨?_, ?_⟩
    · have := i1.add b (by omega)
      unfold BdI at *
      omega
    · rw [fa_eq64, toL, addIV i1 b (by omega), addV i1.L b.L (by omega), toL, toL]
theorem sLvl_cong {f f' : Nat → Int32} {w : Int32} : ∀ (k i : Nat) (lo hi : Int32), (∀ x, x < k → f (i + x) = f' (i + x)) → sLvl f w lo hi i k = sLvl f' w lo hi i k
  | 0, _, _, _, _ => rfl
  | k + 1, i, lo, hi, h => by
    have h0 := h 0 (by omega)
    rw [Nat.add_zero] at h0
    rw [sLvl, sLvl, h0, sLvl_cong (f' := f') k (i + 1) _ _ (fun x hx => by rw [show i + 1 + x = i + (x + 1) by omega]; exact h (x + 1) (by omega))]
theorem sBest_cong {a b : Nat → Nat} : ∀ {n : Nat}, (∀ i, i < n → a i = b i) → sBest a n = sBest b n
  | 0, _ => rfl
  | n + 1, h => by rw [sBest, sBest, sBest_cong (n := n) (fun i hi => h i (by omega)), h n (by omega)]
theorem sSum_cong {f f' : Nat → Int32} {a : Nat} : ∀ {k : Nat}, (∀ x, x < k → f (a + x) = f' (a + x)) → sSum f a k = sSum f' a k
  | 0, _ => rfl
  | k + 1, h => by rw [sSum, sSum, sSum_cong (k := k) (fun i hi => h i (by omega)), h k (by omega)]
theorem plS_cong {f f' : Nat → Int32} {n : Nat} {w : Int32} (h : ∀ i, i < n → f i = f' i) : plS f n w = plS f' n w := by
  unfold plS
  rw [sBest_cong (fun i hi => sLvl_cong (n - i) i 100000 (-100000) (fun x hx => h (i + x) (by omega)))]
theorem plN_cong {f f' : Nat → Int32} {n : Nat} {w : Int32} (h : ∀ i, i < n → f i = f' i) : plN f n w = plN f' n w := by
  have hs := (pl_b f' n w).1
  unfold plN
  rw [plS_cong h, sLvl_cong _ _ _ _ (fun x hx => h _ (by omega))]
theorem pl_all {f f' : Nat → Int32} {n : Nat} {w m : Int32} (hn : n ≤ 40) (hm : inB m 1 40) (h : ∀ i, i < n → f i = f' i ∧ BdI (f i) 100000) : (¬ (plR f' w n m).1 < 0 ↔ m ≤ nI (plN f n w)) ∧ (m ≤ nI (plN f n w) → (plR f' w n m).1 = nI (plS f n w) ∧ (plR f' w n m).2.1 = plN f n w ∧ (plR f' w n m).2.2 = (sSum f (plS f n w) (plN f n w)).toInt64 ∧ (plR f' w n m).2.2.toInt.natAbs < 2 ^ 63 ∧ 0 < (plR f' w n m).2.1) := by
  obtain ⟨m', hm', em⟩ := to_nat (M := 40) (m := 40) rfl (show ¬ m < 0 ∧ ¬ 40 < m from ⟨fun z => hm.1 (by rw [fa_lt] at *; have : (1 : Int32).toInt = 1 := rfl; have : (0 : Int32).toInt = 0 := rfl; omega), hm.2⟩)
  have cm : m.toNatClampNeg = m' := by rw [em]; exact cl_nI (by omega)
  have hm1 : 1 ≤ m' := by
    have := hm.1
    rw [em, fa_lt, nI_toInt (by omega)] at this
    have : (1 : Int32).toInt = 1 := rfl
    omega
  have hf' : ∀ i, i < n → BdI (f' i) 100000 := fun i hi => by rw [← (h i hi).1]; exact (h i hi).2
  have hR := plR_q (w := w) cm hm1 hf'
  obtain ⟨p1, p2⟩ := pl_b f n w
  have eS := plS_cong (w := w) (fun i hi => (h i hi).1)
  have eN := plN_cong (w := w) (fun i hi => (h i hi).1)
  have hle : m ≤ nI (plN f n w) ↔ m' ≤ plN f n w := by rw [em]; exact nI_leI (by omega) (by omega)
  have hQ : plR f' w n m = if m' ≤ plN f n w then (nI (plS f n w), plN f n w, tsum f' (plS f n w) (plN f n w)) else (-9, m' - 1, 0) := by
    rw [hR]
    unfold plQ
    rw [plB_N, ← eS, ← eN]
  rw [hle, hQ]
  by_cases c : m' ≤ plN f n w
  · rw [if_pos c]
    have hs := sSum_t (f := f) (a := plS f n w) hn (fun i hi => (h i hi).2) (plN f n w) (by omega) (fun x hx => sLvl_ne _ _ _ _ x hx)
    have ht : tsum f' (plS f n w) (plN f n w) = tsum f (plS f n w) (plN f n w) := by
      have h2 := sSum_t (f := f') (a := plS f n w) hn hf' (plN f n w) (by omega) (fun x hx => by rw [← (h _ (by omega)).1]; exact sLvl_ne _ _ _ _ x hx)
      rw [← h2.2, ← hs.2, sSum_cong (fun x hx => ((h _ (by omega)).1).symm)]
    refine ⟨⟨fun _ => c, fun _ => nI_pos (by omega)⟩, fun _ => ⟨rfl, rfl, ?_, ?_, ?_⟩⟩
    · show tsum f' _ _ = _
      rw [ht, hs.2]
    · show (tsum f' _ _).toInt.natAbs < 2 ^ 63
      rw [ht, ← hs.2, toL]
      have := hs.1
      unfold BdI at this
      omega
    · show 0 < plN f n w
      omega
  · rw [if_neg c]
    exact ⟨⟨fun z => absurd (show (-9 : Int32) < 0 by decide) z, fun z => absurd z c⟩, fun z => absurd z c⟩
theorem pl_hok {g : mm_I} (R : RR g) (w m : Int32) : ∀ j, j < 6 → ¬ g 14 j < 0 → ¬ (plR (fun q => g 15 (40 * j + q)) w (g 14 j).toNatClampNeg m).1 < 0 → (plR (fun q => g 15 (40 * j + q)) w (g 14 j).toNatClampNeg m).2.2.toInt.natAbs < 2 ^ 63 ∧ 0 < (plR (fun q => g 15 (40 * j + q)) w (g 14 j).toNatClampNeg m).2.1 := by
  intro j hj h14 hp
  obtain ⟨m3, e, n, hn, en⟩ := rr_ms' R hj (fun z => h14 (rr_ms R hj z))
  have cn2 : (g 14 j).toNatClampNeg = n := by rw [e, en]; exact cl_nI (by omega)
  rw [cn2] at hp ⊢
  obtain ⟨f, hfe⟩ : ∃ f : Nat → Int32, f = fun q => g 15 (40 * j + q) := ⟨_, rfl⟩
  have hf : ∀ i, i < n → BdI (f i) 100000 := fun i hi => by
    obtain ⟨h1, h2⟩ := (R j hj).2 i (by omega)
    rw [hfe]
    show BdI (g 15 (40 * j + i)) 100000
    rw [← h1]
    exact h2
  rw [← hfe] at hp ⊢
  have hR : plR f w n m = plQ f n w (max 1 m.toNatClampNeg) n := by
    have h := plO_q (w := w) (m := max 1 m.toNatClampNeg) (by omega) hf n 0 (by omega)
    have e0 : plQ f n w (max 1 m.toNatClampNeg) 0 = (-9, max 1 m.toNatClampNeg - 1, 0) := if_neg (show ¬ max 1 m.toNatClampNeg ≤ 0 by omega)
    rw [e0, show max 1 m.toNatClampNeg - 1 = m.toNatClampNeg - 1 by omega] at h
    exact h
  obtain ⟨p1, p2⟩ := pl_b f n w
  rw [hR] at hp ⊢
  unfold plQ at hp ⊢
  rw [plB_N] at hp ⊢
  dsimp only at hp ⊢
  by_cases c : max 1 m.toNatClampNeg ≤ plN f n w
  · rw [if_pos c]
    have hs := sSum_t (f := f) (a := plS f n w) hn hf (plN f n w) (by omega) (fun x hx => sLvl_ne _ _ _ _ x hx)
    refine ⟨?_, ?_⟩
    · show (tsum f _ _).toInt.natAbs < 2 ^ 63
      rw [← hs.2, toL]
      have := hs.1
      unfold BdI at this
      omega
    · show 0 < plN f n w
      omega
  · rw [if_neg c] at hp
    exact absurd (show (-9 : Int32) < 0 by decide) hp
theorem op_plateau (a0 a1 a2 : Int32) (E : mm_E) (g : mm_I) (h : mm_L) (R : Rl g h) : OpI E yX6_plateau wsX6_plateau 3 81 yX7_plateau wsX7_plateau 3 77 [.int a0, .int a1, .int a2] g h := by
  have rr := R.1
  by_cases q1 : ¬ a0 < 0 ∧ ¬ 5 < a0
  · obtain ⟨j, hj, ej⟩ := to_nat (M := 5) (m := 5) rfl q1
    have cj : a0.toNatClampNeg = j := by rw [ej]; exact cl_nI (by omega)
    by_cases q2 : inB a1 0 100000
    · by_cases q3 : inB a2 1 40
      · by_cases q4 : g 9 j = -1
        · have m4 := rr_ms rr (show j < 6 by omega) q4
          have A := c_X6_plateau E g h a0 a1 a2 (rr_sz rr)
          have B := c_X7_plateau E (rfM g 1) h a0 a1 a2 (rr_szM (g := g) rr) (pl_hok (g := g) rr a1 a2)
          simp only [dPl, if_pos q1, cj, if_pos q2, if_pos q3, if_pos q4, if_pos m4, rf_14, rf_15] at A B
          exact ⟨_, _, _, _, _, A, B, rl_refuse 1 (by decide) R⟩
        · obtain ⟨m4, e, n, hn, en⟩ := rr_ms' rr (show j < 6 by omega) q4
          have cn : (g 9 j).toNatClampNeg = n := by rw [en]; exact cl_nI (by omega)
          have cn2 : (g 14 j).toNatClampNeg = n := by rw [e, en]; exact cl_nI (by omega)
          have pa := pl_all (f := g (39 + j)) (f' := fun q => g 15 (40 * j + q)) (w := a1) hn q3 (fun i hi => (R.1 j (by omega)).2 i (by omega))
          by_cases q5 : a2 ≤ nI (plN (g (39 + j)) n a1)
          · have m5 := pa.1.mpr q5
            obtain ⟨x1, x2, x3, _, _⟩ := pa.2 q5
            rw [x1] at m5
            have R2 := rl_h (h' := upL (tlM (upL (tlC h (sSum (g (39 + j)) (plS (g (39 + j)) n a1) (plN (g (39 + j)) n a1)).toInt64 (nI (plN (g (39 + j)) n a1)).toInt64) 0 8 (nI (plN (g (39 + j)) n a1)).toInt64) (sSum (g (39 + j)) (plS (g (39 + j)) n a1) (plN (g (39 + j)) n a1)).toInt64 (nI (plN (g (39 + j)) n a1)).toInt64) 7 2 (nI (plN (g (39 + j)) n a1)).toInt64) R ⟨rfl, rfl, rfl⟩
            have A := c_X6_plateau E g h a0 a1 a2 (rr_sz rr)
            have B := c_X7_plateau E g (upL (tlC h (sSum (g (39 + j)) (plS (g (39 + j)) n a1) (plN (g (39 + j)) n a1)).toInt64 (nI (plN (g (39 + j)) n a1)).toInt64) 0 8 (nI (plN (g (39 + j)) n a1)).toInt64) a0 a1 a2 (rr_szM (g := g) rr) (pl_hok (g := g) rr a1 a2)
            simp only [dPl, if_pos q1, cj, if_pos q2, if_pos q3, if_neg q4, if_neg m4, cn, cn2, if_pos q5, if_pos m5, x1, x2, x3] at A B
            exact ⟨_, _, _, _, _, A, B, R2⟩
          · have m5 : ¬ ¬ (plR (fun q => g 15 (40 * j + q)) a1 n a2).1 < 0 := fun z => q5 (pa.1.mp z)
            have A := c_X6_plateau E g h a0 a1 a2 (rr_sz rr)
            have B := c_X7_plateau E g h a0 a1 a2 (rr_szM (g := g) rr) (pl_hok (g := g) rr a1 a2)
            simp only [dPl, if_pos q1, cj, if_pos q2, if_pos q3, if_neg q4, if_neg m4, cn, cn2, if_neg q5, if_neg m5] at A B
            exact ⟨_, _, _, _, _, A, B, R⟩
      · have A := c_X6_plateau E g h a0 a1 a2 (rr_sz rr)
        have B := c_X7_plateau E g h a0 a1 a2 (rr_szM (g := g) rr) (pl_hok (g := g) rr a1 a2)
        simp only [dPl, if_pos q1, cj, if_pos q2, if_neg q3] at A B
        exact ⟨_, _, _, _, _, A, B, R⟩
    · have A := c_X6_plateau E g h a0 a1 a2 (rr_sz rr)
      have B := c_X7_plateau E g h a0 a1 a2 (rr_szM (g := g) rr) (pl_hok (g := g) rr a1 a2)
      simp only [dPl, if_pos q1, cj, if_neg q2] at A B
      exact ⟨_, _, _, _, _, A, B, R⟩
  · have A := c_X6_plateau E g h a0 a1 a2 (rr_sz rr)
    have B := c_X7_plateau E g h a0 a1 a2 (rr_szM (g := g) rr) (pl_hok (g := g) rr a1 a2)
    simp only [dPl, if_neg q1] at A B
    exact ⟨_, _, _, _, _, A, B, R⟩
