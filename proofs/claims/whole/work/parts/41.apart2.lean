theorem pair_bd {a b w1 w2 : Nat} (ha : 6 * a ≤ 49188720) (hb : 6 * b ≤ 49188720) (h1 : 6 * a + w1 ≤ 98377440) (h2 : 6 * b + w2 ≤ 98377440) : 10000 * (w1 * b + w2 * a) < 2 ^ 63 := by
  have k1 : w1 * b ≤ (98377440 - 6 * a) * b := Nat.mul_le_mul (by omega) (Nat.le_refl _)
  have k2 : w2 * a ≤ (98377440 - 6 * b) * a := Nat.mul_le_mul (by omega) (Nat.le_refl _)
  obtain ⟨c, hc⟩ : ∃ c, a + c = 8198120 := ⟨8198120 - a, by omega⟩
  obtain ⟨d, hd⟩ : ∃ d, b + d = 8198120 := ⟨8198120 - b, by omega⟩
  have e1 : (98377440 - 6 * a) * b + 6 * (a * b) = 98377440 * b := by
    have : (98377440 - 6 * a) * b + 6 * a * b = (98377440 - 6 * a + 6 * a) * b := by rw [Nat.add_mul]
    rw [show 98377440 - 6 * a + 6 * a = 98377440 by omega, Nat.mul_assoc] at this
    exact this
  have e2 : (98377440 - 6 * b) * a + 6 * (a * b) = 98377440 * a := by
    have : (98377440 - 6 * b) * a + 6 * b * a = (98377440 - 6 * b + 6 * b) * a := by rw [Nat.add_mul]
    rw [show 98377440 - 6 * b + 6 * b = 98377440 by omega, Nat.mul_assoc, Nat.mul_comm b a] at this
    exact this
  have e3 : (a + c) * (b + d) = a * b + a * d + c * b + c * d := by rw [Nat.add_mul, Nat.mul_add, Nat.mul_add]; omega
  have e4 : a * (b + d) = a * b + a * d := Nat.mul_add _ _ _
  have e5 : (a + c) * b = a * b + c * b := Nat.add_mul _ _ _
  rw [hc, hd] at e3
  rw [hd] at e4
  rw [hc] at e5
  omega
theorem ap_x {f1 y1 f2 y2 : Nat → Int32} {n1 n2 : Nat} {x : Int32} {S : Nat} {s : Int64} (h1 : n1 ≤ 4) (h2 : n2 ≤ 4) (hx : BdI x 20) (hf1 : ∀ k, k < n1 → BdI (f1 k) 20 ∧ BdI (y1 k) 10000) (hf2 : ∀ k, k < n2 → BdI (f2 k) 20 ∧ BdI (y2 k) 10000) (hs : s.toInt = (S : Int)) (hS0 : 0 < S) (hS : S < 2 ^ 63) (p1 : ∀ k, k < n1 → pZ f1 k (f1 k).toInt n1 ≠ 0 ∧ (pZ f1 k (f1 k).toInt n1).natAbs ∣ S) (p2 : ∀ k, k < n2 → pZ f2 k (f2 k).toInt n2 ≠ 0 ∧ (pZ f2 k (f2 k).toInt n2).natAbs ∣ S) (hB : 10000 * (ww f1 x.toInt S n1 n1 + ww f2 x.toInt S n2 n2) < 2 ^ 63) : okM f1 y1 f2 y2 n1 n2 x ∧ 0 ≤ (gpA f1 y1 f2 y2 n1 n2 s x).toInt ∧ (s2M f1 y1 f2 y2 n1 n2 x).2.toInt.natAbs < 2 ^ 63 ∧ ((s2M f1 y1 f2 y2 n1 n2 x).1.toInt.natAbs : Int) * S = (s2M f1 y1 f2 y2 n1 n2 x).2.toInt * (gpA f1 y1 f2 y2 n1 n2 s x).toInt := by
  have b1 := tt_bd (x := x.toInt) (fun k hk => (hf1 k hk).2) p1 n1 (Nat.le_refl n1)
  have b2 := tt_bd (x := x.toInt) (fun k hk => (hf2 k hk).2) p2 n2 (Nat.le_refl n2)
  have v1 := wAt_v h1 hx (fun k hk => (hf1 k hk).1) (fun k hk => (hf1 k hk).2) hs hS p1 (by omega) n1 (Nat.le_refl n1)
  have v2 := wAt_v h2 hx (fun k hk => (hf2 k hk).1) (fun k hk => (hf2 k hk).2) hs hS p2 (by omega) n2 (Nat.le_refl n2)
  have hsub : (wAt f1 y1 x s n1 n1 - wAt f2 y2 x s n2 n2).toInt = tt f1 y1 x.toInt S n1 n1 - tt f2 y2 x.toInt S n2 n2 := by rw [sub_x (by rw [v1, v2]; omega), v1, v2]
  have hgap : (gpA f1 y1 f2 y2 n1 n2 s x).toInt = ((tt f1 y1 x.toInt S n1 n1 - tt f2 y2 x.toInt S n2 n2).natAbs : Int) := by
    unfold gpA
    rw [abL_v (B := 2 ^ 63 - 1) (by unfold Bd; rw [hsub]; omega) (by decide), hsub]
  obtain ⟨k1, k2⟩ := acS_v (tm := 1) (T0 := 0) h1 hx (fun k hk => (hf1 k hk).1) (fun k hk => (hf1 k hk).2) (Or.inl rfl) hS0 hS p1 inv_0 (by show 0 + _ < _; omega)
  have k3 := k2 n1 (Nat.le_refl n1)
  rw [show (1 : Int32).toInt = 1 from rfl, Int.one_mul, Int.zero_add] at k3
  obtain ⟨j1, j2⟩ := acS_v (tm := -1) (T0 := tt f1 y1 x.toInt S n1 n1) h2 hx (fun k hk => (hf2 k hk).1) (fun k hk => (hf2 k hk).2) (Or.inr rfl) hS0 hS p2 k3 (by omega)
  have j3 := j2 n2 (Nat.le_refl n2)
  rw [show (-1 : Int32).toInt = -1 from rfl, show tt f1 y1 x.toInt S n1 n1 + -1 * tt f2 y2 x.toInt S n2 n2 = tt f1 y1 x.toInt S n1 n1 - tt f2 y2 x.toInt S n2 n2 by omega] at j3
  obtain ⟨r1, r2, r3⟩ := inv_end hS0 hS j3 (by omega)
  refine ⟨⟨k1, j1, r1, j3.1⟩, by rw [hgap]; omega, r2, ?_⟩
  rw [hgap]
  have hq := congrArg Int.natAbs j3.2.2
  rw [Int.natAbs_mul, Int.natAbs_mul, Int.natAbs_natCast] at hq
  have hpos := j3.1
  have e : (((s2M f1 y1 f2 y2 n1 n2 x).1.toInt.natAbs * S : Nat) : Int) = (((s2M f1 y1 f2 y2 n1 n2 x).2.toInt.natAbs * (tt f1 y1 x.toInt S n1 n1 - tt f2 y2 x.toInt S n2 n2).natAbs : Nat) : Int) := congrArg _ hq
  rw [Int.natCast_mul, Int.natCast_mul] at e
  rw [e]
  congr 1
  have hpos2 : 0 < (s2M f1 y1 f2 y2 n1 n2 x).2.toInt := hpos
  omega
def apOk (S : Nat) (gap : Int32 → Int64) (G : Int32 → Int64 × Int64) : Prop := ∀ t, t ≤ 40 → 0 ≤ (gap (nI t - 20)).toInt ∧ (G (nI t - 20)).1.toInt.natAbs < 2 ^ 63 ∧ 0 < (G (nI t - 20)).2.toInt ∧ (G (nI t - 20)).2.toInt.natAbs < 2 ^ 63 ∧ ((G (nI t - 20)).1.toInt.natAbs : Int) * S = (G (nI t - 20)).2.toInt * (gap (nI t - 20)).toInt
def apRel (S : Nat) (s : Int64 × Int32) (r : apT) : Prop := s.2 = r.2.2 ∧ 0 ≤ s.1.toInt ∧ 0 ≤ r.1.toInt ∧ 0 < r.2.1.toInt ∧ r.1.toInt * S = r.2.1.toInt * s.1.toInt
theorem apOk_new {S : Nat} {gap : Int32 → Int64} {G : Int32 → Int64 × Int64} (h : apOk S gap G) {t : Nat} (ht : t ≤ 40) : apRel S (gap (nI t - 20), nI t - 20) (abL (G (nI t - 20)).1, (G (nI t - 20)).2, nI t - 20) := by
  obtain ⟨h1, h2, h3, h4, h5⟩ := h t ht
  have e := abL_v (v := (G (nI t - 20)).1) (B := 2 ^ 63 - 1) (by unfold Bd; omega) (by decide)
  exact ⟨rfl, h1, by rw [e]; omega, h3, by rw [e]; exact h5⟩
theorem ap_loop {S : Nat} (hS : 0 < S) {gap : Int32 → Int64} {G : Int32 → Int64 × Int64} (h : apOk S gap G) : ∀ (k t : Nat) (s : Int64 × Int32) (r : apT), t + k ≤ 41 → apRel S s r → apRel S (apS gap k t s) (amS G k t r)
  | 0, _, _, _, _, R => R
  | k + 1, t, s, r, hk, R => by
    obtain ⟨r1, r2, r3, r4, r5⟩ := R
    obtain ⟨h1, h2, h3, h4, h5⟩ := h t (by omega)
    have hnew := apOk_new h (show t ≤ 40 by omega)
    have e := abL_v (v := (G (nI t - 20)).1) (B := 2 ^ 63 - 1) (by unfold Bd; omega) (by decide)
    have z64 : (0 : Int64).toInt = 0 := rfl
    have hn : ¬ r.1 < 0 := fun z => by rw [fa_lt64, z64] at z; omega
    have key : (r.1.toInt.natAbs * (G (nI t - 20)).2.toInt.natAbs < (abL (G (nI t - 20)).1).toInt.natAbs * r.2.1.toInt.natAbs) ↔ ¬ gap (nI t - 20) ≤ s.1 := by
      rw [e, Int.natAbs_natCast, fa_le64]
      obtain ⟨P, hP⟩ : ∃ P : Nat, r.1.toInt = (P : Int) := ⟨r.1.toInt.toNat, by omega⟩
      obtain ⟨Q, hQ⟩ : ∃ P : Nat, r.2.1.toInt = (P : Int) := ⟨r.2.1.toInt.toNat, by omega⟩
      obtain ⟨V, hV⟩ : ∃ P : Nat, s.1.toInt = (P : Int) := ⟨s.1.toInt.toNat, by omega⟩
      obtain ⟨D, hD⟩ : ∃ P : Nat, (gap (nI t - 20)).toInt = (P : Int) := ⟨(gap (nI t - 20)).toInt.toNat, by omega⟩
      obtain ⟨B, hB⟩ : ∃ P : Nat, (G (nI t - 20)).2.toInt = (P : Int) := ⟨(G (nI t - 20)).2.toInt.toNat, by omega⟩
      obtain ⟨A, hA⟩ : ∃ P : Nat, (G (nI t - 20)).1.toInt.natAbs = P := ⟨_, rfl⟩
      rw [hP, hQ, hV] at r5
      rw [hA, hB, hD] at h5
      rw [hP, hQ, hV, hD, hB, hA, Int.natAbs_natCast, Int.natAbs_natCast, Int.natAbs_natCast]
      have r6 : P * S = Q * V := by
        have : ((P * S : Nat) : Int) = ((Q * V : Nat) : Int) := by rw [Int.natCast_mul, Int.natCast_mul]; exact r5
        exact Int.ofNat.inj this
      have h6 : A * S = B * D := by
        have : ((A * S : Nat) : Int) = ((B * D : Nat) : Int) := by rw [Int.natCast_mul, Int.natCast_mul]; exact h5
        exact Int.ofNat.inj this
      have hQ0 : 0 < Q := by omega
      have hB0 : 0 < B := by omega
      have x1 : P * B * S = Q * B * V := by
        have : P * B * S = P * S * B := by ac_rfl
        rw [this, r6]; ac_rfl
      have x2 : A * Q * S = Q * B * D := by
        have : A * Q * S = A * S * Q := by ac_rfl
        rw [this, h6]; ac_rfl
      have hQB : 0 < Q * B := Nat.mul_pos hQ0 hB0
      constructor
      · intro hlt
        have hm : P * B * S < A * Q * S := Nat.mul_lt_mul_of_pos_right hlt hS
        rw [x1, x2] at hm
        have := Nat.lt_of_mul_lt_mul_left hm
        omega
      · intro hle
        have hvd : V < D := by omega
        have hm : Q * B * V < Q * B * D := Nat.mul_lt_mul_of_pos_left hvd hQB
        rw [← x1, ← x2] at hm
        exact Nat.lt_of_mul_lt_mul_right hm
    rw [apS, amS]
    by_cases c : gap (nI t - 20) ≤ s.1
    · rw [if_pos c, if_neg (fun z => z.elim hn (fun y => key.mp y c))]
      exact ap_loop hS h k (t + 1) s r (by omega) ⟨r1, r2, r3, r4, r5⟩
    · rw [if_neg c, if_pos (Or.inr (key.mpr c))]
      exact ap_loop hS h k (t + 1) _ _ (by omega) hnew
theorem ap_start {S : Nat} (hS : 0 < S) {gap : Int32 → Int64} {G : Int32 → Int64 × Int64} (h : apOk S gap G) {k t : Nat} {a : Int32} (hk : t + (k + 1) ≤ 41) : apRel S (apS gap (k + 1) t (-1, a)) (amS G (k + 1) t (-1, 1, a)) := by
  rw [apS, amS]
  have h1 := (h t (by omega)).1
  have c : ¬ gap (nI t - 20) ≤ (-1 : Int64) := fun z => by
    rw [fa_le64] at z
    have : (-1 : Int64).toInt = -1 := rfl
    omega
  rw [if_neg c, if_pos (Or.inl (show (-1 : Int64) < 0 by decide))]
  exact ap_loop hS h k (t + 1) _ _ (by omega) (apOk_new h (by omega))
theorem apS_ge {gap : Int32 → Int64} : ∀ (k t : Nat) (s : Int64 × Int32), -1 ≤ s.1.toInt → -1 ≤ (apS gap k t s).1.toInt
  | 0, _, _, h => h
  | k + 1, t, s, h => by
    rw [apS]
    by_cases c : gap (nI t - 20) ≤ s.1
    · rw [if_pos c]; exact apS_ge k (t + 1) s h
    · rw [if_neg c]
      refine apS_ge k (t + 1) _ ?_
      rw [fa_le64] at c
      show -1 ≤ (gap (nI t - 20)).toInt
      omega
theorem s2M_cong {f1 y1 f2 y2 f1' y1' f2' y2' : Nat → Int32} {n1 n2 : Nat} {x : Int32} (h1 : ∀ k, k < n1 → f1 k = f1' k ∧ y1 k = y1' k) (h2 : ∀ k, k < n2 → f2 k = f2' k ∧ y2 k = y2' k) : s2M f1' y1' f2' y2' n1 n2 x = s2M f1 y1 f2 y2 n1 n2 x := by
  unfold s2M
  rw [← acS_cong h2 n2 (Nat.le_refl n2), ← acS_cong h1 n1 (Nat.le_refl n1)]
theorem okM_cong {f1 y1 f2 y2 f1' y1' f2' y2' : Nat → Int32} {n1 n2 : Nat} {x : Int32} (h1 : ∀ k, k < n1 → f1 k = f1' k ∧ y1 k = y1' k) (h2 : ∀ k, k < n2 → f2 k = f2' k ∧ y2 k = y2' k) (k : okM f1 y1 f2 y2 n1 n2 x) : okM f1' y1' f2' y2' n1 n2 x := by
  obtain ⟨k1, k2, k3, k4⟩ := k
  refine ⟨okC_cong h1 k1, ?_, by rw [s2M_cong h1 h2]; exact k3, by rw [s2M_cong h1 h2]; exact k4⟩
  rw [← acS_cong h1 n1 (Nat.le_refl n1)]
  exact okC_cong h2 k2
theorem ap_all {f1 y1 f2 y2 f1' y1' f2' y2' : Nat → Int32} {n1 n2 : Nat} (q1 : 1 ≤ n1) (h1 : n1 ≤ 4) (q2 : 1 ≤ n2) (h2 : n2 ≤ 4) (hf1 : ∀ k, k < n1 → BdI (f1 k) 20 ∧ BdI (y1 k) 10000) (hf2 : ∀ k, k < n2 → BdI (f2 k) 20 ∧ BdI (y2 k) 10000) (d1 : ∀ i, i < n1 → ∀ k, k < i → ¬ f1 k = f1 i) (d2 : ∀ i, i < n2 → ∀ k, k < i → ¬ f2 k = f2 i) (c1 : ∀ k, k < n1 → f1 k = f1' k ∧ y1 k = y1' k) (c2 : ∀ k, k < n2 → f2 k = f2' k ∧ y2 k = y2' k) : ∃ S : Nat, 0 < S ∧ S < 2 ^ 63 ∧ (shA f1 f2 n1 n2).toInt = (S : Int) ∧ okT f1 n1 ∧ okT f2 n2 ∧ (∀ t, t ≤ 40 → okM f1' y1' f2' y2' n1 n2 (nI t - 20)) ∧ apOk S (gpA f1 y1 f2 y2 n1 n2 (shA f1 f2 n1 n2)) (s2M f1' y1' f2' y2' n1 n2) := by
  obtain ⟨a, K1⟩ := tab_all q1 h1 (fun k hk => (hf1 k hk).1) d1
  obtain ⟨b, K2⟩ := tab_all q2 h2 (fun k hk => (hf2 k hk).1) d2
  obtain ⟨t1, A, e1, e2, e3, e4, e5⟩ := okT_of h1 (fun k hk => (hf1 k hk).1) K1
  obtain ⟨t2, B, g1, g2, g3, g4, g5⟩ := okT_of h2 (fun k hk => (hf2 k hk).1) K2
  obtain ⟨a0, a1, a2, a3⟩ := K1
  obtain ⟨b0, b1, b2, b3⟩ := K2
  have hZ : Nat.lcm A B ∣ 6 * a * b := Nat.lcm_dvd (Nat.dvd_trans e3 (Nat.dvd_mul_right _ _)) (Nat.dvd_trans g3 ⟨a, by ac_rfl⟩)
  have hZ0 : 0 < 6 * a * b := Nat.mul_pos (by omega) b0
  have hle := Nat.le_of_dvd hZ0 hZ
  have hZb : 6 * a * b ≤ 49188720 * 8198120 := Nat.mul_le_mul a1 (by omega)
  have hS0 : 0 < Nat.lcm A B := Nat.lcm_pos e2 g2
  have hsh : (shA f1 f2 n1 n2).toInt = (Nat.lcm A B : Int) := by
    unfold shA
    exact lcm_v e1 (by rw [g1, Int.natAbs_natCast]) e2 g2 (by omega) (by omega)
  have p1 : ∀ k, k < n1 → pZ f1 k (f1 k).toInt n1 ≠ 0 ∧ (pZ f1 k (f1 k).toInt n1).natAbs ∣ Nat.lcm A B := fun k hk => ⟨(e5 k hk).1, Nat.dvd_trans (e5 k hk).2 (Nat.dvd_lcm_left _ _)⟩
  have p2 : ∀ k, k < n2 → pZ f2 k (f2 k).toInt n2 ≠ 0 ∧ (pZ f2 k (f2 k).toInt n2).natAbs ∣ Nat.lcm A B := fun k hk => ⟨(g5 k hk).1, Nat.dvd_trans (g5 k hk).2 (Nat.dvd_lcm_right _ _)⟩
  have all : ∀ t, t ≤ 40 → okM f1 y1 f2 y2 n1 n2 (nI t - 20) ∧ 0 ≤ (gpA f1 y1 f2 y2 n1 n2 (shA f1 f2 n1 n2) (nI t - 20)).toInt ∧ (s2M f1 y1 f2 y2 n1 n2 (nI t - 20)).2.toInt.natAbs < 2 ^ 63 ∧ ((s2M f1 y1 f2 y2 n1 n2 (nI t - 20)).1.toInt.natAbs : Int) * (Nat.lcm A B : Nat) = (s2M f1 y1 f2 y2 n1 n2 (nI t - 20)).2.toInt * (gpA f1 y1 f2 y2 n1 n2 (shA f1 f2 n1 n2) (nI t - 20)).toInt := fun t ht => by
    have ti := tw_int (t := t) (by omega)
    have hx : BdI (nI t - 20) 20 := by unfold BdI; rw [ti]; omega
    have w1 := a3 (nI t - 20).toInt hx
    have w2 := b3 (nI t - 20).toInt hx
    have m1 := ww_mono f1 (nI t - 20).toInt hle n1 n1
    have m2 := ww_mono f2 (nI t - 20).toInt hle n2 n2
    rw [ww_mul f1 _ b n1 n1 (fun k hk => (a2 k hk).2)] at m1
    rw [show 6 * a * b = 6 * b * a by ac_rfl, ww_mul f2 _ a n2 n2 (fun k hk => (b2 k hk).2)] at m2
    have hp := pair_bd a1 b1 w1 w2
    exact ap_x h1 h2 hx hf1 hf2 hsh hS0 (by omega) p1 p2 (by omega)
  refine ⟨Nat.lcm A B, hS0, by omega, hsh, t1, t2, fun t ht => okM_cong c1 c2 (all t ht).1, fun t ht => ?_⟩
  obtain ⟨x1, x2, x3, x4⟩ := all t ht
  rw [s2M_cong c1 c2]
  exact ⟨x2, x1.2.2.1, x1.2.2.2, x3, x4⟩
theorem ap_hok {g : mm_I} (R : RT g) (a b : Int32) : ∀ j k, j < 4 → k < 4 → ¬ (g 10 j).toNatClampNeg = 0 → ¬ (g 10 k).toNatClampNeg = 0 → okT (g (45 + j)) (g 10 j).toNatClampNeg ∧ okT (g (45 + k)) (g 10 k).toNatClampNeg ∧ (apR (g (45 + j)) (g (49 + j)) (g (45 + k)) (g (49 + k)) (g 10 j).toNatClampNeg (g 10 k).toNatClampNeg a b).1.toInt.natAbs < 2 ^ 63 ∧ (shA (g (45 + j)) (g (45 + k)) (g 10 j).toNatClampNeg (g 10 k).toNatClampNeg).toInt.natAbs < 2 ^ 63 ∧ ¬ shA (g (45 + j)) (g (45 + k)) (g 10 j).toNatClampNeg (g 10 k).toNatClampNeg = 0 := by
  intro j k hj hk h0 h1
  obtain ⟨n, hn, e1, e2, e3, e4, e5⟩ := R j hj
  obtain ⟨m, hm, u1, u2, u3, u4, u5⟩ := R k hk
  have cn : (g 10 j).toNatClampNeg = n := by rw [e1]; exact cl_nI (by omega)
  have cm : (g 10 k).toNatClampNeg = m := by rw [u1]; exact cl_nI (by omega)
  rw [cn] at h0
  rw [cm] at h1
  rw [cn, cm]
  obtain ⟨S, s1, s2, s3, s4, s5, s6, s7⟩ := ap_all (by omega) hn (by omega) hm e4 u4 e5 u5 (f1' := g (45 + j)) (y1' := g (49 + j)) (f2' := g (45 + k)) (y2' := g (49 + k)) (fun _ _ => ⟨rfl, rfl⟩) (fun _ _ => ⟨rfl, rfl⟩)
  refine ⟨s4, s5, ?_, by rw [s3, Int.natAbs_natCast]; exact s2, fun z => ?_⟩
  · have h9 := apS_ge (gap := gpA (g (45 + j)) (g (49 + j)) (g (45 + k)) (g (49 + k)) n m (shA (g (45 + j)) (g (45 + k)) n m)) (tnat b + 1 - tnat a) (tnat a) (-1, a) (by show (-1 : Int) ≤ -1; decide)
    have h8 := Int64.toInt_lt (apR (g (45 + j)) (g (49 + j)) (g (45 + k)) (g (49 + k)) n m a b).1
    have h7 : -1 ≤ (apR (g (45 + j)) (g (49 + j)) (g (45 + k)) (g (49 + k)) n m a b).1.toInt := h9
    omega
  · rw [z] at s3
    have : (0 : Int64).toInt = 0 := rfl
    omega
theorem ap_hokM {g : mm_I} (R : RT g) : ∀ j k, j < 4 → k < 4 → ¬ (g 17 j).toNatClampNeg = 0 → ¬ (g 17 k).toNatClampNeg = 0 → ∀ t, t ≤ 40 → okM (fun q => g 18 (4 * j + q)) (fun q => g 19 (4 * j + q)) (fun q => g 18 (4 * k + q)) (fun q => g 19 (4 * k + q)) (g 17 j).toNatClampNeg (g 17 k).toNatClampNeg (nI t - 20) := by
  intro j k hj hk h0 h1
  obtain ⟨n, hn, e1, e2, e3, e4, e5⟩ := R j hj
  obtain ⟨m, hm, u1, u2, u3, u4, u5⟩ := R k hk
  have cn : (g 17 j).toNatClampNeg = n := by rw [e2]; exact cl_nI (by omega)
  have cm : (g 17 k).toNatClampNeg = m := by rw [u2]; exact cl_nI (by omega)
  rw [cn] at h0
  rw [cm] at h1
  rw [cn, cm]
  obtain ⟨S, s1, s2, s3, s4, s5, s6, s7⟩ := ap_all (by omega) hn (by omega) hm e4 u4 e5 u5 (f1' := fun q => g 18 (4 * j + q)) (y1' := fun q => g 19 (4 * j + q)) (f2' := fun q => g 18 (4 * k + q)) (y2' := fun q => g 19 (4 * k + q)) (fun i hi => e3 i (by omega)) (fun i hi => u3 i (by omega))
  exact s6
theorem ap_fin {g : mm_I} (R : RT g) {j k n m : Nat} {a b : Int32} (hj : j < 4) (hk : k < 4) (en : g 10 j = nI n) (em : g 10 k = nI m) (hn : n ≤ 4) (hm : m ≤ 4) (n0 : ¬ n = 0) (m0 : ¬ m = 0) (ha : inX a) (hb : inX b) (hab : a ≤ b) : (apR (g (45 + j)) (g (49 + j)) (g (45 + k)) (g (49 + k)) n m a b).2 = (amR (fun q => g 18 (4 * j + q)) (fun q => g 19 (4 * j + q)) (fun q => g 18 (4 * k + q)) (fun q => g 19 (4 * k + q)) n m a b).2.2 ∧ ((apR (g (45 + j)) (g (49 + j)) (g (45 + k)) (g (49 + k)) n m a b).1 / tlG (apR (g (45 + j)) (g (49 + j)) (g (45 + k)) (g (49 + k)) n m a b).1 (shA (g (45 + j)) (g (45 + k)) n m) = (amR (fun q => g 18 (4 * j + q)) (fun q => g 19 (4 * j + q)) (fun q => g 18 (4 * k + q)) (fun q => g 19 (4 * k + q)) n m a b).1 / tlG (amR (fun q => g 18 (4 * j + q)) (fun q => g 19 (4 * j + q)) (fun q => g 18 (4 * k + q)) (fun q => g 19 (4 * k + q)) n m a b).1 (amR (fun q => g 18 (4 * j + q)) (fun q => g 19 (4 * j + q)) (fun q => g 18 (4 * k + q)) (fun q => g 19 (4 * k + q)) n m a b).2.1 ∧ shA (g (45 + j)) (g (45 + k)) n m / tlG (apR (g (45 + j)) (g (49 + j)) (g (45 + k)) (g (49 + k)) n m a b).1 (shA (g (45 + j)) (g (45 + k)) n m) = (amR (fun q => g 18 (4 * j + q)) (fun q => g 19 (4 * j + q)) (fun q => g 18 (4 * k + q)) (fun q => g 19 (4 * k + q)) n m a b).2.1 / tlG (amR (fun q => g 18 (4 * j + q)) (fun q => g 19 (4 * j + q)) (fun q => g 18 (4 * k + q)) (fun q => g 19 (4 * k + q)) n m a b).1 (amR (fun q => g 18 (4 * j + q)) (fun q => g 19 (4 * j + q)) (fun q => g 18 (4 * k + q)) (fun q => g 19 (4 * k + q)) n m a b).2.1) := by
  obtain ⟨n', hn', e1, e2, e3, e4, e5⟩ := R j hj
  obtain ⟨m', hm', u1, u2, u3, u4, u5⟩ := R k hk
  have x1 : n' = n := (nI_eq (by omega) (by omega)).mp (e1.symm.trans en)
  have x2 : m' = m := (nI_eq (by omega) (by omega)).mp (u1.symm.trans em)
  subst x1 x2
  obtain ⟨S, s1, s2, s3, s4, s5, s6, s7⟩ := ap_all (by omega) hn (by omega) hm e4 u4 e5 u5 (f1' := fun q => g 18 (4 * j + q)) (y1' := fun q => g 19 (4 * j + q)) (f2' := fun q => g 18 (4 * k + q)) (y2' := fun q => g 19 (4 * k + q)) (fun i hi => e3 i (by omega)) (fun i hi => u3 i (by omega))
  obtain ⟨ta, hta, xa⟩ := tw_pos ha
  obtain ⟨tb, htb, xb⟩ := tw_pos hb
  have hle : ta ≤ tb := by rw [xa, xb] at hab; exact (tw_le (by omega) (by omega)).mp hab
  have tna : tnat a = ta := by rw [xa]; exact tnat_tw (by omega)
  have tnb : tnat b = tb := by rw [xb]; exact tnat_tw (by omega)
  have st := ap_start s1 s7 (k := tb - ta) (t := ta) (a := a) (by omega)
  have eA : apR (g (45 + j)) (g (49 + j)) (g (45 + k)) (g (49 + k)) n' m' a b = apS (gpA (g (45 + j)) (g (49 + j)) (g (45 + k)) (g (49 + k)) n' m' (shA (g (45 + j)) (g (45 + k)) n' m')) (tb - ta + 1) ta (-1, a) := by
    unfold apR
    rw [tna, tnb, show tb + 1 - ta = tb - ta + 1 by omega]
  have eM : amR (fun q => g 18 (4 * j + q)) (fun q => g 19 (4 * j + q)) (fun q => g 18 (4 * k + q)) (fun q => g 19 (4 * k + q)) n' m' a b = amS (s2M (fun q => g 18 (4 * j + q)) (fun q => g 19 (4 * j + q)) (fun q => g 18 (4 * k + q)) (fun q => g 19 (4 * k + q)) n' m') (tb - ta + 1) ta (-1, 1, a) := by
    unfold amR
    rw [tna, tnb, show tb + 1 - ta = tb - ta + 1 by omega]
  rw [← eA, ← eM] at st
  obtain ⟨r1, r2, r3, r4, r5⟩ := st
  have l1 := Int64.toInt_lt (apR (g (45 + j)) (g (49 + j)) (g (45 + k)) (g (49 + k)) n' m' a b).1
  have l2 := Int64.toInt_lt (amR (fun q => g 18 (4 * j + q)) (fun q => g 19 (4 * j + q)) (fun q => g 18 (4 * k + q)) (fun q => g 19 (4 * k + q)) n' m' a b).1
  have l3 := Int64.toInt_lt (amR (fun q => g 18 (4 * j + q)) (fun q => g 19 (4 * j + q)) (fun q => g 18 (4 * k + q)) (fun q => g 19 (4 * k + q)) n' m' a b).2.1
  refine ⟨r1, red_eq (by rw [s3]; omega) r4 (by omega) (by omega) (by rw [s3, Int.natAbs_natCast]; exact s2) (by omega) ?_⟩
  rw [s3, r5, Int.mul_comm]
theorem op_apart (a0 a1 a2 a3 : Int32) (E : mm_E) (g : mm_I) (h : mm_L) (R : Rl g h) : OpI E yX6_apart wsX6_apart 4 102 yX7_apart wsX7_apart 4 111 [.int a0, .int a1, .int a2, .int a3] g h := by
  by_cases q1 : ¬ a0 < 0 ∧ ¬ 3 < a0
  · obtain ⟨j, hj, ej⟩ := to_nat (M := 3) (m := 3) rfl q1
    have cj : a0.toNatClampNeg = j := by rw [ej]; exact cl_nI (by omega)
    obtain ⟨n, hn, e1, e2, _⟩ := R.2.1 j (by omega)
    have cn : (g 10 j).toNatClampNeg = n := by rw [e1]; exact cl_nI (by omega)
    have cn2 : (g 17 j).toNatClampNeg = n := by rw [e2]; exact cl_nI (by omega)
    by_cases q2 : ¬ a1 < 0 ∧ ¬ 3 < a1
    · obtain ⟨k, hk, ek⟩ := to_nat (M := 3) (m := 3) rfl q2
      have ck : a1.toNatClampNeg = k := by rw [ek]; exact cl_nI (by omega)
      obtain ⟨m, hm, u1, u2, _⟩ := R.2.1 k (by omega)
      have cm : (g 10 k).toNatClampNeg = m := by rw [u1]; exact cl_nI (by omega)
      have cm2 : (g 17 k).toNatClampNeg = m := by rw [u2]; exact cl_nI (by omega)
      by_cases q3 : inX a2
      · by_cases q4 : inX a3
        · by_cases q5 : a2 ≤ a3
          · by_cases q6 : n = 0
            · have A := c_X6_apart E g h a0 a1 a2 a3 (rt_st R.2.1) (ap_hok R.2.1 a2 a3)
              have B := c_X7_apart E g h a0 a1 a2 a3 (rt_stM R.2.1) (ap_hokM R.2.1)
              simp only [dApart, if_pos q1, cj, cn, cn2, if_pos q2, ck, cm, cm2, if_pos q3, if_pos q4, if_pos q5, if_pos q6] at A B
              exact ⟨_, _, _, _, _, A, B, R⟩
            · by_cases q7 : m = 0
              · have A := c_X6_apart E g h a0 a1 a2 a3 (rt_st R.2.1) (ap_hok R.2.1 a2 a3)
                have B := c_X7_apart E g h a0 a1 a2 a3 (rt_stM R.2.1) (ap_hokM R.2.1)
                simp only [dApart, if_pos q1, cj, cn, cn2, if_pos q2, ck, cm, cm2, if_pos q3, if_pos q4, if_pos q5, if_neg q6, if_pos q7] at A B
                exact ⟨_, _, _, _, _, A, B, R⟩
              · have F := ap_fin R.2.1 (show j < 4 by omega) (show k < 4 by omega) e1 u1 hn hm q6 q7 q3 q4 q5
                have A := c_X6_apart E g h a0 a1 a2 a3 (rt_st R.2.1) (ap_hok R.2.1 a2 a3)
                have B := c_X7_apart E g (tlC h (apR (g (45 + j)) (g (49 + j)) (g (45 + k)) (g (49 + k)) n m a2 a3).1 (shA (g (45 + j)) (g (45 + k)) n m)) a0 a1 a2 a3 (rt_stM R.2.1) (ap_hokM R.2.1)
                simp only [dApart, if_pos q1, cj, cn, cn2, if_pos q2, ck, cm, cm2, if_pos q3, if_pos q4, if_pos q5, if_neg q6, if_neg q7] at A B
                rw [← F.1, Int32.add_comm] at B
                exact ⟨_, _, _, _, _, A, B, rl_tell2 R F.2⟩
          · have A := c_X6_apart E g h a0 a1 a2 a3 (rt_st R.2.1) (ap_hok R.2.1 a2 a3)
            have B := c_X7_apart E g h a0 a1 a2 a3 (rt_stM R.2.1) (ap_hokM R.2.1)
            simp only [dApart, if_pos q1, cj, cn, cn2, if_pos q2, ck, cm, cm2, if_pos q3, if_pos q4, if_neg q5] at A B
            exact ⟨_, _, _, _, _, A, B, R⟩
        · have A := c_X6_apart E g h a0 a1 a2 a3 (rt_st R.2.1) (ap_hok R.2.1 a2 a3)
          have B := c_X7_apart E g h a0 a1 a2 a3 (rt_stM R.2.1) (ap_hokM R.2.1)
          simp only [dApart, if_pos q1, cj, cn, cn2, if_pos q2, ck, cm, cm2, if_pos q3, if_neg q4] at A B
          exact ⟨_, _, _, _, _, A, B, R⟩
      · have A := c_X6_apart E g h a0 a1 a2 a3 (rt_st R.2.1) (ap_hok R.2.1 a2 a3)
        have B := c_X7_apart E g h a0 a1 a2 a3 (rt_stM R.2.1) (ap_hokM R.2.1)
        simp only [dApart, if_pos q1, cj, cn, cn2, if_pos q2, ck, cm, cm2, if_neg q3] at A B
        exact ⟨_, _, _, _, _, A, B, R⟩
    · have A := c_X6_apart E g h a0 a1 a2 a3 (rt_st R.2.1) (ap_hok R.2.1 a2 a3)
      have B := c_X7_apart E g h a0 a1 a2 a3 (rt_stM R.2.1) (ap_hokM R.2.1)
      simp only [dApart, if_pos q1, cj, cn, cn2, if_neg q2] at A B
      exact ⟨_, _, _, _, _, A, B, R⟩
  · have A := c_X6_apart E g h a0 a1 a2 a3 (rt_st R.2.1) (ap_hok R.2.1 a2 a3)
    have B := c_X7_apart E g h a0 a1 a2 a3 (rt_stM R.2.1) (ap_hokM R.2.1)
    simp only [dApart, if_neg q1] at A B
    exact ⟨_, _, _, _, _, A, B, R⟩
