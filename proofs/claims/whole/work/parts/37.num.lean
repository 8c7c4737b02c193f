def ds (p q : Nat) : Nat := (p - q) + (q - p)
def F5 (a b c d e : Nat) : Nat := ds a b * ds a c * ds a d * ds b c * ds b d * ds c d + ds b c * ds b d * ds c d * (ds e b * ds e c * ds e d) + ds a c * ds a d * ds c d * (ds e a * ds e c * ds e d) + ds a b * ds a d * ds b d * (ds e a * ds e b * ds e d) + ds a b * ds a c * ds b c * (ds e a * ds e b * ds e c)
theorem ds_c (p q : Nat) : ds p q = ds q p := by unfold ds; omega
theorem F5_s1 (a b c d e : Nat) : F5 b a c d e = F5 a b c d e := by
  unfold F5
  rw [ds_c b a]
  ac_rfl
theorem F5_s2 (a b c d e : Nat) : F5 a c b d e = F5 a b c d e := by
  unfold F5
  rw [ds_c c b]
  ac_rfl
theorem F5_s3 (a b c d e : Nat) : F5 a b d c e = F5 a b c d e := by
  unfold F5
  rw [ds_c d c]
  ac_rfl
theorem F5_s4 (a b c d e : Nat) : F5 a b c e d = F5 a b c d e := by
  unfold F5
  rw [ds_c e a, ds_c e b, ds_c e c, ds_c e d, ds_c d a, ds_c d b, ds_c d c]
  ac_rfl
def G4 (a b c d : Nat) : Nat := a * (a + b) * (a + b + c) * b * (b + c) * c + b * (b + c) * c * ((b + c + d) * (c + d) * d) + (a + b) * (a + b + c) * c * ((a + b + c + d) * (c + d) * d) + a * (a + b + c) * (b + c) * ((a + b + c + d) * (b + c + d) * d) + a * (a + b) * b * ((a + b + c + d) * (b + c + d) * (c + d))
set_option maxRecDepth 20000 in
theorem G4_40 : ∀ a, a < 41 → ∀ b, b < 41 - a → ∀ c, c < 41 - a - b → G4 a b c (40 - a - b - c) ≤ 196754880 := by decide +kernel
theorem G4_mono {a b c d d' : Nat} (h : d ≤ d') : G4 a b c d ≤ G4 a b c d' := by
  have h1 : c + d ≤ c + d' := by omega
  have h2 : b + c + d ≤ b + c + d' := by omega
  have h3 : a + b + c + d ≤ a + b + c + d' := by omega
  unfold G4
  exact Nat.add_le_add (Nat.add_le_add (Nat.add_le_add (Nat.add_le_add (Nat.le_refl _) (Nat.mul_le_mul (Nat.le_refl _) (Nat.mul_le_mul (Nat.mul_le_mul h2 h1) h))) (Nat.mul_le_mul (Nat.le_refl _) (Nat.mul_le_mul (Nat.mul_le_mul h3 h1) h))) (Nat.mul_le_mul (Nat.le_refl _) (Nat.mul_le_mul (Nat.mul_le_mul h3 h2) h))) (Nat.mul_le_mul (Nat.le_refl _) (Nat.mul_le_mul (Nat.mul_le_mul h3 h2) h1))
theorem F5_sorted {a b c d e : Nat} (h1 : a ≤ b) (h2 : b ≤ c) (h3 : c ≤ d) (h4 : d ≤ e) (h5 : e ≤ 40) : F5 a b c d e ≤ 196754880 := by
  have e1 : F5 a b c d e = G4 (b - a) (c - b) (d - c) (e - d) := by
    unfold F5 G4
    rw [show ds a b = b - a by unfold ds; omega, show ds a c = b - a + (c - b) by unfold ds; omega, show ds a d = b - a + (c - b) + (d - c) by unfold ds; omega, show ds b c = c - b by unfold ds; omega, show ds b d = c - b + (d - c) by unfold ds; omega, show ds c d = d - c by unfold ds; omega, show ds e a = b - a + (c - b) + (d - c) + (e - d) by unfold ds; omega, show ds e b = c - b + (d - c) + (e - d) by unfold ds; omega, show ds e c = d - c + (e - d) by unfold ds; omega, show ds e d = e - d by unfold ds; omega]
  rw [e1]
  exact Nat.le_trans (G4_mono (show e - d ≤ 40 - (b - a) - (c - b) - (d - c) by omega)) (G4_40 (b - a) (by omega) (c - b) (by omega) (d - c) (by omega))
theorem F5_4 {a b c d e : Nat} (ha : a ≤ 40) (h2 : b ≤ c) (h3 : c ≤ d) (h4 : d ≤ e) (h5 : e ≤ 40) : F5 a b c d e ≤ 196754880 := by
  by_cases c1 : a ≤ b
  · exact F5_sorted c1 h2 h3 h4 h5
  rw [← F5_s1]
  by_cases c2 : a ≤ c
  · exact F5_sorted (by omega) c2 h3 h4 h5
  rw [← F5_s2]
  by_cases c3 : a ≤ d
  · exact F5_sorted (by omega) (by omega) c3 h4 h5
  rw [← F5_s3]
  by_cases c4 : a ≤ e
  · exact F5_sorted (by omega) (by omega) (by omega) c4 h5
  rw [← F5_s4]
  exact F5_sorted (by omega) (by omega) (by omega) (by omega) (by omega)
theorem F5_3 {a b c d e : Nat} (ha : a ≤ 40) (hb : b ≤ 40) (h3 : c ≤ d) (h4 : d ≤ e) (h5 : e ≤ 40) : F5 a b c d e ≤ 196754880 := by
  by_cases c1 : b ≤ c
  · exact F5_4 ha c1 h3 h4 h5
  rw [← F5_s2]
  by_cases c2 : b ≤ d
  · exact F5_4 ha (by omega) c2 h4 h5
  rw [← F5_s3]
  by_cases c3 : b ≤ e
  · exact F5_4 ha (by omega) (by omega) c3 h5
  rw [← F5_s4]
  exact F5_4 ha (by omega) (by omega) (by omega) (by omega)
theorem F5_2 {a b c d e : Nat} (ha : a ≤ 40) (hb : b ≤ 40) (hc : c ≤ 40) (h4 : d ≤ e) (h5 : e ≤ 40) : F5 a b c d e ≤ 196754880 := by
  by_cases c1 : c ≤ d
  · exact F5_3 ha hb c1 h4 h5
  rw [← F5_s3]
  by_cases c2 : c ≤ e
  · exact F5_3 ha hb (by omega) c2 h5
  rw [← F5_s4]
  exact F5_3 ha hb (by omega) (by omega) (by omega)
theorem F5_le {a b c d e : Nat} (ha : a ≤ 40) (hb : b ≤ 40) (hc : c ≤ 40) (hd : d ≤ 40) (he : e ≤ 40) : F5 a b c d e ≤ 196754880 := by
  by_cases c1 : d ≤ e
  · exact F5_2 ha hb hc c1 he
  rw [← F5_s4]
  exact F5_2 ha hb hc (by omega) hd
theorem tri_2 (a b c : Nat) : 2 ∣ ds a b * ds a c * ds b c := by
  have h : ds a b % 2 = 0 ∨ ds a c % 2 = 0 ∨ ds b c % 2 = 0 := by unfold ds; omega
  rcases h with h | h | h
  · exact Nat.dvd_trans (Nat.dvd_of_mod_eq_zero h) (Nat.dvd_trans (Nat.dvd_mul_right _ _) (Nat.dvd_mul_right _ _))
  · exact Nat.dvd_trans (Nat.dvd_of_mod_eq_zero h) (Nat.dvd_trans (Nat.dvd_mul_left _ _) (Nat.dvd_mul_right _ _))
  · exact Nat.dvd_trans (Nat.dvd_of_mod_eq_zero h) (Nat.dvd_mul_left _ _)
theorem quad_4 (a b c d : Nat) : 4 ∣ ds a b * ds a c * ds b c * (ds a d * ds b d * ds c d) := by
  by_cases h : ds a d % 2 = 0 ∨ ds b d % 2 = 0 ∨ ds c d % 2 = 0
  · have h2 : 2 ∣ ds a d * ds b d * ds c d := by
      rcases h with h | h | h
      · exact Nat.dvd_trans (Nat.dvd_of_mod_eq_zero h) (Nat.dvd_trans (Nat.dvd_mul_right _ _) (Nat.dvd_mul_right _ _))
      · exact Nat.dvd_trans (Nat.dvd_of_mod_eq_zero h) (Nat.dvd_trans (Nat.dvd_mul_left _ _) (Nat.dvd_mul_right _ _))
      · exact Nat.dvd_trans (Nat.dvd_of_mod_eq_zero h) (Nat.dvd_mul_left _ _)
    exact Nat.mul_dvd_mul (tri_2 a b c) h2
  · have h1 : ds a b % 2 = 0 := by unfold ds at *; omega
    have h2 : ds a c % 2 = 0 := by unfold ds at *; omega
    exact Nat.dvd_trans (Nat.mul_dvd_mul (Nat.dvd_of_mod_eq_zero h1) (Nat.dvd_of_mod_eq_zero h2)) (Nat.dvd_trans (Nat.dvd_mul_right _ _) (Nat.dvd_mul_right _ _))
theorem quad_3 (a b c d : Nat) : 3 ∣ ds a b * ds a c * ds b c * (ds a d * ds b d * ds c d) := by
  have h : ds a b % 3 = 0 ∨ ds a c % 3 = 0 ∨ ds b c % 3 = 0 ∨ ds a d % 3 = 0 ∨ ds b d % 3 = 0 ∨ ds c d % 3 = 0 := by unfold ds; omega
  rcases h with h | h | h | h | h | h
  · exact Nat.dvd_trans (Nat.dvd_of_mod_eq_zero h) (Nat.dvd_trans (Nat.dvd_mul_right _ _) (Nat.dvd_trans (Nat.dvd_mul_right _ _) (Nat.dvd_mul_right _ _)))
  · exact Nat.dvd_trans (Nat.dvd_of_mod_eq_zero h) (Nat.dvd_trans (Nat.dvd_mul_left _ _) (Nat.dvd_trans (Nat.dvd_mul_right _ _) (Nat.dvd_mul_right _ _)))
  · exact Nat.dvd_trans (Nat.dvd_of_mod_eq_zero h) (Nat.dvd_trans (Nat.dvd_mul_left _ _) (Nat.dvd_mul_right _ _))
  · exact Nat.dvd_trans (Nat.dvd_of_mod_eq_zero h) (Nat.dvd_trans (Nat.dvd_mul_right _ _) (Nat.dvd_trans (Nat.dvd_mul_right _ _) (Nat.dvd_mul_left _ _)))
  · exact Nat.dvd_trans (Nat.dvd_of_mod_eq_zero h) (Nat.dvd_trans (Nat.dvd_mul_left _ _) (Nat.dvd_trans (Nat.dvd_mul_right _ _) (Nat.dvd_mul_left _ _)))
  · exact Nat.dvd_trans (Nat.dvd_of_mod_eq_zero h) (Nat.dvd_trans (Nat.dvd_mul_left _ _) (Nat.dvd_mul_left _ _))
def pZ (f : Nat → Int32) (l : Nat) (x : Int) : Nat → Int
  | 0 => 1
  | n + 1 => if n = l then pZ f l x n else pZ f l x n * (x - (f n).toInt)
theorem pZ_bd {f : Nat → Int32} {l : Nat} {x : Int} (hx : x.natAbs ≤ 20) : ∀ {n : Nat}, (∀ k, k < n → BdI (f k) 20) → (pZ f l x n).natAbs ≤ 40 ^ n
  | 0, _ => by show (1 : Int).natAbs ≤ 1; decide
  | n + 1, hf => by
    have ih := pZ_bd hx (l := l) (n := n) (fun k hk => hf k (by omega))
    have hb := hf n (by omega)
    unfold BdI at hb
    rw [pZ, Nat.pow_succ]
    by_cases c : n = l
    · rw [if_pos c]
      exact Nat.le_trans ih (Nat.le_mul_of_pos_right _ (by decide))
    · rw [if_neg c, Int.natAbs_mul]
      exact Nat.mul_le_mul ih (by omega)
theorem p40 {n : Nat} (h : n ≤ 3) : 40 ^ n ≤ 64000 := Nat.le_trans (Nat.pow_le_pow_right (by decide) h) (by decide)
theorem pW_v {f : Nat → Int32} {l : Nat} {x : Int32} (hx : BdI x 20) : ∀ {n : Nat}, n ≤ 4 → (∀ k, k < n → BdI (f k) 20) → (pW f l x n).toInt = pZ f l x.toInt n
  | 0, _, _ => rfl
  | n + 1, hn, hf => by
    have ih := pW_v hx (l := l) (n := n) (by omega) (fun k hk => hf k (by omega))
    have hp := p40 (show n ≤ 3 by omega)
    rw [pW, pZ]
    by_cases c : n = l
    · rw [if_pos c, if_pos c]; exact ih
    · rw [if_neg c, if_neg c]
      have hb := hf n (by omega)
      have B1 : Bd (pW f l x n) (40 ^ n) := by unfold Bd; rw [ih]; exact pZ_bd hx (fun k hk => hf k (by omega))
      rw [mulV B1 (hx.sub hb (by decide)).L (by omega), ih, toL, subIV hx hb (by decide)]
theorem uW_v {f : Nat → Int32} {l : Nat} {x : Int32} {u : Int64} (hx : BdI x 20) (hu : Bd u 10000) : ∀ {n : Nat}, n ≤ 4 → (∀ k, k < n → BdI (f k) 20) → (uW f l x u n).toInt = u.toInt * pZ f l x.toInt n
  | 0, _, _ => by show u.toInt = u.toInt * 1; rw [Int.mul_one]
  | n + 1, hn, hf => by
    have ih := uW_v hx hu (l := l) (n := n) (by omega) (fun k hk => hf k (by omega))
    have hp := p40 (show n ≤ 3 by omega)
    rw [uW, pZ]
    by_cases c : n = l
    · rw [if_pos c, if_pos c]; exact ih
    · rw [if_neg c, if_neg c]
      have hb := hf n (by omega)
      have B1 : Bd (uW f l x u n) (10000 * 40 ^ n) := by unfold Bd; rw [ih, Int.natAbs_mul]; exact Nat.mul_le_mul hu (pZ_bd hx (fun k hk => hf k (by omega)))
      rw [mulV B1 (hx.sub hb (by decide)).L (by omega), ih, toL, subIV hx hb (by decide), Int.mul_assoc]
def tt (f y : Nat → Int32) (x S : Int) (n : Nat) : Nat → Int
  | 0 => 0
  | i + 1 => tt f y x S n i + S / pZ f i (f i).toInt n * pZ f i x n * (y i).toInt
def ww (f : Nat → Int32) (x : Int) (S n : Nat) : Nat → Nat
  | 0 => 0
  | i + 1 => ww f x S n i + S / (pZ f i (f i).toInt n).natAbs * (pZ f i x n).natAbs
theorem ww_le (f : Nat → Int32) (x : Int) (S n : Nat) : ∀ {i j : Nat}, i ≤ j → ww f x S n i ≤ ww f x S n j := by
  intro i j h
  induction h with
  | refl => exact Nat.le_refl _
  | step h ih => rw [ww]; omega
theorem ww_mono (f : Nat → Int32) (x : Int) {S Z : Nat} (h : S ≤ Z) (n : Nat) : ∀ i, ww f x S n i ≤ ww f x Z n i
  | 0 => Nat.le_refl 0
  | i + 1 => by
    rw [ww, ww]
    exact Nat.add_le_add (ww_mono f x h n i) (Nat.mul_le_mul (Nat.div_le_div_right h) (Nat.le_refl _))
theorem ww_mul (f : Nat → Int32) (x : Int) {K : Nat} (b n : Nat) : ∀ i, (∀ k, k < i → (pZ f k (f k).toInt n).natAbs ∣ K) → ww f x (K * b) n i = ww f x K n i * b
  | 0, _ => by rw [ww, ww, Nat.zero_mul]
  | i + 1, h => by
    rw [ww, ww, ww_mul f x b n i (fun k hk => h k (by omega)), Nat.add_mul]
    obtain ⟨m, hm⟩ := h i (by omega)
    have e : K * b / (pZ f i (f i).toInt n).natAbs = K / (pZ f i (f i).toInt n).natAbs * b := by
      by_cases z : (pZ f i (f i).toInt n).natAbs = 0
      · rw [z, Nat.div_zero, Nat.div_zero, Nat.zero_mul]
      · rw [hm, Nat.mul_assoc, Nat.mul_div_cancel_left _ (by omega), Nat.mul_div_cancel_left _ (by omega)]
    rw [e]
    congr 1
    ac_rfl
theorem ex_div {S : Nat} {p : Int} (hp : p ≠ 0) (h : p.natAbs ∣ S) : ((S : Int) / p).natAbs = S / p.natAbs ∧ (S : Int) / p * p = S ∧ p ∣ (S : Int) := by
  have hd : p ∣ (S : Int) := Int.natAbs_dvd_natAbs.mp (by rw [Int.natAbs_natCast]; exact h)
  have e := Int.ediv_mul_cancel hd
  refine ⟨?_, e, hd⟩
  have e2 := congrArg Int.natAbs e
  rw [Int.natAbs_mul, Int.natAbs_natCast] at e2
  exact (Nat.div_eq_of_eq_mul_left (by omega) e2.symm).symm
theorem tt_t {f y : Nat → Int32} {x : Int} {S n i : Nat} (hy : BdI (y i) 10000) (hp : pZ f i (f i).toInt n ≠ 0) (h : (pZ f i (f i).toInt n).natAbs ∣ S) : ((S : Int) / pZ f i (f i).toInt n * pZ f i x n).natAbs = S / (pZ f i (f i).toInt n).natAbs * (pZ f i x n).natAbs ∧ ((S : Int) / pZ f i (f i).toInt n * pZ f i x n * (y i).toInt).natAbs ≤ 10000 * (S / (pZ f i (f i).toInt n).natAbs * (pZ f i x n).natAbs) := by
  have e : ((S : Int) / pZ f i (f i).toInt n * pZ f i x n).natAbs = S / (pZ f i (f i).toInt n).natAbs * (pZ f i x n).natAbs := by rw [Int.natAbs_mul, (ex_div hp h).1]
  refine ⟨e, ?_⟩
  rw [Int.natAbs_mul, e, Nat.mul_comm]
  exact Nat.mul_le_mul hy (Nat.le_refl _)
theorem tt_bd {f y : Nat → Int32} {x : Int} {S n : Nat} (hy : ∀ k, k < n → BdI (y k) 10000) (hp : ∀ k, k < n → pZ f k (f k).toInt n ≠ 0 ∧ (pZ f k (f k).toInt n).natAbs ∣ S) : ∀ i, i ≤ n → (tt f y x S n i).natAbs ≤ 10000 * ww f x S n i
  | 0, _ => by show (0 : Int).natAbs ≤ _; exact Nat.zero_le _
  | i + 1, hi => by
    have ih := tt_bd hy hp (x := x) i (by omega)
    have := (tt_t (x := x) (hy i (by omega)) (hp i (by omega)).1 (hp i (by omega)).2).2
    rw [tt, ww]
    omega
theorem ne_min {a : Int64} (h : a.toInt.natAbs < 2 ^ 63) : a ≠ Int64.minValue := fun z => by
  rw [z] at h
  have : Int64.minValue.toInt = -9223372036854775808 := by decide
  omega
theorem div_x {a b : Int64} (h : a.toInt.natAbs < 2 ^ 63) (hd : b.toInt ∣ a.toInt) : (a / b).toInt = a.toInt / b.toInt := by
  rw [Int64.toInt_div_of_ne_left _ _ (ne_min h), Int.tdiv_eq_ediv_of_dvd hd]
theorem mul_x {a b : Int64} (h : (a.toInt * b.toInt).natAbs < 2 ^ 63) : (a * b).toInt = a.toInt * b.toInt := fb_mulL (by omega) (by omega)
theorem add_x {a b : Int64} (h : (a.toInt + b.toInt).natAbs < 2 ^ 63) : (a + b).toInt = a.toInt + b.toInt := fb_addL (by omega) (by omega)
theorem sub_x {a b : Int64} (h : (a.toInt - b.toInt).natAbs < 2 ^ 63) : (a - b).toInt = a.toInt - b.toInt := fb_subL (by omega) (by omega)
theorem wAt_v {f y : Nat → Int32} {x : Int32} {s : Int64} {S n : Nat} (hn : n ≤ 4) (hx : BdI x 20) (hf : ∀ k, k < n → BdI (f k) 20) (hy : ∀ k, k < n → BdI (y k) 10000) (hs : s.toInt = (S : Int)) (hS : S < 2 ^ 63) (hp : ∀ k, k < n → pZ f k (f k).toInt n ≠ 0 ∧ (pZ f k (f k).toInt n).natAbs ∣ S) (hB : 10000 * ww f x.toInt S n n < 2 ^ 63) : ∀ i, i ≤ n → (wAt f y x s n i).toInt = tt f y x.toInt S n i
  | 0, _ => rfl
  | i + 1, hi => by
    have ih := wAt_v hn hx hf hy hs hS hp hB i (by omega)
    obtain ⟨h0, hd⟩ := hp i (by omega)
    have v1 : (pW f i (f i) n).toInt = pZ f i (f i).toInt n := pW_v (hf i (by omega)) hn hf
    have v2 : (pW f i x n).toInt = pZ f i x.toInt n := pW_v hx hn hf
    have hne : ¬ pW f i (f i) n = 0 := fun z => h0 (by rw [← v1, z]; rfl)
    obtain ⟨t1, t2⟩ := tt_t (x := x.toInt) (hy i (by omega)) h0 hd
    have w1 := ww_le f x.toInt S n (show i + 1 ≤ n by omega)
    have w2 : ww f x.toInt S n (i + 1) = ww f x.toInt S n i + S / (pZ f i (f i).toInt n).natAbs * (pZ f i x.toInt n).natAbs := rfl
    have bT := tt_bd (x := x.toInt) hy hp (i + 1) (by omega)
    have e1 : (s / pW f i (f i) n).toInt = (S : Int) / pZ f i (f i).toInt n := by rw [div_x (by rw [hs, Int.natAbs_natCast]; exact hS) (by rw [hs, v1]; exact (ex_div h0 hd).2.2), hs, v1]
    have e2 : (s / pW f i (f i) n * pW f i x n).toInt = (S : Int) / pZ f i (f i).toInt n * pZ f i x.toInt n := by rw [mul_x (by rw [e1, v2, t1]; omega), e1, v2]
    have e3 : (s / pW f i (f i) n * pW f i x n * (y i).toInt64).toInt = (S : Int) / pZ f i (f i).toInt n * pZ f i x.toInt n * (y i).toInt := by rw [mul_x (by rw [e2, toL]; omega), e2, toL]
    rw [wAt, if_neg hne, add_x (by rw [ih, e3]; rw [tt] at bT; omega), ih, e3, tt]
theorem gcd_v {a b : Int64} {B : Nat} (hb : b.toInt = (B : Int)) (h0 : 0 < B) (hB : B < 2 ^ 63) : (gcdL a b).toInt = (Nat.gcd a.toInt.natAbs B : Int) := by
  unfold gcdL
  rw [hb, Int.natAbs_natCast]
  exact pk_lT (Nat.lt_of_le_of_lt (Nat.gcd_le_right _ h0) hB)
theorem lcm_v {a b : Int64} {A B : Nat} (ha : a.toInt = (A : Int)) (hb : b.toInt.natAbs = B) (hA : 0 < A) (hB : 0 < B) (hA2 : A < 2 ^ 63) (hl : Nat.lcm A B < 2 ^ 63) : (lcmL a b).toInt = (Nat.lcm A B : Int) := by
  have hg : (gcdL a b).toInt = (Nat.gcd A B : Int) := by
    unfold gcdL
    rw [ha, hb, Int.natAbs_natCast]
    exact pk_lT (Nat.lt_of_le_of_lt (Nat.gcd_le_left _ hA) hA2)
  have hg0 : 0 < Nat.gcd A B := Nat.gcd_pos_of_pos_left _ hA
  have hne : ¬ gcdL a b = 0 := fun z => by
    rw [z] at hg
    have : (0 : Int64).toInt = 0 := rfl
    omega
  obtain ⟨m, hm⟩ := Nat.gcd_dvd_left A B
  have e1 : (a / gcdL a b).toInt = (m : Int) := by
    have hdv : (gcdL a b).toInt ∣ a.toInt := by rw [hg, ha]; exact Int.natCast_dvd_natCast.mpr ⟨m, hm⟩
    rw [div_x (by rw [ha, Int.natAbs_natCast]; exact hA2) hdv, hg, ha]
    have : (A : Int) = (Nat.gcd A B : Int) * (m : Int) := by rw [← Int.natCast_mul, ← hm]
    rw [this, Int.mul_ediv_cancel_left _ (by omega)]
  have hlc : Nat.lcm A B = m * B := by
    unfold Nat.lcm
    have : A * B = Nat.gcd A B * (m * B) := by rw [← Nat.mul_assoc, ← hm]
    rw [this, Nat.mul_div_cancel_left _ hg0]
  have hab : (a / gcdL a b * b).toInt.natAbs = Nat.lcm A B := by
    rw [mul_x (by rw [e1, Int.natAbs_mul, Int.natAbs_natCast, hb, ← hlc]; exact hl), e1, Int.natAbs_mul, Int.natAbs_natCast, hb, hlc]
  unfold lcmL
  rw [if_neg hne, abL_v (B := Nat.lcm A B) (by unfold Bd; omega) hl, hab]
theorem cLw_v {f : Nat → Int32} {n K : Nat} (hn : n ≤ 4) (hf : ∀ k, k < n → BdI (f k) 20) (hK0 : 0 < K) (hK : K < 2 ^ 63) (hp : ∀ k, k < n → pZ f k (f k).toInt n ≠ 0 ∧ (pZ f k (f k).toInt n).natAbs ∣ K) : ∀ i, i ≤ n → ∃ A : Nat, (cLw f n i).toInt = (A : Int) ∧ 0 < A ∧ A ∣ K ∧ ∀ k, k < i → (pZ f k (f k).toInt n).natAbs ∣ A
  | 0, _ => ⟨1, rfl, by decide, Nat.one_dvd _, fun k hk => absurd hk (Nat.not_lt_zero k)⟩
  | i + 1, hi => by
    obtain ⟨A, h1, h2, h3, h4⟩ := cLw_v hn hf hK0 hK hp i (by omega)
    obtain ⟨p1, p2⟩ := hp i (by omega)
    have v1 : (pW f i (f i) n).toInt = pZ f i (f i).toInt n := pW_v (hf i (by omega)) hn hf
    have hl : Nat.lcm A (pZ f i (f i).toInt n).natAbs ∣ K := Nat.lcm_dvd h3 p2
    have hle := Nat.le_of_dvd hK0 hl
    have hA := Nat.le_of_dvd hK0 h3
    refine ⟨Nat.lcm A (pZ f i (f i).toInt n).natAbs, ?_, Nat.lcm_pos h2 (by omega), hl, fun k hk => ?_⟩
    · rw [cLw]
      exact lcm_v h1 (by rw [v1]) h2 (by omega) (by omega) (by omega)
    · by_cases e : k = i
      · subst e; exact Nat.dvd_lcm_right _ _
      · exact Nat.dvd_trans (h4 k (by omega)) (Nat.dvd_lcm_left _ _)
