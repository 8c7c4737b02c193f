def Inv (S T : Int) (p : Int64 × Int64) : Prop := 0 < p.2.toInt ∧ p.2.toInt ∣ S ∧ p.1.toInt * S = p.2.toInt * T
theorem bd_of {X T : Int} {L S : Nat} (hL : L ≤ S) (hS : 0 < S) (h : X * (S : Int) = (L : Int) * T) : X.natAbs ≤ T.natAbs := by
  have h1 := congrArg Int.natAbs h
  rw [Int.natAbs_mul, Int.natAbs_mul, Int.natAbs_natCast, Int.natAbs_natCast] at h1
  have h2 : X.natAbs * S ≤ T.natAbs * S := by
    rw [h1, Nat.mul_comm T.natAbs]
    exact Nat.mul_le_mul hL (Nat.le_refl _)
  exact Nat.le_of_mul_le_mul_right h2 hS
theorem ad_step {S D : Nat} (hS0 : 0 < S) (hS : S < 2 ^ 63) {T c : Int} {su sl up lo : Int64} (I : Inv S T (su, sl)) (hlo : lo.toInt = (D : Int)) (hD0 : 0 < D) (hDS : D ∣ S) (hc : (D : Int) * c = up.toInt * S) (hT : T.natAbs < 2 ^ 63) (hcb : c.natAbs < 2 ^ 63) (hT2 : (T + c).natAbs < 2 ^ 63) : okA su sl up lo ∧ Inv S (T + c) (adR su sl up lo) := by
  obtain ⟨i1, i2, i3⟩ := I
  dsimp only at i1 i2 i3
  obtain ⟨A, hA⟩ : ∃ A : Nat, sl.toInt = (A : Int) := ⟨sl.toInt.toNat, by omega⟩
  rw [hA] at i1 i2 i3
  have hA0 : 0 < A := by omega
  have hAS : A ∣ S := Int.natCast_dvd_natCast.mp i2
  have hAle := Nat.le_of_dvd hS0 hAS
  have hDle := Nat.le_of_dvd hS0 hDS
  have hg : (gcdL sl lo).toInt = (Nat.gcd A D : Int) := by rw [gcd_v hlo hD0 (by omega), hA, Int.natAbs_natCast]
  have hg0 : 0 < Nat.gcd A D := Nat.gcd_pos_of_pos_left _ hA0
  obtain ⟨a, ha⟩ := Nat.gcd_dvd_left A D
  obtain ⟨d, hd⟩ := Nat.gcd_dvd_right A D
  obtain ⟨G, hG⟩ : ∃ G, G = Nat.gcd A D := ⟨_, rfl⟩
  rw [← hG] at hg hg0 ha hd
  have e1 : (sl / gcdL sl lo).toInt = (a : Int) := by
    have hAi : (A : Int) = (G : Int) * (a : Int) := by rw [← Int.natCast_mul, ← ha]
    rw [div_x (by rw [hA, Int.natAbs_natCast]; omega) (by rw [hA, hg, hAi]; exact Int.dvd_mul_right _ _), hA, hg, hAi, Int.mul_ediv_cancel_left _ (by omega)]
  have e2 : (lo / gcdL sl lo).toInt = (d : Int) := by
    have hDi : (D : Int) = (G : Int) * (d : Int) := by rw [← Int.natCast_mul, ← hd]
    rw [div_x (by rw [hlo, Int.natAbs_natCast]; omega) (by rw [hlo, hg, hDi]; exact Int.dvd_mul_right _ _), hlo, hg, hDi, Int.mul_ediv_cancel_left _ (by omega)]
  obtain ⟨L, hL⟩ : ∃ L, L = a * D := ⟨_, rfl⟩
  have hLc : L = Nat.lcm A D := by
    unfold Nat.lcm
    have : A * D = Nat.gcd A D * (a * D) := by rw [← hG, ← Nat.mul_assoc, ← ha]
    rw [this, Nat.mul_div_cancel_left _ (by rw [← hG]; exact hg0), hL]
  have hLA : L = A * d := by rw [hL, hd, ha]; ac_rfl
  have hLS : L ∣ S := by rw [hLc]; exact Nat.lcm_dvd hAS hDS
  have hLle := Nat.le_of_dvd hS0 hLS
  have hL0 : 0 < L := by rw [hLc]; exact Nat.lcm_pos hA0 hD0
  have r1 : su.toInt * (d : Int) * (S : Int) = (L : Int) * T := by
    rw [hLA, Int.natCast_mul, Int.mul_assoc, Int.mul_comm (d : Int), ← Int.mul_assoc, i3, Int.mul_assoc, Int.mul_assoc, Int.mul_comm T]
  have r2 : up.toInt * (a : Int) * (S : Int) = (L : Int) * c := by
    rw [hL, Int.natCast_mul, Int.mul_assoc (a : Int), hc, Int.mul_comm up.toInt, Int.mul_assoc]
  have b1 := bd_of hLle hS0 r1
  have b2 := bd_of hLle hS0 r2
  have v1 : (su * (lo / gcdL sl lo)).toInt = su.toInt * (d : Int) := by rw [mul_x (by rw [e2]; omega), e2]
  have v2 : (up * (sl / gcdL sl lo)).toInt = up.toInt * (a : Int) := by rw [mul_x (by rw [e1]; omega), e1]
  have r3 : (su.toInt * (d : Int) + up.toInt * (a : Int)) * (S : Int) = (L : Int) * (T + c) := by rw [Int.add_mul, r1, r2, Int.mul_add]
  have b3 := bd_of hLle hS0 r3
  obtain ⟨U, hU⟩ : ∃ U, U = su.toInt * (d : Int) + up.toInt * (a : Int) := ⟨_, rfl⟩
  rw [← hU] at r3 b3
  have vU : (adU su sl up lo).toInt = U := by
    unfold adU
    rw [add_x (by rw [v1, v2, ← hU]; omega), v1, v2, hU]
  have vL : (adL sl lo).toInt = (L : Int) := by
    unfold adL
    have : (sl / gcdL sl lo).toInt * lo.toInt = (L : Int) := by rw [e1, hlo, hL, Int.natCast_mul]
    rw [mul_x (by rw [this, Int.natAbs_natCast]; omega), this]
  have hg2 : (gcdL (adU su sl up lo) (adL sl lo)).toInt = (Nat.gcd U.natAbs L : Int) := by rw [gcd_v vL hL0 (by omega), vU]
  have hg20 : 0 < Nat.gcd U.natAbs L := Nat.gcd_pos_of_pos_right _ hL0
  obtain ⟨H, hH⟩ : ∃ H, H = Nat.gcd U.natAbs L := ⟨_, rfl⟩
  have hHU : (H : Int) ∣ U := Int.natAbs_dvd_natAbs.mp (by rw [Int.natAbs_natCast, hH]; exact Nat.gcd_dvd_left _ _)
  have hHL : H ∣ L := by rw [hH]; exact Nat.gcd_dvd_right _ _
  rw [← hH] at hg2 hg20
  obtain ⟨u, hu⟩ := hHU
  obtain ⟨l, hl⟩ := hHL
  have w1 : (adR su sl up lo).1.toInt = u := by
    show (adU su sl up lo / gcdL (adU su sl up lo) (adL sl lo)).toInt = u
    rw [div_x (by rw [vU]; omega) (by rw [vU, hg2, hu]; exact Int.dvd_mul_right _ _), vU, hg2, hu, Int.mul_ediv_cancel_left _ (by omega)]
  have w2 : (adR su sl up lo).2.toInt = (l : Int) := by
    show (adL sl lo / gcdL (adU su sl up lo) (adL sl lo)).toInt = (l : Int)
    have hLi : (L : Int) = (H : Int) * (l : Int) := by rw [← Int.natCast_mul, ← hl]
    rw [div_x (by rw [vL, Int.natAbs_natCast]; omega) (by rw [vL, hg2, hLi]; exact Int.dvd_mul_right _ _), vL, hg2, hLi, Int.mul_ediv_cancel_left _ (by omega)]
  have z64 : (0 : Int64).toInt = 0 := rfl
  refine ⟨⟨by rw [hA, Int.natAbs_natCast]; omega, by rw [hlo, Int.natAbs_natCast]; omega, fun z => by rw [z, z64] at hlo; omega, by rw [vU]; omega, by rw [vL, Int.natAbs_natCast]; omega, fun z => by rw [z, z64] at vL; omega⟩, ?_, ?_, ?_⟩
  · rw [w2]
    have : l ≠ 0 := fun z => by rw [z, Nat.mul_zero] at hl; omega
    omega
  · rw [w2]
    exact Int.natCast_dvd_natCast.mpr (Nat.dvd_trans ⟨H, by rw [hl, Nat.mul_comm]⟩ hLS)
  · rw [w1, w2]
    have hLi : (L : Int) = (H : Int) * (l : Int) := by rw [← Int.natCast_mul, ← hl]
    rw [hu, hLi, Int.mul_assoc, Int.mul_assoc] at r3
    exact Int.eq_of_mul_eq_mul_left (show (H : Int) ≠ 0 by omega) r3
theorem acT_v {f y : Nat → Int32} {x tm : Int32} {n i S : Nat} (hn : n ≤ 4) (hx : BdI x 20) (hf : ∀ k, k < n → BdI (f k) 20) (hy : BdI (y i) 10000) (hi : i < n) (ht : tm.toInt = 1 ∨ tm.toInt = -1) (hp : pZ f i (f i).toInt n ≠ 0) (hd : (pZ f i (f i).toInt n).natAbs ∣ S) : (abL (pW f i (f i) n)).toInt = ((pZ f i (f i).toInt n).natAbs : Int) ∧ (((pZ f i (f i).toInt n).natAbs : Nat) : Int) * (tm.toInt * ((S : Int) / pZ f i (f i).toInt n * pZ f i x.toInt n * (y i).toInt)) = (acT f y x tm n i).toInt * S := by
  have v1 : (pW f i (f i) n).toInt = pZ f i (f i).toInt n := pW_v (hf i hi) hn hf
  have b1 := pZ_bd (l := i) (x := (f i).toInt) (hf i hi) hf
  have b2 := pZ_bd (l := i) (x := x.toInt) hx hf
  have h40 : 40 ^ n ≤ 2560000 := Nat.le_trans (Nat.pow_le_pow_right (by decide) hn) (by decide)
  refine ⟨by rw [abL_v (B := 40 ^ n) (by unfold Bd; rw [v1]; exact b1) (by omega), v1], ?_⟩
  have btm : Bd tm.toInt64 1 := by unfold Bd; rw [toL]; omega
  have bty : Bd (tm.toInt64 * (y i).toInt64) 10000 := by
    have := btm.mul hy.L (by decide)
    unfold Bd at *
    omega
  have vty : (tm.toInt64 * (y i).toInt64).toInt = tm.toInt * (y i).toInt := by rw [mulV btm hy.L (by decide), toL, toL]
  have vu := uW_v (f := f) (l := i) hx bty hn hf
  rw [vty] at vu
  have bu : Bd (uW f i x (tm.toInt64 * (y i).toInt64) n) (10000 * 40 ^ n) := by
    unfold Bd at *
    rw [vu, Int.natAbs_mul]
    rw [vty] at bty
    exact Nat.mul_le_mul bty b2
  obtain ⟨k1, k2, k3⟩ := ex_div hp hd
  have hq : tm.toInt * ((S : Int) / pZ f i (f i).toInt n * pZ f i x.toInt n * (y i).toInt) * pZ f i (f i).toInt n = tm.toInt * (y i).toInt * pZ f i x.toInt n * S := by
    have e : tm.toInt * ((S : Int) / pZ f i (f i).toInt n * pZ f i x.toInt n * (y i).toInt) * pZ f i (f i).toInt n = tm.toInt * (y i).toInt * pZ f i x.toInt n * ((S : Int) / pZ f i (f i).toInt n * pZ f i (f i).toInt n) := by ac_rfl
    rw [e, k2]
  unfold acT sgU
  by_cases c : 0 ≤ pW f i (f i) n
  · rw [if_pos c, vu]
    rw [fa_le64, v1] at c
    have c' : (0 : Int) ≤ pZ f i (f i).toInt n := c
    rw [show (((pZ f i (f i).toInt n).natAbs : Nat) : Int) = pZ f i (f i).toInt n by omega, Int.mul_comm, hq]
  · rw [if_neg c]
    rw [fa_le64, v1] at c
    have c' : ¬ (0 : Int) ≤ pZ f i (f i).toInt n := c
    have en : (-uW f i x (tm.toInt64 * (y i).toInt64) n).toInt = -(uW f i x (tm.toInt64 * (y i).toInt64) n).toInt := by
      have := (show (0 - uW f i x (tm.toInt64 * (y i).toInt64) n).toInt = (0 : Int64).toInt - (uW f i x (tm.toInt64 * (y i).toInt64) n).toInt from subV (A := 0) (by unfold Bd; decide) bu (by omega))
      rw [Int64.zero_sub] at this
      rw [this]
      show (0 : Int) - _ = _
      omega
    rw [en, vu, show (((pZ f i (f i).toInt n).natAbs : Nat) : Int) = -pZ f i (f i).toInt n by omega, Int.mul_comm, Int.mul_neg, hq, Int.neg_mul]
theorem acS_v {f y : Nat → Int32} {x tm : Int32} {n S : Nat} {T0 : Int} {s0 : Int64 × Int64} (hn : n ≤ 4) (hx : BdI x 20) (hf : ∀ k, k < n → BdI (f k) 20) (hy : ∀ k, k < n → BdI (y k) 10000) (ht : tm.toInt = 1 ∨ tm.toInt = -1) (hS0 : 0 < S) (hS : S < 2 ^ 63) (hp : ∀ k, k < n → pZ f k (f k).toInt n ≠ 0 ∧ (pZ f k (f k).toInt n).natAbs ∣ S) (I0 : Inv S T0 s0) (hB : T0.natAbs + 10000 * ww f x.toInt S n n < 2 ^ 63) : okC f y x tm n s0 ∧ ∀ i, i ≤ n → Inv S (T0 + tm.toInt * tt f y x.toInt S n i) (acS f y x tm n s0 i) := by
  have key : ∀ i, i ≤ n → Inv S (T0 + tm.toInt * tt f y x.toInt S n i) (acS f y x tm n s0 i) ∧ ∀ j, j < i → okA (acS f y x tm n s0 j).1 (acS f y x tm n s0 j).2 (acT f y x tm n j) (abL (pW f j (f j) n)) := by
    intro i
    induction i with
    | zero =>
      intro _
      refine ⟨?_, fun j hj => absurd hj (Nat.not_lt_zero j)⟩
      show Inv S (T0 + tm.toInt * 0) s0
      rw [Int.mul_zero, Int.add_zero]
      exact I0
    | succ i ih =>
      intro hi
      obtain ⟨ih1, ih2⟩ := ih (by omega)
      obtain ⟨h0, hd⟩ := hp i (by omega)
      obtain ⟨a1, a2⟩ := acT_v (S := S) hn hx hf (hy i (by omega)) (show i < n by omega) ht h0 hd
      have t1 := tt_bd (x := x.toInt) hy hp i (by omega)
      have t2 := tt_bd (x := x.toInt) hy hp (i + 1) (by omega)
      have t3 := (tt_t (x := x.toInt) (hy i (by omega)) h0 hd).2
      have w1 := ww_le f x.toInt S n (show i ≤ n by omega)
      have w2 := ww_le f x.toInt S n (show i + 1 ≤ n by omega)
      have w3 : ww f x.toInt S n (i + 1) = ww f x.toInt S n i + S / (pZ f i (f i).toInt n).natAbs * (pZ f i x.toInt n).natAbs := rfl
      have tmul : ∀ z : Int, (tm.toInt * z).natAbs = z.natAbs := fun z => by
        rw [Int.natAbs_mul]
        rcases ht with h | h <;> rw [h]
        · exact Nat.one_mul _
        · exact Nat.one_mul _
      have m1 := tmul (tt f y x.toInt S n i)
      have m2 := tmul (tt f y x.toInt S n (i + 1))
      have m3 := tmul ((S : Int) / pZ f i (f i).toInt n * pZ f i x.toInt n * (y i).toInt)
      have hsum : T0 + tm.toInt * tt f y x.toInt S n i + tm.toInt * ((S : Int) / pZ f i (f i).toInt n * pZ f i x.toInt n * (y i).toInt) = T0 + tm.toInt * tt f y x.toInt S n (i + 1) := by rw [tt, Int.mul_add, Int.add_assoc]
      have st := ad_step hS0 hS ih1 a1 (by omega) hd a2 (by omega) (by omega) (by rw [hsum]; omega)
      rw [hsum] at st
      refine ⟨st.2, fun j hj => ?_⟩
      by_cases e : j = i
      · subst e; exact st.1
      · exact ih2 j (by omega)
  exact ⟨fun i hi => (key n (Nat.le_refl n)).2 i hi, fun i hi => (key i hi).1⟩
theorem red_eq {u1 l1 u2 l2 : Int64} (h1 : 0 < l1.toInt) (h2 : 0 < l2.toInt) (b1 : u1.toInt.natAbs < 2 ^ 63) (b2 : u2.toInt.natAbs < 2 ^ 63) (c1 : l1.toInt.natAbs < 2 ^ 63) (c2 : l2.toInt.natAbs < 2 ^ 63) (h : u1.toInt * l2.toInt = u2.toInt * l1.toInt) : u1 / tlG u1 l1 = u2 / tlG u2 l2 ∧ l1 / tlG u1 l1 = l2 / tlG u2 l2 := by
  obtain ⟨L1, e1⟩ : ∃ A : Nat, l1.toInt = (A : Int) := ⟨l1.toInt.toNat, by omega⟩
  obtain ⟨L2, e2⟩ : ∃ A : Nat, l2.toInt = (A : Int) := ⟨l2.toInt.toNat, by omega⟩
  have z64 : (0 : Int64).toInt = 0 := rfl
  have n1 : ¬ l1 < 0 := fun z => by rw [fa_lt64, z64] at z; omega
  have n2 : ¬ l2 < 0 := fun z => by rw [fa_lt64, z64] at z; omega
  unfold tlG
  rw [if_neg n1, if_neg n2]
  have g1 := gcd_v (a := u1) e1 (by omega) (by omega)
  have g2 := gcd_v (a := u2) e2 (by omega) (by omega)
  have p1 : 0 < Nat.gcd u1.toInt.natAbs L1 := Nat.gcd_pos_of_pos_right _ (by omega)
  have p2 : 0 < Nat.gcd u2.toInt.natAbs L2 := Nat.gcd_pos_of_pos_right _ (by omega)
  have k1 : (Nat.gcd u1.toInt.natAbs L1 : Int) ∣ u1.toInt := Int.natAbs_dvd_natAbs.mp (by rw [Int.natAbs_natCast]; exact Nat.gcd_dvd_left _ _)
  have k2 : (Nat.gcd u2.toInt.natAbs L2 : Int) ∣ u2.toInt := Int.natAbs_dvd_natAbs.mp (by rw [Int.natAbs_natCast]; exact Nat.gcd_dvd_left _ _)
  have j1 : (Nat.gcd u1.toInt.natAbs L1 : Int) ∣ (L1 : Int) := Int.natCast_dvd_natCast.mpr (Nat.gcd_dvd_right _ _)
  have j2 : (Nat.gcd u2.toInt.natAbs L2 : Int) ∣ (L2 : Int) := Int.natCast_dvd_natCast.mpr (Nat.gcd_dvd_right _ _)
  have hx : Nat.gcd u1.toInt.natAbs L1 * L2 = Nat.gcd u2.toInt.natAbs L2 * L1 := by
    rw [← Nat.gcd_mul_right, ← Nat.gcd_mul_right]
    have := congrArg Int.natAbs h
    rw [Int.natAbs_mul, Int.natAbs_mul, e1, e2, Int.natAbs_natCast, Int.natAbs_natCast] at this
    rw [this, Nat.mul_comm L1 L2]
  obtain ⟨G1, hG1⟩ : ∃ G, G = Nat.gcd u1.toInt.natAbs L1 := ⟨_, rfl⟩
  obtain ⟨G2, hG2⟩ : ∃ G, G = Nat.gcd u2.toInt.natAbs L2 := ⟨_, rfl⟩
  rw [← hG1] at g1 p1 k1 j1 hx
  rw [← hG2] at g2 p2 k2 j2 hx
  obtain ⟨a, ha⟩ := k1
  obtain ⟨b, hb⟩ := j1
  obtain ⟨c, hc⟩ := k2
  obtain ⟨d, hd⟩ := j2
  have hxi : (G1 : Int) * (L2 : Int) = (G2 : Int) * (L1 : Int) := by rw [← Int.natCast_mul, ← Int.natCast_mul, hx]
  have q1 : (G1 : Int) ≠ 0 := by omega
  have q2 : (G2 : Int) ≠ 0 := by omega
  have hbd : b = d := by
    rw [hb, hd] at hxi
    have : (G1 : Int) * ((G2 : Int) * b) = (G1 : Int) * ((G2 : Int) * d) := by rw [hxi]; ac_rfl
    exact Int.eq_of_mul_eq_mul_left q2 (Int.eq_of_mul_eq_mul_left q1 this)
  have hb0 : b ≠ 0 := fun z => by rw [z, Int.mul_zero] at hb; omega
  have hac : a = c := by
    rw [e1, e2, ha, hc, hb, hd, ← hbd] at h
    have : b * ((G1 : Int) * ((G2 : Int) * a)) = b * ((G1 : Int) * ((G2 : Int) * c)) := by
      have l : (G1 : Int) * a * ((G2 : Int) * b) = b * ((G1 : Int) * ((G2 : Int) * a)) := by ac_rfl
      have r : (G2 : Int) * c * ((G1 : Int) * b) = b * ((G1 : Int) * ((G2 : Int) * c)) := by ac_rfl
      rw [← l, ← r]
      exact h
    exact Int.eq_of_mul_eq_mul_left q2 (Int.eq_of_mul_eq_mul_left q1 (Int.eq_of_mul_eq_mul_left hb0 this))
  have v1 : (u1 / gcdL u1 l1).toInt = a := by rw [div_x b1 (by rw [g1, ha]; exact Int.dvd_mul_right _ _), g1, ha, Int.mul_ediv_cancel_left _ q1]
  have v2 : (u2 / gcdL u2 l2).toInt = c := by rw [div_x b2 (by rw [g2, hc]; exact Int.dvd_mul_right _ _), g2, hc, Int.mul_ediv_cancel_left _ q2]
  have v3 : (l1 / gcdL u1 l1).toInt = b := by rw [div_x c1 (by rw [g1, e1, hb]; exact Int.dvd_mul_right _ _), g1, e1, hb, Int.mul_ediv_cancel_left _ q1]
  have v4 : (l2 / gcdL u2 l2).toInt = d := by rw [div_x c2 (by rw [g2, e2, hd]; exact Int.dvd_mul_right _ _), g2, e2, hd, Int.mul_ediv_cancel_left _ q2]
  exact ⟨by rw [fa_eq64, v1, v2, hac], by rw [fa_eq64, v3, v4, hbd]⟩
theorem rl_tell2 {g : mm_I} {h : mm_L} {u1 l1 u2 l2 a b : Int64} (R : Rl g h) (e : u1 / tlG u1 l1 = u2 / tlG u2 l2 ∧ l1 / tlG u1 l1 = l2 / tlG u2 l2) : Rl g (tlM (stH (tlC h u1 l1) a b) u2 l2) := rl_h R ⟨R.2.2.2.2.2.2.1, e.1, e.2⟩
