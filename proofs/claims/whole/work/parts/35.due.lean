theorem dFst_eq {p : Nat → Bool} : ∀ (k d wt : Nat), (∀ x, x < k → x ≤ wt → (p (d + x) = true ↔ wt ≤ x)) → dFst p k d = d + min k wt
  | 0, d, wt, _ => by rw [dFst, Nat.zero_min]; rfl
  | k + 1, d, wt, h => by
    rw [dFst]
    have h0 := h 0 (by omega) (by omega)
    rw [Nat.add_zero] at h0
    by_cases c : p d = true
    · rw [if_pos c]
      have := h0.mp c
      omega
    · rw [if_neg c]
      have h1 : ¬ wt ≤ 0 := fun z => c (h0.mpr z)
      rw [dFst_eq k (d + 1) (wt - 1) (fun x hx hw => by rw [show d + 1 + x = d + (x + 1) by omega, h (x + 1) (by omega) (by omega)]; omega)]
      omega
theorem du_pos {P Q c : Int} (x : Nat) (hPQ : (P.natAbs : Int) ≤ Q) (hc : 0 < c) : (¬ ((P + c * (x : Int)).natAbs : Int) ≤ Q) ↔ (Q - P) / c + 1 ≤ (x : Int) := by
  have h1 : 0 ≤ c * (x : Int) := Int.mul_nonneg (Int.le_of_lt hc) (Int.natCast_nonneg x)
  have h2 := Int.le_ediv_iff_mul_le (a := (x : Int)) (b := Q - P) hc
  rw [Int.mul_comm] at h2
  constructor
  · intro h
    have : ¬ (c * (x : Int) ≤ Q - P) := by omega
    rw [← h2] at this
    omega
  · intro h
    have : ¬ (x : Int) ≤ (Q - P) / c := by omega
    rw [h2] at this
    omega
theorem du_abs {P Q c : Int} (x : Nat) (hPQ : (P.natAbs : Int) ≤ Q) (hc : ¬ c = 0) : (¬ ((P + c * (x : Int)).natAbs : Int) ≤ Q) ↔ (if 0 < c then Q - P else Q + P) / (c.natAbs : Int) + 1 ≤ (x : Int) := by
  by_cases h : 0 < c
  · rw [if_pos h, show (c.natAbs : Int) = c by omega]
    exact du_pos x hPQ h
  · rw [if_neg h, show (c.natAbs : Int) = -c by omega]
    have := du_pos (P := -P) (Q := Q) (c := -c) x (by omega) (by omega)
    rw [show Q - -P = Q + P by omega, show -P + -c * (x : Int) = -(P + c * (x : Int)) by rw [Int.neg_mul]; omega, Int.natAbs_neg] at this
    exact this
def dwI (o r c d : Int) : Int := if ((o * d).natAbs : Int) ≤ r * d then (if c = 0 then 100001 else (if 0 < c then r * d - o * d else r * d + o * d) / (c.natAbs : Int) + 1) else 0
theorem div_nn {x y : Int64} (hx : 0 ≤ x.toInt) (hy : 0 ≤ y.toInt) : (x / y).toInt = x.toInt / y.toInt := by
  have n1 : x ≠ Int64.minValue := fun z => by
    rw [z] at hx
    exact absurd hx (by decide)
  rw [Int64.toInt_div_of_ne_left _ _ n1, Int.tdiv_eq_ediv_of_nonneg hx]
theorem dwt_v {o r c d : Int64} (ho : Bd o 10000) (hr : Bd r 20000) (hc : Bd c 20000) (hd : Bd d 200000) : (dwt o r c d).toInt = dwI o.toInt r.toInt c.toInt d.toInt := by
  have z64 : (0 : Int64).toInt = 0 := rfl
  have m1 := mulV ho hd (by decide)
  have m2 := mulV hr hd (by decide)
  have B1 := ho.mul hd (by decide)
  have B2 := hr.mul hd (by decide)
  have a1 : abL (o * d) ≤ r * d ↔ ((o.toInt * d.toInt).natAbs : Int) ≤ r.toInt * d.toInt := by rw [fa_le64, abL_v B1 (by decide), m1, m2]
  unfold dwt dwI
  by_cases q1 : abL (o * d) ≤ r * d
  · rw [if_pos q1, if_pos (a1.mp q1)]
    have q1' := a1.mp q1
    by_cases q2 : c = 0
    · rw [if_pos q2, if_pos (by rw [q2]; rfl)]
      rfl
    · have q2' : ¬ c.toInt = 0 := fun z => q2 ((fa_eq64 c 0).mpr z)
      rw [if_neg q2, if_neg q2']
      have hab := abL_v hc (by decide)
      have s1 := subV B2 B1 (by decide)
      have s2 := addV B2 B1 (by decide)
      have key : ∀ (N : Int64), 0 ≤ N.toInt → Bd N 10000000000 → (N / abL c + 1).toInt = N.toInt / (c.toInt.natAbs : Int) + 1 := fun N h0 hB => by
        have e := div_nn (x := N) (y := abL c) h0 (by omega)
        rw [hab] at e
        have hle : N.toInt / (c.toInt.natAbs : Int) ≤ N.toInt := Int.ediv_le_self _ h0
        have hge : 0 ≤ N.toInt / (c.toInt.natAbs : Int) := Int.ediv_nonneg h0 (by omega)
        rw [addV (A := 10000000000) (B := 1) (by unfold Bd at *; rw [e]; omega) (by unfold Bd; decide) (by decide), e]
        rfl
      by_cases q3 : 0 < c
      · have q3' : 0 < c.toInt := by rw [fa_lt64] at q3; exact q3
        rw [if_pos q3, if_pos q3', key _ (by rw [s1, m1, m2]; omega) (by unfold Bd at *; omega), s1, m1, m2]
      · have q3' : ¬ 0 < c.toInt := by rw [fa_lt64] at q3; exact q3
        rw [if_neg q3, if_neg q3', key _ (by rw [s2, m1, m2]; omega) (by unfold Bd at *; omega), s2, m1, m2]
  · rw [if_neg q1, if_neg (fun z => q1 (a1.mpr z))]
    rfl
theorem dwI_nn (o r c d : Int) : 0 ≤ dwI o r c d := by
  unfold dwI
  by_cases q1 : ((o * d).natAbs : Int) ≤ r * d
  · rw [if_pos q1]
    by_cases q2 : c = 0
    · rw [if_pos q2]; decide
    · rw [if_neg q2]
      have : 0 ≤ (if 0 < c then r * d - o * d else r * d + o * d) / (c.natAbs : Int) := Int.ediv_nonneg (by split <;> omega) (by omega)
      omega
  · rw [if_neg q1]; decide
theorem dwI_le {o r c d : Int} (h1 : (o * d).natAbs ≤ 4000000000) (h2 : (r * d).natAbs ≤ 4000000000) : dwI o r c d ≤ 8000000001 := by
  unfold dwI
  by_cases q1 : ((o * d).natAbs : Int) ≤ r * d
  · rw [if_pos q1]
    by_cases q2 : c = 0
    · rw [if_pos q2]; decide
    · rw [if_neg q2]
      have : (if 0 < c then r * d - o * d else r * d + o * d) / (c.natAbs : Int) ≤ (if 0 < c then r * d - o * d else r * d + o * d) := Int.ediv_le_self _ (by split <;> omega)
      have h3 : (if 0 < c then r * d - o * d else r * d + o * d) ≤ 8000000000 := by split <;> omega
      omega
  · rw [if_neg q1]; decide
theorem du_iff {o r c d : Int} (x : Nat) (hx : x < 100001) (hw : (x : Int) ≤ dwI o r c d) : (¬ ((o * d + c * (x : Int)).natAbs : Int) ≤ r * d) ↔ dwI o r c d ≤ (x : Int) := by
  unfold dwI at hw ⊢
  by_cases q1 : ((o * d).natAbs : Int) ≤ r * d
  · rw [if_pos q1]
    by_cases q2 : c = 0
    · rw [if_pos q2, q2, Int.zero_mul, Int.add_zero]
      omega
    · rw [if_neg q2]
      exact du_abs x q1 q2
  · rw [if_neg q1] at hw ⊢
    have x0 : (x : Int) = 0 := by omega
    rw [x0, Int.mul_zero, Int.add_zero]
    exact ⟨fun _ => Int.le_refl 0, fun _ => q1⟩
theorem du_core {oc oa : Int32} {dc da ec tl : Nat} (hoc : BdI oc 10000) (hoa : BdI oa 10000) (hdc : dc ≤ 100000) (hda : da ≤ 100000) (hec : ec ≤ 10000) (htl : tl ≤ 10000) (hne : dc ≠ da) :
    nI (dFst (fun t => decide (¬ abL (oc.toInt64 * (nI dc - nI da).toInt64 + (oc - oa).toInt64 * (nI t - nI dc).toInt64) + (nI ec).toInt64 * abL (nI dc - nI da).toInt64 ≤ (nI tl).toInt64 * abL (nI dc - nI da).toInt64)) (100001 - dc) dc) = (if 100001 < (nI dc).toInt64 + (if 0 ≤ (nI dc - nI da).toInt64 then dwt oc.toInt64 (nI tl - nI ec).toInt64 (oc - oa).toInt64 (nI dc - nI da).toInt64 else dwt oc.toInt64 (nI tl - nI ec).toInt64 (-(oc - oa).toInt64) (-(nI dc - nI da).toInt64)) then 100001 else (nI dc).toInt64 + (if 0 ≤ (nI dc - nI da).toInt64 then dwt oc.toInt64 (nI tl - nI ec).toInt64 (oc - oa).toInt64 (nI dc - nI da).toInt64 else dwt oc.toInt64 (nI tl - nI ec).toInt64 (-(oc - oa).toInt64) (-(nI dc - nI da).toInt64))).toInt32 := by
  have bdc : BdI (nI dc) 100000 := BdI.n hdc (by decide)
  have bda : BdI (nI da) 100000 := BdI.n hda (by decide)
  have bec : BdI (nI ec) 10000 := BdI.n hec (by decide)
  have btl : BdI (nI tl) 10000 := BdI.n htl (by decide)
  have tdc := nI_toInt (show dc < 2 ^ 31 by omega)
  have tda := nI_toInt (show da < 2 ^ 31 by omega)
  have tec := nI_toInt (show ec < 2 ^ 31 by omega)
  have ttl := nI_toInt (show tl < 2 ^ 31 by omega)
  have bD := bdc.sub bda (by decide)
  have vD := subIV bdc bda (by decide)
  have bU := hoc.sub hoa (by decide)
  have vU := subIV hoc hoa (by decide)
  have bR := btl.sub bec (by decide)
  have vR := subIV btl bec (by decide)
  have neg : ∀ {x : Int64} {B : Nat}, Bd x B → B < 2 ^ 62 → (-x).toInt = -x.toInt ∧ Bd (-x) B := fun {x B} hx hB => by
    have e : (-x).toInt = -x.toInt := by
      have := (show (0 - x).toInt = (0 : Int64).toInt - x.toInt from subV (A := 0) (B := B) (by unfold Bd; decide) hx (by omega))
      rw [Int64.zero_sub] at this
      rw [this]
      show (0 : Int) - _ = _
      omega
    refine ⟨e, ?_⟩
    unfold Bd at *
    rw [e]
    omega
  obtain ⟨D, hD⟩ : ∃ D : Int, D = (dc : Int) - da := ⟨_, rfl⟩
  obtain ⟨U, hU⟩ : ∃ U : Int, U = oc.toInt - oa.toInt := ⟨_, rfl⟩
  have eD : (nI dc - nI da).toInt64.toInt = D := by rw [toL, vD, tdc, tda, hD]
  have eU : (oc - oa).toInt64.toInt = U := by rw [toL, vU, hU]
  have eR : (nI tl - nI ec).toInt64.toInt = (tl : Int) - ec := by rw [toL, vR, ttl, tec]
  obtain ⟨wt, hwt⟩ : ∃ wt : Int64, wt = (if 0 ≤ (nI dc - nI da).toInt64 then dwt oc.toInt64 (nI tl - nI ec).toInt64 (oc - oa).toInt64 (nI dc - nI da).toInt64 else dwt oc.toInt64 (nI tl - nI ec).toInt64 (-(oc - oa).toInt64) (-(nI dc - nI da).toInt64)) := ⟨_, rfl⟩
  have hoB : (oc.toInt * (D.natAbs : Int)).natAbs ≤ 4000000000 := by
    rw [Int.natAbs_mul]
    have : oc.toInt.natAbs * (D.natAbs : Int).natAbs ≤ 10000 * 100000 := Nat.mul_le_mul hoc (by omega)
    omega
  have hrB : (((tl : Int) - ec) * (D.natAbs : Int)).natAbs ≤ 4000000000 := by
    rw [Int.natAbs_mul]
    have : ((tl : Int) - ec).natAbs * (D.natAbs : Int).natAbs ≤ 10000 * 100000 := Nat.mul_le_mul (by omega) (by omega)
    omega
  have ewt : wt.toInt = dwI oc.toInt ((tl : Int) - ec) (if 0 ≤ D then U else -U) (D.natAbs : Int) := by
    rw [hwt]
    by_cases s : 0 ≤ (nI dc - nI da).toInt64
    · have s' : 0 ≤ D := by rw [fa_le64, eD] at s; exact s
      rw [if_pos s, if_pos s', dwt_v hoc.L bR.L bU.L bD.L, toL, eR, eU, eD, show (D.natAbs : Int) = D by omega]
    · have s' : ¬ 0 ≤ D := by rw [fa_le64, eD] at s; exact s
      rw [if_neg s, if_neg s', dwt_v hoc.L bR.L (neg bU.L (by decide)).2 (neg bD.L (by decide)).2, toL, eR, (neg bU.L (by decide)).1, (neg bD.L (by decide)).1, eU, eD, show (D.natAbs : Int) = -D by omega]
  obtain ⟨W, hW⟩ : ∃ W : Nat, wt.toInt = (W : Int) := ⟨wt.toInt.toNat, by rw [Int.toNat_of_nonneg (by rw [ewt]; exact dwI_nn _ _ _ _)]⟩
  have hWle : W ≤ 8000000001 := by
    have := dwI_le (c := if 0 ≤ D then U else -U) hoB hrB
    rw [← ewt, hW] at this
    omega
  rw [← hwt]
  have key := dFst_eq (p := fun t => decide (¬ abL (oc.toInt64 * (nI dc - nI da).toInt64 + (oc - oa).toInt64 * (nI t - nI dc).toInt64) + (nI ec).toInt64 * abL (nI dc - nI da).toInt64 ≤ (nI tl).toInt64 * abL (nI dc - nI da).toInt64)) (100001 - dc) dc W (fun x hx hxw => ?_)
  · rw [key]
    have hs : ((nI dc).toInt64 + wt).toInt = (dc : Int) + W := by rw [addV bdc.L (B := 8000000001) (by unfold Bd; rw [hW]; omega) (by decide), toL, tdc, hW]
    have l1 : (100001 : Int64).toInt = 100001 := rfl
    by_cases c : 100001 < (nI dc).toInt64 + wt
    · rw [if_pos c]
      rw [fa_lt64, hs, l1] at c
      rw [show dc + min (100001 - dc) W = 100001 by omega]
      decide +kernel
    · rw [if_neg c]
      rw [fa_lt64, hs, l1] at c
      rw [show dc + min (100001 - dc) W = dc + W by omega]
      have e : (nI dc).toInt64 + wt = (nI (dc + W)).toInt64 := by rw [fa_eq64, hs, toL, nI_toInt (by omega)]; omega
      rw [e]
      exact (Int32.toInt32_toInt64 _).symm
  · rw [decide_eq_true_eq]
    have tx := nI_toInt (show dc + x < 2 ^ 31 by omega)
    have bx : BdI (nI (dc + x)) 100001 := BdI.n (by omega) (by decide)
    have bX := bx.sub bdc (by decide)
    have vX : (nI (dc + x) - nI dc).toInt64.toInt = (x : Int) := by rw [toL, subIV bx bdc (by decide), tx, tdc]; omega
    have m1 := mulV hoc.L bD.L (by decide)
    have m2 := mulV bU.L bX.L (by decide)
    have B1 := hoc.L.mul bD.L (by decide)
    have B2 := bU.L.mul bX.L (by decide)
    have aD := abL_v bD.L (by decide)
    have bA : Bd (abL (nI dc - nI da).toInt64) 200000 := by
      have h9 := bD.L
      unfold Bd at *
      rw [aD]
      omega
    have B3 := bec.L.mul bA (by decide)
    have m3 := mulV bec.L bA (by decide)
    have m4 := mulV btl.L bA (by decide)
    have aS := abL_v (B1.add B2 (by decide)) (by decide)
    have sS := addV B1 B2 (by decide)
    have bS : Bd (abL (oc.toInt64 * (nI dc - nI da).toInt64 + (oc - oa).toInt64 * (nI (dc + x) - nI dc).toInt64)) (10000 * (100000 + 100000) + (10000 + 10000) * (100001 + 100000)) := by
      have h9 := B1.add B2 (by decide)
      unfold Bd at *
      rw [aS]
      omega
    rw [fa_le64, addV bS B3 (by decide), aS, sS, m1, m2, m3, m4, aD, eD, eU, vX, toL, toL, toL, tec, ttl]
    have hi := du_iff (o := oc.toInt) (r := (tl : Int) - ec) (c := if 0 ≤ D then U else -U) (d := (D.natAbs : Int)) x (by omega) (by rw [← ewt, hW]; omega)
    rw [← ewt, hW] at hi
    have hWx : (W : Int) ≤ (x : Int) ↔ W ≤ x := by omega
    rw [hWx] at hi
    rw [← hi, Int.sub_mul]
    have habs : (oc.toInt * (D.natAbs : Int) + (if 0 ≤ D then U else -U) * (x : Int)).natAbs = (oc.toInt * D + U * (x : Int)).natAbs := by
      by_cases s : 0 ≤ D
      · rw [if_pos s, show (D.natAbs : Int) = D by omega]
      · rw [if_neg s, show (D.natAbs : Int) = -D by omega, Int.mul_neg, Int.neg_mul, ← Int.neg_add, Int.natAbs_neg]
    rw [habs]
    omega
theorem rc_day {g : mm_I} {n : Nat} (hc : ∀ c, c < n → RC1 g c) : ∀ c, c < n → ∃ t, t ≤ 100000 ∧ g 25 c = nI t := fun c h => (hc c h).2.2.2.2.1
theorem op_due (a0 : Int32) (E : mm_E) (g : mm_I) (h : mm_L) (R : Rl g h) : OpI E yX6_due wsX6_due 5 115 yX7_due wsX7_due 4 111 [.int a0] g h := by
  obtain ⟨nb, hnb, b1, b2, b3⟩ := R.2.2.1
  obtain ⟨n, hn, c1, c2, c3, c4⟩ := R.2.2.2.1
  by_cases q1 : ¬ a0 < 0 ∧ ¬ nI nb - 1 < a0
  · obtain ⟨d, hd, ed⟩ := has_nat (by omega) q1
    have cd : a0.toNatClampNeg = d := by rw [ed]; exact cl_nI (by omega)
    have lM := rc_L c3 (nI d) 100000 (Nat.le_refl n)
    by_cases q2 : sLast (pLU g (nI d) 100000) n = -9
    · have A := c_X6_due E g h a0 nb hnb b1 n hn c1
      have B := c_X7_due E g h a0 nb hnb b2 n hn c2 (rc_day (g := g) c3)
      simp only [dDrift, if_pos q1, cd, lM, if_pos q2] at A B
      exact ⟨_, _, _, _, _, A, B, rl_ls R _ _⟩
    · obtain ⟨c, hc, ec, _⟩ := (sLast_nat (pLU g (nI d) 100000) n).resolve_left q2
      have e2 : ¬ nI c = -9 := fun y => nI_pos (n := c) (by omega) (by rw [y]; decide)
      have cc : (nI c).toNatClampNeg = c := cl_nI (by omega)
      have lM2 := rc_L c3 (nI d) 100000 (Nat.le_of_lt hc)
      by_cases q3 : sLast (pLU g (nI d) 100000) c = -9
      · have A := c_X6_due E g h a0 nb hnb b1 n hn c1
        have B := c_X7_due E g h a0 nb hnb b2 n hn c2 (rc_day (g := g) c3)
        simp only [dDrift, if_pos q1, cd, lM, if_neg q2, ec, if_neg e2, cc, lM2, if_pos q3] at A B
        exact ⟨_, _, _, _, _, A, B, rl_ls R _ _⟩
      · obtain ⟨a, ha, ea, _⟩ := (sLast_nat (pLU g (nI d) 100000) c).resolve_left q3
        have e3 : ¬ nI a = -9 := fun y => nI_pos (n := a) (by omega) (by rw [y]; decide)
        have ca : (nI a).toNatClampNeg = a := cl_nI (by omega)
        obtain ⟨⟨f0, f1, f2, f3, f4, f5, f6, f7⟩, f8, f9, f10, ⟨tc, htc, f11⟩, f12⟩ := c3 c hc
        obtain ⟨⟨u0, u1, u2, u3, u4, u5, u6, u7⟩, u8, u9, u10, ⟨ta, hta, u11⟩, u12⟩ := c3 a (by omega)
        by_cases q4 : g 25 c = g 25 a
        · have q5 : g (53 + c) 3 - g (53 + a) 3 = 0 := by rw [f3, u3]; exact sub0.mpr q4
          have A := c_X6_due E g h a0 nb hnb b1 n hn c1
          have B := c_X7_due E (rfM g 4) h a0 nb hnb b2 n hn c2 (rc_day (g := g) c3)
          simp only [dDrift, if_pos q1, cd, lM, if_neg q2, ec, if_neg e2, cc, lM2, if_neg q3, ea, if_neg e3, ca, if_pos q4, if_pos q5, rf_pLM, rf_7, rf_22, rf_25, rf_26, rf_31] at A B
          exact ⟨_, _, _, _, _, A, B, rl_rls R _ _ (by decide)⟩
        · have q5 : ¬ g (53 + c) 3 - g (53 + a) 3 = 0 := by rw [f3, u3]; exact fun z => q4 (sub0.mp z)
          have hne : tc ≠ ta := fun z => q4 (by rw [f11, u11, z])
          obtain ⟨k1, k2, tl, htl, k3⟩ := b3 d (by omega)
          obtain ⟨en9, hec, f12⟩ := f12
          have hd : duM g d c a = duC g d c a := by
            have hcore := du_core (oc := g 26 c) (oa := g 26 a) f10 u10 htc hta hec htl hne
            unfold duM duC duP
            dsimp only
            rw [f7, u7, f3, u3, f4, ← k2, k3, f11, u11, f12, nI_clamp (show tc < 2 ^ 31 by omega)]
            exact hcore
          have A := c_X6_due E g h a0 nb hnb b1 n hn c1
          have B := c_X7_due E g h a0 nb hnb b2 n hn c2 (rc_day (g := g) c3)
          simp only [dDrift, if_pos q1, cd, lM, if_neg q2, ec, if_neg e2, cc, lM2, if_neg q3, ea, if_neg e3, ca, if_neg q4, if_neg q5, hd] at A B
          exact ⟨_, _, _, _, _, A, B, rl_ls R _ _⟩
  · have A := c_X6_due E g h a0 nb hnb b1 n hn c1
    have B := c_X7_due E g h a0 nb hnb b2 n hn c2 (rc_day (g := g) c3)
    simp only [dDrift, if_neg q1] at A B
    exact ⟨_, _, _, _, _, A, B, R⟩
