def tabOk (f : Nat → Int32) (n a : Nat) : Prop := 0 < a ∧ 6 * a ≤ 49188720 ∧ (∀ k, k < n → pZ f k (f k).toInt n ≠ 0 ∧ (pZ f k (f k).toInt n).natAbs ∣ 6 * a) ∧ ∀ x : Int, x.natAbs ≤ 20 → 6 * a + ww f x (6 * a) n n ≤ 98377440
theorem tab_mk {f : Nat → Int32} {n a : Nat} (ha : 0 < a) (hk : 6 * a ≤ 49188720) (c : Nat → Nat) (hc : ∀ k, k < n → pZ f k (f k).toInt n ≠ 0 ∧ (pZ f k (f k).toInt n).natAbs * c k = 6 * a) (hx : ∀ x : Int, x.natAbs ≤ 20 → ∀ W, (∀ k, k < n → 6 * a / (pZ f k (f k).toInt n).natAbs = c k) → W = ww f x (6 * a) n n → 6 * a + W ≤ 98377440) : tabOk f n a := by
  refine ⟨ha, hk, fun k h => ⟨(hc k h).1, ⟨c k, (hc k h).2.symm⟩⟩, fun x h => hx x h _ (fun k hk => ?_) rfl⟩
  obtain ⟨h0, h1⟩ := hc k hk
  rw [← h1, Nat.mul_div_cancel_left _ (by omega)]
theorem sb {f : Nat → Int32} {k : Nat} (h : BdI (f k) 20) : -20 ≤ (f k).toInt ∧ (f k).toInt ≤ 20 := by unfold BdI at h; omega
theorem ne_i {x y : Int32} (h : ¬ x = y) : x.toInt ≠ y.toInt := fun z => h ((fa_eq x y).mpr z)
theorem tab_1 {f : Nat → Int32} : tabOk f 1 1 := by
  refine tab_mk (by decide) (by decide) (fun _ => 6) (fun k hk => ?_) (fun x hx W hd hW => ?_)
  · have : k = 0 := by omega
    subst this
    exact ⟨(by decide : (1 : Int) ≠ 0), rfl⟩
  · rw [hW]
    show 6 * 1 + (0 + 6 * 1 / (1 : Int).natAbs * (1 : Int).natAbs) ≤ _
    decide
theorem tab_2 {f : Nat → Int32} (hf : ∀ k, k < 2 → BdI (f k) 20) (hne : ∀ i, i < 2 → ∀ k, k < i → ¬ f k = f i) : ∃ a, tabOk f 2 a := by
  obtain ⟨p0, p0'⟩ := sb (hf 0 (by decide))
  obtain ⟨p1, p1'⟩ := sb (hf 1 (by decide))
  have n01 := ne_i (hne 1 (by decide) 0 (by decide))
  obtain ⟨x0, e0⟩ : ∃ z, z = (f 0).toInt := ⟨_, rfl⟩
  obtain ⟨x1, e1⟩ : ∃ z, z = (f 1).toInt := ⟨_, rfl⟩
  rw [← e0] at p0 p0' n01
  rw [← e1] at p1 p1' n01
  have z0 : ∀ z, pZ f 0 z 2 = 1 * (z - x1) := fun z => by rw [e1]; rfl
  have z1 : ∀ z, pZ f 1 z 2 = 1 * (z - x0) := fun z => by rw [e0]; rfl
  refine ⟨(x0 - x1).natAbs, tab_mk (by omega) (by omega) (fun _ => 6) (fun k hk => ?_) (fun x hx W hd hW => ?_)⟩
  · rcases (show k = 0 ∨ k = 1 by omega) with rfl | rfl
    · rw [← e0, z0, Int.one_mul]; omega
    · rw [← e1, z1, Int.one_mul]; omega
  · have d0 := hd 0 (by decide)
    have d1 := hd 1 (by decide)
    rw [hW, ww, ww, ww, d0, d1, z0, z1, Int.one_mul, Int.one_mul]
    omega
theorem tab_3 {f : Nat → Int32} (hf : ∀ k, k < 3 → BdI (f k) 20) (hne : ∀ i, i < 3 → ∀ k, k < i → ¬ f k = f i) : ∃ a, tabOk f 3 a := by
  obtain ⟨p0, p0'⟩ := sb (hf 0 (by decide))
  obtain ⟨p1, p1'⟩ := sb (hf 1 (by decide))
  obtain ⟨p2, p2'⟩ := sb (hf 2 (by decide))
  have n01 := ne_i (hne 1 (by decide) 0 (by decide))
  have n02 := ne_i (hne 2 (by decide) 0 (by decide))
  have n12 := ne_i (hne 2 (by decide) 1 (by decide))
  obtain ⟨x0, e0⟩ : ∃ z, z = (f 0).toInt := ⟨_, rfl⟩
  obtain ⟨x1, e1⟩ : ∃ z, z = (f 1).toInt := ⟨_, rfl⟩
  obtain ⟨x2, e2⟩ : ∃ z, z = (f 2).toInt := ⟨_, rfl⟩
  rw [← e0] at p0 p0' n01 n02
  rw [← e1] at p1 p1' n01 n12
  rw [← e2] at p2 p2' n02 n12
  have z0 : ∀ z, pZ f 0 z 3 = 1 * (z - x1) * (z - x2) := fun z => by rw [e1, e2]; rfl
  have z1 : ∀ z, pZ f 1 z 3 = 1 * (z - x0) * (z - x2) := fun z => by rw [e0, e2]; rfl
  have z2 : ∀ z, pZ f 2 z 3 = 1 * (z - x0) * (z - x1) := fun z => by rw [e0, e1]; rfl
  obtain ⟨d01, g01⟩ : ∃ d, d = (x0 - x1).natAbs := ⟨_, rfl⟩
  obtain ⟨d02, g02⟩ : ∃ d, d = (x0 - x2).natAbs := ⟨_, rfl⟩
  obtain ⟨d12, g12⟩ : ∃ d, d = (x1 - x2).natAbs := ⟨_, rfl⟩
  have s10 : (x1 - x0).natAbs = d01 := by omega
  have s20 : (x2 - x0).natAbs = d02 := by omega
  have s21 : (x2 - x1).natAbs = d12 := by omega
  have b3 : ∀ {a b c : Nat}, a ≤ 40 → b ≤ 40 → c ≤ 40 → a * b * c ≤ 64000 := fun h1 h2 h3 => Nat.mul_le_mul (Nat.mul_le_mul h1 h2) h3
  have hV := b3 (show d01 ≤ 40 by omega) (show d02 ≤ 40 by omega) (show d12 ≤ 40 by omega)
  have hV0 : 0 < d01 * d02 * d12 := Nat.mul_pos (Nat.mul_pos (by omega) (by omega)) (by omega)
  refine ⟨d01 * d02 * d12, tab_mk hV0 (by omega) (fun k => if k = 0 then 6 * d12 else if k = 1 then 6 * d02 else 6 * d01) (fun k hk => ?_) (fun x hx W hd hW => ?_)⟩
  · rcases (show k = 0 ∨ k = 1 ∨ k = 2 by omega) with rfl | rfl | rfl
    · rw [← e0, z0, Int.one_mul, Int.natAbs_mul, ← g01, ← g02]
      refine ⟨Int.mul_ne_zero (by omega) (by omega), ?_⟩
      show d01 * d02 * (6 * d12) = _
      ac_rfl
    · rw [← e1, z1, Int.one_mul, Int.natAbs_mul, s10, ← g12]
      refine ⟨Int.mul_ne_zero (by omega) (by omega), ?_⟩
      show d01 * d12 * (6 * d02) = _
      ac_rfl
    · rw [← e2, z2, Int.one_mul, Int.natAbs_mul, s20, s21]
      refine ⟨Int.mul_ne_zero (by omega) (by omega), ?_⟩
      show d02 * d12 * (6 * d01) = _
      ac_rfl
  · have q0 := hd 0 (by decide)
    have q1 := hd 1 (by decide)
    have q2 := hd 2 (by decide)
    rw [hW, ww, ww, ww, ww, q0, q1, q2, z0, z1, z2, Int.one_mul, Int.one_mul, Int.natAbs_mul, Int.natAbs_mul, Int.natAbs_mul]
    have t0 := b3 (show d12 ≤ 40 by omega) (show (x - x1).natAbs ≤ 40 by omega) (show (x - x2).natAbs ≤ 40 by omega)
    have t1 := b3 (show d02 ≤ 40 by omega) (show (x - x0).natAbs ≤ 40 by omega) (show (x - x2).natAbs ≤ 40 by omega)
    have t2 := b3 (show d01 ≤ 40 by omega) (show (x - x0).natAbs ≤ 40 by omega) (show (x - x1).natAbs ≤ 40 by omega)
    have u0 : 6 * d12 * ((x - x1).natAbs * (x - x2).natAbs) = 6 * (d12 * (x - x1).natAbs * (x - x2).natAbs) := by ac_rfl
    have u1 : 6 * d02 * ((x - x0).natAbs * (x - x2).natAbs) = 6 * (d02 * (x - x0).natAbs * (x - x2).natAbs) := by ac_rfl
    have u2 : 6 * d01 * ((x - x0).natAbs * (x - x1).natAbs) = 6 * (d01 * (x - x0).natAbs * (x - x1).natAbs) := by ac_rfl
    show 6 * (d01 * d02 * d12) + (0 + 6 * d12 * ((x - x1).natAbs * (x - x2).natAbs) + 6 * d02 * ((x - x0).natAbs * (x - x2).natAbs) + 6 * d01 * ((x - x0).natAbs * (x - x1).natAbs)) ≤ _
    omega
theorem ds_i {x y : Int} (hx : -20 ≤ x) (hy : -20 ≤ y) : (x - y).natAbs = ds (x + 20).toNat (y + 20).toNat := by unfold ds; omega
theorem ds_p {x y : Int} (hx : -20 ≤ x) (hy : -20 ≤ y) (h : x ≠ y) : 0 < ds (x + 20).toNat (y + 20).toNat := by unfold ds; omega
theorem sn {x y : Int} (h : x ≠ y) : x - y ≠ 0 := fun z => h (Int.sub_eq_zero.mp z)
theorem to40 {x : Int} (h : x ≤ 20) : (x + 20).toNat ≤ 40 := by omega
theorem dbl (a b c d : Nat) : a * b * c * (2 * d) = 2 * (a * b * c * d) := by ac_rfl
theorem half {X V m : Nat} (h : 2 * X = V) (hm : V = 12 * m) : X = 6 * m := by omega
theorem fin4 {V m A B C D F : Nat} (hm : V = 12 * m) (h : F = V + 2 * A + 2 * B + 2 * C + 2 * D) (hF : F ≤ 196754880) : 6 * m + (0 + A + B + C + D) ≤ 98377440 := by omega
theorem tab_4 {f : Nat → Int32} (hf : ∀ k, k < 4 → BdI (f k) 20) (hne : ∀ i, i < 4 → ∀ k, k < i → ¬ f k = f i) : ∃ a, tabOk f 4 a := by
  obtain ⟨p0, p0'⟩ := sb (hf 0 (by decide))
  obtain ⟨p1, p1'⟩ := sb (hf 1 (by decide))
  obtain ⟨p2, p2'⟩ := sb (hf 2 (by decide))
  obtain ⟨p3, p3'⟩ := sb (hf 3 (by decide))
  have n01 := ne_i (hne 1 (by decide) 0 (by decide))
  have n02 := ne_i (hne 2 (by decide) 0 (by decide))
  have n12 := ne_i (hne 2 (by decide) 1 (by decide))
  have n03 := ne_i (hne 3 (by decide) 0 (by decide))
  have n13 := ne_i (hne 3 (by decide) 1 (by decide))
  have n23 := ne_i (hne 3 (by decide) 2 (by decide))
  obtain ⟨x0, e0⟩ : ∃ z, z = (f 0).toInt := ⟨_, rfl⟩
  obtain ⟨x1, e1⟩ : ∃ z, z = (f 1).toInt := ⟨_, rfl⟩
  obtain ⟨x2, e2⟩ : ∃ z, z = (f 2).toInt := ⟨_, rfl⟩
  obtain ⟨x3, e3⟩ : ∃ z, z = (f 3).toInt := ⟨_, rfl⟩
  rw [← e0] at p0 p0' n01 n02 n03
  rw [← e1] at p1 p1' n01 n12 n13
  rw [← e2] at p2 p2' n02 n12 n23
  rw [← e3] at p3 p3' n03 n13 n23
  have z0 : ∀ z, pZ f 0 z 4 = 1 * (z - x1) * (z - x2) * (z - x3) := fun z => by rw [e1, e2, e3]; rfl
  have z1 : ∀ z, pZ f 1 z 4 = 1 * (z - x0) * (z - x2) * (z - x3) := fun z => by rw [e0, e2, e3]; rfl
  have z2 : ∀ z, pZ f 2 z 4 = 1 * (z - x0) * (z - x1) * (z - x3) := fun z => by rw [e0, e1, e3]; rfl
  have z3 : ∀ z, pZ f 3 z 4 = 1 * (z - x0) * (z - x1) * (z - x2) := fun z => by rw [e0, e1, e2]; rfl
  have q01 := ds_p p0 p1 n01
  have q02 := ds_p p0 p2 n02
  have q03 := ds_p p0 p3 n03
  have q12 := ds_p p1 p2 n12
  have q13 := ds_p p1 p3 n13
  have q23 := ds_p p2 p3 n23
  have m01 : True → x0 - x1 ≠ 0 ∧ x1 - x0 ≠ 0 := fun _ => ⟨sn n01, sn n01.symm⟩
  have m02 : True → x0 - x2 ≠ 0 ∧ x2 - x0 ≠ 0 := fun _ => ⟨sn n02, sn n02.symm⟩
  have m03 : True → x0 - x3 ≠ 0 ∧ x3 - x0 ≠ 0 := fun _ => ⟨sn n03, sn n03.symm⟩
  have m12 : True → x1 - x2 ≠ 0 ∧ x2 - x1 ≠ 0 := fun _ => ⟨sn n12, sn n12.symm⟩
  have m13 : True → x1 - x3 ≠ 0 ∧ x3 - x1 ≠ 0 := fun _ => ⟨sn n13, sn n13.symm⟩
  have m23 : True → x2 - x3 ≠ 0 ∧ x3 - x2 ≠ 0 := fun _ => ⟨sn n23, sn n23.symm⟩
  clear n01 n02 n03 n12 n13 n23
  have g01 := ds_i p0 p1
  have g02 := ds_i p0 p2
  have g03 := ds_i p0 p3
  have g12 := ds_i p1 p2
  have g13 := ds_i p1 p3
  have g23 := ds_i p2 p3
  have s10 := (ds_i p1 p0).trans (ds_c _ _)
  have s20 := (ds_i p2 p0).trans (ds_c _ _)
  have s30 := (ds_i p3 p0).trans (ds_c _ _)
  have s21 := (ds_i p2 p1).trans (ds_c _ _)
  have s31 := (ds_i p3 p1).trans (ds_c _ _)
  have s32 := (ds_i p3 p2).trans (ds_c _ _)
  have l0 := to40 p0'
  have l1 := to40 p1'
  have l2 := to40 p2'
  have l3 := to40 p3'
  have yy : ∀ x : Int, x.natAbs ≤ 20 → (x - x0).natAbs = ds (x + 20).toNat (x0 + 20).toNat ∧ (x - x1).natAbs = ds (x + 20).toNat (x1 + 20).toNat ∧ (x - x2).natAbs = ds (x + 20).toNat (x2 + 20).toNat ∧ (x - x3).natAbs = ds (x + 20).toNat (x3 + 20).toNat ∧ (x + 20).toNat ≤ 40 := fun x hx => by
    have hx1 : -20 ≤ x := by omega
    have hx2 : x ≤ 20 := by omega
    exact ⟨ds_i hx1 p0, ds_i hx1 p1, ds_i hx1 p2, ds_i hx1 p3, to40 hx2⟩
  clear p0 p0' p1 p1' p2 p2' p3 p3' hf hne
  generalize (x0 + 20).toNat = a at *
  generalize (x1 + 20).toNat = b at *
  generalize (x2 + 20).toNat = c at *
  generalize (x3 + 20).toNat = d at *
  obtain ⟨V, hV⟩ : ∃ V, V = ds a b * ds a c * ds a d * ds b c * ds b d * ds c d := ⟨_, rfl⟩
  have hV0 : 0 < V := by rw [hV]; exact Nat.mul_pos (Nat.mul_pos (Nat.mul_pos (Nat.mul_pos (Nat.mul_pos q01 q02) q03) q12) q13) q23
  have h4 : 4 ∣ V := by
    have := quad_4 a b c d
    rw [show ds a b * ds a c * ds b c * (ds a d * ds b d * ds c d) = V by rw [hV]; ac_rfl] at this
    exact this
  have h3 : 3 ∣ V := by
    have := quad_3 a b c d
    rw [show ds a b * ds a c * ds b c * (ds a d * ds b d * ds c d) = V by rw [hV]; ac_rfl] at this
    exact this
  obtain ⟨m, hm⟩ : ∃ m, V = 12 * m := ⟨V / 12, by omega⟩
  obtain ⟨c0, k0⟩ := tri_2 b c d
  obtain ⟨c1, k1⟩ := tri_2 a c d
  obtain ⟨c2, k2⟩ := tri_2 a b d
  obtain ⟨c3, k3⟩ := tri_2 a b c
  have w0 : ds a b * ds a c * ds a d * (2 * c0) = V := by rw [← k0, hV]; ac_rfl
  have w1 : ds a b * ds b c * ds b d * (2 * c1) = V := by rw [← k1, hV]; ac_rfl
  have w2 : ds a c * ds b c * ds c d * (2 * c2) = V := by rw [← k2, hV]; ac_rfl
  have w3 : ds a d * ds b d * ds c d * (2 * c3) = V := by rw [← k3, hV]; ac_rfl
  have hF : F5 a b c d d = 2 * V := by
    have dd : ds d d = 0 := by unfold ds; omega
    unfold F5
    rw [dd, ds_c d a, ds_c d b, ds_c d c, Nat.mul_zero, Nat.mul_zero, Nat.mul_zero, Nat.mul_zero, Nat.mul_zero, Nat.mul_zero]
    have : ds a b * ds a c * ds b c * (ds a d * ds b d * ds c d) = V := by rw [hV]; ac_rfl
    rw [this, ← hV]
    omega
  have hFl := F5_le l0 l1 l2 l3 l3
  rw [hF] at hFl
  have hm0 : 0 < m := by clear hF w0 w1 w2 w3 k0 k1 k2 k3; omega
  have hm1 : 6 * m ≤ 49188720 := by clear hF w0 w1 w2 w3 k0 k1 k2 k3; omega
  refine ⟨m, tab_mk hm0 hm1 (fun k => if k = 0 then c0 else if k = 1 then c1 else if k = 2 then c2 else c3) (fun k hk => ?_) (fun x hx W hd hW => ?_)⟩
  · rcases (show k = 0 ∨ k = 1 ∨ k = 2 ∨ k = 3 by omega) with rfl | rfl | rfl | rfl
    · rw [← e0, z0, Int.one_mul, Int.natAbs_mul, Int.natAbs_mul, g01, g02, g03]
      refine ⟨Int.mul_ne_zero (Int.mul_ne_zero (m01 trivial).1 (m02 trivial).1) (m03 trivial).1, ?_⟩
      show ds a b * ds a c * ds a d * c0 = _
      exact half ((dbl _ _ _ _).symm.trans w0) hm
    · rw [← e1, z1, Int.one_mul, Int.natAbs_mul, Int.natAbs_mul, s10, g12, g13]
      refine ⟨Int.mul_ne_zero (Int.mul_ne_zero (m01 trivial).2 (m12 trivial).1) (m13 trivial).1, ?_⟩
      show ds a b * ds b c * ds b d * c1 = _
      exact half ((dbl _ _ _ _).symm.trans w1) hm
    · rw [← e2, z2, Int.one_mul, Int.natAbs_mul, Int.natAbs_mul, s20, s21, g23]
      refine ⟨Int.mul_ne_zero (Int.mul_ne_zero (m02 trivial).2 (m12 trivial).2) (m23 trivial).1, ?_⟩
      show ds a c * ds b c * ds c d * c2 = _
      exact half ((dbl _ _ _ _).symm.trans w2) hm
    · rw [← e3, z3, Int.one_mul, Int.natAbs_mul, Int.natAbs_mul, s30, s31, s32]
      refine ⟨Int.mul_ne_zero (Int.mul_ne_zero (m03 trivial).2 (m13 trivial).2) (m23 trivial).2, ?_⟩
      show ds a d * ds b d * ds c d * c3 = _
      exact half ((dbl _ _ _ _).symm.trans w3) hm
  · have r0 := hd 0 (by decide)
    have r1 := hd 1 (by decide)
    have r2 := hd 2 (by decide)
    have r3 := hd 3 (by decide)
    obtain ⟨y0, y1, y2, y3, lq⟩ := yy x hx
    generalize (x + 20).toNat = q at *
    have hFq := F5_le l0 l1 l2 l3 lq
    have hFe : F5 a b c d q = V + 2 * c0 * (ds q b * ds q c * ds q d) + 2 * c1 * (ds q a * ds q c * ds q d) + 2 * c2 * (ds q a * ds q b * ds q d) + 2 * c3 * (ds q a * ds q b * ds q c) := by
      unfold F5
      rw [← k0, ← k1, ← k2, ← k3, ← hV]
    rw [hW, ww, ww, ww, ww, ww, r0, r1, r2, r3, z0, z1, z2, z3]
    simp only [Int.one_mul, Int.natAbs_mul, y0, y1, y2, y3]
    show 6 * m + (0 + c0 * (ds q b * ds q c * ds q d) + c1 * (ds q a * ds q c * ds q d) + c2 * (ds q a * ds q b * ds q d) + c3 * (ds q a * ds q b * ds q c)) ≤ _
    rw [Nat.mul_assoc 2, Nat.mul_assoc 2, Nat.mul_assoc 2, Nat.mul_assoc 2] at hFe
    exact fin4 hm hFe hFq
theorem tab_all {f : Nat → Int32} {n : Nat} (h1 : 1 ≤ n) (h4 : n ≤ 4) (hf : ∀ k, k < n → BdI (f k) 20) (hne : ∀ i, i < n → ∀ k, k < i → ¬ f k = f i) : ∃ a, tabOk f n a := by
  rcases (show n = 1 ∨ n = 2 ∨ n = 3 ∨ n = 4 by omega) with rfl | rfl | rfl | rfl
  · exact ⟨1, tab_1⟩
  · exact tab_2 hf hne
  · exact tab_3 hf hne
  · exact tab_4 hf hne
