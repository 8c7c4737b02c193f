theorem addIV {x y : Int32} {A B : Nat} (hx : BdI x A) (hy : BdI y B) (h : A + B < 2 ^ 31) : (x + y).toInt = x.toInt + y.toInt := by
  unfold BdI at hx hy
  exact fb_addI (by omega) (by omega)
theorem BdI.add {x y : Int32} {A B : Nat} (hx : BdI x A) (hy : BdI y B) (h : A + B < 2 ^ 31) : BdI (x + y) (A + B) := by
  have h2 := addIV hx hy h
  unfold BdI at *
  rw [h2]; omega
theorem BdI.n {t B : Nat} (h : t ≤ B) (hB : B < 2 ^ 31) : BdI (nI t) B := by unfold BdI; rw [nI_toInt (by omega)]; omega
theorem abI_v {v : Int32} {B : Nat} (h : BdI v B) (hB : B < 2 ^ 31) : (abI v).toInt = v.toInt.natAbs := by
  unfold abI
  by_cases c : 0 ≤ v
  · rw [if_pos c]
    rw [fa_le] at c
    have : (0 : Int32).toInt = 0 := rfl
    omega
  · rw [if_neg c, subIV (A := 0) (B := B) (by unfold BdI; decide) h (by omega)]
    rw [fa_le] at c
    have : (0 : Int32).toInt = 0 := rfl
    omega
theorem abL_v {v : Int64} {B : Nat} (h : Bd v B) (hB : B < 2 ^ 63) : (abL v).toInt = v.toInt.natAbs := by
  unfold abL
  by_cases c : 0 ≤ v
  · rw [if_pos c]
    rw [fa_le64] at c
    have : (0 : Int64).toInt = 0 := rfl
    omega
  · have e : (-v).toInt = -v.toInt := by
      have := (show (0 - v).toInt = (0 : Int64).toInt - v.toInt from subV (A := 0) (B := B) (by unfold Bd; decide) h (by omega))
      rw [Int64.zero_sub] at this
      rw [this]
      show (0 : Int) - _ = _
      omega
    rw [if_neg c, e]
    rw [fa_le64] at c
    have : (0 : Int64).toInt = 0 := rfl
    omega
theorem wide_abs {v : Int32} {B : Nat} (h : BdI v B) (hB : B < 2 ^ 31) : (abI v).toInt64 = abL v.toInt64 := by
  rw [fa_eq64, toL, abI_v h hB, abL_v h.L (by omega), toL]
theorem abI_bd {v : Int32} {B : Nat} (h : BdI v B) (hB : B < 2 ^ 31) : BdI (abI v) B := by
  have := abI_v h hB
  unfold BdI at *
  omega
theorem sCn_add {p q r : Nat → Prop} [DecidablePred p] [DecidablePred q] [DecidablePred r] : ∀ {n : Nat}, (∀ i, i < n → (p i ↔ q i ∨ r i) ∧ ¬ (q i ∧ r i)) → sCn p n = sCn q n + sCn r n
  | 0, _ => rfl
  | n + 1, h => by
    have ih := sCn_add (p := p) (q := q) (r := r) (n := n) (fun i hi => h i (by omega))
    obtain ⟨h1, h2⟩ := h n (by omega)
    rw [sCn, sCn, sCn]
    by_cases eq : q n
    · rw [if_pos (h1.mpr (Or.inl eq)), if_pos eq, if_neg (fun z => h2 ⟨eq, z⟩)]; omega
    · by_cases er : r n
      · rw [if_pos (h1.mpr (Or.inr er)), if_neg eq, if_pos er]; omega
      · rw [if_neg (fun z => (h1.mp z).elim eq er), if_neg eq, if_neg er]; omega
theorem tl_eq (q x0 x1 x2 x3 x4 : Int32) : (if ¬ q < 0 ∧ ¬ 4 < q then dTl q x0 x1 x2 x3 x4 else -1) = (if q = 0 then x0 else if q = 1 then x1 else if q = 2 then x2 else if q = 3 then x3 else if q = 4 then x4 else -1) := by
  by_cases c : ¬ q < 0 ∧ ¬ 4 < q
  · rw [if_pos c]
    obtain ⟨k, hk, rfl⟩ := to_nat (M := 4) (m := 4) rfl c
    rcases (show k = 0 ∨ k = 1 ∨ k = 2 ∨ k = 3 ∨ k = 4 by omega) with rfl | rfl | rfl | rfl | rfl <;> rfl
  · rw [if_neg c]
    rw [if_neg (fun z => c (by subst z; decide)), if_neg (fun z => c (by subst z; decide)), if_neg (fun z => c (by subst z; decide)), if_neg (fun z => c (by subst z; decide)), if_neg (fun z => c (by subst z; decide))]
theorem rc_of {g : mm_I} {n : Nat} (hc : ∀ c, c < n → RC1 g c) (v : Int32) : sCn (pOf g v) n = sCn (pCO g 0 v 0) n := sCn_cong (fun i hi => by
  obtain ⟨⟨a0, _⟩, _⟩ := hc i hi
  show g 22 i = v ↔ (g (53 + i) 0 = v ∧ ((0 : Int32) = 0 ∨ _))
  rw [a0]
  exact ⟨fun z => ⟨z, Or.inl rfl⟩, fun z => z.1⟩)
theorem rc_ov {g : mm_I} {n : Nat} (hc : ∀ c, c < n → RC1 g c) (v : Int32) : sCn (pCO g 0 v 0) n = sCn (pCO g 0 v 1) n + sCn (pOv g v) n := sCn_add (fun i hi => by
  obtain ⟨⟨a0, a1, a2, a3, a4, a5, a6, a7⟩, h01, _⟩ := hc i hi
  show ((g (53 + i) 0 = v ∧ ((0 : Int32) = 0 ∨ ¬ g (53 + i) 5 = 1)) ↔ (g (53 + i) 0 = v ∧ ((1 : Int32) = 0 ∨ ¬ g (53 + i) 5 = 1)) ∨ (g 22 i = v ∧ ¬ g 31 i = 0)) ∧ ¬ ((g (53 + i) 0 = v ∧ ((1 : Int32) = 0 ∨ ¬ g (53 + i) 5 = 1)) ∧ (g 22 i = v ∧ ¬ g 31 i = 0))
  rw [a0, a5]
  have one : ¬ (1 : Int32) = 0 := by decide
  rcases h01 with z | z
  · rw [z]
    exact ⟨⟨fun y => Or.inl ⟨y.1, Or.inr (by decide)⟩, fun y => y.elim (fun y => ⟨y.1, Or.inl rfl⟩) (fun y => ⟨y.1, Or.inl rfl⟩)⟩, fun y => y.2.2 rfl⟩
  · rw [z]
    exact ⟨⟨fun y => Or.inr ⟨y.1, by decide⟩, fun y => ⟨y.elim (fun y => y.1) (fun y => y.1), Or.inl rfl⟩⟩, fun y => y.1.2.elim (fun q => one q) (fun q => q rfl)⟩)
theorem rc_ov2 {g : mm_I} {n : Nat} (hc : ∀ c, c < n → RC1 g c) (v : Int32) : nI (sCn (pOv g v) n) = nI (sCn (pCO g 0 v 0) n) - nI (sCn (pCO g 0 v 1) n) := by
  rw [rc_ov hc v, Nat.add_comm, ← nI_add]
  exact (Int32.add_sub_cancel _ _).symm
theorem op_told (a0 a1 : Int32) (E : mm_E) (g : mm_I) (h : mm_L) (R : Rl g h) : OpI E yX6_told wsX6_told 3 68 yX7_told wsX7_told 3 71 [.int a0, .int a1] g h := by
  obtain ⟨nb, hnb, b1, b2, b3⟩ := R.2.2.1
  obtain ⟨n, hn, c1, c2, c3, c4⟩ := R.2.2.2.1
  have A := c_X6_told E g h a0 a1 nb hnb b1 n hn c1
  have B := c_X7_told E g h a0 a1 nb hnb b2 n hn c2
  refine op_i A B rfl ?_ rfl rfl R
  unfold dTold dHas
  by_cases q1 : ¬ a0 < 0 ∧ ¬ nI nb - 1 < a0
  · obtain ⟨d, hd, ed⟩ := has_nat (by omega) q1
    have cd : a0.toNatClampNeg = d := by rw [ed]; exact cl_nI (by omega)
    rw [if_pos q1, if_pos q1, cd]
    dsimp only
    rw [tl_eq, rc_of c3, rc_ov2 c3, rc_L c3 _ _ (Nat.le_refl n), (b3 d (by omega)).1, (b3 d (by omega)).2.1]
  · rw [if_neg q1, if_neg q1]
theorem sPres_eq {f f' : Nat → Int32} : ∀ {n : Nat}, (∀ i, i < n → (f i = -1 ↔ f' i < 0)) → sPres f n = sPrM f' n
  | 0, _ => rfl
  | n + 1, h => by
    rw [sPres, sPrM, sPres_eq (n := n) (fun i hi => h i (by omega))]
    by_cases e : f n = -1
    · rw [if_pos e, if_pos ((h n (by omega)).mp e)]
    · rw [if_neg e, if_neg (fun z => e ((h n (by omega)).mpr z))]
theorem rr_iff {g : mm_I} (R : RR g) {j : Nat} (hj : j < 6) : g 9 j = -1 ↔ g 14 j < 0 := ⟨fun z => rr_ms R hj z, fun z => Decidable.byContradiction (fun y => (rr_ms' R hj y).1 z)⟩
theorem sSi_cong {f f' : Nat → Int32} : ∀ {n : Nat}, (∀ i, i < n → f i = f' i) → sSi f n = sSi f' n
  | 0, _ => rfl
  | n + 1, h => by rw [sSi, sSi, sSi_cong (n := n) (fun i hi => h i (by omega)), h n (by omega)]
theorem rt_sz {g : mm_I} (R : RT g) : ∀ i, i < 4 → g 10 i = g 17 i := fun i hi => by obtain ⟨n, _, e1, e2, _⟩ := R i hi; rw [e1, e2]
theorem rc_v {g : mm_I} {n : Nat} (hc : ∀ c, c < n → RC1 g c) : sCn (pV g) n = sCn (pCO g 5 1 0) n := sCn_cong (fun i hi => by
  obtain ⟨⟨a0, a1, a2, a3, a4, a5, a6, a7⟩, h01, _⟩ := hc i hi
  show ¬ g 31 i = 0 ↔ (g (53 + i) 5 = 1 ∧ ((0 : Int32) = 0 ∨ ¬ g (53 + i) 5 = 1))
  rw [a5]
  rcases h01 with z | z <;> rw [z] <;> decide)
theorem tc_eq (q x0 x1 x2 x3 x4 : Int32) : (if ¬ q < 0 ∧ ¬ 4 < q then dTc q x0 x1 x2 x3 x4 else -1) = dCnt q x0 x1 x2 x3 x4 := by
  unfold dCnt
  by_cases c : ¬ q < 0 ∧ ¬ 4 < q
  · rw [if_pos c]
    obtain ⟨k, hk, rfl⟩ := to_nat (M := 4) (m := 4) rfl c
    rcases (show k = 0 ∨ k = 1 ∨ k = 2 ∨ k = 3 ∨ k = 4 by omega) with rfl | rfl | rfl | rfl | rfl <;> rfl
  · rw [if_neg c]
    rw [if_neg (fun z => c (by subst z; decide)), if_neg (fun z => c (by subst z; decide)), if_neg (fun z => c (by subst z; decide)), if_neg (fun z => c (by subst z; decide)), if_neg (fun z => c (by subst z; decide))]
theorem op_count (a0 : Int32) (E : mm_E) (g : mm_I) (h : mm_L) (R : Rl g h) : OpI E yX6_count wsX6_count 1 25 yX7_count wsX7_count 1 23 [.int a0] g h := by
  obtain ⟨n, hn, c1, c2, c3, c4⟩ := R.2.2.2.1
  obtain ⟨nb, hnb, b1, b2, b3⟩ := R.2.2.1
  have A := c_X6_count E g h a0 n hn c1
  have B := c_X7_count E g h a0 n hn c2
  refine op_i A B rfl ?_ rfl rfl R
  rw [tc_eq, ← sPres_eq (f := g 9) (fun i hi => rr_iff R.1 hi), ← sSi_cong (rt_sz R.2.1), rc_v c3, b1, b2, c1, c2]
theorem kn_iff {g : mm_I} (R : RL5 g) {a b c : Nat} (ha : a < 6) (hb : b < 6) (hc : c < 6) : knC g a b c ↔ knM g a b c := by
  show (¬ g (99 + a) b = -1 ∧ ¬ g (99 + b) c = -1 ∧ ¬ g (99 + c) a = -1) ↔ (¬ g 32 (6 * a + b) = 0 ∧ ¬ g 32 (6 * b + c) = 0 ∧ ¬ g 32 (6 * c + a) = 0)
  rw [(R.get ha hb).1, (R.get hb hc).1, (R.get hc ha).1]
theorem kn_eq {g : mm_I} (R : RL5 g) {a b c : Nat} (ha : a < 6) (hb : b < 6) (hc : c < 6) (k : knC g a b c) : gpM g a b c = gpC g a b c ∧ enM g a b c = enC g a b c ∧ BdI (gpC g a b c) 30000 := by
  obtain ⟨k1, k2, k3⟩ := k
  obtain ⟨a1, a2, a3, _⟩ := (R.get ha hb).2 k1
  obtain ⟨d1, d2, d3, _⟩ := (R.get hb hc).2 k2
  obtain ⟨e1, e2, e3, _⟩ := (R.get hc ha).2 k3
  unfold gpM gpC enM enC
  rw [a1, d1, e1, a2, d2, e2]
  rw [a1] at a3
  rw [d1] at d3
  rw [e1] at e3
  exact ⟨rfl, rfl, (a3.add d3 (by decide)).add e3 (by decide)⟩
theorem sh_iff {g : mm_I} (R : RL5 g) {a b c : Nat} (ha : a < 6) (hb : b < 6) (hc : c < 6) (k : knC g a b c) : shC g a b c ↔ shM g a b c := by
  obtain ⟨h1, h2, h3⟩ := kn_eq R ha hb hc k
  show ¬ enC g a b c < abI (gpC g a b c) ↔ ¬ (enM g a b c).toInt64 < abL (gpM g a b c).toInt64
  rw [h1, h2, ← wide_abs h3 (by decide), fa_wide_lt]
theorem sCb_cong {p q : Nat → Bool} {a : Nat} : ∀ {n : Nat}, (∀ i, i < n → p (a + i) = q (a + i)) → sCb p a n = sCb q a n
  | 0, _ => rfl
  | n + 1, h => by rw [sCb, sCb, sCb_cong (n := n) (fun i hi => h i (by omega)), h n (by omega)]
theorem oB_cong {p q : Nat → Nat → Nat → Bool} (h : ∀ a b c, a < 6 → b < 6 → c < 6 → p a b c = q a b c) {a : Nat} : ∀ {k : Nat}, a + 1 + k ≤ 6 → oB p a k = oB q a k
  | 0, _ => rfl
  | k + 1, hk => by
    rw [oB, oB, oB_cong h (k := k) (by omega)]
    congr 1
    exact sCb_cong (fun i hi => h _ _ _ (by omega) (by omega) (by omega))
theorem oA_cong {p q : Nat → Nat → Nat → Bool} (h : ∀ a b c, a < 6 → b < 6 → c < 6 → p a b c = q a b c) : ∀ {k : Nat}, k ≤ 6 → oA p k = oA q k
  | 0, _ => rfl
  | k + 1, hk => by rw [oA, oA, oA_cong h (k := k) (by omega), oB_cong h (by omega)]
theorem op_open (E : mm_E) (g : mm_I) (h : mm_L) (R : Rl g h) : OpI E yX6_open wsX6_open 2 46 yX7_open wsX7_open 2 46 [] g h := by
  have A := c_X6_open E g h
  have B := c_X7_open E g h
  refine op_i A B rfl ?_ rfl rfl R
  refine congrArg nI (oA_cong (fun a b c ha hb hc => ?_) (Nat.le_refl 6))
  refine decide_eq_decide.mpr ?_
  rw [← kn_iff R.2.2.2.2.1 ha hb hc]
  exact ⟨fun z => ⟨z.1, fun y => z.2 ((sh_iff R.2.2.2.2.1 ha hb hc z.1).mp y)⟩, fun z => ⟨z.1, fun y => z.2 ((sh_iff R.2.2.2.2.1 ha hb hc z.1).mpr y)⟩⟩
theorem op_closes (a0 a1 a2 : Int32) (E : mm_E) (g : mm_I) (h : mm_L) (R : Rl g h) : OpI E yX6_closes wsX6_closes 2 46 yX7_closes wsX7_closes 2 46 [.int a0, .int a1, .int a2] g h := by
  by_cases q1 : ¬ a0 < 0 ∧ ¬ 5 < a0
  · by_cases q2 : ¬ a1 < 0 ∧ ¬ 5 < a1
    · by_cases q3 : ¬ a2 < 0 ∧ ¬ 5 < a2
      · obtain ⟨pa, hpa, ea⟩ := to_nat (M := 5) (m := 5) rfl q1
        obtain ⟨pb, hpb, eb⟩ := to_nat (M := 5) (m := 5) rfl q2
        obtain ⟨pc, hpc, ec⟩ := to_nat (M := 5) (m := 5) rfl q3
        have ca : a0.toNatClampNeg = pa := by rw [ea]; exact cl_nI (by omega)
        have cb : a1.toNatClampNeg = pb := by rw [eb]; exact cl_nI (by omega)
        have cc : a2.toNatClampNeg = pc := by rw [ec]; exact cl_nI (by omega)
        have ki := kn_iff R.2.2.2.2.1 (show pa < 6 by omega) (show pb < 6 by omega) (show pc < 6 by omega)
        by_cases q4 : a0 = a1
        · have A := c_X6_closes E g h a0 a1 a2
          have B := c_X7_closes E g h a0 a1 a2
          simp only [dClo, if_pos q1, if_pos q2, if_pos q3, ca, cb, cc, if_pos q4] at A B
          exact ⟨_, _, _, _, _, A, B, R⟩
        · by_cases q5 : a1 = a2
          · have A := c_X6_closes E g h a0 a1 a2
            have B := c_X7_closes E g h a0 a1 a2
            simp only [dClo, if_pos q1, if_pos q2, if_pos q3, ca, cb, cc, if_neg q4, if_pos q5] at A B
            exact ⟨_, _, _, _, _, A, B, R⟩
          · by_cases q6 : a2 = a0
            · have A := c_X6_closes E g h a0 a1 a2
              have B := c_X7_closes E g h a0 a1 a2
              simp only [dClo, if_pos q1, if_pos q2, if_pos q3, ca, cb, cc, if_neg q4, if_neg q5, if_pos q6] at A B
              exact ⟨_, _, _, _, _, A, B, R⟩
            · by_cases q7 : knC g pa pb pc
              · have m7 := ki.mp q7
                have hs := bI_iff (sh_iff R.2.2.2.2.1 (show pa < 6 by omega) (show pb < 6 by omega) (show pc < 6 by omega) q7)
                have hg := (kn_eq R.2.2.2.2.1 (show pa < 6 by omega) (show pb < 6 by omega) (show pc < 6 by omega) q7).1
                have A := c_X6_closes E g h a0 a1 a2
                have B := c_X7_closes E g (upL h 0 8 (gpC g pa pb pc).toInt64) a0 a1 a2
                simp only [dClo, if_pos q1, if_pos q2, if_pos q3, ca, cb, cc, if_neg q4, if_neg q5, if_neg q6, if_pos q7, if_pos m7, ← hs, hg] at A B
                exact ⟨_, _, _, _, _, A, B, rl_ask R rfl⟩
              · have m7 : ¬ knM g pa pb pc := fun z => q7 (ki.mpr z)
                have A := c_X6_closes E g h a0 a1 a2
                have B := c_X7_closes E g h a0 a1 a2
                simp only [dClo, if_pos q1, if_pos q2, if_pos q3, ca, cb, cc, if_neg q4, if_neg q5, if_neg q6, if_neg q7, if_neg m7] at A B
                exact ⟨_, _, _, _, _, A, B, R⟩
      · have A := c_X6_closes E g h a0 a1 a2
        have B := c_X7_closes E g h a0 a1 a2
        simp only [dClo, if_pos q1, if_pos q2, if_neg q3] at A B
        exact ⟨_, _, _, _, _, A, B, R⟩
    · have A := c_X6_closes E g h a0 a1 a2
      have B := c_X7_closes E g h a0 a1 a2
      simp only [dClo, if_pos q1, if_neg q2] at A B
      exact ⟨_, _, _, _, _, A, B, R⟩
  · have A := c_X6_closes E g h a0 a1 a2
    have B := c_X7_closes E g h a0 a1 a2
    simp only [dClo, if_neg q1] at A B
    exact ⟨_, _, _, _, _, A, B, R⟩
theorem pa_eq {o e t : Int32} (ho : BdI o 10000) (he : BdI e 10000) (ht : BdI t 10000) : bI (¬ t.toInt64 < abL o.toInt64 + e.toInt64) = bI (¬ t < abI o + e) := by
  refine bI_iff ?_
  have h1 : (abI o + e).toInt64 = abL o.toInt64 + e.toInt64 := by
    rw [fa_eq64, toL, addIV (abI_bd ho (by decide)) he (by decide), abI_v ho (by decide), addV (A := 10000) (B := 10000) (by unfold Bd; rw [abL_v ho.L (by decide), toL]; exact ho) he.L (by decide), abL_v ho.L (by decide), toL, toL]
  rw [← h1, fa_wide_lt]
theorem op_passes (a0 : Int32) (E : mm_E) (g : mm_I) (h : mm_L) (R : Rl g h) : OpI E yX6_passes wsX6_passes 3 68 yX7_passes wsX7_passes 2 46 [.int a0] g h := by
  obtain ⟨nb, hnb, b1, b2, b3⟩ := R.2.2.1
  obtain ⟨n, hn, c1, c2, c3, c4⟩ := R.2.2.2.1
  have A := c_X6_passes E g h a0 nb hnb b1 n hn c1
  have B := c_X7_passes E g h a0 nb hnb b2 n hn c2
  refine op_i A B rfl ?_ rfl rfl R
  unfold dPass dHas
  by_cases q1 : ¬ a0 < 0 ∧ ¬ nI nb - 1 < a0
  · obtain ⟨d, hd, ed⟩ := has_nat (by omega) q1
    have cd : a0.toNatClampNeg = d := by rw [ed]; exact cl_nI (by omega)
    rw [if_pos q1, if_pos q1, cd, rc_L c3 _ _ (Nat.le_refl n)]
    dsimp only
    rcases sLast_nat (pLU g a0 100000) n with z | ⟨c, hc, z, _⟩
    · rw [if_pos z, if_pos z]
    · rw [z, if_neg (fun y => nI_pos (n := c) (by omega) (by rw [y]; decide)), if_neg (fun y => nI_pos (n := c) (by omega) (by rw [y]; decide)), cl_nI (by omega)]
      obtain ⟨⟨f0, f1, f2, f3, f4, f5, f6, f7⟩, f8, f9, f10, f11, t2, ht2, f12⟩ := c3 c hc
      obtain ⟨k1, k2, t, ht, k3⟩ := b3 d (by omega)
      rw [f7, f4, ← k2]
      exact pa_eq f10 (by rw [f12]; exact BdI.n ht2 (by decide)) (by rw [k3]; exact BdI.n ht (by decide))
  · rw [if_neg q1, if_neg q1]
theorem chN_cong {r r' : Nat → Int32} {n : Nat} (hn : n ≤ 40) (h : ∀ i, i < n → r i = r' i) : ∀ (k : Nat) (x : Int32), chN r n k x = chN r' n k x
  | 0, _ => rfl
  | k + 1, x => by
    rw [chN, chN]
    by_cases c : ¬ x < 0 ∧ ¬ nI n - 1 < x
    · obtain ⟨d, hd, rfl⟩ := has_nat (by omega) c
      rw [if_pos c, if_pos c, cl_nI (by omega), h d hd, chN_cong hn h k]
    · rw [if_neg c, if_neg c]
theorem chS_cong {r r' e e' : Nat → Int32} {n : Nat} (hn : n ≤ 40) (h : ∀ i, i < n → r i = r' i) (h2 : ∀ i, i < n → e i = e' i) : ∀ (k : Nat) (x : Int32), chS r e n k x = chS r' e' n k x
  | 0, _ => rfl
  | k + 1, x => by
    rw [chS, chS]
    by_cases c : ¬ x < 0 ∧ ¬ nI n - 1 < x
    · obtain ⟨d, hd, rfl⟩ := has_nat (by omega) c
      rw [if_pos c, if_pos c, cl_nI (by omega), h d hd, h2 d hd, chS_cong hn h h2 k]
    · rw [if_neg c, if_neg c]
theorem chP_cong {r r' : Nat → Int32} {p p' : Nat → Bool} {n : Nat} (hn : n ≤ 40) (h : ∀ i, i < n → r i = r' i) (h2 : ∀ i, i < n → p i = p' i) : ∀ (k : Nat) (x : Int32), chP r n p k x = chP r' n p' k x
  | 0, _ => rfl
  | k + 1, x => by
    rw [chP, chP]
    by_cases c : ¬ x < 0 ∧ ¬ nI n - 1 < x
    · obtain ⟨d, hd, rfl⟩ := has_nat (by omega) c
      rw [if_pos c, if_pos c, cl_nI (by omega), h d hd, h2 d hd, chP_cong hn h h2 k]
    · rw [if_neg c, if_neg c]
theorem rc_ri {g : mm_I} {n : Nat} (hc : ∀ c, c < n → RC1 g c) : ∀ c, c < n → g 28 c = -9 ∨ ∃ d, d < c ∧ g 28 c = nI d := fun c h => (hc c h).2.2.1
theorem rc_6 {g : mm_I} {n : Nat} (hc : ∀ c, c < n → RC1 g c) : ∀ c, c < n → g (53 + c) 6 = g 28 c := fun c h => (hc c h).1.2.2.2.2.2.2.1
theorem op_whole (a0 : Int32) (E : mm_E) (g : mm_I) (h : mm_L) (R : Rl g h) : OpI E yX6_whole wsX6_whole 3 70 yX7_whole wsX7_whole 2 43 [.int a0] g h := by
  obtain ⟨n, hn, c1, c2, c3, c4⟩ := R.2.2.2.1
  by_cases q1 : ¬ a0 < 0 ∧ ¬ nI n - 1 < a0
  · obtain ⟨d, hd, ed⟩ := has_nat (by omega) q1
    have cd : a0.toNatClampNeg = d := by rw [ed]; exact cl_nI (by omega)
    obtain ⟨⟨f0, f1, f2, f3, f4, f5, f6, f7⟩, f8, f9, f10, f11, f12⟩ := c3 d hd
    have e1 := chN_cong (r := fun q => g (53 + q) 6) (r' := g 28) hn (fun i hi => rc_6 c3 i hi) 40 (nI d)
    have e2 := chS_cong (r := fun q => g (53 + q) 6) (r' := g 28) (e := fun q => g (53 + q) 4) (e' := g 27) hn (fun i hi => rc_6 c3 i hi) (fun i hi => (c3 i hi).1.2.2.2.2.1) 40 (nI d)
    have A := c_X6_whole E g h a0 n hn c1
    have B := c_X7_whole E g (upL h 0 8 (chS (g 28) (g 27) n 40 (nI d))) a0 n hn c2 (rc_ri c3)
    simp only [dHas, if_pos q1, cd, e1, e2] at A B
    exact ⟨_, _, _, _, _, A, B, rl_ask R rfl⟩
  · have A := c_X6_whole E g h a0 n hn c1
    have B := c_X7_whole E g h a0 n hn c2 (rc_ri c3)
    simp only [dHas, if_neg q1] at A B
    exact ⟨_, _, _, _, _, A, B, R⟩
theorem chP_lw {r : Nat → Int32} {n d : Nat} (hn : n ≤ 40) (hdn : d < 2 ^ 31) (hri : ∀ c, c < n → r c = -9 ∨ ∃ d, d < c ∧ r c = nI d) : ∀ (k : Nat) (x : Int32), (x = -9 ∨ ∃ e, e < d ∧ x = nI e) → chP r n (fun q => decide (nI q = nI d)) k x = false
  | 0, _, _ => rfl
  | k + 1, x, hx => by
    rw [chP]
    by_cases c : ¬ x < 0 ∧ ¬ nI n - 1 < x
    · obtain ⟨e, he, rfl⟩ := has_nat (by omega) c
      have hed : e < d := by
        rcases hx with z | ⟨e2, h2, z⟩
        · exact absurd z (fun y => nI_pos (n := e) (by omega) (by rw [y]; decide))
        · have := (nI_eq (by omega) (by omega)).mp z
          omega
      rw [if_pos c, cl_nI (by omega)]
      by_cases hd : nI e = nI d
      · have := (nI_eq (by omega) (by omega)).mp hd
        omega
      · rw [if_neg (by rw [decide_eq_true_eq]; exact hd)]
        refine chP_lw hn hdn hri k _ ?_
        rcases hri e he with z | ⟨e2, h2, z⟩
        · exact Or.inl z
        · exact Or.inr ⟨e2, by omega, z⟩
    · rw [if_neg c]
theorem sCb_app (p : Nat → Bool) (a m : Nat) : ∀ k, sCb p a (m + k) = sCb p a m + sCb p (a + m) k
  | 0 => rfl
  | k + 1 => by
    have := sCb_app p a m k
    rw [← Nat.add_assoc, sCb, sCb, this, Nat.add_assoc a m k]
    split <;> omega
theorem sCb_0 {p : Nat → Bool} {a : Nat} : ∀ {k : Nat}, (∀ i, i < k → p (a + i) = false) → sCb p a k = 0
  | 0, _ => rfl
  | k + 1, h => by rw [sCb, h k (by omega)]; exact sCb_0 (fun i hi => h i (by omega))
theorem op_resting (a0 : Int32) (E : mm_E) (g : mm_I) (h : mm_L) (R : Rl g h) : OpI E yX6_resting wsX6_resting 4 90 yX7_resting wsX7_resting 2 43 [.int a0] g h := by
  obtain ⟨n, hn, c1, c2, c3, c4⟩ := R.2.2.2.1
  have A := c_X6_resting E g h a0 n hn c1
  have B := c_X7_resting E g h a0 n hn c2 (rc_ri c3)
  refine op_i A B rfl ?_ rfl rfl R
  unfold dHas
  by_cases q1 : ¬ a0 < 0 ∧ ¬ nI n - 1 < a0
  · obtain ⟨d, hd, ed⟩ := has_nat (by omega) q1
    have cd : a0.toNatClampNeg = d := by rw [ed]; exact cl_nI (by omega)
    rw [if_pos q1, if_pos q1, cd]
    refine congrArg nI ?_
    have hs := sCb_app (fun q => chP (g 28) n (fun q => decide (nI q = nI d)) 40 (g 28 q)) 0 (d + 1) (n - (d + 1))
    rw [show d + 1 + (n - (d + 1)) = n by omega] at hs
    rw [hs, sCb_0 (fun i hi => ?_), Nat.zero_add, Nat.zero_add]
    · refine sCb_cong (fun i hi => ?_)
      rw [rc_6 c3 _ (by omega)]
      exact (chP_cong hn (fun i hi => rc_6 c3 i hi) (fun i hi => rfl) 40 _).symm
    · refine chP_lw hn (by omega) (rc_ri c3) 40 _ ?_
      rcases rc_ri c3 (0 + i) (by omega) with z | ⟨e, he, z⟩
      · exact Or.inl z
      · exact Or.inr ⟨e, by omega, z⟩
  · rw [if_neg q1, if_neg q1]
theorem op_mark (a0 a1 : Int32) (E : mm_E) (g : mm_I) (h : mm_L) (R : Rl g h) : OpI E yX6_mark wsX6_mark 4 90 yX7_mark wsX7_mark 2 43 [.int a0, .int a1] g h := by
  obtain ⟨nb, hnb, b1, b2, b3⟩ := R.2.2.1
  obtain ⟨n, hn, c1, c2, c3, c4⟩ := R.2.2.2.1
  by_cases q1 : ¬ a0 < 0 ∧ ¬ nI nb - 1 < a0
  · obtain ⟨d, hd, ed⟩ := has_nat (by omega) q1
    have cd : a0.toNatClampNeg = d := by rw [ed]; exact cl_nI (by omega)
    have ek := rb_kd R.2.2.1 (show d < 16 by omega)
    by_cases q2 : ¬ a1 < 1 ∧ ¬ 3 < a1
    · by_cases q3 : g 11 d = a1 ∨ g 11 d = 3 ∧ a1 = 2
      · by_cases q4 : a1 = 1
        · have A := c_X6_mark E g h a0 a1 nb hnb b1 n hn c1
          have B := c_X7_mark E g h a0 a1 nb hnb b2 n hn c2 (rc_ri (g := g) c3)
          simp only [dMark, if_pos q1, cd, ek, if_pos q2, if_pos q3, if_pos q4] at A B
          rw [← (b3 d (by omega)).2.1] at B
          exact ⟨_, _, _, _, _, A, B, R⟩
        · by_cases q5 : a1 = 2
          · have e : sCn (pMk g n (nI d) a1) n = sCn (pCO g 1 (nI d) 1) n := sCn_cong (fun i hi => by
              obtain ⟨⟨f0, f1, f2, f3, f4, f5, f6, f7⟩, f8, _⟩ := c3 i hi
              show (g 31 i = 0 ∧ ((a1 = 2 ∧ g 23 i = nI d) ∨ (¬ a1 = 2 ∧ _))) ↔ (g (53 + i) 1 = nI d ∧ ((1 : Int32) = 0 ∨ ¬ g (53 + i) 5 = 1))
              rw [f1, f5]
              have o1 : ¬ (1 : Int32) = 0 := by decide
              have o2 : ¬ (0 : Int32) = 1 := by decide
              rcases f8 with z | z
              · rw [z]
                exact ⟨fun y => y.2.elim (fun y => ⟨y.2, Or.inr o2⟩) (fun y => absurd q5 y.1), fun y => ⟨rfl, Or.inl ⟨q5, y.1⟩⟩⟩
              · rw [z]
                exact ⟨fun y => absurd y.1 o1, fun y => y.2.elim (fun q => absurd q o1) (fun q => absurd rfl q)⟩)
            have A := c_X6_mark E g h a0 a1 nb hnb b1 n hn c1
            have B := c_X7_mark E g h a0 a1 nb hnb b2 n hn c2 (rc_ri (g := g) c3)
            simp only [dMark, if_pos q1, cd, ek, if_pos q2, if_pos q3, if_neg q4, if_pos q5, e] at A B
            exact ⟨_, _, _, _, _, A, B, R⟩
          · have e : sCn (pMk g n (nI d) a1) n = sCn (pCB g n (nI d)) n := sCn_cong (fun i hi => by
              obtain ⟨⟨f0, f1, f2, f3, f4, f5, f6, f7⟩, f8, _⟩ := c3 i hi
              have hch := chP_cong (r := fun q => g (53 + q) 6) (r' := g 28) (p := fun q => decide (g (53 + q) 0 = nI d)) (p' := fun q => decide (g 22 q = nI d)) hn (fun i hi => rc_6 c3 i hi) (fun i hi => by rw [(c3 i hi).1.1]) 40 (g 28 i)
              show (g 31 i = 0 ∧ ((a1 = 2 ∧ g 23 i = nI d) ∨ (¬ a1 = 2 ∧ chP (g 28) n (fun q => decide (g 22 q = nI d)) 40 (g 28 i) = true))) ↔ (g (53 + i) 5 = 0 ∧ chP (fun q => g (53 + q) 6) n (fun q => decide (g (53 + q) 0 = nI d)) 40 (g (53 + i) 6) = true)
              rw [f5, f6, hch]
              exact ⟨fun y => ⟨y.1, y.2.elim (fun y => absurd y.1 q5) (fun y => y.2)⟩, fun y => ⟨y.1, Or.inr ⟨q5, y.2⟩⟩⟩)
            have A := c_X6_mark E g h a0 a1 nb hnb b1 n hn c1
            have B := c_X7_mark E g h a0 a1 nb hnb b2 n hn c2 (rc_ri (g := g) c3)
            simp only [dMark, if_pos q1, cd, ek, if_pos q2, if_pos q3, if_neg q4, if_neg q5, e] at A B
            exact ⟨_, _, _, _, _, A, B, R⟩
      · have A := c_X6_mark E g h a0 a1 nb hnb b1 n hn c1
        have B := c_X7_mark E (rfM g 3) h a0 a1 nb hnb b2 n hn c2 (rc_ri (g := g) c3)
        simp only [dMark, if_pos q1, cd, ek, if_pos q2, if_neg q3, rf_20] at A B
        exact ⟨_, _, _, _, _, A, B, rl_refuse 3 (by decide) R⟩
    · have A := c_X6_mark E g h a0 a1 nb hnb b1 n hn c1
      have B := c_X7_mark E g h a0 a1 nb hnb b2 n hn c2 (rc_ri (g := g) c3)
      simp only [dMark, if_pos q1, cd, ek, if_neg q2] at A B
      exact ⟨_, _, _, _, _, A, B, R⟩
  · have A := c_X6_mark E g h a0 a1 nb hnb b1 n hn c1
    have B := c_X7_mark E g h a0 a1 nb hnb b2 n hn c2 (rc_ri (g := g) c3)
    simp only [dMark, if_neg q1] at A B
    exact ⟨_, _, _, _, _, A, B, R⟩
theorem ls_Ag {G : Nat} (hG : G ≠ 0) (g : mm_I) (x y : Int32) : Ag G g (lsM g x y) := by
  unfold lsM
  exact (Ag.up (by show (0 : Nat) ≠ G; exact hG.symm)).up' (by show (0 : Nat) ≠ G; exact hG.symm)
theorem rl_ls {g : mm_I} {h : mm_L} (R : Rl g h) (x y : Int32) : Rl (lsM g x y) h := ⟨R.1.c (ls_Ag (by decide) g x y), R.2.1.c (ls_Ag (by decide) g x y), R.2.2.1.c (ls_Ag (by decide) g x y), R.2.2.2.1.c (ls_Ag (by decide) g x y), R.2.2.2.2.1.c (ls_Ag (by decide) g x y), R.2.2.2.2.2.1.c (ls_Ag (by decide) g x y), R.2.2.2.2.2.2⟩
theorem ls_mt (g : mm_I) (x y : Int32) (w : Nat) : mtM (lsM (rfM g w) x y) w = lsM (mtM (rfM g w) w) x y := by
  funext k j
  unfold mtM lsM rfM up2 upd
  by_cases k13 : k = 13
  · subst k13; rfl
  by_cases k7 : k = 7
  · subst k7
    by_cases j0 : j = 0
    · subst j0; rfl
    by_cases j25 : j = 25
    · subst j25; rfl
    by_cases j26 : j = 26
    · subst j26; rfl
    simp [j0, j25, j26]
  · simp [k13, k7]
theorem rl_rls {g : mm_I} {h : mm_L} (R : Rl g h) (x y : Int32) {w : Nat} (hw : w < 6) : Rl (mtM (lsM (rfM g w) x y) w) h := by
  rw [ls_mt]
  exact rl_ls (rl_refuse w hw R) x y
theorem rc_hof {g : mm_I} {n : Nat} (hc : ∀ c, c < n → RC1 g c) : ∀ c, c < n → BdI (g (53 + c) 7) 10000 ∧ BdI (g (53 + c) 3) 100000 := fun c h => by
  obtain ⟨⟨f0, f1, f2, f3, f4, f5, f6, f7⟩, f8, f9, f10, ⟨tc, htc, f11⟩, f12⟩ := hc c h
  rw [f7, f3, f11]
  exact ⟨f10, BdI.n htc (by decide)⟩
theorem rc_hofM {g : mm_I} {n : Nat} (hc : ∀ c, c < n → RC1 g c) : ∀ c, c < n → BdI (g 26 c) 10000 ∧ BdI (g 25 c) 100000 := fun c h => by
  obtain ⟨_, f8, f9, f10, ⟨tc, htc, f11⟩, f12⟩ := hc c h
  rw [f11]
  exact ⟨f10, BdI.n htc (by decide)⟩
theorem rf_pLM (g : mm_I) (w : Nat) (b d : Int32) : pLM (rfM g w) b d = pLM g b d := rfl
theorem op_drift (a0 : Int32) (E : mm_E) (g : mm_I) (h : mm_L) (R : Rl g h) : OpI E yX6_drift wsX6_drift 5 115 yX7_drift wsX7_drift 4 111 [.int a0] g h := by
  obtain ⟨nb, hnb, b1, b2, b3⟩ := R.2.2.1
  obtain ⟨n, hn, c1, c2, c3, c4⟩ := R.2.2.2.1
  by_cases q1 : ¬ a0 < 0 ∧ ¬ nI nb - 1 < a0
  · obtain ⟨d, hd, ed⟩ := has_nat (by omega) q1
    have cd : a0.toNatClampNeg = d := by rw [ed]; exact cl_nI (by omega)
    have lM := rc_L c3 (nI d) 100000 (Nat.le_refl n)
    by_cases q2 : sLast (pLU g (nI d) 100000) n = -9
    · have A := c_X6_drift E g h a0 nb hnb b1 n hn c1 (rc_hof c3)
      have B := c_X7_drift E g h a0 nb hnb b2 n hn c2 (rc_hofM (g := g) c3)
      simp only [dDrift, if_pos q1, cd, lM, if_pos q2] at A B
      exact ⟨_, _, _, _, _, A, B, rl_ls R _ _⟩
    · obtain ⟨c, hc, ec, _⟩ := (sLast_nat (pLU g (nI d) 100000) n).resolve_left q2
      have e2 : ¬ nI c = -9 := fun y => nI_pos (n := c) (by omega) (by rw [y]; decide)
      have cc : (nI c).toNatClampNeg = c := cl_nI (by omega)
      have lM2 := rc_L c3 (nI d) 100000 (Nat.le_of_lt hc)
      by_cases q3 : sLast (pLU g (nI d) 100000) c = -9
      · have A := c_X6_drift E g h a0 nb hnb b1 n hn c1 (rc_hof c3)
        have B := c_X7_drift E g h a0 nb hnb b2 n hn c2 (rc_hofM (g := g) c3)
        simp only [dDrift, if_pos q1, cd, lM, if_neg q2, ec, if_neg e2, cc, lM2, if_pos q3] at A B
        exact ⟨_, _, _, _, _, A, B, rl_ls R _ _⟩
      · obtain ⟨a, ha, ea, _⟩ := (sLast_nat (pLU g (nI d) 100000) c).resolve_left q3
        have e3 : ¬ nI a = -9 := fun y => nI_pos (n := a) (by omega) (by rw [y]; decide)
        have ca : (nI a).toNatClampNeg = a := cl_nI (by omega)
        obtain ⟨⟨f0, f1, f2, f3, f4, f5, f6, f7⟩, f8, f9, f10, ⟨tc, htc, f11⟩, f12⟩ := c3 c hc
        obtain ⟨⟨u0, u1, u2, u3, u4, u5, u6, u7⟩, u8, u9, u10, ⟨ta, hta, u11⟩, u12⟩ := c3 a (by omega)
        by_cases q4 : g 25 c = g 25 a
        · have q5 : g (53 + c) 3 - g (53 + a) 3 = 0 := by rw [f3, u3]; exact sub0.mpr q4
          have A := c_X6_drift E g h a0 nb hnb b1 n hn c1 (rc_hof c3)
          have B := c_X7_drift E (rfM g 4) h a0 nb hnb b2 n hn c2 (rc_hofM (g := g) c3)
          simp only [dDrift, if_pos q1, cd, lM, if_neg q2, ec, if_neg e2, cc, lM2, if_neg q3, ea, if_neg e3, ca, if_pos q4, if_pos q5, rf_pLM, rf_7, rf_22, rf_25, rf_26, rf_31] at A B
          exact ⟨_, _, _, _, _, A, B, rl_rls R _ _ (by decide)⟩
        · have q5 : ¬ g 25 c - g 25 a = 0 := fun z => q4 (sub0.mp z)
          have A := c_X6_drift E g h a0 nb hnb b1 n hn c1 (rc_hof c3)
          have B := c_X7_drift E g (tlC h (g 26 c - g 26 a).toInt64 (g 25 c - g 25 a).toInt64) a0 nb hnb b2 n hn c2 (rc_hofM (g := g) c3)
          simp only [dDrift, if_pos q1, cd, lM, if_neg q2, ec, if_neg e2, cc, lM2, if_neg q3, ea, if_neg e3, ca, if_neg q4, if_neg q5, f7, u7, f3, u3] at A B
          exact ⟨_, _, _, _, _, A, B, rl_ls (rl_tell R) _ _⟩
  · have A := c_X6_drift E g h a0 nb hnb b1 n hn c1 (rc_hof c3)
    have B := c_X7_drift E g h a0 nb hnb b2 n hn c2 (rc_hofM (g := g) c3)
    simp only [dDrift, if_neg q1] at A B
    exact ⟨_, _, _, _, _, A, B, R⟩
theorem wr_step {g : mm_I} {n : Nat} (hn : n ≤ 40) (c3 : ∀ c, c < n → RC1 g c) (ba a b : Int32) (g1 : mm_I) (hg : ∀ k, k < 53 → g1 k = g k) : ∀ i, i ≤ n → (∀ c, c < n → mvG n ba a b g i (53 + c) 5 = mwG ba a b g1 i 31 c ∧ (mwG ba a b g1 i 31 c = 0 ∨ mwG ba a b g1 i 31 c = 1) ∧ ∀ q, q ≠ 5 → mvG n ba a b g i (53 + c) q = g (53 + c) q) ∧ mvN n ba a b g i = mwN ba a b g1 i
  | 0, _ => ⟨fun c hc => by
      obtain ⟨⟨f0, f1, f2, f3, f4, f5, f6, f7⟩, f8, _⟩ := c3 c hc
      show g (53 + c) 5 = g1 31 c ∧ (g1 31 c = 0 ∨ g1 31 c = 1) ∧ ∀ q, q ≠ 5 → g (53 + c) q = g (53 + c) q
      rw [hg 31 (by decide)]
      exact ⟨f5, f8, fun _ _ => rfl⟩, rfl⟩
  | i + 1, hi => by
    obtain ⟨ih, ihN⟩ := wr_step hn c3 ba a b g1 hg i (by omega)
    obtain ⟨⟨f0, f1, f2, f3, f4, f5, f6, f7⟩, f8, f9, _⟩ := c3 i (by omega)
    obtain ⟨i1, i2, i3⟩ := ih i (by omega)
    have m24 : mwG ba a b g1 i 24 = g 24 := (mwG_o ba a b g1 (by decide) i).trans (hg 24 (by decide))
    have m25 : mwG ba a b g1 i 25 = g 25 := (mwG_o ba a b g1 (by decide) i).trans (hg 25 (by decide))
    have m28 : mwG ba a b g1 i 28 = g 28 := (mwG_o ba a b g1 (by decide) i).trans (hg 28 (by decide))
    have hI : mwI ba a b (mwG ba a b g1 i) i ↔ ((mvG n ba a b g i (53 + i) 2 = ba ∧ ¬ mvG n ba a b g i (53 + i) 3 < a ∧ ¬ b < mvG n ba a b g i (53 + i) 3) ∨ rov (mvG n ba a b g i) n (mvG n ba a b g i (53 + i) 6)) := by
      show ((mwG ba a b g1 i 24 i = ba ∧ ¬ mwG ba a b g1 i 25 i < a ∧ ¬ b < mwG ba a b g1 i 25 i) ∨ (¬ mwG ba a b g1 i 28 i < 0 ∧ ¬ mwG ba a b g1 i 31 (mwG ba a b g1 i 28 i).toNatClampNeg = 0)) ↔ _
      rw [m24, m25, m28, i3 2 (by decide), i3 3 (by decide), i3 6 (by decide), f2, f3, f6]
      refine or_congr Iff.rfl ?_
      show _ ↔ ((¬ g 28 i < 0 ∧ ¬ nI n - 1 < g 28 i) ∧ mvG n ba a b g i (53 + (g 28 i).toNatClampNeg) 5 = 1)
      rcases f9 with z | ⟨d, hd, z⟩
      · rw [z]
        exact ⟨fun y => absurd (by decide) y.1, fun y => absurd (by decide) y.1.1⟩
      · rw [z, cl_nI (by omega)]
        obtain ⟨j1, j2, _⟩ := ih d (by omega)
        rw [j1]
        have hr : ¬ nI d < 0 ∧ ¬ nI n - 1 < nI d := (has_iff (by omega) (by omega)).mpr (by omega)
        have o1 : ¬ (1 : Int32) = 0 := by decide
        have o2 : ¬ (0 : Int32) = 1 := by decide
        rcases j2 with y | y
        · rw [y]; exact ⟨fun x => absurd rfl x.2, fun x => absurd x.2 o2⟩
        · rw [y]; exact ⟨fun x => ⟨hr, rfl⟩, fun x => ⟨hr.1, o1⟩⟩
    have hC : mvC n ba a b (mvG n ba a b g i) i ↔ (mwI ba a b (mwG ba a b g1 i) i ∧ mwG ba a b g1 i 31 i = 0) := by
      show (mvG n ba a b g i (53 + i) 5 = 0 ∧ _) ↔ _
      rw [hI, i1]
      exact And.comm
    have eM : mwG ba a b g1 (i + 1) 31 = upd (mwG ba a b g1 i 31) i (bI (¬ mwG ba a b g1 i 31 i = 0 ∨ mwI ba a b (mwG ba a b g1 i) i)) := by
      rw [mwG, up2_s]
    refine ⟨fun c hc => ?_, ?_⟩
    · rw [eM]
      obtain ⟨j1, j2, j3⟩ := ih c hc
      by_cases ec : c = i
      · subst ec
        rw [pk_us]
        refine ⟨?_, bI_01 _, fun q hq => ?_⟩
        · rw [mvG]
          by_cases cC : mvC n ba a b (mvG n ba a b g c) c
          · rw [if_pos cC, up2_ss, bI_t (Or.inr (hC.mp cC).1)]
          · rw [if_neg cC, i1]
            rcases i2 with y | y
            · rw [y, bI_f (fun z => z.elim (fun x => x rfl) (fun x => cC (hC.mpr ⟨x, y⟩)))]
            · rw [y, bI_t (Or.inl (by decide))]
        · rw [mvG]
          by_cases cC : mvC n ba a b (mvG n ba a b g c) c
          · rw [if_pos cC, up2_sn _ _ _ hq, j3 q hq]
          · rw [if_neg cC, j3 q hq]
      · rw [pk_un ec]
        have e2 : mvG n ba a b g (i + 1) (53 + c) = mvG n ba a b g i (53 + c) := by
          rw [mvG]
          by_cases cC : mvC n ba a b (mvG n ba a b g i) i
          · rw [if_pos cC, up2_n _ _ _ (by omega)]
          · rw [if_neg cC]
        rw [e2]
        exact ⟨j1, j2, j3⟩
    · rw [mvN, mwN, ihN]
      by_cases cC : mvC n ba a b (mvG n ba a b g i) i
      · rw [if_pos cC, if_pos (hC.mp cC)]
      · rw [if_neg cC, if_neg (fun z => cC (hC.mpr z))]
theorem mv_hi {n : Nat} {ba a b : Int32} {g : mm_I} {k : Nat} (hk : ∀ c, c < n → k ≠ 53 + c) : ∀ i, i ≤ n → mvG n ba a b g i k = g k
  | 0, _ => rfl
  | i + 1, hi => by
    rw [mvG]
    split
    · rw [up2_n _ _ _ (hk i (by omega)), mv_hi hk i (by omega)]
    · exact mv_hi hk i (by omega)
theorem rl_wrong {g : mm_I} {h : mm_L} (R : Rl g h) {n : Nat} (hn : n ≤ 40) (c1 : g 4 1 = nI n) (c2 : g 7 16 = nI n) (c3 : ∀ c, c < n → RC1 g c) (c4 : ∀ c, n ≤ c → c < 40 → g 31 c = 0) (ba a b : Int32) : Rl (mwG ba a b (mvG n ba a b g n) n) h ∧ mvN n ba a b g n = mwN ba a b (mvG n ba a b g n) n := by
  have hg : ∀ k, k < 53 → mvG n ba a b g n k = g k := fun k hk => mvG_lo n ba a b g hk n
  obtain ⟨W1, W2⟩ := wr_step hn c3 ba a b (mvG n ba a b g n) hg n (Nat.le_refl n)
  refine ⟨?_, W2⟩
  have lo : ∀ k, k < 53 → k ≠ 31 → mwG ba a b (mvG n ba a b g n) n k = g k := fun k hk h31 => (mwG_o ba a b _ h31 n).trans (hg k hk)
  have hi : ∀ k, 53 ≤ k → mwG ba a b (mvG n ba a b g n) n k = mvG n ba a b g n k := fun k hk => mwG_o ba a b _ (by omega) n
  have r31 : ∀ i c, i ≤ c → mwG ba a b (mvG n ba a b g n) i 31 c = g 31 c := by
    intro i
    induction i with
    | zero => intro c _; exact congrFun (hg 31 (by decide)) c
    | succ i ih =>
      intro c hc
      rw [mwG, up2_sn _ _ _ (by omega)]
      exact ih c (by omega)
  refine rl_4 R (fun G hG k j hk => ?_) ⟨n, hn, ?_, ?_, fun c hc => ?_, fun c hc hc2 => ?_⟩ R.2.2.2.2.2.2
  · by_cases k31 : k = 31
    · subst k31; exact absurd hk hG.symm
    by_cases k53 : k < 53
    · rw [lo k k53 k31]
    · rw [hi k (by omega)]
      by_cases k93 : k < 93
      · have e : k = 53 + (k - 53) := by omega
        rw [e, gr_53 (by omega)] at hk
        exact absurd hk hG.symm
      · rw [mv_hi (fun c hc => by omega) n (Nat.le_refl n)]
  · rw [lo 4 (by decide) (by decide)]; exact c1
  · rw [lo 7 (by decide) (by decide)]; exact c2
  · obtain ⟨w1, w2, w3⟩ := W1 c hc
    obtain ⟨⟨f0, f1, f2, f3, f4, f5, f6, f7⟩, f8, f9, f10, f11, f12⟩ := c3 c hc
    unfold RC1
    rw [hi (53 + c) (by omega), w1, w3 0 (by decide), w3 1 (by decide), w3 2 (by decide), w3 3 (by decide), w3 4 (by decide), w3 6 (by decide), w3 7 (by decide), lo 22 (by decide) (by decide), lo 23 (by decide) (by decide), lo 24 (by decide) (by decide), lo 25 (by decide) (by decide), lo 26 (by decide) (by decide), lo 27 (by decide) (by decide), lo 28 (by decide) (by decide)]
    exact ⟨⟨f0, f1, f2, f3, f4, rfl, f6, f7⟩, w2, f9, f10, f11, f12⟩
  · rw [r31 n c hc]; exact c4 c hc hc2
theorem op_wrong (a0 a1 a2 : Int32) (E : mm_E) (g : mm_I) (h : mm_L) (R : Rl g h) : OpI E yX6_wrong wsX6_wrong 4 91 yX7_wrong wsX7_wrong 2 42 [.int a0, .int a1, .int a2] g h := by
  obtain ⟨n, hn, c1, c2, c3, c4⟩ := R.2.2.2.1
  by_cases q1 : ¬ a0 < 0 ∧ ¬ 7 < a0
  · by_cases q2 : ¬ a1 < 0 ∧ ¬ 100000 < a1
    · by_cases q3 : ¬ a2 < 0 ∧ ¬ 100000 < a2
      · by_cases q4 : a1 ≤ a2
        · have hg : ∀ k, k < 53 → mvG n a0 a1 a2 g n k = g k := fun k hk => mvG_lo n a0 a1 a2 g hk n
          have A := c_X6_wrong E g h a0 a1 a2 n hn c1
          have B := c_X7_wrong E (mvG n a0 a1 a2 g n) h a0 a1 a2 n hn (by rw [hg 7 (by decide)]; exact c2) (by rw [hg 28 (by decide)]; exact rc_ri c3)
          obtain ⟨R2, eN⟩ := rl_wrong R hn c1 c2 c3 c4 a0 a1 a2
          simp only [dWr, if_pos q1, if_pos q2, if_pos q3, if_pos q4] at A B
          rw [← eN] at B
          exact ⟨_, _, _, _, _, A, B, R2⟩
        · have A := c_X6_wrong E g h a0 a1 a2 n hn c1
          have B := c_X7_wrong E g h a0 a1 a2 n hn c2 (rc_ri c3)
          simp only [dWr, if_pos q1, if_pos q2, if_pos q3, if_neg q4] at A B
          exact ⟨_, _, _, _, _, A, B, R⟩
      · have A := c_X6_wrong E g h a0 a1 a2 n hn c1
        have B := c_X7_wrong E g h a0 a1 a2 n hn c2 (rc_ri c3)
        simp only [dWr, if_pos q1, if_pos q2, if_neg q3] at A B
        exact ⟨_, _, _, _, _, A, B, R⟩
    · have A := c_X6_wrong E g h a0 a1 a2 n hn c1
      have B := c_X7_wrong E g h a0 a1 a2 n hn c2 (rc_ri c3)
      simp only [dWr, if_pos q1, if_neg q2] at A B
      exact ⟨_, _, _, _, _, A, B, R⟩
  · have A := c_X6_wrong E g h a0 a1 a2 n hn c1
    have B := c_X7_wrong E g h a0 a1 a2 n hn c2 (rc_ri c3)
    simp only [dWr, if_neg q1] at A B
    exact ⟨_, _, _, _, _, A, B, R⟩
