theorem la_neg {a : Int64} (h : a.toInt.natAbs < 2 ^ 63) : (-a).toInt = -a.toInt := by
  rw [Int64.toInt_neg]
  exact fb_bmodL (by omega) (by omega)
theorem la_pos {a : Int64} : 0 ≤ a ↔ 0 ≤ a.toInt := by rw [fa_le64]; rfl
theorem la_lt0 {a : Int64} : a < 0 ↔ a.toInt < 0 := by rw [fa_lt64]; rfl
theorem la_gt0 {a : Int64} : 0 < a ↔ 0 < a.toInt := by rw [fa_lt64]; rfl
theorem abL_lN {a : Int64} (h : a.toInt.natAbs < 2 ^ 63) : abL a = lN a.toInt.natAbs := by
  rw [fa_eq64, pk_lT h]
  unfold abL
  split
  · rename_i q; have := la_pos.mp q; omega
  · rename_i q; rw [la_neg h]; have := mt la_pos.mpr q; omega
theorem absL_lN {a : Int64} (h : a.toInt.natAbs < 2 ^ 63) : (if 0 < a then a else -a) = lN a.toInt.natAbs := by
  rw [fa_eq64, pk_lT h]
  split
  · rename_i q; have := la_gt0.mp q; omega
  · rename_i q; rw [la_neg h]; have := mt la_gt0.mpr q; omega
theorem absL_abL (a : Int64) : (if 0 < a then a else -a) = abL a := by
  unfold abL
  by_cases h1 : 0 < a
  · rw [if_pos h1, if_pos (Int64.le_of_lt h1)]
  · by_cases h2 : 0 ≤ a
    · have : a = 0 := by
        rw [fa_eq64]
        have h3 := la_pos.mp h2
        have h4 := mt la_gt0.mpr h1
        show a.toInt = 0
        omega
      subst this
      decide
    · rw [if_neg h1, if_neg h2]
def gcdL (a b : Int64) : Int64 := lN (Nat.gcd a.toInt.natAbs b.toInt.natAbs)
theorem gc_half {x y : Nat} (h0 : 0 < y) (h : y < x) : 2 * (x % y) ≤ x := by
  have h1 := Nat.mod_lt x h0
  have h2 := Nat.div_add_mod x y
  have h3 : 1 ≤ x / y := (Nat.one_le_div_iff h0).mpr (by omega)
  have h4 : y * 1 ≤ y * (x / y) := Nat.mul_le_mul_left y h3
  omega
theorem gc_step {x y s : Nat} (h0 : 0 < y) (h : s = 0 ∧ x * y < 2 ^ 127 ∨ y < x ∧ x * y * 2 ^ s < 2 ^ 128) : x % y < y ∧ y * (x % y) * 2 ^ (s + 1) < 2 ^ 128 := by
  refine ⟨Nat.mod_lt x h0, ?_⟩
  rcases h with ⟨rfl, h⟩ | ⟨h1, h2⟩
  · have h3 : y * (x % y) ≤ x * y := by rw [Nat.mul_comm x y]; exact Nat.mul_le_mul_left y (Nat.mod_le x y)
    omega
  · have h3 : y * (x % y) * 2 ≤ x * y := by
      rw [Nat.mul_assoc, Nat.mul_comm x y]
      exact Nat.mul_le_mul_left y (by have := gc_half h0 h1; omega)
    have h4 := Nat.mul_le_mul_right (2 ^ s) h3
    rw [Nat.pow_succ, ← Nat.mul_assoc, Nat.mul_right_comm]
    omega
theorem gc_end {x y : Nat} (h : y < x ∧ x * y * 2 ^ 200 < 2 ^ 128) : y = 0 := by
  rcases Nat.eq_zero_or_pos y with q | q
  · exact q
  · have h1 : 1 ≤ x * y := Nat.mul_pos (by omega) q
    have := Nat.mul_le_mul_right (2 ^ 200) h1
    omega
theorem gc_0 {y : Nat} (h : y < 2 ^ 63) : lN y = 0 ↔ y = 0 := pk_lEQ (b := 0) h (by decide)
theorem gc_mul {x y : Nat} (hx : x < 2 ^ 63) (hy : y < 2 ^ 63) : x * y < 2 ^ 127 := by
  have := Nat.mul_le_mul (Nat.le_of_lt hx) (Nat.le_of_lt hy)
  omega
theorem gc_gcd (x y : Nat) : Nat.gcd y (x % y) = Nat.gcd x y := by rw [Nat.gcd_comm x y, Nat.gcd_rec y x, Nat.gcd_comm]
set_option maxHeartbeats 4000000 in
set_option maxRecDepth 100000 in
theorem c_X6_greatestDivisor (E : mm_E) (g : mm_I) (h : mm_L) (a b : Int64) (ha : a.toInt.natAbs < 2 ^ 63) (hb : b.toInt.natAbs < 2 ^ 63) : Cl E yX6_greatestDivisor wsX6_greatestDivisor 1 23 [.long a, .long b] g h (gcdL a b) g h := by
  refine ci_l (bytes := cX6_greatestDivisor) (maxL := 11) (by decide) rfl (Nat.le_of_ble_eq_true rfl) (fun X cx hR => ?_)
  change Cx E X cX6_greatestDivisor RX6 wsX6_greatestDivisor 11 1 23 at cx
  change JJ E X g h 0 [(0, .long a), (2, .long b)] []
  have ml_mabs_long : Cond.methodLink RX6 153 Lib.MathLoose.abs_long.x ∈ wsX6_greatestDivisor := by decide +kernel
  have mst_mabs_long : Cond.static Lib.MathLoose.abs_long.x ∈ wsX6_greatestDivisor := by decide +kernel
  have mi_math : Cond.initialized "java/lang/Math" ∈ wsX6_greatestDivisor := by decide +kernel
  have mco_mabs_long : Cond.code Lib.MathLoose.abs_long.x Lib.MathLoose.abs_long.code 2 (some .long) ∈ wsX6_greatestDivisor := by first | decide +kernel | (unfold wsX6_greatestDivisor; simp)
  refine jr_lload_n cx dX6_greatestDivisor_0 0 rfl rfl ?_
  refine jr_mabs_long cx dX6_greatestDivisor_1 ml_mabs_long mst_mabs_long mi_math mco_mabs_long (by decide) (Nat.le_of_ble_eq_true rfl) ?_
  refine jr_topl (absL_lN ha) ?_
  refine jr_lstore (L' := [(4, .long (lN a.toInt.natAbs)), (0, .long a), (2, .long b)]) cx dX6_greatestDivisor_4 (by decide) rfl ?_
  refine jr_lload_n cx dX6_greatestDivisor_6 2 rfl rfl ?_
  refine jr_mabs_long cx dX6_greatestDivisor_7 ml_mabs_long mst_mabs_long mi_math mco_mabs_long (by decide) (Nat.le_of_ble_eq_true rfl) ?_
  refine jr_topl (absL_lN hb) ?_
  refine jr_lstore (L' := [(6, .long (lN b.toInt.natAbs)), (4, .long (lN a.toInt.natAbs)), (0, .long a), (2, .long b)]) cx dX6_greatestDivisor_10 (by decide) rfl ?_
  refine jr_iconst (v := 0) cx dX6_greatestDivisor_12 (by decide) ?_
  refine jr_istore (L' := [(8, .int 0), (6, .long (lN b.toInt.natAbs)), (4, .long (lN a.toInt.natAbs)), (0, .long a), (2, .long b)]) cx dX6_greatestDivisor_13 (by decide) rfl ?_
  have key1 : ∀ (fu1 : Nat) (s x y : Nat), 201 ≤ s + fu1 → (s ≤ 200) → (x < 2 ^ 63) → (y < 2 ^ 63) → (Nat.gcd x y = Nat.gcd a.toInt.natAbs b.toInt.natAbs) → (s = 0 ∧ x * y < 2 ^ 127 ∨ y < x ∧ x * y * 2 ^ s < 2 ^ 128) → JJ E X g h 15 [(4, .long (lN x)), (6, .long (lN y)), (8, .int (nI s))] [] := by
    intro fu1
    induction fu1 with
    | zero => intro s x y hfu1 h0 h1 h2 h3 h4; exfalso; omega
    | succ fu1 ih1 =>
      intro s x y hfu1 h0 h1 h2 h3 h4
      refine jr_iload cx dX6_greatestDivisor_15 2 rfl ?_
      refine jr_sipush (v := 200) cx dX6_greatestDivisor_17 (by decide) ?_
      refine jr_icmp_ge (tgt := 51) cx dX6_greatestDivisor_20 (by decide) (fun c20 => ?_) (fun c20 => ?_)
      · have n20 : 200 ≤ s := (nI_leI (a := 200) (b := s) (by omega) (by omega)).mp c20
        have hy0 : y = 0 := by
          rcases h4 with ⟨q, -⟩ | q
          · omega
          · have hs : s = 200 := by omega
            subst hs; exact gc_end q
        refine jr_lload cx dX6_greatestDivisor_51 0 rfl ?_
        exact jr_rl (by unfold gcdL; rw [← h3, hy0, Nat.gcd_zero_right]) (by rfl) (by rfl) (hR 53 _ dX6_greatestDivisor_53)
      · have n20 : ¬ (200 ≤ s) := fun q => c20 ((nI_leI (a := 200) (b := s) (by omega) (by omega)).mpr q)
        refine jr_lload cx dX6_greatestDivisor_23 1 rfl ?_
        refine jr_lconst (v := 0) cx dX6_greatestDivisor_25 (by decide) ?_
        refine jr_lcmp cx dX6_greatestDivisor_26 ?_
        refine jr_lif_eq (tgt := 51) cx dX6_greatestDivisor_27 (by decide) (fun c27 => ?_) (fun c27 => ?_)
        · have hy0 : y = 0 := (gc_0 h2).mp c27
          refine jr_lload cx dX6_greatestDivisor_51 0 rfl ?_
          exact jr_rl (by unfold gcdL; rw [← h3, hy0, Nat.gcd_zero_right]) (by rfl) (by rfl) (hR 53 _ dX6_greatestDivisor_53)
        · have hy0 : 0 < y := Nat.pos_of_ne_zero fun q => c27 ((gc_0 h2).mpr q)
          refine jr_lload cx dX6_greatestDivisor_30 0 rfl ?_
          refine jr_lload cx dX6_greatestDivisor_32 1 rfl ?_
          refine jr_lrem cx dX6_greatestDivisor_34 c27 ?_
          refine jr_topl (pk_lRem (a := x) (b := y) h1 (by omega) h2) ?_
          refine jr_lstore (L' := [(9, .long (lN (x % y))), (4, .long (lN x)), (6, .long (lN y)), (8, .int (nI s))]) cx dX6_greatestDivisor_35 (by decide) rfl ?_
          refine jr_lload cx dX6_greatestDivisor_37 2 rfl ?_
          refine jr_lstore (L' := [(4, .long (lN y)), (9, .long (lN (x % y))), (6, .long (lN y)), (8, .int (nI s))]) cx dX6_greatestDivisor_39 (by decide) rfl ?_
          refine jr_lload cx dX6_greatestDivisor_41 1 rfl ?_
          refine jr_lstore (L' := [(6, .long (lN (x % y))), (4, .long (lN y)), (9, .long (lN (x % y))), (8, .int (nI s))]) cx dX6_greatestDivisor_43 (by decide) rfl ?_
          refine jr_iinc (n := 3) (v := nI (s + 1)) (L' := [(8, .int (nI (s + 1))), (6, .long (lN (x % y))), (4, .long (lN y)), (9, .long (lN (x % y)))]) cx dX6_greatestDivisor_45 rfl (nI_1 _) (by decide) rfl ?_
          refine jr_goto (tgt := 15) cx dX6_greatestDivisor_48 (by decide) ?_
          refine jr_pick (L' := [(4, .long (lN y)), (6, .long (lN (x % y))), (8, .int (nI (s + 1)))]) [2, 1, 0] rfl ?_
          exact ih1 (s + 1) y (x % y) (by omega) (by omega) h2 (by have := Nat.mod_lt x hy0; omega) (by rw [gc_gcd]; exact h3) (Or.inr (gc_step hy0 h4))
  refine jr_pick (L' := [(4, .long (lN a.toInt.natAbs)), (6, .long (lN b.toInt.natAbs)), (8, .int 0)]) [2, 1, 0] rfl ?_
  have e4 : (lN a.toInt.natAbs : Int64) = (lN (a.toInt.natAbs)) := by rfl
  have e6 : (lN b.toInt.natAbs : Int64) = (lN (b.toInt.natAbs)) := by rfl
  have e8 : (0 : Int32) = (nI 0) := by rfl
  refine jr_loc (lc_l e4 (lc_l e6 (lc_i e8 rfl))) ?_
  exact key1 (201) 0 (a.toInt.natAbs) (b.toInt.natAbs) (by omega) (by omega) ha hb rfl (Or.inl ⟨rfl, gc_mul ha hb⟩)
set_option maxHeartbeats 4000000 in
set_option maxRecDepth 100000 in
theorem c_X7_divisor (E : mm_E) (g : mm_I) (h : mm_L) (a b : Int64) (ha : a.toInt.natAbs < 2 ^ 63) (hb : b.toInt.natAbs < 2 ^ 63) : Cl E yX7_divisor wsX7_divisor 1 21 [.long a, .long b] g h (gcdL a b) g h := by
  refine ci_l (bytes := cX7_divisor) (maxL := 10) (by decide) rfl (Nat.le_of_ble_eq_true rfl) (fun X cx hR => ?_)
  change Cx E X cX7_divisor RX7 wsX7_divisor 10 1 21 at cx
  change JJ E X g h 0 [(0, .long a), (2, .long b)] []
  refine jr_lload_n cx dX7_divisor_0 0 rfl rfl ?_
  refine jr_sl [.long a] 1 cx dX7_divisor_1 (c_X7_size E g h a) gX7_divisor_X7_size rfl (by decide +kernel) ⟨Nat.le_of_ble_eq_true rfl, Nat.le_of_ble_eq_true rfl⟩ rfl rfl (Nat.le_of_ble_eq_true rfl) ?_
  refine jr_topl (abL_lN ha) ?_
  refine jr_lstore (L' := [(4, .long (lN a.toInt.natAbs)), (0, .long a), (2, .long b)]) cx dX7_divisor_4 (by decide) rfl ?_
  refine jr_lload_n cx dX7_divisor_6 2 rfl rfl ?_
  refine jr_sl [.long b] 1 cx dX7_divisor_7 (c_X7_size E g h b) gX7_divisor_X7_size rfl (by decide +kernel) ⟨Nat.le_of_ble_eq_true rfl, Nat.le_of_ble_eq_true rfl⟩ rfl rfl (Nat.le_of_ble_eq_true rfl) ?_
  refine jr_topl (abL_lN hb) ?_
  refine jr_lstore (L' := [(6, .long (lN b.toInt.natAbs)), (4, .long (lN a.toInt.natAbs)), (0, .long a), (2, .long b)]) cx dX7_divisor_10 (by decide) rfl ?_
  have key1 : ∀ (fu1 : Nat) (x y : Nat), y + 1 ≤ fu1 → (x < 2 ^ 63) → (y < 2 ^ 63) → (Nat.gcd x y = Nat.gcd a.toInt.natAbs b.toInt.natAbs) → JJ E X g h 12 [(4, .long (lN x)), (6, .long (lN y))] [] := by
    intro fu1
    induction fu1 with
    | zero => intro x y hfu1 h1 h2 h3; exfalso; omega
    | succ fu1 ih1 =>
      intro x y hfu1 h1 h2 h3
      refine jr_lload cx dX7_divisor_12 1 rfl ?_
      refine jr_lconst (v := 0) cx dX7_divisor_14 (by decide) ?_
      refine jr_lcmp cx dX7_divisor_15 ?_
      refine jr_lif_eq (tgt := 37) cx dX7_divisor_16 (by decide) (fun c16 => ?_) (fun c16 => ?_)
      · have hy0 : y = 0 := (gc_0 h2).mp c16
        refine jr_lload cx dX7_divisor_37 0 rfl ?_
        exact jr_rl (by unfold gcdL; rw [← h3, hy0, Nat.gcd_zero_right]) (by rfl) (by rfl) (hR 39 _ dX7_divisor_39)
      · have hy0 : 0 < y := Nat.pos_of_ne_zero fun q => c16 ((gc_0 h2).mpr q)
        refine jr_lload cx dX7_divisor_19 0 rfl ?_
        refine jr_lload cx dX7_divisor_21 1 rfl ?_
        refine jr_lrem cx dX7_divisor_23 c16 ?_
        refine jr_topl (pk_lRem (a := x) (b := y) h1 (by omega) h2) ?_
        refine jr_lstore (L' := [(8, .long (lN (x % y))), (4, .long (lN x)), (6, .long (lN y))]) cx dX7_divisor_24 (by decide) rfl ?_
        refine jr_lload cx dX7_divisor_26 2 rfl ?_
        refine jr_lstore (L' := [(4, .long (lN y)), (8, .long (lN (x % y))), (6, .long (lN y))]) cx dX7_divisor_28 (by decide) rfl ?_
        refine jr_lload cx dX7_divisor_30 1 rfl ?_
        refine jr_lstore (L' := [(6, .long (lN (x % y))), (4, .long (lN y)), (8, .long (lN (x % y)))]) cx dX7_divisor_32 (by decide) rfl ?_
        refine jr_goto (tgt := 12) cx dX7_divisor_34 (by decide) ?_
        refine jr_pick (L' := [(4, .long (lN y)), (6, .long (lN (x % y)))]) [1, 0] rfl ?_
        exact ih1 y (x % y) (by have := Nat.mod_lt x hy0; omega) h2 (by have := Nat.mod_lt x hy0; omega) (by rw [gc_gcd]; exact h3)
  refine jr_pick (L' := [(4, .long (lN a.toInt.natAbs)), (6, .long (lN b.toInt.natAbs))]) [1, 0] rfl ?_
  have e4 : (lN a.toInt.natAbs : Int64) = (lN (a.toInt.natAbs)) := by rfl
  have e6 : (lN b.toInt.natAbs : Int64) = (lN (b.toInt.natAbs)) := by rfl
  refine jr_loc (lc_l e4 (lc_l e6 rfl)) ?_
  exact key1 (b.toInt.natAbs + 1) (a.toInt.natAbs) (b.toInt.natAbs) (by omega) ha hb rfl
def lcmL (a b : Int64) : Int64 := if gcdL a b = 0 then 0 else abL (a / gcdL a b * b)
set_option maxHeartbeats 4000000 in
set_option maxRecDepth 100000 in
theorem c_X6_leastMultiple (E : mm_E) (g : mm_I) (h : mm_L) (a b : Int64) (ha : a.toInt.natAbs < 2 ^ 63) (hb : b.toInt.natAbs < 2 ^ 63) : Cl E yX6_leastMultiple wsX6_leastMultiple 2 53 [.long a, .long b] g h (lcmL a b) g h := by
  refine ci_l (bytes := cX6_leastMultiple) (maxL := 6) (by decide) rfl (Nat.le_of_ble_eq_true rfl) (fun X cx hR => ?_)
  change Cx E X cX6_leastMultiple RX6 wsX6_leastMultiple 6 2 53 at cx
  change JJ E X g h 0 [(0, .long a), (2, .long b)] []
  have ml_mabs_long : Cond.methodLink RX6 153 Lib.MathLoose.abs_long.x ∈ wsX6_leastMultiple := by decide +kernel
  have mst_mabs_long : Cond.static Lib.MathLoose.abs_long.x ∈ wsX6_leastMultiple := by decide +kernel
  have mi_math : Cond.initialized "java/lang/Math" ∈ wsX6_leastMultiple := by decide +kernel
  have mco_mabs_long : Cond.code Lib.MathLoose.abs_long.x Lib.MathLoose.abs_long.code 2 (some .long) ∈ wsX6_leastMultiple := by first | decide +kernel | (unfold wsX6_leastMultiple; simp)
  refine jr_lload_n cx dX6_leastMultiple_0 0 rfl rfl ?_
  refine jr_lload_n cx dX6_leastMultiple_1 1 rfl rfl ?_
  refine jr_sl [.long a, .long b] 2 cx dX6_leastMultiple_2 (c_X6_greatestDivisor E g h a b ha hb) gX6_leastMultiple_X6_greatestDivisor rfl (by decide +kernel) ⟨Nat.le_of_ble_eq_true rfl, Nat.le_of_ble_eq_true rfl⟩ rfl rfl (Nat.le_of_ble_eq_true rfl) ?_
  refine jr_lstore (L' := [(4, .long (gcdL a b)), (0, .long a), (2, .long b)]) cx dX6_leastMultiple_5 (by decide) rfl ?_
  refine jr_lload cx dX6_leastMultiple_7 0 rfl ?_
  refine jr_lconst (v := 0) cx dX6_leastMultiple_9 (by decide) ?_
  refine jr_lcmp cx dX6_leastMultiple_10 ?_
  refine jr_lif_ne (tgt := 18) cx dX6_leastMultiple_11 (by decide) (fun c11 => ?_) (fun c11 => ?_)
  · refine jr_lload_n cx dX6_leastMultiple_18 1 rfl rfl ?_
    refine jr_lload cx dX6_leastMultiple_19 0 rfl ?_
    refine jr_ldiv cx dX6_leastMultiple_21 c11 ?_
    refine jr_lload_n cx dX6_leastMultiple_22 2 rfl rfl ?_
    refine jr_lmul cx dX6_leastMultiple_23 ?_
    refine jr_mabs_long cx dX6_leastMultiple_24 ml_mabs_long mst_mabs_long mi_math mco_mabs_long (by decide) (Nat.le_of_ble_eq_true rfl) ?_
    exact jr_rl (by unfold lcmL; first | rw [if_pos c11] | (rw [if_neg c11]; exact absL_abL _)) (by rfl) (by rfl) (hR 27 _ dX6_leastMultiple_27)
  · refine jr_lconst (v := 0) cx dX6_leastMultiple_14 (by decide) ?_
    refine jr_goto (tgt := 27) cx dX6_leastMultiple_15 (by decide) ?_
    exact jr_rl (by unfold lcmL; first | rw [if_pos c11] | (rw [if_neg c11]; exact absL_abL _)) (by rfl) (by rfl) (hR 27 _ dX6_leastMultiple_27)
def tlG (u l : Int64) : Int64 := if l < 0 then -(gcdL u l) else gcdL u l
theorem gcdL_ne {u l : Int64} (hu : u.toInt.natAbs < 2 ^ 63) (hl : l.toInt.natAbs < 2 ^ 63) (h : ¬ l = 0) : ¬ gcdL u l = 0 := by
  unfold gcdL
  intro q
  have h0 : 0 < l.toInt.natAbs := Nat.pos_of_ne_zero fun z => h (by rw [fa_eq64]; show l.toInt = 0; omega)
  have h1 := Nat.gcd_le_right u.toInt.natAbs h0
  have h2 := (gc_0 (by omega)).mp q
  rw [Nat.gcd_eq_zero_iff] at h2
  omega
theorem tlG_ne {u l : Int64} (hu : u.toInt.natAbs < 2 ^ 63) (hl : l.toInt.natAbs < 2 ^ 63) (h : ¬ l = 0) : ¬ tlG u l = 0 := by
  have h1 := gcdL_ne hu hl h
  unfold tlG
  split
  · intro q
    apply h1
    have h2 : -(-gcdL u l) = -0 := by rw [q]
    rw [Int64.neg_neg] at h2
    rw [h2]
    decide
  · exact h1
def tlC (h : mm_L) (u l : Int64) : mm_L := upL (upL h 6 0 (u / tlG u l)) 6 1 (l / tlG u l)
def tlM (h : mm_L) (u l : Int64) : mm_L := upL (upL h 7 3 (u / tlG u l)) 7 4 (l / tlG u l)
set_option maxHeartbeats 4000000 in
set_option maxRecDepth 100000 in
theorem c_X2_tell (E : mm_E) (g : mm_I) (h : mm_L) (u l : Int64) (hu : u.toInt.natAbs < 2 ^ 63) (hl : l.toInt.natAbs < 2 ^ 63) (hz : ¬ l = 0) : Cv E yX2_tell wsX2_tell 2 53 [.ref (E.1 6), .long u, .long l] g h g (tlC h u l) := by
  refine ci_v (bytes := cX2_tell) (maxL := 9) (by decide) rfl (Nat.le_of_ble_eq_true rfl) (fun X cx hR => ?_)
  change Cx E X cX2_tell RX2 wsX2_tell 9 2 53 at cx
  change JJ E X g h 0 [(0, .ref (E.1 6)), (1, .long u), (3, .long l)] []
  have hinX2 : ∀ w ∈ u_ws RX2 TX2 2, w ∈ wsX2_tell := by decide +kernel
  have mini_X6_greatestDivisor : Cond.initialized yX6_greatestDivisor.cls ∈ wsX2_tell := by decide +kernel
  have msta_X6_greatestDivisor : Cond.static yX6_greatestDivisor ∈ wsX2_tell := by decide +kernel
  have mf_7 : Cond.fieldLink RX2 7 (TX2 0).1 (TX2 0).2.1 (TX2 0).2.2.1 ∈ wsX2_tell := by decide +kernel
  have mf_13 : Cond.fieldLink RX2 13 (TX2 1).1 (TX2 1).2.1 (TX2 1).2.2.1 ∈ wsX2_tell := by decide +kernel
  have htg := tlG_ne hu hl hz
  refine jr_lload_n cx dX2_tell_0 1 rfl rfl ?_
  refine jr_lload_n cx dX2_tell_1 2 rfl rfl ?_
  refine jr_nl (host := RX6) [.long u, .long l] 2 cx dX2_tell_2 (c_X6_greatestDivisor E g h u l hu hl) gX2_tell_X6_greatestDivisor_n16 rfl (fun U hN => hN.2.2.2.2.1) mini_X6_greatestDivisor msta_X6_greatestDivisor (by decide +kernel) ⟨Nat.le_of_ble_eq_true rfl, Nat.le_of_ble_eq_true rfl⟩ rfl rfl (Nat.le_of_ble_eq_true rfl) ?_
  refine jr_lstore (L' := [(5, .long (gcdL u l)), (0, .ref (E.1 6)), (1, .long u), (3, .long l)]) cx dX2_tell_5 (by decide) rfl ?_
  refine jr_lload_n cx dX2_tell_7 3 rfl rfl ?_
  refine jr_lconst (v := 0) cx dX2_tell_8 (by decide) ?_
  refine jr_lcmp cx dX2_tell_9 ?_
  refine jr_lif_eq (tgt := 20) cx dX2_tell_10 (by decide) (fun c10 => ?_) (fun c10 => ?_)
  · exact absurd c10 hz
  · refine jr_lload cx dX2_tell_13 0 rfl ?_
    refine jr_lconst (v := 0) cx dX2_tell_15 (by decide) ?_
    refine jr_lcmp cx dX2_tell_16 ?_
    refine jr_lif_ne (tgt := 21) cx dX2_tell_17 (by decide) (fun c17 => ?_) (fun c17 => ?_)
    · refine jr_lload_n cx dX2_tell_21 3 rfl rfl ?_
      refine jr_lconst (v := 0) cx dX2_tell_22 (by decide) ?_
      refine jr_lcmp cx dX2_tell_23 ?_
      refine jr_lif_ge (tgt := 33) cx dX2_tell_24 (by decide) (fun c24 => ?_) (fun c24 => ?_)
      · refine jr_lload cx dX2_tell_33 0 rfl ?_
        refine jr_topl (show gcdL u l = tlG u l by unfold tlG; simp only [if_neg (show ¬ l < 0 from fun q => absurd c24 (Int64.not_le.mpr q))]) ?_
        refine jr_lstore (L' := [(7, .long (tlG u l)), (5, .long (gcdL u l)), (0, .ref (E.1 6)), (1, .long u), (3, .long l)]) cx dX2_tell_35 (by decide) rfl ?_
        refine jr_aload_n cx dX2_tell_37 2 rfl rfl ?_
        refine jr_lload_n cx dX2_tell_38 3 rfl rfl ?_
        refine jr_lload cx dX2_tell_39 0 rfl ?_
        refine jr_ldiv cx dX2_tell_41 htg ?_
        refine jr_put_X2_0 cx dX2_tell_42 hinX2 mf_7 ?_
        refine jr_aload_n cx dX2_tell_45 2 rfl rfl ?_
        refine jr_lload_n cx dX2_tell_46 4 rfl rfl ?_
        refine jr_lload cx dX2_tell_47 0 rfl ?_
        refine jr_ldiv cx dX2_tell_49 htg ?_
        refine jr_put_X2_1 cx dX2_tell_50 hinX2 mf_13 ?_
        exact jr_rv (by rfl) (by rfl) (hR 53 _ dX2_tell_53)
      · refine jr_lload cx dX2_tell_27 0 rfl ?_
        refine jr_lneg cx dX2_tell_29 ?_
        refine jr_goto (tgt := 35) cx dX2_tell_30 (by decide) ?_
        refine jr_topl (show -(gcdL u l) = tlG u l by unfold tlG; simp only [if_pos (Int64.not_le.mp c24)]) ?_
        refine jr_lstore (L' := [(7, .long (tlG u l)), (5, .long (gcdL u l)), (0, .ref (E.1 6)), (1, .long u), (3, .long l)]) cx dX2_tell_35 (by decide) rfl ?_
        refine jr_aload_n cx dX2_tell_37 2 rfl rfl ?_
        refine jr_lload_n cx dX2_tell_38 3 rfl rfl ?_
        refine jr_lload cx dX2_tell_39 0 rfl ?_
        refine jr_ldiv cx dX2_tell_41 htg ?_
        refine jr_put_X2_0 cx dX2_tell_42 hinX2 mf_7 ?_
        refine jr_aload_n cx dX2_tell_45 2 rfl rfl ?_
        refine jr_lload_n cx dX2_tell_46 4 rfl rfl ?_
        refine jr_lload cx dX2_tell_47 0 rfl ?_
        refine jr_ldiv cx dX2_tell_49 htg ?_
        refine jr_put_X2_1 cx dX2_tell_50 hinX2 mf_13 ?_
        exact jr_rv (by rfl) (by rfl) (hR 53 _ dX2_tell_53)
    · exact absurd c17 (gcdL_ne hu hl hz)
set_option maxHeartbeats 4000000 in
set_option maxRecDepth 100000 in
theorem c_X7_tell (E : mm_E) (g : mm_I) (h : mm_L) (u l : Int64) (z : Int32) (hu : u.toInt.natAbs < 2 ^ 63) (hl : l.toInt.natAbs < 2 ^ 63) (hz : ¬ l = 0) : Ci E yX7_tell wsX7_tell 2 50 [.ref (E.1 7), .long u, .long l, .int z] g h z g (tlM h u l) := by
  refine ci_i (bytes := cX7_tell) (maxL := 8) (by decide) rfl (Nat.le_of_ble_eq_true rfl) (fun X cx hR => ?_)
  change Cx E X cX7_tell RX7 wsX7_tell 8 2 50 at cx
  change JJ E X g h 0 [(0, .ref (E.1 7)), (1, .long u), (3, .long l), (5, .int z)] []
  have hinX7 : ∀ w ∈ u_ws RX7 TX7 30, w ∈ wsX7_tell := by decide +kernel
  have mf_87 : Cond.fieldLink RX7 87 (TX7 3).1 (TX7 3).2.1 (TX7 3).2.2.1 ∈ wsX7_tell := by decide +kernel
  have mf_13 : Cond.fieldLink RX7 13 (TX7 4).1 (TX7 4).2.1 (TX7 4).2.2.1 ∈ wsX7_tell := by decide +kernel
  have htg := tlG_ne hu hl hz
  refine jr_lload_n cx dX7_tell_0 2 rfl rfl ?_
  refine jr_lconst (v := 0) cx dX7_tell_1 (by decide) ?_
  refine jr_lcmp cx dX7_tell_2 ?_
  refine jr_lif_ge (tgt := 15) cx dX7_tell_3 (by decide) (fun c3 => ?_) (fun c3 => ?_)
  · refine jr_lload_n cx dX7_tell_15 1 rfl rfl ?_
    refine jr_lload_n cx dX7_tell_16 2 rfl rfl ?_
    refine jr_sl [.long u, .long l] 2 cx dX7_tell_17 (c_X7_divisor E g h u l hu hl) gX7_tell_X7_divisor rfl (by decide +kernel) ⟨Nat.le_of_ble_eq_true rfl, Nat.le_of_ble_eq_true rfl⟩ rfl rfl (Nat.le_of_ble_eq_true rfl) ?_
    refine jr_topl (show gcdL u l = tlG u l by unfold tlG; simp only [if_neg (show ¬ l < 0 from fun q => absurd c3 (Int64.not_le.mpr q))]) ?_
    refine jr_lstore (L' := [(6, .long (tlG u l)), (0, .ref (E.1 7)), (1, .long u), (3, .long l), (5, .int z)]) cx dX7_tell_20 (by decide) rfl ?_
    refine jr_aload_n cx dX7_tell_22 1 rfl rfl ?_
    refine jr_lload_n cx dX7_tell_23 2 rfl rfl ?_
    refine jr_lload cx dX7_tell_24 0 rfl ?_
    refine jr_ldiv cx dX7_tell_26 htg ?_
    refine jr_put_X7_3 cx dX7_tell_27 hinX7 mf_87 ?_
    refine jr_aload_n cx dX7_tell_30 1 rfl rfl ?_
    refine jr_lload_n cx dX7_tell_31 3 rfl rfl ?_
    refine jr_lload cx dX7_tell_32 0 rfl ?_
    refine jr_ldiv cx dX7_tell_34 htg ?_
    refine jr_put_X7_4 cx dX7_tell_35 hinX7 mf_13 ?_
    refine jr_iload cx dX7_tell_38 4 rfl ?_
    exact jr_ri (by rfl) (by rfl) (by rfl) (hR 40 _ dX7_tell_40)
  · refine jr_lload_n cx dX7_tell_6 1 rfl rfl ?_
    refine jr_lload_n cx dX7_tell_7 2 rfl rfl ?_
    refine jr_sl [.long u, .long l] 2 cx dX7_tell_8 (c_X7_divisor E g h u l hu hl) gX7_tell_X7_divisor rfl (by decide +kernel) ⟨Nat.le_of_ble_eq_true rfl, Nat.le_of_ble_eq_true rfl⟩ rfl rfl (Nat.le_of_ble_eq_true rfl) ?_
    refine jr_lneg cx dX7_tell_11 ?_
    refine jr_goto (tgt := 20) cx dX7_tell_12 (by decide) ?_
    refine jr_topl (show -(gcdL u l) = tlG u l by unfold tlG; simp only [if_pos (Int64.not_le.mp c3)]) ?_
    refine jr_lstore (L' := [(6, .long (tlG u l)), (0, .ref (E.1 7)), (1, .long u), (3, .long l), (5, .int z)]) cx dX7_tell_20 (by decide) rfl ?_
    refine jr_aload_n cx dX7_tell_22 1 rfl rfl ?_
    refine jr_lload_n cx dX7_tell_23 2 rfl rfl ?_
    refine jr_lload cx dX7_tell_24 0 rfl ?_
    refine jr_ldiv cx dX7_tell_26 htg ?_
    refine jr_put_X7_3 cx dX7_tell_27 hinX7 mf_87 ?_
    refine jr_aload_n cx dX7_tell_30 1 rfl rfl ?_
    refine jr_lload_n cx dX7_tell_31 3 rfl rfl ?_
    refine jr_lload cx dX7_tell_32 0 rfl ?_
    refine jr_ldiv cx dX7_tell_34 htg ?_
    refine jr_put_X7_4 cx dX7_tell_35 hinX7 mf_13 ?_
    refine jr_iload cx dX7_tell_38 4 rfl ?_
    exact jr_ri (by rfl) (by rfl) (by rfl) (hR 40 _ dX7_tell_40)
set_option maxHeartbeats 4000000 in
set_option maxRecDepth 100000 in
theorem c_X7_ask (E : mm_E) (g : mm_I) (h : mm_L) (v : Int64) (z : Int32) : Ci E yX7_ask wsX7_ask 0 0 [.ref (E.1 7), .long v, .int z] g h z g (upL h 7 2 v) := by
  refine ci_i (bytes := cX7_ask) (maxL := 4) (by decide) rfl (Nat.le_of_ble_eq_true rfl) (fun X cx hR => ?_)
  change Cx E X cX7_ask RX7 wsX7_ask 4 0 0 at cx
  change JJ E X g h 0 [(0, .ref (E.1 7)), (1, .long v), (3, .int z)] []
  have hinX7 : ∀ w ∈ u_ws RX7 TX7 30, w ∈ wsX7_ask := by decide +kernel
  have mf_90 : Cond.fieldLink RX7 90 (TX7 2).1 (TX7 2).2.1 (TX7 2).2.2.1 ∈ wsX7_ask := by decide +kernel
  refine jr_aload_n cx dX7_ask_0 0 rfl rfl ?_
  refine jr_lload_n cx dX7_ask_1 1 rfl rfl ?_
  refine jr_put_X7_2 cx dX7_ask_2 hinX7 mf_90 ?_
  refine jr_iload_n cx dX7_ask_5 2 rfl rfl ?_
  exact jr_ri (by rfl) (by rfl) (by rfl) (hR 6 _ dX7_ask_6)
def rfM (g : mm_I) (w : Nat) : mm_I := up2 (up2 g 0 7 (nI w)) 8 w (up2 g 0 7 (nI w) 8 w + 1)
def mtM (g : mm_I) (w : Nat) : mm_I := up2 (up2 g 7 0 (nI w)) 13 w (up2 g 7 0 (nI w) 13 w + 1)
set_option maxHeartbeats 4000000 in
set_option maxRecDepth 100000 in
theorem c_X6_refuse (E : mm_E) (g : mm_I) (h : mm_L) (w : Nat) (hw : w < 6) (hp : ¬ nI w < 1 ∧ ¬ 5 < nI w) : Ci E yX6_refuse wsX6_refuse 1 22 [.ref (E.1 0), .int (nI w)] g h (-3) (rfM g w) h := by
  refine ci_i (bytes := cX6_refuse) (maxL := 2) (by decide) rfl (Nat.le_of_ble_eq_true rfl) (fun X cx hR => ?_)
  change Cx E X cX6_refuse RX6 wsX6_refuse 2 1 22 at cx
  change JJ E X g h 0 [(0, .ref (E.1 0)), (1, .int (nI w))] []
  have hinX6 : ∀ w ∈ u_ws RX6 TX6 9, w ∈ wsX6_refuse := by decide +kernel
  have mf_55 : Cond.fieldLink RX6 55 (TX6 7).1 (TX6 7).2.1 (TX6 7).2.2.1 ∈ wsX6_refuse := by decide +kernel
  have mf_51 : Cond.fieldLink RX6 51 (TX6 6).1 (TX6 6).2.1 (TX6 6).2.2.1 ∈ wsX6_refuse := by decide +kernel
  refine jr_iload_n cx dX6_refuse_0 1 rfl rfl ?_
  refine jr_iconst (v := 1) cx dX6_refuse_1 (by decide) ?_
  refine jr_iconst (v := 5) cx dX6_refuse_2 (by decide) ?_
  refine jr_si [.int (nI w), .int 1, .int 5] 3 cx dX6_refuse_3 (c_X6_isBetween E g h (nI w) 1 5) gX6_refuse_X6_isBetween rfl (by decide +kernel) ⟨Nat.le_of_ble_eq_true rfl, Nat.le_of_ble_eq_true rfl⟩ rfl rfl (Nat.le_of_ble_eq_true rfl) ?_
  refine jr_bif_eq (tgt := 24) cx dX6_refuse_6 (by decide) (fun c6 => ?_) (fun c6 => ?_)
  · exact absurd hp c6
  · refine jr_aload_n cx dX6_refuse_9 0 rfl rfl ?_
    refine jr_iload_n cx dX6_refuse_10 1 rfl rfl ?_
    refine jr_put_X6_7 cx dX6_refuse_11 hinX6 mf_55 ?_
    refine jr_aload_n cx dX6_refuse_14 0 rfl rfl ?_
    refine jr_get (f := 6) (v := .ref (E.1 8)) cx dX6_refuse_15 (by decide) rfl rfl hinX6 (by decide) mf_51 rfl ?_
    refine jr_iload_n cx dX6_refuse_18 1 rfl rfl ?_
    refine jr_dup2 cx dX6_refuse_19 rfl rfl ?_
    refine jr_iald cx dX6_refuse_20 (Or.inl ⟨by decide, by decide⟩) w rfl (show _ < 6 by omega) ?_
    refine jr_iconst (v := 1) cx dX6_refuse_21 (by decide) ?_
    refine jr_iadd cx dX6_refuse_22 ?_
    refine jr_iast cx dX6_refuse_23 (Or.inl ⟨by decide, by decide⟩) w rfl (show _ < 6 by omega) ?_
    refine jr_bipush (v := (-3)) cx dX6_refuse_24 (by decide) ?_
    exact jr_ri (by rfl) (by rfl) (by rfl) (hR 26 _ dX6_refuse_26)
set_option maxHeartbeats 4000000 in
set_option maxRecDepth 100000 in
theorem c_X7_meets (E : mm_E) (g : mm_I) (h : mm_L) (w : Nat) (hw : w < 6) : Ci E yX7_meets wsX7_meets 0 0 [.ref (E.1 7), .int (nI w)] g h (-3) (mtM g w) h := by
  refine ci_i (bytes := cX7_meets) (maxL := 2) (by decide) rfl (Nat.le_of_ble_eq_true rfl) (fun X cx hR => ?_)
  change Cx E X cX7_meets RX7 wsX7_meets 2 0 0 at cx
  change JJ E X g h 0 [(0, .ref (E.1 7)), (1, .int (nI w))] []
  have hinX7 : ∀ w ∈ u_ws RX7 TX7 30, w ∈ wsX7_meets := by decide +kernel
  have mf_75 : Cond.fieldLink RX7 75 (TX7 0).1 (TX7 0).2.1 (TX7 0).2.2.1 ∈ wsX7_meets := by decide +kernel
  have mf_7 : Cond.fieldLink RX7 7 (TX7 1).1 (TX7 1).2.1 (TX7 1).2.2.1 ∈ wsX7_meets := by decide +kernel
  refine jr_aload_n cx dX7_meets_0 0 rfl rfl ?_
  refine jr_iload_n cx dX7_meets_1 1 rfl rfl ?_
  refine jr_put_X7_0 cx dX7_meets_2 hinX7 mf_75 ?_
  refine jr_aload_n cx dX7_meets_5 0 rfl rfl ?_
  refine jr_get (f := 1) (v := .ref (E.1 13)) cx dX7_meets_6 (by decide) rfl rfl hinX7 (by decide) mf_7 rfl ?_
  refine jr_iload_n cx dX7_meets_9 1 rfl rfl ?_
  refine jr_dup2 cx dX7_meets_10 rfl rfl ?_
  refine jr_iald cx dX7_meets_11 (Or.inl ⟨by decide, by decide⟩) w rfl (show _ < 6 by omega) ?_
  refine jr_iconst (v := 1) cx dX7_meets_12 (by decide) ?_
  refine jr_iadd cx dX7_meets_13 ?_
  refine jr_iast cx dX7_meets_14 (Or.inl ⟨by decide, by decide⟩) w rfl (show _ < 6 by omega) ?_
  refine jr_bipush (v := (-3)) cx dX7_meets_15 (by decide) ?_
  exact jr_ri (by rfl) (by rfl) (by rfl) (hR 17 _ dX7_meets_17)
