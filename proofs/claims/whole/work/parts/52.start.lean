def pmF (k : Nat) : Nat := ([0, 1, 10, 22, 25, 67, 82, 84, 83, 9, 21, 23, 24, 85, 86, 87, 88, 89, 90, 91, 92, 93, 94, 95, 96, 97, 98, 99, 100, 103, 104, 101, 102, 2, 11, 16, 26, 68, 75, 3, 4, 5, 6, 7, 8, 12, 13, 14, 15, 17, 18, 19, 20, 27, 28, 29, 30, 31, 32, 33, 34, 35, 36, 37, 38, 39, 40, 41, 42, 43, 44, 45, 46, 47, 48, 49, 50, 51, 52, 53, 54, 55, 56, 57, 58, 59, 60, 61, 62, 63, 64, 65, 66, 69, 70, 71, 72, 73, 74, 76, 77, 78, 79, 80, 81] : List Nat).getD k 0
def st_g : mm_I := fun k => if k = 9 ∨ (99 ≤ k ∧ k < 105) then fil (fun _ => 0) (-1) 6 else if k = 14 then upd (upd (upd (upd (upd (upd (fun _ => 0) 0 (-9)) 1 (-9)) 2 (-9)) 3 (-9)) 4 (-9)) 5 (-9) else fun _ => 0
def st_h : mm_L := fun k j => if (k = 6 ∧ j = 1) ∨ (k = 7 ∧ j = 4) then 1 else 0
theorem st_RR : RR st_g := by
  intro j hj
  refine ⟨Or.inl ?_, fun i hi => ?_⟩
  · rcases (show j = 0 ∨ j = 1 ∨ j = 2 ∨ j = 3 ∨ j = 4 ∨ j = 5 by omega) with rfl | rfl | rfl | rfl | rfl | rfl <;> exact ⟨rfl, rfl⟩
  · have e : st_g (39 + j) i = 0 := by unfold st_g; rw [if_neg (by omega), if_neg (by omega)]
    rw [e]
    exact ⟨rfl, by unfold BdI; decide⟩
theorem st_RT : RT st_g := by
  intro t ht
  have e1 : ∀ i, st_g (45 + t) i = 0 := fun i => by unfold st_g; rw [if_neg (by omega), if_neg (by omega)]
  have e2 : ∀ i, st_g (49 + t) i = 0 := fun i => by unfold st_g; rw [if_neg (by omega), if_neg (by omega)]
  exact ⟨0, by omega, rfl, rfl, fun i hi => ⟨e1 i, e2 i⟩, fun i hi => absurd hi (Nat.not_lt_zero i), fun i hi => absurd hi (Nat.not_lt_zero i)⟩
theorem st_RB : RB st_g := ⟨0, by omega, rfl, rfl, fun i hi => ⟨rfl, rfl, 0, by omega, rfl⟩⟩
theorem st_RC : RC st_g := ⟨0, by omega, rfl, rfl, fun c hc => absurd hc (Nat.not_lt_zero c), fun c _ _ => rfl⟩
theorem st_RL5 : RL5 st_g := by
  intro a ha b hb
  refine Or.inl ⟨?_, rfl⟩
  unfold st_g
  rw [if_pos (by omega)]
  exact if_pos hb
theorem st_Rl : Rl st_g st_h := ⟨st_RR, st_RT, st_RB, st_RC, st_RL5, ⟨rfl, fun f hf => rfl⟩, rfl, rfl, rfl⟩
theorem pm_ij : ∀ i, i < 105 → ∀ j, j < 105 → pmF i = pmF j → i = j := by decide +kernel
theorem pm_lt : ∀ i, i < 105 → pmF i < 105 := by decide +kernel
theorem pm_r : ∀ i, i < 6 → pmF (39 + i) = 3 + i := by decide +kernel
theorem pm_x : ∀ i, i < 4 → pmF (45 + i) = 12 + i := by decide +kernel
theorem pm_y : ∀ i, i < 4 → pmF (49 + i) = 17 + i := by decide +kernel
theorem pm_f : ∀ i, i < 40 → pmF (53 + i) = 27 + i := by decide +kernel
theorem pm_d : ∀ i, i < 6 → pmF (93 + i) = 69 + i := by decide +kernel
theorem pm_e : ∀ i, i < 6 → pmF (99 + i) = 76 + i := by decide +kernel
theorem st_grid {o N a b : Nat} (h : ∀ i, i < N → pmF (b + i) = a + i) : (fun i => if i < N then some (o + a + i) else none) = (fun i => if i < N then some (o + pmF (b + i)) else none) := by
  funext i
  by_cases hi : i < N
  · rw [if_pos hi, if_pos hi, h i hi, Nat.add_assoc]
  · rw [if_neg hi, if_neg hi]
abbrev eE (o : Nat) (cI cZ cG : ClassId) (D : va_G) (l : Launch) : mm_E := (fun k => o + pmF k, cI, cZ, cG, D, l)
set_option maxRecDepth 20000 in
set_option maxHeartbeats 2000000 in
theorem st_c0 (o : Nat) (cI cZ cG : ClassId) (D : va_G) (l : Launch) : (kX6 (eE o cI cZ cG D l) o ++ kX7 (eE o cI cZ cG D l) (o + 84))[0]? = some (mm_ce (eE o cI cZ cG D l) st_g st_h 0) ∧ (kX6 (eE o cI cZ cG D l) o ++ kX7 (eE o cI cZ cG D l) (o + 84))[1]? = some (mm_ce (eE o cI cZ cG D l) st_g st_h 1) ∧ (kX6 (eE o cI cZ cG D l) o ++ kX7 (eE o cI cZ cG D l) (o + 84))[10]? = some (mm_ce (eE o cI cZ cG D l) st_g st_h 2) ∧ (kX6 (eE o cI cZ cG D l) o ++ kX7 (eE o cI cZ cG D l) (o + 84))[22]? = some (mm_ce (eE o cI cZ cG D l) st_g st_h 3) ∧ (kX6 (eE o cI cZ cG D l) o ++ kX7 (eE o cI cZ cG D l) (o + 84))[25]? = some (mm_ce (eE o cI cZ cG D l) st_g st_h 4) ∧ (kX6 (eE o cI cZ cG D l) o ++ kX7 (eE o cI cZ cG D l) (o + 84))[67]? = some (mm_ce (eE o cI cZ cG D l) st_g st_h 5) ∧ (kX6 (eE o cI cZ cG D l) o ++ kX7 (eE o cI cZ cG D l) (o + 84))[82]? = some (mm_ce (eE o cI cZ cG D l) st_g st_h 6) ∧ (kX6 (eE o cI cZ cG D l) o ++ kX7 (eE o cI cZ cG D l) (o + 84))[84]? = some (mm_ce (eE o cI cZ cG D l) st_g st_h 7) ∧ (kX6 (eE o cI cZ cG D l) o ++ kX7 (eE o cI cZ cG D l) (o + 84))[83]? = some (mm_ce (eE o cI cZ cG D l) st_g st_h 8) ∧ (kX6 (eE o cI cZ cG D l) o ++ kX7 (eE o cI cZ cG D l) (o + 84))[9]? = some (mm_ce (eE o cI cZ cG D l) st_g st_h 9) ∧ (kX6 (eE o cI cZ cG D l) o ++ kX7 (eE o cI cZ cG D l) (o + 84))[21]? = some (mm_ce (eE o cI cZ cG D l) st_g st_h 10) := ⟨rfl, rfl, rfl, rfl, rfl, rfl, rfl, rfl, rfl, rfl, rfl⟩
set_option maxRecDepth 20000 in
set_option maxHeartbeats 2000000 in
theorem st_c1 (o : Nat) (cI cZ cG : ClassId) (D : va_G) (l : Launch) : (kX6 (eE o cI cZ cG D l) o ++ kX7 (eE o cI cZ cG D l) (o + 84))[23]? = some (mm_ce (eE o cI cZ cG D l) st_g st_h 11) ∧ (kX6 (eE o cI cZ cG D l) o ++ kX7 (eE o cI cZ cG D l) (o + 84))[24]? = some (mm_ce (eE o cI cZ cG D l) st_g st_h 12) ∧ (kX6 (eE o cI cZ cG D l) o ++ kX7 (eE o cI cZ cG D l) (o + 84))[85]? = some (mm_ce (eE o cI cZ cG D l) st_g st_h 13) ∧ (kX6 (eE o cI cZ cG D l) o ++ kX7 (eE o cI cZ cG D l) (o + 84))[86]? = some (mm_ce (eE o cI cZ cG D l) st_g st_h 14) ∧ (kX6 (eE o cI cZ cG D l) o ++ kX7 (eE o cI cZ cG D l) (o + 84))[87]? = some (mm_ce (eE o cI cZ cG D l) st_g st_h 15) ∧ (kX6 (eE o cI cZ cG D l) o ++ kX7 (eE o cI cZ cG D l) (o + 84))[88]? = some (mm_ce (eE o cI cZ cG D l) st_g st_h 16) ∧ (kX6 (eE o cI cZ cG D l) o ++ kX7 (eE o cI cZ cG D l) (o + 84))[89]? = some (mm_ce (eE o cI cZ cG D l) st_g st_h 17) ∧ (kX6 (eE o cI cZ cG D l) o ++ kX7 (eE o cI cZ cG D l) (o + 84))[90]? = some (mm_ce (eE o cI cZ cG D l) st_g st_h 18) ∧ (kX6 (eE o cI cZ cG D l) o ++ kX7 (eE o cI cZ cG D l) (o + 84))[91]? = some (mm_ce (eE o cI cZ cG D l) st_g st_h 19) ∧ (kX6 (eE o cI cZ cG D l) o ++ kX7 (eE o cI cZ cG D l) (o + 84))[92]? = some (mm_ce (eE o cI cZ cG D l) st_g st_h 20) ∧ (kX6 (eE o cI cZ cG D l) o ++ kX7 (eE o cI cZ cG D l) (o + 84))[93]? = some (mm_ce (eE o cI cZ cG D l) st_g st_h 21) := ⟨rfl, rfl, rfl, rfl, rfl, rfl, rfl, rfl, rfl, rfl, rfl⟩
set_option maxRecDepth 20000 in
set_option maxHeartbeats 2000000 in
theorem st_c2 (o : Nat) (cI cZ cG : ClassId) (D : va_G) (l : Launch) : (kX6 (eE o cI cZ cG D l) o ++ kX7 (eE o cI cZ cG D l) (o + 84))[94]? = some (mm_ce (eE o cI cZ cG D l) st_g st_h 22) ∧ (kX6 (eE o cI cZ cG D l) o ++ kX7 (eE o cI cZ cG D l) (o + 84))[95]? = some (mm_ce (eE o cI cZ cG D l) st_g st_h 23) ∧ (kX6 (eE o cI cZ cG D l) o ++ kX7 (eE o cI cZ cG D l) (o + 84))[96]? = some (mm_ce (eE o cI cZ cG D l) st_g st_h 24) ∧ (kX6 (eE o cI cZ cG D l) o ++ kX7 (eE o cI cZ cG D l) (o + 84))[97]? = some (mm_ce (eE o cI cZ cG D l) st_g st_h 25) ∧ (kX6 (eE o cI cZ cG D l) o ++ kX7 (eE o cI cZ cG D l) (o + 84))[98]? = some (mm_ce (eE o cI cZ cG D l) st_g st_h 26) ∧ (kX6 (eE o cI cZ cG D l) o ++ kX7 (eE o cI cZ cG D l) (o + 84))[99]? = some (mm_ce (eE o cI cZ cG D l) st_g st_h 27) ∧ (kX6 (eE o cI cZ cG D l) o ++ kX7 (eE o cI cZ cG D l) (o + 84))[100]? = some (mm_ce (eE o cI cZ cG D l) st_g st_h 28) ∧ (kX6 (eE o cI cZ cG D l) o ++ kX7 (eE o cI cZ cG D l) (o + 84))[103]? = some (mm_ce (eE o cI cZ cG D l) st_g st_h 29) ∧ (kX6 (eE o cI cZ cG D l) o ++ kX7 (eE o cI cZ cG D l) (o + 84))[104]? = some (mm_ce (eE o cI cZ cG D l) st_g st_h 30) ∧ (kX6 (eE o cI cZ cG D l) o ++ kX7 (eE o cI cZ cG D l) (o + 84))[101]? = some (mm_ce (eE o cI cZ cG D l) st_g st_h 31) ∧ (kX6 (eE o cI cZ cG D l) o ++ kX7 (eE o cI cZ cG D l) (o + 84))[102]? = some (mm_ce (eE o cI cZ cG D l) st_g st_h 32) := ⟨rfl, rfl, rfl, rfl, rfl, rfl, rfl, rfl, rfl, rfl, rfl⟩
set_option maxRecDepth 20000 in
set_option maxHeartbeats 2000000 in
theorem st_c3 (o : Nat) (cI cZ cG : ClassId) (D : va_G) (l : Launch) : (kX6 (eE o cI cZ cG D l) o ++ kX7 (eE o cI cZ cG D l) (o + 84))[3]? = some (mm_ce (eE o cI cZ cG D l) st_g st_h 39) ∧ (kX6 (eE o cI cZ cG D l) o ++ kX7 (eE o cI cZ cG D l) (o + 84))[4]? = some (mm_ce (eE o cI cZ cG D l) st_g st_h 40) ∧ (kX6 (eE o cI cZ cG D l) o ++ kX7 (eE o cI cZ cG D l) (o + 84))[5]? = some (mm_ce (eE o cI cZ cG D l) st_g st_h 41) ∧ (kX6 (eE o cI cZ cG D l) o ++ kX7 (eE o cI cZ cG D l) (o + 84))[6]? = some (mm_ce (eE o cI cZ cG D l) st_g st_h 42) ∧ (kX6 (eE o cI cZ cG D l) o ++ kX7 (eE o cI cZ cG D l) (o + 84))[7]? = some (mm_ce (eE o cI cZ cG D l) st_g st_h 43) ∧ (kX6 (eE o cI cZ cG D l) o ++ kX7 (eE o cI cZ cG D l) (o + 84))[8]? = some (mm_ce (eE o cI cZ cG D l) st_g st_h 44) ∧ (kX6 (eE o cI cZ cG D l) o ++ kX7 (eE o cI cZ cG D l) (o + 84))[12]? = some (mm_ce (eE o cI cZ cG D l) st_g st_h 45) ∧ (kX6 (eE o cI cZ cG D l) o ++ kX7 (eE o cI cZ cG D l) (o + 84))[13]? = some (mm_ce (eE o cI cZ cG D l) st_g st_h 46) ∧ (kX6 (eE o cI cZ cG D l) o ++ kX7 (eE o cI cZ cG D l) (o + 84))[14]? = some (mm_ce (eE o cI cZ cG D l) st_g st_h 47) ∧ (kX6 (eE o cI cZ cG D l) o ++ kX7 (eE o cI cZ cG D l) (o + 84))[15]? = some (mm_ce (eE o cI cZ cG D l) st_g st_h 48) ∧ (kX6 (eE o cI cZ cG D l) o ++ kX7 (eE o cI cZ cG D l) (o + 84))[17]? = some (mm_ce (eE o cI cZ cG D l) st_g st_h 49) := ⟨rfl, rfl, rfl, rfl, rfl, rfl, rfl, rfl, rfl, rfl, rfl⟩
set_option maxRecDepth 20000 in
set_option maxHeartbeats 2000000 in
theorem st_c4 (o : Nat) (cI cZ cG : ClassId) (D : va_G) (l : Launch) : (kX6 (eE o cI cZ cG D l) o ++ kX7 (eE o cI cZ cG D l) (o + 84))[18]? = some (mm_ce (eE o cI cZ cG D l) st_g st_h 50) ∧ (kX6 (eE o cI cZ cG D l) o ++ kX7 (eE o cI cZ cG D l) (o + 84))[19]? = some (mm_ce (eE o cI cZ cG D l) st_g st_h 51) ∧ (kX6 (eE o cI cZ cG D l) o ++ kX7 (eE o cI cZ cG D l) (o + 84))[20]? = some (mm_ce (eE o cI cZ cG D l) st_g st_h 52) ∧ (kX6 (eE o cI cZ cG D l) o ++ kX7 (eE o cI cZ cG D l) (o + 84))[27]? = some (mm_ce (eE o cI cZ cG D l) st_g st_h 53) ∧ (kX6 (eE o cI cZ cG D l) o ++ kX7 (eE o cI cZ cG D l) (o + 84))[28]? = some (mm_ce (eE o cI cZ cG D l) st_g st_h 54) ∧ (kX6 (eE o cI cZ cG D l) o ++ kX7 (eE o cI cZ cG D l) (o + 84))[29]? = some (mm_ce (eE o cI cZ cG D l) st_g st_h 55) ∧ (kX6 (eE o cI cZ cG D l) o ++ kX7 (eE o cI cZ cG D l) (o + 84))[30]? = some (mm_ce (eE o cI cZ cG D l) st_g st_h 56) ∧ (kX6 (eE o cI cZ cG D l) o ++ kX7 (eE o cI cZ cG D l) (o + 84))[31]? = some (mm_ce (eE o cI cZ cG D l) st_g st_h 57) ∧ (kX6 (eE o cI cZ cG D l) o ++ kX7 (eE o cI cZ cG D l) (o + 84))[32]? = some (mm_ce (eE o cI cZ cG D l) st_g st_h 58) ∧ (kX6 (eE o cI cZ cG D l) o ++ kX7 (eE o cI cZ cG D l) (o + 84))[33]? = some (mm_ce (eE o cI cZ cG D l) st_g st_h 59) ∧ (kX6 (eE o cI cZ cG D l) o ++ kX7 (eE o cI cZ cG D l) (o + 84))[34]? = some (mm_ce (eE o cI cZ cG D l) st_g st_h 60) := ⟨rfl, rfl, rfl, rfl, rfl, rfl, rfl, rfl, rfl, rfl, rfl⟩
set_option maxRecDepth 20000 in
set_option maxHeartbeats 2000000 in
theorem st_c5 (o : Nat) (cI cZ cG : ClassId) (D : va_G) (l : Launch) : (kX6 (eE o cI cZ cG D l) o ++ kX7 (eE o cI cZ cG D l) (o + 84))[35]? = some (mm_ce (eE o cI cZ cG D l) st_g st_h 61) ∧ (kX6 (eE o cI cZ cG D l) o ++ kX7 (eE o cI cZ cG D l) (o + 84))[36]? = some (mm_ce (eE o cI cZ cG D l) st_g st_h 62) ∧ (kX6 (eE o cI cZ cG D l) o ++ kX7 (eE o cI cZ cG D l) (o + 84))[37]? = some (mm_ce (eE o cI cZ cG D l) st_g st_h 63) ∧ (kX6 (eE o cI cZ cG D l) o ++ kX7 (eE o cI cZ cG D l) (o + 84))[38]? = some (mm_ce (eE o cI cZ cG D l) st_g st_h 64) ∧ (kX6 (eE o cI cZ cG D l) o ++ kX7 (eE o cI cZ cG D l) (o + 84))[39]? = some (mm_ce (eE o cI cZ cG D l) st_g st_h 65) ∧ (kX6 (eE o cI cZ cG D l) o ++ kX7 (eE o cI cZ cG D l) (o + 84))[40]? = some (mm_ce (eE o cI cZ cG D l) st_g st_h 66) ∧ (kX6 (eE o cI cZ cG D l) o ++ kX7 (eE o cI cZ cG D l) (o + 84))[41]? = some (mm_ce (eE o cI cZ cG D l) st_g st_h 67) ∧ (kX6 (eE o cI cZ cG D l) o ++ kX7 (eE o cI cZ cG D l) (o + 84))[42]? = some (mm_ce (eE o cI cZ cG D l) st_g st_h 68) ∧ (kX6 (eE o cI cZ cG D l) o ++ kX7 (eE o cI cZ cG D l) (o + 84))[43]? = some (mm_ce (eE o cI cZ cG D l) st_g st_h 69) ∧ (kX6 (eE o cI cZ cG D l) o ++ kX7 (eE o cI cZ cG D l) (o + 84))[44]? = some (mm_ce (eE o cI cZ cG D l) st_g st_h 70) ∧ (kX6 (eE o cI cZ cG D l) o ++ kX7 (eE o cI cZ cG D l) (o + 84))[45]? = some (mm_ce (eE o cI cZ cG D l) st_g st_h 71) := ⟨rfl, rfl, rfl, rfl, rfl, rfl, rfl, rfl, rfl, rfl, rfl⟩
set_option maxRecDepth 20000 in
set_option maxHeartbeats 2000000 in
theorem st_c6 (o : Nat) (cI cZ cG : ClassId) (D : va_G) (l : Launch) : (kX6 (eE o cI cZ cG D l) o ++ kX7 (eE o cI cZ cG D l) (o + 84))[46]? = some (mm_ce (eE o cI cZ cG D l) st_g st_h 72) ∧ (kX6 (eE o cI cZ cG D l) o ++ kX7 (eE o cI cZ cG D l) (o + 84))[47]? = some (mm_ce (eE o cI cZ cG D l) st_g st_h 73) ∧ (kX6 (eE o cI cZ cG D l) o ++ kX7 (eE o cI cZ cG D l) (o + 84))[48]? = some (mm_ce (eE o cI cZ cG D l) st_g st_h 74) ∧ (kX6 (eE o cI cZ cG D l) o ++ kX7 (eE o cI cZ cG D l) (o + 84))[49]? = some (mm_ce (eE o cI cZ cG D l) st_g st_h 75) ∧ (kX6 (eE o cI cZ cG D l) o ++ kX7 (eE o cI cZ cG D l) (o + 84))[50]? = some (mm_ce (eE o cI cZ cG D l) st_g st_h 76) ∧ (kX6 (eE o cI cZ cG D l) o ++ kX7 (eE o cI cZ cG D l) (o + 84))[51]? = some (mm_ce (eE o cI cZ cG D l) st_g st_h 77) ∧ (kX6 (eE o cI cZ cG D l) o ++ kX7 (eE o cI cZ cG D l) (o + 84))[52]? = some (mm_ce (eE o cI cZ cG D l) st_g st_h 78) ∧ (kX6 (eE o cI cZ cG D l) o ++ kX7 (eE o cI cZ cG D l) (o + 84))[53]? = some (mm_ce (eE o cI cZ cG D l) st_g st_h 79) ∧ (kX6 (eE o cI cZ cG D l) o ++ kX7 (eE o cI cZ cG D l) (o + 84))[54]? = some (mm_ce (eE o cI cZ cG D l) st_g st_h 80) ∧ (kX6 (eE o cI cZ cG D l) o ++ kX7 (eE o cI cZ cG D l) (o + 84))[55]? = some (mm_ce (eE o cI cZ cG D l) st_g st_h 81) ∧ (kX6 (eE o cI cZ cG D l) o ++ kX7 (eE o cI cZ cG D l) (o + 84))[56]? = some (mm_ce (eE o cI cZ cG D l) st_g st_h 82) := ⟨rfl, rfl, rfl, rfl, rfl, rfl, rfl, rfl, rfl, rfl, rfl⟩
set_option maxRecDepth 20000 in
set_option maxHeartbeats 2000000 in
theorem st_c7 (o : Nat) (cI cZ cG : ClassId) (D : va_G) (l : Launch) : (kX6 (eE o cI cZ cG D l) o ++ kX7 (eE o cI cZ cG D l) (o + 84))[57]? = some (mm_ce (eE o cI cZ cG D l) st_g st_h 83) ∧ (kX6 (eE o cI cZ cG D l) o ++ kX7 (eE o cI cZ cG D l) (o + 84))[58]? = some (mm_ce (eE o cI cZ cG D l) st_g st_h 84) ∧ (kX6 (eE o cI cZ cG D l) o ++ kX7 (eE o cI cZ cG D l) (o + 84))[59]? = some (mm_ce (eE o cI cZ cG D l) st_g st_h 85) ∧ (kX6 (eE o cI cZ cG D l) o ++ kX7 (eE o cI cZ cG D l) (o + 84))[60]? = some (mm_ce (eE o cI cZ cG D l) st_g st_h 86) ∧ (kX6 (eE o cI cZ cG D l) o ++ kX7 (eE o cI cZ cG D l) (o + 84))[61]? = some (mm_ce (eE o cI cZ cG D l) st_g st_h 87) ∧ (kX6 (eE o cI cZ cG D l) o ++ kX7 (eE o cI cZ cG D l) (o + 84))[62]? = some (mm_ce (eE o cI cZ cG D l) st_g st_h 88) ∧ (kX6 (eE o cI cZ cG D l) o ++ kX7 (eE o cI cZ cG D l) (o + 84))[63]? = some (mm_ce (eE o cI cZ cG D l) st_g st_h 89) ∧ (kX6 (eE o cI cZ cG D l) o ++ kX7 (eE o cI cZ cG D l) (o + 84))[64]? = some (mm_ce (eE o cI cZ cG D l) st_g st_h 90) ∧ (kX6 (eE o cI cZ cG D l) o ++ kX7 (eE o cI cZ cG D l) (o + 84))[65]? = some (mm_ce (eE o cI cZ cG D l) st_g st_h 91) ∧ (kX6 (eE o cI cZ cG D l) o ++ kX7 (eE o cI cZ cG D l) (o + 84))[66]? = some (mm_ce (eE o cI cZ cG D l) st_g st_h 92) ∧ (kX6 (eE o cI cZ cG D l) o ++ kX7 (eE o cI cZ cG D l) (o + 84))[69]? = some (mm_ce (eE o cI cZ cG D l) st_g st_h 93) := ⟨rfl, rfl, rfl, rfl, rfl, rfl, rfl, rfl, rfl, rfl, rfl⟩
set_option maxRecDepth 20000 in
set_option maxHeartbeats 2000000 in
theorem st_c8 (o : Nat) (cI cZ cG : ClassId) (D : va_G) (l : Launch) : (kX6 (eE o cI cZ cG D l) o ++ kX7 (eE o cI cZ cG D l) (o + 84))[70]? = some (mm_ce (eE o cI cZ cG D l) st_g st_h 94) ∧ (kX6 (eE o cI cZ cG D l) o ++ kX7 (eE o cI cZ cG D l) (o + 84))[71]? = some (mm_ce (eE o cI cZ cG D l) st_g st_h 95) ∧ (kX6 (eE o cI cZ cG D l) o ++ kX7 (eE o cI cZ cG D l) (o + 84))[72]? = some (mm_ce (eE o cI cZ cG D l) st_g st_h 96) ∧ (kX6 (eE o cI cZ cG D l) o ++ kX7 (eE o cI cZ cG D l) (o + 84))[73]? = some (mm_ce (eE o cI cZ cG D l) st_g st_h 97) ∧ (kX6 (eE o cI cZ cG D l) o ++ kX7 (eE o cI cZ cG D l) (o + 84))[74]? = some (mm_ce (eE o cI cZ cG D l) st_g st_h 98) ∧ (kX6 (eE o cI cZ cG D l) o ++ kX7 (eE o cI cZ cG D l) (o + 84))[76]? = some (mm_ce (eE o cI cZ cG D l) st_g st_h 99) ∧ (kX6 (eE o cI cZ cG D l) o ++ kX7 (eE o cI cZ cG D l) (o + 84))[77]? = some (mm_ce (eE o cI cZ cG D l) st_g st_h 100) ∧ (kX6 (eE o cI cZ cG D l) o ++ kX7 (eE o cI cZ cG D l) (o + 84))[78]? = some (mm_ce (eE o cI cZ cG D l) st_g st_h 101) ∧ (kX6 (eE o cI cZ cG D l) o ++ kX7 (eE o cI cZ cG D l) (o + 84))[79]? = some (mm_ce (eE o cI cZ cG D l) st_g st_h 102) ∧ (kX6 (eE o cI cZ cG D l) o ++ kX7 (eE o cI cZ cG D l) (o + 84))[80]? = some (mm_ce (eE o cI cZ cG D l) st_g st_h 103) ∧ (kX6 (eE o cI cZ cG D l) o ++ kX7 (eE o cI cZ cG D l) (o + 84))[81]? = some (mm_ce (eE o cI cZ cG D l) st_g st_h 104) := ⟨rfl, rfl, rfl, rfl, rfl, rfl, rfl, rfl, rfl, rfl, rfl⟩
set_option maxRecDepth 20000 in
set_option maxHeartbeats 2000000 in
theorem st_g33 (o : Nat) (cI cZ cG : ClassId) (D : va_G) (l : Launch) : (kX6 (eE o cI cZ cG D l) o ++ kX7 (eE o cI cZ cG D l) (o + 84))[2]? = some (mm_ce (eE o cI cZ cG D l) st_g st_h 33) := by
  have e := st_grid (o := o) pm_r
  have e2 : (kX6 (eE o cI cZ cG D l) o ++ kX7 (eE o cI cZ cG D l) (o + 84))[2]? = some (.inl (cG, 6, .inr (.inr (.inr (.inr (fun i => if i < 6 then some (o + 3 + i) else none)))))) := rfl
  rw [e2, e]
  rfl
set_option maxRecDepth 20000 in
set_option maxHeartbeats 2000000 in
theorem st_g34 (o : Nat) (cI cZ cG : ClassId) (D : va_G) (l : Launch) : (kX6 (eE o cI cZ cG D l) o ++ kX7 (eE o cI cZ cG D l) (o + 84))[11]? = some (mm_ce (eE o cI cZ cG D l) st_g st_h 34) := by
  have e := st_grid (o := o) pm_x
  have e2 : (kX6 (eE o cI cZ cG D l) o ++ kX7 (eE o cI cZ cG D l) (o + 84))[11]? = some (.inl (cG, 4, .inr (.inr (.inr (.inr (fun i => if i < 4 then some (o + 12 + i) else none)))))) := rfl
  rw [e2, e]
  rfl
set_option maxRecDepth 20000 in
set_option maxHeartbeats 2000000 in
theorem st_g35 (o : Nat) (cI cZ cG : ClassId) (D : va_G) (l : Launch) : (kX6 (eE o cI cZ cG D l) o ++ kX7 (eE o cI cZ cG D l) (o + 84))[16]? = some (mm_ce (eE o cI cZ cG D l) st_g st_h 35) := by
  have e := st_grid (o := o) pm_y
  have e2 : (kX6 (eE o cI cZ cG D l) o ++ kX7 (eE o cI cZ cG D l) (o + 84))[16]? = some (.inl (cG, 4, .inr (.inr (.inr (.inr (fun i => if i < 4 then some (o + 17 + i) else none)))))) := rfl
  rw [e2, e]
  rfl
set_option maxRecDepth 20000 in
set_option maxHeartbeats 2000000 in
theorem st_g36 (o : Nat) (cI cZ cG : ClassId) (D : va_G) (l : Launch) : (kX6 (eE o cI cZ cG D l) o ++ kX7 (eE o cI cZ cG D l) (o + 84))[26]? = some (mm_ce (eE o cI cZ cG D l) st_g st_h 36) := by
  have e := st_grid (o := o) pm_f
  have e2 : (kX6 (eE o cI cZ cG D l) o ++ kX7 (eE o cI cZ cG D l) (o + 84))[26]? = some (.inl (cG, 40, .inr (.inr (.inr (.inr (fun i => if i < 40 then some (o + 27 + i) else none)))))) := rfl
  rw [e2, e]
  rfl
set_option maxRecDepth 20000 in
set_option maxHeartbeats 2000000 in
theorem st_g37 (o : Nat) (cI cZ cG : ClassId) (D : va_G) (l : Launch) : (kX6 (eE o cI cZ cG D l) o ++ kX7 (eE o cI cZ cG D l) (o + 84))[68]? = some (mm_ce (eE o cI cZ cG D l) st_g st_h 37) := by
  have e := st_grid (o := o) pm_d
  have e2 : (kX6 (eE o cI cZ cG D l) o ++ kX7 (eE o cI cZ cG D l) (o + 84))[68]? = some (.inl (cG, 6, .inr (.inr (.inr (.inr (fun i => if i < 6 then some (o + 69 + i) else none)))))) := rfl
  rw [e2, e]
  rfl
set_option maxRecDepth 20000 in
set_option maxHeartbeats 2000000 in
theorem st_g38 (o : Nat) (cI cZ cG : ClassId) (D : va_G) (l : Launch) : (kX6 (eE o cI cZ cG D l) o ++ kX7 (eE o cI cZ cG D l) (o + 84))[75]? = some (mm_ce (eE o cI cZ cG D l) st_g st_h 38) := by
  have e := st_grid (o := o) pm_e
  have e2 : (kX6 (eE o cI cZ cG D l) o ++ kX7 (eE o cI cZ cG D l) (o + 84))[75]? = some (.inl (cG, 6, .inr (.inr (.inr (.inr (fun i => if i < 6 then some (o + 76 + i) else none)))))) := rfl
  rw [e2, e]
  rfl
theorem st_ce (o : Nat) (cI cZ cG : ClassId) (D : va_G) (l : Launch) : ∀ k, k < 105 → (kX6 (eE o cI cZ cG D l) o ++ kX7 (eE o cI cZ cG D l) (o + 84))[pmF k]? = some (mm_ce (eE o cI cZ cG D l) st_g st_h k) := by
  intro k hk
  obtain ⟨q0, q1, q2, q3, q4, q5, q6, q7, q8, q9, q10⟩ := st_c0 o cI cZ cG D l
  obtain ⟨q11, q12, q13, q14, q15, q16, q17, q18, q19, q20, q21⟩ := st_c1 o cI cZ cG D l
  obtain ⟨q22, q23, q24, q25, q26, q27, q28, q29, q30, q31, q32⟩ := st_c2 o cI cZ cG D l
  obtain ⟨q39, q40, q41, q42, q43, q44, q45, q46, q47, q48, q49⟩ := st_c3 o cI cZ cG D l
  obtain ⟨q50, q51, q52, q53, q54, q55, q56, q57, q58, q59, q60⟩ := st_c4 o cI cZ cG D l
  obtain ⟨q61, q62, q63, q64, q65, q66, q67, q68, q69, q70, q71⟩ := st_c5 o cI cZ cG D l
  obtain ⟨q72, q73, q74, q75, q76, q77, q78, q79, q80, q81, q82⟩ := st_c6 o cI cZ cG D l
  obtain ⟨q83, q84, q85, q86, q87, q88, q89, q90, q91, q92, q93⟩ := st_c7 o cI cZ cG D l
  obtain ⟨q94, q95, q96, q97, q98, q99, q100, q101, q102, q103, q104⟩ := st_c8 o cI cZ cG D l
  rcases (show k = 0 ∨ k = 1 ∨ k = 2 ∨ k = 3 ∨ k = 4 ∨ k = 5 ∨ k = 6 ∨ k = 7 ∨ k = 8 ∨ k = 9 ∨ k = 10 ∨ k = 11 ∨ k = 12 ∨ k = 13 ∨ k = 14 ∨ k = 15 ∨ k = 16 ∨ k = 17 ∨ k = 18 ∨ k = 19 ∨ k = 20 ∨ k = 21 ∨ k = 22 ∨ k = 23 ∨ k = 24 ∨ k = 25 ∨ k = 26 ∨ k = 27 ∨ k = 28 ∨ k = 29 ∨ k = 30 ∨ k = 31 ∨ k = 32 ∨ k = 33 ∨ k = 34 ∨ k = 35 ∨ k = 36 ∨ k = 37 ∨ k = 38 ∨ k = 39 ∨ k = 40 ∨ k = 41 ∨ k = 42 ∨ k = 43 ∨ k = 44 ∨ k = 45 ∨ k = 46 ∨ k = 47 ∨ k = 48 ∨ k = 49 ∨ k = 50 ∨ k = 51 ∨ k = 52 ∨ k = 53 ∨ k = 54 ∨ k = 55 ∨ k = 56 ∨ k = 57 ∨ k = 58 ∨ k = 59 ∨ k = 60 ∨ k = 61 ∨ k = 62 ∨ k = 63 ∨ k = 64 ∨ k = 65 ∨ k = 66 ∨ k = 67 ∨ k = 68 ∨ k = 69 ∨ k = 70 ∨ k = 71 ∨ k = 72 ∨ k = 73 ∨ k = 74 ∨ k = 75 ∨ k = 76 ∨ k = 77 ∨ k = 78 ∨ k = 79 ∨ k = 80 ∨ k = 81 ∨ k = 82 ∨ k = 83 ∨ k = 84 ∨ k = 85 ∨ k = 86 ∨ k = 87 ∨ k = 88 ∨ k = 89 ∨ k = 90 ∨ k = 91 ∨ k = 92 ∨ k = 93 ∨ k = 94 ∨ k = 95 ∨ k = 96 ∨ k = 97 ∨ k = 98 ∨ k = 99 ∨ k = 100 ∨ k = 101 ∨ k = 102 ∨ k = 103 ∨ k = 104 by omega) with rfl | rfl | rfl | rfl | rfl | rfl | rfl | rfl | rfl | rfl | rfl | rfl | rfl | rfl | rfl | rfl | rfl | rfl | rfl | rfl | rfl | rfl | rfl | rfl | rfl | rfl | rfl | rfl | rfl | rfl | rfl | rfl | rfl | rfl | rfl | rfl | rfl | rfl | rfl | rfl | rfl | rfl | rfl | rfl | rfl | rfl | rfl | rfl | rfl | rfl | rfl | rfl | rfl | rfl | rfl | rfl | rfl | rfl | rfl | rfl | rfl | rfl | rfl | rfl | rfl | rfl | rfl | rfl | rfl | rfl | rfl | rfl | rfl | rfl | rfl | rfl | rfl | rfl | rfl | rfl | rfl | rfl | rfl | rfl | rfl | rfl | rfl | rfl | rfl | rfl | rfl | rfl | rfl | rfl | rfl | rfl | rfl | rfl | rfl | rfl | rfl | rfl | rfl | rfl | rfl
  · exact q0
  · exact q1
  · exact q2
  · exact q3
  · exact q4
  · exact q5
  · exact q6
  · exact q7
  · exact q8
  · exact q9
  · exact q10
  · exact q11
  · exact q12
  · exact q13
  · exact q14
  · exact q15
  · exact q16
  · exact q17
  · exact q18
  · exact q19
  · exact q20
  · exact q21
  · exact q22
  · exact q23
  · exact q24
  · exact q25
  · exact q26
  · exact q27
  · exact q28
  · exact q29
  · exact q30
  · exact q31
  · exact q32
  · exact st_g33 o cI cZ cG D l
  · exact st_g34 o cI cZ cG D l
  · exact st_g35 o cI cZ cG D l
  · exact st_g36 o cI cZ cG D l
  · exact st_g37 o cI cZ cG D l
  · exact st_g38 o cI cZ cG D l
  · exact q39
  · exact q40
  · exact q41
  · exact q42
  · exact q43
  · exact q44
  · exact q45
  · exact q46
  · exact q47
  · exact q48
  · exact q49
  · exact q50
  · exact q51
  · exact q52
  · exact q53
  · exact q54
  · exact q55
  · exact q56
  · exact q57
  · exact q58
  · exact q59
  · exact q60
  · exact q61
  · exact q62
  · exact q63
  · exact q64
  · exact q65
  · exact q66
  · exact q67
  · exact q68
  · exact q69
  · exact q70
  · exact q71
  · exact q72
  · exact q73
  · exact q74
  · exact q75
  · exact q76
  · exact q77
  · exact q78
  · exact q79
  · exact q80
  · exact q81
  · exact q82
  · exact q83
  · exact q84
  · exact q85
  · exact q86
  · exact q87
  · exact q88
  · exact q89
  · exact q90
  · exact q91
  · exact q92
  · exact q93
  · exact q94
  · exact q95
  · exact q96
  · exact q97
  · exact q98
  · exact q99
  · exact q100
  · exact q101
  · exact q102
  · exact q103
  · exact q104
