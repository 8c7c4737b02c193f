abbrev inB (v lo hi : Int32) : Prop := ¬ v < lo ∧ ¬ hi < v
def dPl {α : Type} (ms : Nat → Prop) [DecidablePred ms] (found : Nat → Prop) [DecidablePred found] (r w m : Int32) (bad nothing none : α) (ok : Nat → α) : α :=
  if ¬ r < 0 ∧ ¬ 5 < r then (if inB w 0 100000 then (if inB m 1 40 then (if ms r.toNatClampNeg then nothing else if found r.toNatClampNeg then ok r.toNatClampNeg else none) else bad) else bad) else bad
def plS (f : Nat → Int32) (n : Nat) (w : Int32) : Nat := (sBest (fun q => sLvl f w 100000 (-100000) q (n - q)) n).1
def plN (f : Nat → Int32) (n : Nat) (w : Int32) : Nat := sLvl f w 100000 (-100000) (plS f n w) (n - plS f n w)
theorem pl_b (f : Nat → Int32) (n : Nat) (w : Int32) : plS f n w ≤ n ∧ plN f n w ≤ n - plS f n w := ⟨sBest_le _ n, sLvl_le _ _ _ _ _ _⟩
theorem len_ne {m : Int32} {k : Nat} (hk : k ≤ 40) (hm : inB m 1 40) (h : m ≤ nI k) : ¬ (nI k).toInt64 = 0 := by
  intro q
  have e := (fa_wide_eq (nI k) 0).mp q
  rw [e] at h
  exact hm.1 (by rw [fa_lt]; rw [fa_le] at h; have h1 : (0 : Int32).toInt = 0 := rfl; have h2 : (1 : Int32).toInt = 1 := rfl; omega)
set_option maxHeartbeats 4000000 in
set_option maxRecDepth 100000 in
theorem c_X6_plateau (E : mm_E) (g : mm_I) (h : mm_L) (r w m : Int32) (hsz : ∀ j, j < 6 → g 9 j = -1 ∨ ∃ n, n ≤ 40 ∧ g 9 j = nI n) : Ci E yX6_plateau wsX6_plateau 3 81 [.ref (E.1 0), .int r, .int w, .int m] g h (dPl (fun j => g 9 j = -1) (fun j => m ≤ nI (plN (g (39 + j)) (g 9 j).toNatClampNeg w)) r w m (-1) (-3) (-9) (fun j => nI (plS (g (39 + j)) (g 9 j).toNatClampNeg w))) (dPl (fun j => g 9 j = -1) (fun j => m ≤ nI (plN (g (39 + j)) (g 9 j).toNatClampNeg w)) r w m g (rfM g 1) g (fun _ => g)) (dPl (fun j => g 9 j = -1) (fun j => m ≤ nI (plN (g (39 + j)) (g 9 j).toNatClampNeg w)) r w m h h h (fun j => upL (tlC h (sSum (g (39 + j)) (plS (g (39 + j)) (g 9 j).toNatClampNeg w) (plN (g (39 + j)) (g 9 j).toNatClampNeg w)).toInt64 (nI (plN (g (39 + j)) (g 9 j).toNatClampNeg w)).toInt64) 0 8 (nI (plN (g (39 + j)) (g 9 j).toNatClampNeg w)).toInt64)) := by
  refine ci_i (bytes := cX6_plateau) (maxL := 6) (by decide) rfl (Nat.le_of_ble_eq_true rfl) (fun X cx hR => ?_)
  change Cx E X cX6_plateau RX6 wsX6_plateau 6 3 81 at cx
  change JJ E X g h 0 [(0, .ref (E.1 0)), (1, .int r), (2, .int w), (3, .int m)] []
  have hinX6 : ∀ w ∈ u_ws RX6 TX6 9, w ∈ wsX6_plateau := by decide +kernel
  have mc_75 : Cond.constant RX6 75 100000 ∈ wsX6_plateau := by decide +kernel
  have mf_10 : Cond.fieldLink RX6 10 (TX6 0).1 (TX6 0).2.1 (TX6 0).2.2.1 ∈ wsX6_plateau := by decide +kernel
  have mf_47 : Cond.fieldLink RX6 47 (TX6 5).1 (TX6 5).2.1 (TX6 5).2.2.1 ∈ wsX6_plateau := by decide +kernel
  have mf_59 : Cond.fieldLink RX6 59 (TX6 8).1 (TX6 8).2.1 (TX6 8).2.2.1 ∈ wsX6_plateau := by decide +kernel
  refine jr_iload_n cx dX6_plateau_0 1 rfl rfl ?_
  refine jr_si [.int r] 1 cx dX6_plateau_1 (c_X6_isRow E g h r) gX6_plateau_X6_isRow rfl (by decide +kernel) ⟨Nat.le_of_ble_eq_true rfl, Nat.le_of_ble_eq_true rfl⟩ rfl rfl (Nat.le_of_ble_eq_true rfl) ?_
  refine jr_bif_eq (tgt := 27) cx dX6_plateau_4 (by decide) (fun c4 => ?_) (fun c4 => ?_)
  · refine jr_iconst (v := (-1)) cx dX6_plateau_27 (by decide) ?_
    exact jr_ri (by simp only [dPl, ite_self, if_neg c4]; try rfl) (by simp only [dPl, ite_self, if_neg c4]; try rfl) (by simp only [dPl, ite_self, if_neg c4]; try rfl) (hR 28 _ dX6_plateau_28)
  · obtain ⟨j, hj, rfl⟩ := to_nat (M := 5) rfl c4; have ej : (nI j).toNatClampNeg = j := cl_nI (by omega)
    refine jr_iload_n cx dX6_plateau_7 2 rfl rfl ?_
    refine jr_iconst (v := 0) cx dX6_plateau_8 (by decide) ?_
    refine jr_ldc cx dX6_plateau_9 mc_75 ?_
    refine jr_si [.int w, .int 0, .int 100000] 3 cx dX6_plateau_11 (c_X6_isBetween E g h w 0 100000) gX6_plateau_X6_isBetween rfl (by decide +kernel) ⟨Nat.le_of_ble_eq_true rfl, Nat.le_of_ble_eq_true rfl⟩ rfl rfl (Nat.le_of_ble_eq_true rfl) ?_
    refine jr_bif_eq (tgt := 27) cx dX6_plateau_14 (by decide) (fun c14 => ?_) (fun c14 => ?_)
    · refine jr_iconst (v := (-1)) cx dX6_plateau_27 (by decide) ?_
      exact jr_ri (by simp only [dPl, ite_self, if_pos c4, if_neg c14, ej]; try rfl) (by simp only [dPl, ite_self, if_pos c4, if_neg c14, ej]; try rfl) (by simp only [dPl, ite_self, if_pos c4, if_neg c14, ej]; try rfl) (hR 28 _ dX6_plateau_28)
    · refine jr_iload_n cx dX6_plateau_17 3 rfl rfl ?_
      refine jr_iconst (v := 1) cx dX6_plateau_18 (by decide) ?_
      refine jr_bipush (v := 40) cx dX6_plateau_19 (by decide) ?_
      refine jr_si [.int m, .int 1, .int 40] 3 cx dX6_plateau_21 (c_X6_isBetween E g h m 1 40) gX6_plateau_X6_isBetween rfl (by decide +kernel) ⟨Nat.le_of_ble_eq_true rfl, Nat.le_of_ble_eq_true rfl⟩ rfl rfl (Nat.le_of_ble_eq_true rfl) ?_
      refine jr_bif_ne (tgt := 29) cx dX6_plateau_24 (by decide) (fun c24 => ?_) (fun c24 => ?_)
      · refine jr_aload_n cx dX6_plateau_29 0 rfl rfl ?_
        refine jr_get (f := 0) (v := .ref (E.1 1)) cx dX6_plateau_30 (by decide) rfl rfl hinX6 (by decide) mf_10 rfl ?_
        refine jr_iload_n cx dX6_plateau_33 1 rfl rfl ?_
        refine jr_vi [.int (nI j)] 1 cx dX6_plateau_34 (c_X4_isMissing E g h j (by omega)) (by decide) rfl rfl gX6_plateau_X4_isMissing rfl (by decide +kernel) ⟨Nat.le_of_ble_eq_true rfl, Nat.le_of_ble_eq_true rfl⟩ rfl rfl (Nat.le_of_ble_eq_true rfl) ?_
        refine jr_bif_eq (tgt := 46) cx dX6_plateau_37 (by decide) (fun c37 => ?_) (fun c37 => ?_)
        · obtain ⟨n, hn, hs⟩ : ∃ n, n ≤ 40 ∧ g 9 j = nI n := (hsz j (by omega)).resolve_left c37
          have en : (g 9 j).toNatClampNeg = n := by rw [hs]; exact cl_nI (by omega)
          obtain ⟨hb1, hb2⟩ := pl_b (g (39 + j)) n w
          refine jr_aload_n cx dX6_plateau_46 0 rfl rfl ?_
          refine jr_get (f := 0) (v := .ref (E.1 1)) cx dX6_plateau_47 (by decide) rfl rfl hinX6 (by decide) mf_10 rfl ?_
          refine jr_iload_n cx dX6_plateau_50 1 rfl rfl ?_
          refine jr_iload_n cx dX6_plateau_51 2 rfl rfl ?_
          refine jr_vi [.int (nI j), .int w] 2 cx dX6_plateau_52 (c_X4_longestLevelStart E g h j (by omega) n w hn hs) (by decide) rfl rfl gX6_plateau_X4_longestLevelStart rfl (by decide +kernel) ⟨Nat.le_of_ble_eq_true rfl, Nat.le_of_ble_eq_true rfl⟩ rfl rfl (Nat.le_of_ble_eq_true rfl) ?_
          refine jr_top (show _ = nI (plS (g (39 + j)) n w) from rfl) ?_
          refine jr_istore (L' := [(4, .int (nI (plS (g (39 + j)) n w))), (0, .ref (E.1 0)), (1, .int (nI j)), (2, .int w), (3, .int m)]) cx dX6_plateau_55 (by decide) rfl ?_
          refine jr_aload_n cx dX6_plateau_57 1 rfl rfl ?_
          refine jr_get (f := 0) (v := .ref (E.1 1)) cx dX6_plateau_58 (by decide) rfl rfl hinX6 (by decide) mf_10 rfl ?_
          refine jr_iload_n cx dX6_plateau_61 2 rfl rfl ?_
          refine jr_iload cx dX6_plateau_62 0 rfl ?_
          refine jr_iload_n cx dX6_plateau_64 3 rfl rfl ?_
          refine jr_vi [.int (nI j), .int (nI (plS (g (39 + j)) n w)), .int w] 3 cx dX6_plateau_65 (c_X4_levelLength E g h j (by omega) (plS (g (39 + j)) n w) n w hn (by omega) hs) (by decide) rfl rfl gX6_plateau_X4_levelLength rfl (by decide +kernel) ⟨Nat.le_of_ble_eq_true rfl, Nat.le_of_ble_eq_true rfl⟩ rfl rfl (Nat.le_of_ble_eq_true rfl) ?_
          refine jr_top (show _ = nI (plN (g (39 + j)) n w) from rfl) ?_
          refine jr_istore (L' := [(5, .int (nI (plN (g (39 + j)) n w))), (4, .int (nI (plS (g (39 + j)) n w))), (0, .ref (E.1 0)), (1, .int (nI j)), (2, .int w), (3, .int m)]) cx dX6_plateau_68 (by decide) rfl ?_
          refine jr_iload cx dX6_plateau_70 0 rfl ?_
          refine jr_iload_n cx dX6_plateau_72 5 rfl rfl ?_
          refine jr_icmp_ge (tgt := 79) cx dX6_plateau_73 (by decide) (fun c73 => ?_) (fun c73 => ?_)
          · refine jr_aload_n cx dX6_plateau_79 2 rfl rfl ?_
            refine jr_get (f := 5) (v := .ref (E.1 6)) cx dX6_plateau_80 (by decide) rfl rfl hinX6 (by decide) mf_47 rfl ?_
            refine jr_aload_n cx dX6_plateau_83 2 rfl rfl ?_
            refine jr_get (f := 0) (v := .ref (E.1 1)) cx dX6_plateau_84 (by decide) rfl rfl hinX6 (by decide) mf_10 rfl ?_
            refine jr_iload_n cx dX6_plateau_87 3 rfl rfl ?_
            refine jr_iload cx dX6_plateau_88 1 rfl ?_
            refine jr_iload cx dX6_plateau_90 0 rfl ?_
            refine jr_vi [.int (nI j), .int (nI (plS (g (39 + j)) n w)), .int (nI (plN (g (39 + j)) n w))] 3 cx dX6_plateau_92 (c_X4_heldSum E g h j (by omega) (plS (g (39 + j)) n w) (plN (g (39 + j)) n w) (by omega)) (by decide) rfl rfl gX6_plateau_X4_heldSum rfl (by decide +kernel) ⟨Nat.le_of_ble_eq_true rfl, Nat.le_of_ble_eq_true rfl⟩ rfl rfl (Nat.le_of_ble_eq_true rfl) ?_
            refine jr_i2l cx dX6_plateau_95 ?_
            refine jr_iload cx dX6_plateau_96 0 rfl ?_
            refine jr_i2l cx dX6_plateau_98 ?_
            refine jr_vv [.long (Int32.toInt64 (sSum (g (39 + j)) (plS (g (39 + j)) n w) (plN (g (39 + j)) n w))), .long (Int32.toInt64 (nI (plN (g (39 + j)) n w)))] 2 cx dX6_plateau_99 (c_X2_tell E g h (Int32.toInt64 (sSum (g (39 + j)) (plS (g (39 + j)) n w) (plN (g (39 + j)) n w))) (Int32.toInt64 (nI (plN (g (39 + j)) n w))) ((bd32 _).L.lt (by decide)) ((bd32 _).L.lt (by decide)) (len_ne (by omega) c24 c73)) (by decide) rfl rfl gX6_plateau_X2_tell rfl (by decide +kernel) ⟨Nat.le_of_ble_eq_true rfl, Nat.le_of_ble_eq_true rfl⟩ rfl rfl (Nat.le_of_ble_eq_true rfl) ?_
            refine jr_aload_n cx dX6_plateau_102 2 rfl rfl ?_
            refine jr_iload cx dX6_plateau_103 0 rfl ?_
            refine jr_i2l cx dX6_plateau_105 ?_
            refine jr_put_X6_8 cx dX6_plateau_106 hinX6 mf_59 ?_
            refine jr_iload cx dX6_plateau_109 1 rfl ?_
            exact jr_ri (by simp only [dPl, ite_self, en, if_pos c4, if_pos c14, if_pos c24, if_neg c37, if_pos c73, ej]; try rfl) (by simp only [dPl, ite_self, en, if_pos c4, if_pos c14, if_pos c24, if_neg c37, if_pos c73, ej]; try rfl) (by simp only [dPl, ite_self, en, if_pos c4, if_pos c14, if_pos c24, if_neg c37, if_pos c73, ej]; try rfl) (hR 111 _ dX6_plateau_111)
          · refine jr_bipush (v := (-9)) cx dX6_plateau_76 (by decide) ?_
            exact jr_ri (by simp only [dPl, ite_self, en, if_pos c4, if_pos c14, if_pos c24, if_neg c37, if_neg c73, ej]; try rfl) (by simp only [dPl, ite_self, en, if_pos c4, if_pos c14, if_pos c24, if_neg c37, if_neg c73, ej]; try rfl) (by simp only [dPl, ite_self, en, if_pos c4, if_pos c14, if_pos c24, if_neg c37, if_neg c73, ej]; try rfl) (hR 78 _ dX6_plateau_78)
        · refine jr_aload_n cx dX6_plateau_40 0 rfl rfl ?_
          refine jr_iconst (v := 1) cx dX6_plateau_41 (by decide) ?_
          refine jr_vi [.int 1] 1 cx dX6_plateau_42 (c_X6_refuse E g h 1 (by decide) (by decide)) (by decide) rfl rfl gX6_plateau_X6_refuse rfl (by decide +kernel) ⟨Nat.le_of_ble_eq_true rfl, Nat.le_of_ble_eq_true rfl⟩ rfl rfl (Nat.le_of_ble_eq_true rfl) ?_
          exact jr_ri (by simp only [dPl, ite_self, if_pos c4, if_pos c14, if_pos c24, if_pos c37, ej]; try rfl) (by simp only [dPl, ite_self, if_pos c4, if_pos c14, if_pos c24, if_pos c37, ej]; try rfl) (by simp only [dPl, ite_self, if_pos c4, if_pos c14, if_pos c24, if_pos c37, ej]; try rfl) (hR 45 _ dX6_plateau_45)
      · refine jr_iconst (v := (-1)) cx dX6_plateau_27 (by decide) ?_
        exact jr_ri (by simp only [dPl, ite_self, if_pos c4, if_pos c14, if_neg c24, ej]; try rfl) (by simp only [dPl, ite_self, if_pos c4, if_pos c14, if_neg c24, ej]; try rfl) (by simp only [dPl, ite_self, if_pos c4, if_pos c14, if_neg c24, ej]; try rfl) (hR 28 _ dX6_plateau_28)
abbrev plT : Type := Int32 × Nat × Int64
def plI (f : Nat → Int32) (w : Int32) (fr : Nat) : Nat → Nat → Int32 → Int32 → Int64 → plT → plT
  | 0, _, _, _, _, s => s
  | k + 1, i, lo, hi, sm, s => if f i = -9 then s else plI f w fr k (i + 1) (if lo ≤ f i then lo else f i) (if f i ≤ hi then hi else f i) (sm + (f i).toInt64) (if ¬ w < (if f i ≤ hi then hi else f i) - (if lo ≤ f i then lo else f i) ∧ ¬ i - fr + 1 ≤ s.2.1 then (nI fr, i - fr + 1, sm + (f i).toInt64) else s)
def plO (f : Nat → Int32) (w : Int32) (n : Nat) : Nat → Nat → plT → plT
  | 0, _, s => s
  | k + 1, fr, s => plO f w n k (fr + 1) (plI f w fr (n - fr) fr 100000 (-100000) 0 s)
theorem plI_z {f : Nat → Int32} {w : Int32} {fr k i : Nat} {lo hi : Int32} {sm : Int64} {s : plT} (h : f i = -9) : plI f w fr (k + 1) i lo hi sm s = s := by rw [plI, if_pos h]
theorem plI_s {f : Nat → Int32} {w : Int32} {fr k i : Nat} {lo hi : Int32} {sm : Int64} {s : plT} (h : ¬ f i = -9) : plI f w fr (k + 1) i lo hi sm s = plI f w fr k (i + 1) (if lo ≤ f i then lo else f i) (if f i ≤ hi then hi else f i) (sm + (f i).toInt64) (if ¬ w < (if f i ≤ hi then hi else f i) - (if lo ≤ f i then lo else f i) ∧ ¬ i - fr + 1 ≤ s.2.1 then (nI fr, i - fr + 1, sm + (f i).toInt64) else s) := by rw [plI, if_neg h]
def plR (f : Nat → Int32) (w : Int32) (n : Nat) (m : Int32) : plT := plO f w n n 0 (-9, m.toNatClampNeg - 1, 0)
set_option maxHeartbeats 4000000 in
set_option maxRecDepth 100000 in
theorem c_X7_plateau (E : mm_E) (g : mm_I) (h : mm_L) (r w m : Int32) (hsz : ∀ j, j < 6 → g 14 j < 0 ∨ ∃ n, n ≤ 40 ∧ g 14 j = nI n) (hok : ∀ j, j < 6 → ¬ g 14 j < 0 → ¬ (plR (fun q => g 15 (40 * j + q)) w (g 14 j).toNatClampNeg m).1 < 0 → (plR (fun q => g 15 (40 * j + q)) w (g 14 j).toNatClampNeg m).2.2.toInt.natAbs < 2 ^ 63 ∧ 0 < (plR (fun q => g 15 (40 * j + q)) w (g 14 j).toNatClampNeg m).2.1) : Ci E yX7_plateau wsX7_plateau 3 77 [.ref (E.1 7), .int r, .int w, .int m] g h (dPl (fun j => g 14 j < 0) (fun j => ¬ (plR (fun q => g 15 (40 * j + q)) w (g 14 j).toNatClampNeg m).1 < 0) r w m (-1) (-3) (-9) (fun j => (plR (fun q => g 15 (40 * j + q)) w (g 14 j).toNatClampNeg m).1)) (dPl (fun j => g 14 j < 0) (fun j => ¬ (plR (fun q => g 15 (40 * j + q)) w (g 14 j).toNatClampNeg m).1 < 0) r w m g (mtM g 1) g (fun _ => g)) (dPl (fun j => g 14 j < 0) (fun j => ¬ (plR (fun q => g 15 (40 * j + q)) w (g 14 j).toNatClampNeg m).1 < 0) r w m h h h (fun j => upL (tlM h (plR (fun q => g 15 (40 * j + q)) w (g 14 j).toNatClampNeg m).2.2 (nI (plR (fun q => g 15 (40 * j + q)) w (g 14 j).toNatClampNeg m).2.1).toInt64) 7 2 (nI (plR (fun q => g 15 (40 * j + q)) w (g 14 j).toNatClampNeg m).2.1).toInt64)) := by
  refine ci_i (bytes := cX7_plateau) (maxL := 16) (by decide) rfl (Nat.le_of_ble_eq_true rfl) (fun X cx hR => ?_)
  change Cx E X cX7_plateau RX7 wsX7_plateau 16 3 77 at cx
  change JJ E X g h 0 [(0, .ref (E.1 7)), (1, .int r), (2, .int w), (3, .int m)] []
  have hinX7 : ∀ w ∈ u_ws RX7 TX7 30, w ∈ wsX7_plateau := by decide +kernel
  have mc_106 : Cond.constant RX7 106 100000 ∈ wsX7_plateau := by decide +kernel
  have mf_17 : Cond.fieldLink RX7 17 (TX7 5).1 (TX7 5).2.1 (TX7 5).2.2.1 ∈ wsX7_plateau := by decide +kernel
  have mc_105 : Cond.constant RX7 105 (-100000) ∈ wsX7_plateau := by decide +kernel
  have mf_20 : Cond.fieldLink RX7 20 (TX7 6).1 (TX7 6).2.1 (TX7 6).2.2.1 ∈ wsX7_plateau := by decide +kernel
  refine jr_iload_n cx dX7_plateau_0 2 rfl rfl ?_
  refine jr_iconst (v := 0) cx dX7_plateau_1 (by decide) ?_
  refine jr_ldc cx dX7_plateau_2 mc_106 ?_
  refine jr_si [.int w, .int 0, .int 100000] 3 cx dX7_plateau_4 (c_X7_in E g h w 0 100000) gX7_plateau_X7_in rfl (by decide +kernel) ⟨Nat.le_of_ble_eq_true rfl, Nat.le_of_ble_eq_true rfl⟩ rfl rfl (Nat.le_of_ble_eq_true rfl) ?_
  refine jr_bif_eq (tgt := 20) cx dX7_plateau_7 (by decide) (fun c7 => ?_) (fun c7 => ?_)
  · refine jr_iconst (v := (-1)) cx dX7_plateau_20 (by decide) ?_
    exact jr_ri (by simp only [dPl, ite_self, if_neg c7]; try rfl) (by simp only [dPl, ite_self, if_neg c7]; try rfl) (by simp only [dPl, ite_self, if_neg c7]; try rfl) (hR 21 _ dX7_plateau_21)
  · refine jr_iload_n cx dX7_plateau_10 3 rfl rfl ?_
    refine jr_iconst (v := 1) cx dX7_plateau_11 (by decide) ?_
    refine jr_bipush (v := 40) cx dX7_plateau_12 (by decide) ?_
    refine jr_si [.int m, .int 1, .int 40] 3 cx dX7_plateau_14 (c_X7_in E g h m 1 40) gX7_plateau_X7_in rfl (by decide +kernel) ⟨Nat.le_of_ble_eq_true rfl, Nat.le_of_ble_eq_true rfl⟩ rfl rfl (Nat.le_of_ble_eq_true rfl) ?_
    refine jr_bif_ne (tgt := 22) cx dX7_plateau_17 (by decide) (fun c17 => ?_) (fun c17 => ?_)
    · obtain ⟨M, hM, rfl⟩ := nI_of2 (M := 40) (n := 40) rfl (fun q => c17.1 (by rw [fa_lt] at *; have : (1 : Int32).toInt = 1 := rfl; have : (0 : Int32).toInt = 0 := rfl; omega)) (Int32.not_lt.mp c17.2); have eM : (nI M).toNatClampNeg = M := cl_nI (by omega)
      have hM1 : 1 ≤ M := by rcases Nat.eq_zero_or_pos M with q | q; exact absurd (by rw [q]; decide) c17.1; exact q
      refine jr_aload_n cx dX7_plateau_22 0 rfl rfl ?_
      refine jr_iload_n cx dX7_plateau_23 1 rfl rfl ?_
      by_cases hr : ¬ r < 0 ∧ ¬ 5 < r
      · obtain ⟨j, hj, rfl⟩ := to_nat (M := 5) rfl hr; have ej : (nI j).toNatClampNeg = j := cl_nI (by omega)
        by_cases hm : g 14 j < 0
        · refine jr_vi [.int (nI j)] 1 cx dX7_plateau_24 (c_X7_looked_ms E g h j (by omega) hr hm) (by decide) rfl rfl gX7_plateau_X7_looked rfl (by decide +kernel) ⟨Nat.le_of_ble_eq_true rfl, Nat.le_of_ble_eq_true rfl⟩ rfl rfl (Nat.le_of_ble_eq_true rfl) ?_
          refine jr_istore (L' := [(4, .int (-3)), (0, .ref (E.1 7)), (1, .int (nI j)), (2, .int w), (3, .int (nI M))]) cx dX7_plateau_27 (by decide) rfl ?_
          refine jr_iload cx dX7_plateau_29 0 rfl ?_
          refine jr_if_ge (tgt := 37) cx dX7_plateau_31 (by decide) (fun c31 => absurd c31 (by decide)) (fun c31 => ?_)
          refine jr_iload cx dX7_plateau_34 0 rfl ?_
          exact jr_ri (by simp only [dPl, ite_self, if_pos c7, if_pos c17, if_pos hr, if_pos hm, ej]; try rfl) (by simp only [dPl, ite_self, if_pos c7, if_pos c17, if_pos hr, if_pos hm, ej]; try rfl) (by simp only [dPl, ite_self, if_pos c7, if_pos c17, if_pos hr, if_pos hm, ej]; try rfl) (hR 36 _ dX7_plateau_36)
        · obtain ⟨n, hn, hs⟩ : ∃ n, n ≤ 40 ∧ g 14 j = nI n := (hsz j (by omega)).resolve_left hm
          have en : (g 14 j).toNatClampNeg = n := by rw [hs]; exact cl_nI (by omega)
          refine jr_vi [.int (nI j)] 1 cx dX7_plateau_24 (c_X7_looked_ok E g h j (by omega) hr hm) (by decide) rfl rfl gX7_plateau_X7_looked rfl (by decide +kernel) ⟨Nat.le_of_ble_eq_true rfl, Nat.le_of_ble_eq_true rfl⟩ rfl rfl (Nat.le_of_ble_eq_true rfl) ?_
          refine jr_istore (L' := [(4, .int 0), (0, .ref (E.1 7)), (1, .int (nI j)), (2, .int w), (3, .int (nI M))]) cx dX7_plateau_27 (by decide) rfl ?_
          refine jr_iload cx dX7_plateau_29 0 rfl ?_
          refine jr_if_ge (tgt := 37) cx dX7_plateau_31 (by decide) (fun c31 => ?_) (fun c31 => absurd c31 (by decide))
          refine jr_bipush (v := (-9)) cx dX7_plateau_37 (by decide) ?_
          refine jr_istore (L' := [(5, .int (-9)), (4, .int 0), (0, .ref (E.1 7)), (1, .int (nI j)), (2, .int w), (3, .int (nI M))]) cx dX7_plateau_39 (by decide) rfl ?_
          refine jr_iload_n cx dX7_plateau_41 5 rfl rfl ?_
          refine jr_iconst (v := 1) cx dX7_plateau_42 (by decide) ?_
          refine jr_isub cx dX7_plateau_43 ?_
          refine jr_top (show (nI M : Int32) - 1 = nI (M - 1) from pk_sub (a := M) (b := 1) (by omega)) ?_
          refine jr_istore (L' := [(6, .int (nI (M - 1))), (5, .int (-9)), (4, .int 0), (0, .ref (E.1 7)), (1, .int (nI j)), (2, .int w), (3, .int (nI M))]) cx dX7_plateau_44 (by decide) rfl ?_
          refine jr_lconst (v := 0) cx dX7_plateau_46 (by decide) ?_
          refine jr_lstore (L' := [(7, .long 0), (6, .int (nI (M - 1))), (5, .int (-9)), (4, .int 0), (0, .ref (E.1 7)), (1, .int (nI j)), (2, .int w), (3, .int (nI M))]) cx dX7_plateau_47 (by decide) rfl ?_
          refine jr_iconst (v := 0) cx dX7_plateau_49 (by decide) ?_
          refine jr_istore (L' := [(9, .int 0), (7, .long 0), (6, .int (nI (M - 1))), (5, .int (-9)), (4, .int 0), (0, .ref (E.1 7)), (1, .int (nI j)), (2, .int w), (3, .int (nI M))]) cx dX7_plateau_50 (by decide) rfl ?_
          obtain ⟨T, hT⟩ : ∃ T, T = plO (fun q => g 15 (40 * j + q)) w n n 0 (-9, M - 1, 0) := ⟨_, rfl⟩
          have key1 : ∀ (fu1 : Nat) (fr : Nat) (s : plT), n + 1 ≤ fr + fu1 → (fr ≤ n) → (plO (fun q => g 15 (40 * j + q)) w n (n - fr) fr s = T) → (s.2.1 ≤ 40) → JJ E X g h 52 [(0, .ref (E.1 7)), (1, .int (nI j)), (2, .int w), (3, .int (nI M)), (5, .int s.1), (6, .int (nI s.2.1)), (7, .long s.2.2), (9, .int (nI fr))] [] := by
            intro fu1
            induction fu1 with
            | zero => intro fr s hfu1 h1 h2 h2b; exfalso; omega
            | succ fu1 ih1 =>
              intro fr s hfu1 h1 h2 h2b
              refine jr_iload cx dX7_plateau_52 7 rfl ?_
              refine jr_aload_n cx dX7_plateau_54 0 rfl rfl ?_
              refine jr_get (f := 5) (v := .ref (E.1 14)) cx dX7_plateau_55 (by decide) rfl rfl hinX7 (by decide) mf_17 rfl ?_
              refine jr_iload_n cx dX7_plateau_58 1 rfl rfl ?_
              refine jr_iald cx dX7_plateau_59 (Or.inl ⟨by decide, by decide⟩) j rfl (show _ < 6 by omega) ?_
              refine jr_top hs ?_
              refine jr_icmp_ge (tgt := 210) cx dX7_plateau_60 (by decide) (fun c60 => ?_) (fun c60 => ?_)
              · have n60 : n ≤ fr := (nI_leI (a := n) (b := fr) (by omega) (by omega)).mp c60
                refine jr_iload cx dX7_plateau_210 4 rfl ?_
                refine jr_if_ge (tgt := 220) cx dX7_plateau_212 (by decide) (fun c212 => ?_) (fun c212 => ?_)
                · have sT : s = T := by rw [← h2, show n - fr = 0 by omega]; rfl
                  have pR : plR (fun q => g 15 (40 * j + q)) w n (nI M) = s := by unfold plR; rw [eM, sT, hT]
                  have p212 : ¬ (plR (fun q => g 15 (40 * j + q)) w n (nI M)).1 < 0 := by rw [pR]; exact Int32.not_lt.mpr c212
                  obtain ⟨hq1, hq2⟩ := hok j (by omega) hm (by rw [en]; exact p212); rw [en, pR] at hq1 hq2
                  refine jr_aload_n cx dX7_plateau_220 0 rfl rfl ?_
                  refine jr_iload cx dX7_plateau_221 5 rfl ?_
                  refine jr_i2l cx dX7_plateau_223 ?_
                  refine jr_aload_n cx dX7_plateau_224 0 rfl rfl ?_
                  refine jr_lload cx dX7_plateau_225 6 rfl ?_
                  refine jr_iload cx dX7_plateau_227 5 rfl ?_
                  refine jr_i2l cx dX7_plateau_229 ?_
                  refine jr_iload cx dX7_plateau_230 4 rfl ?_
                  refine jr_vi [.long s.2.2, .long (Int32.toInt64 (nI s.2.1)), .int s.1] 3 cx dX7_plateau_232 (c_X7_tell E g h s.2.2 (Int32.toInt64 (nI s.2.1)) s.1 hq1 ((bd32 _).L.lt (by decide)) (fun q => by have := (fa_wide_eq _ 0).mp q; have h9 : nI s.2.1 = nI 0 := this; rw [nI_eq (by omega) (by decide)] at h9; omega)) (by decide) rfl rfl gX7_plateau_X7_tell rfl (by decide +kernel) ⟨Nat.le_of_ble_eq_true rfl, Nat.le_of_ble_eq_true rfl⟩ rfl rfl (Nat.le_of_ble_eq_true rfl) ?_
                  refine jr_vi [.long (Int32.toInt64 (nI s.2.1)), .int s.1] 2 cx dX7_plateau_235 (c_X7_ask E g (tlM h s.2.2 (Int32.toInt64 (nI s.2.1))) (Int32.toInt64 (nI s.2.1)) s.1) (by decide) rfl rfl gX7_plateau_X7_ask rfl (by decide +kernel) ⟨Nat.le_of_ble_eq_true rfl, Nat.le_of_ble_eq_true rfl⟩ rfl rfl (Nat.le_of_ble_eq_true rfl) ?_
                  exact jr_ri (by simp only [dPl, ite_self, en, if_pos c7, if_pos c17, if_pos hr, if_neg hm, ej]; all_goals rw [if_pos p212]; try rw [pR]; try rfl) (by simp only [dPl, ite_self, en, if_pos c7, if_pos c17, if_pos hr, if_neg hm, ej]; all_goals rw [if_pos p212]; try rw [pR]; try rfl) (by simp only [dPl, ite_self, en, if_pos c7, if_pos c17, if_pos hr, if_neg hm, ej]; all_goals rw [if_pos p212]; try rw [pR]; try rfl) (hR 238 _ dX7_plateau_238)
                · have sT : s = T := by rw [← h2, show n - fr = 0 by omega]; rfl
                  have pR : plR (fun q => g 15 (40 * j + q)) w n (nI M) = s := by unfold plR; rw [eM, sT, hT]
                  have p212 : ¬ ¬ (plR (fun q => g 15 (40 * j + q)) w n (nI M)).1 < 0 := by rw [pR]; exact fun q => q (Int32.not_le.mp c212)
                  refine jr_bipush (v := (-9)) cx dX7_plateau_215 (by decide) ?_
                  refine jr_goto (tgt := 238) cx dX7_plateau_217 (by decide) ?_
                  exact jr_ri (by simp only [dPl, ite_self, en, if_pos c7, if_pos c17, if_pos hr, if_neg hm, ej]; all_goals rw [if_neg p212]; try rw [pR]; try rfl) (by simp only [dPl, ite_self, en, if_pos c7, if_pos c17, if_pos hr, if_neg hm, ej]; all_goals rw [if_neg p212]; try rw [pR]; try rfl) (by simp only [dPl, ite_self, en, if_pos c7, if_pos c17, if_pos hr, if_neg hm, ej]; all_goals rw [if_neg p212]; try rw [pR]; try rfl) (hR 238 _ dX7_plateau_238)
              · have n60 : ¬ (n ≤ fr) := fun qq9 => c60 ((nI_leI (a := n) (b := fr) (by omega) (by omega)).mpr qq9)
                refine jr_ldc cx dX7_plateau_63 mc_106 ?_
                refine jr_istore (L' := [(10, .int 100000), (0, .ref (E.1 7)), (1, .int (nI j)), (2, .int w), (3, .int (nI M)), (5, .int s.1), (6, .int (nI s.2.1)), (7, .long s.2.2), (9, .int (nI fr))]) cx dX7_plateau_65 (by decide) rfl ?_
                refine jr_ldc cx dX7_plateau_67 mc_105 ?_
                refine jr_istore (L' := [(11, .int (-100000)), (10, .int 100000), (0, .ref (E.1 7)), (1, .int (nI j)), (2, .int w), (3, .int (nI M)), (5, .int s.1), (6, .int (nI s.2.1)), (7, .long s.2.2), (9, .int (nI fr))]) cx dX7_plateau_69 (by decide) rfl ?_
                refine jr_lconst (v := 0) cx dX7_plateau_71 (by decide) ?_
                refine jr_lstore (L' := [(12, .long 0), (11, .int (-100000)), (10, .int 100000), (0, .ref (E.1 7)), (1, .int (nI j)), (2, .int w), (3, .int (nI M)), (5, .int s.1), (6, .int (nI s.2.1)), (7, .long s.2.2), (9, .int (nI fr))]) cx dX7_plateau_72 (by decide) rfl ?_
                refine jr_iload cx dX7_plateau_74 10 rfl ?_
                refine jr_istore (L' := [(14, .int (nI fr)), (12, .long 0), (11, .int (-100000)), (10, .int 100000), (0, .ref (E.1 7)), (1, .int (nI j)), (2, .int w), (3, .int (nI M)), (5, .int s.1), (6, .int (nI s.2.1)), (7, .long s.2.2), (9, .int (nI fr))]) cx dX7_plateau_76 (by decide) rfl ?_
                have key2 : ∀ (fu2 : Nat) (i : Nat) (lo hi : Int32) (sm : Int64) (s2 : plT), n + 1 ≤ i + fu2 → (i ≤ n) → (fr ≤ i) → (plI (fun q => g 15 (40 * j + q)) w fr (n - i) i lo hi sm s2 = plI (fun q => g 15 (40 * j + q)) w fr (n - fr) fr 100000 (-100000) 0 s) → (s2.2.1 ≤ 40) → JJ E X g h 78 [(0, .ref (E.1 7)), (1, .int (nI j)), (2, .int w), (3, .int (nI M)), (5, .int s2.1), (6, .int (nI s2.2.1)), (7, .long s2.2.2), (9, .int (nI fr)), (10, .int lo), (11, .int hi), (12, .long sm), (14, .int (nI i))] [] := by
                  intro fu2
                  induction fu2 with
                  | zero => intro i lo hi sm s2 hfu2 h3 h3b h4 h4b; exfalso; omega
                  | succ fu2 ih2 =>
                    intro i lo hi sm s2 hfu2 h3 h3b h4 h4b
                    refine jr_iload cx dX7_plateau_78 11 rfl ?_
                    refine jr_aload_n cx dX7_plateau_80 0 rfl rfl ?_
                    refine jr_get (f := 5) (v := .ref (E.1 14)) cx dX7_plateau_81 (by decide) rfl rfl hinX7 (by decide) mf_17 rfl ?_
                    refine jr_iload_n cx dX7_plateau_84 1 rfl rfl ?_
                    refine jr_iald cx dX7_plateau_85 (Or.inl ⟨by decide, by decide⟩) j rfl (show _ < 6 by omega) ?_
                    refine jr_top hs ?_
                    refine jr_icmp_ge (tgt := 204) cx dX7_plateau_86 (by decide) (fun c86 => ?_) (fun c86 => ?_)
                    · have n86 : n ≤ i := (nI_leI (a := n) (b := i) (by omega) (by omega)).mp c86
                      have hS2 : s2 = plI (fun q => g 15 (40 * j + q)) w fr (n - fr) fr 100000 (-100000) 0 s := by rw [← h4, show n - i = 0 by omega]; rfl
                      refine jr_iinc (n := 7) (v := nI (fr + 1)) (L' := [(9, .int (nI (fr + 1))), (0, .ref (E.1 7)), (1, .int (nI j)), (2, .int w), (3, .int (nI M)), (5, .int s2.1), (6, .int (nI s2.2.1)), (7, .long s2.2.2), (10, .int lo), (11, .int hi), (12, .long sm), (14, .int (nI i))]) cx dX7_plateau_204 rfl (nI_1 _) (by decide) rfl ?_
                      refine jr_goto (tgt := 52) cx dX7_plateau_207 (by decide) ?_
                      refine jr_pick (L' := [(0, .ref (E.1 7)), (1, .int (nI j)), (2, .int w), (3, .int (nI M)), (5, .int s2.1), (6, .int (nI s2.2.1)), (7, .long s2.2.2), (9, .int (nI (fr + 1)))]) [1, 2, 3, 4, 5, 6, 7, 0] rfl ?_
                      exact ih1 (fr + 1) s2 (by omega) (by omega) (by rw [← h2, show n - fr = (n - (fr + 1)) + 1 by omega, plO, ← hS2]) h4b
                    · have n86 : ¬ (n ≤ i) := fun qq9 => c86 ((nI_leI (a := n) (b := i) (by omega) (by omega)).mpr qq9)
                      refine jr_aload_n cx dX7_plateau_89 0 rfl rfl ?_
                      refine jr_get (f := 6) (v := .ref (E.1 15)) cx dX7_plateau_90 (by decide) rfl rfl hinX7 (by decide) mf_20 rfl ?_
                      refine jr_bipush (v := 40) cx dX7_plateau_93 (by decide) ?_
                      refine jr_iload_n cx dX7_plateau_95 1 rfl rfl ?_
                      refine jr_imul cx dX7_plateau_96 ?_
                      refine jr_top (show (40 : Int32) * (nI j) = nI (40 * j) from pk_mul 40 j) ?_
                      refine jr_iload cx dX7_plateau_97 11 rfl ?_
                      refine jr_iadd cx dX7_plateau_99 ?_
                      refine jr_top (show (nI (40 * j) : Int32) + (nI i) = nI ((40 * j) + i) from nI_add (40 * j) i) ?_
                      refine jr_iald cx dX7_plateau_100 (Or.inl ⟨by decide, by decide⟩) ((40 * j) + i) rfl (show _ < 240 by omega) ?_
                      refine jr_bipush (v := (-9)) cx dX7_plateau_101 (by decide) ?_
                      refine jr_icmp_eq (tgt := 204) cx dX7_plateau_103 (by decide) (fun c103 => ?_) (fun c103 => ?_)
                      · have hS2 : s2 = plI (fun q => g 15 (40 * j + q)) w fr (n - fr) fr 100000 (-100000) 0 s := by rw [← h4, show n - i = (n - (i + 1)) + 1 by omega, plI_z (f := (fun q => g 15 (40 * j + q))) c103]
                        refine jr_iinc (n := 7) (v := nI (fr + 1)) (L' := [(9, .int (nI (fr + 1))), (0, .ref (E.1 7)), (1, .int (nI j)), (2, .int w), (3, .int (nI M)), (5, .int s2.1), (6, .int (nI s2.2.1)), (7, .long s2.2.2), (10, .int lo), (11, .int hi), (12, .long sm), (14, .int (nI i))]) cx dX7_plateau_204 rfl (nI_1 _) (by decide) rfl ?_
                        refine jr_goto (tgt := 52) cx dX7_plateau_207 (by decide) ?_
                        refine jr_pick (L' := [(0, .ref (E.1 7)), (1, .int (nI j)), (2, .int w), (3, .int (nI M)), (5, .int s2.1), (6, .int (nI s2.2.1)), (7, .long s2.2.2), (9, .int (nI (fr + 1)))]) [1, 2, 3, 4, 5, 6, 7, 0] rfl ?_
                        exact ih1 (fr + 1) s2 (by omega) (by omega) (by rw [← h2, show n - fr = (n - (fr + 1)) + 1 by omega, plO, ← hS2]) h4b
                      · refine jr_aload_n cx dX7_plateau_106 0 rfl rfl ?_
                        refine jr_get (f := 6) (v := .ref (E.1 15)) cx dX7_plateau_107 (by decide) rfl rfl hinX7 (by decide) mf_20 rfl ?_
                        refine jr_bipush (v := 40) cx dX7_plateau_110 (by decide) ?_
                        refine jr_iload_n cx dX7_plateau_112 1 rfl rfl ?_
                        refine jr_imul cx dX7_plateau_113 ?_
                        refine jr_top (show (40 : Int32) * (nI j) = nI (40 * j) from pk_mul 40 j) ?_
                        refine jr_iload cx dX7_plateau_114 11 rfl ?_
                        refine jr_iadd cx dX7_plateau_116 ?_
                        refine jr_top (show (nI (40 * j) : Int32) + (nI i) = nI ((40 * j) + i) from nI_add (40 * j) i) ?_
                        refine jr_iald cx dX7_plateau_117 (Or.inl ⟨by decide, by decide⟩) ((40 * j) + i) rfl (show _ < 240 by omega) ?_
                        refine jr_istore (L' := [(15, .int (g 15 ((40 * j) + i))), (0, .ref (E.1 7)), (1, .int (nI j)), (2, .int w), (3, .int (nI M)), (5, .int s2.1), (6, .int (nI s2.2.1)), (7, .long s2.2.2), (9, .int (nI fr)), (10, .int lo), (11, .int hi), (12, .long sm), (14, .int (nI i))]) cx dX7_plateau_118 (by decide) rfl ?_
                        refine jr_iload cx dX7_plateau_120 0 rfl ?_
                        refine jr_iload cx dX7_plateau_122 9 rfl ?_
                        refine jr_icmp_ge (tgt := 132) cx dX7_plateau_124 (by decide) (fun c124 => ?_) (fun c124 => ?_)
                        · refine jr_iload cx dX7_plateau_132 9 rfl ?_
                          refine jr_istore (L' := [(10, .int lo), (15, .int (g 15 ((40 * j) + i))), (0, .ref (E.1 7)), (1, .int (nI j)), (2, .int w), (3, .int (nI M)), (5, .int s2.1), (6, .int (nI s2.2.1)), (7, .long s2.2.2), (9, .int (nI fr)), (11, .int hi), (12, .long sm), (14, .int (nI i))]) cx dX7_plateau_134 (by decide) rfl ?_
                          refine jr_iload cx dX7_plateau_136 1 rfl ?_
                          refine jr_iload cx dX7_plateau_138 10 rfl ?_
                          refine jr_icmp_le (tgt := 148) cx dX7_plateau_140 (by decide) (fun c140 => ?_) (fun c140 => ?_)
                          · refine jr_iload cx dX7_plateau_148 10 rfl ?_
                            refine jr_istore (L' := [(11, .int hi), (10, .int lo), (15, .int (g 15 ((40 * j) + i))), (0, .ref (E.1 7)), (1, .int (nI j)), (2, .int w), (3, .int (nI M)), (5, .int s2.1), (6, .int (nI s2.2.1)), (7, .long s2.2.2), (9, .int (nI fr)), (12, .long sm), (14, .int (nI i))]) cx dX7_plateau_150 (by decide) rfl ?_
                            refine jr_lload cx dX7_plateau_152 11 rfl ?_
                            refine jr_iload cx dX7_plateau_154 2 rfl ?_
                            refine jr_i2l cx dX7_plateau_156 ?_
                            refine jr_ladd cx dX7_plateau_157 ?_
                            refine jr_lstore (L' := [(12, .long (sm + (Int32.toInt64 (g 15 ((40 * j) + i))))), (11, .int hi), (10, .int lo), (15, .int (g 15 ((40 * j) + i))), (0, .ref (E.1 7)), (1, .int (nI j)), (2, .int w), (3, .int (nI M)), (5, .int s2.1), (6, .int (nI s2.2.1)), (7, .long s2.2.2), (9, .int (nI fr)), (14, .int (nI i))]) cx dX7_plateau_158 (by decide) rfl ?_
                            refine jr_iload cx dX7_plateau_160 1 rfl ?_
                            refine jr_iload cx dX7_plateau_162 2 rfl ?_
                            refine jr_isub cx dX7_plateau_164 ?_
                            refine jr_iload_n cx dX7_plateau_165 6 rfl rfl ?_
                            refine jr_icmp_gt (tgt := 198) cx dX7_plateau_166 (by decide) (fun c166 => ?_) (fun c166 => ?_)
                            · refine jr_iinc (n := 12) (v := nI (i + 1)) (L' := [(14, .int (nI (i + 1))), (12, .long (sm + (Int32.toInt64 (g 15 ((40 * j) + i))))), (11, .int hi), (10, .int lo), (15, .int (g 15 ((40 * j) + i))), (0, .ref (E.1 7)), (1, .int (nI j)), (2, .int w), (3, .int (nI M)), (5, .int s2.1), (6, .int (nI s2.2.1)), (7, .long s2.2.2), (9, .int (nI fr))]) cx dX7_plateau_198 rfl (nI_1 _) (by decide) rfl ?_
                              refine jr_goto (tgt := 78) cx dX7_plateau_201 (by decide) ?_
                              refine jr_pick (L' := [(0, .ref (E.1 7)), (1, .int (nI j)), (2, .int w), (3, .int (nI M)), (5, .int s2.1), (6, .int (nI s2.2.1)), (7, .long s2.2.2), (9, .int (nI fr)), (10, .int lo), (11, .int hi), (12, .long (sm + (Int32.toInt64 (g 15 ((40 * j) + i))))), (14, .int (nI (i + 1)))]) [5, 6, 7, 8, 9, 10, 11, 12, 3, 2, 1, 0] rfl ?_
                              have e12 : (sm + (Int32.toInt64 (g 15 ((40 * j) + i))) : Int64) = (sm + (Int32.toInt64 (g 15 ((40 * j) + i)))) := by rfl
                              refine jr_loc (lc_n (lc_n (lc_n (lc_n (lc_n (lc_n (lc_n (lc_n (lc_n (lc_n (lc_l e12 (lc_n rfl)))))))))))) ?_
                              exact ih2 (i + 1) lo hi (sm + (Int32.toInt64 (g 15 ((40 * j) + i)))) s2 (by omega) (by omega) (by omega) (by rw [← h4, show n - i = (n - (i + 1)) + 1 by omega, plI_s (f := (fun q => g 15 (40 * j + q))) c103]; simp only [if_pos c124, if_pos c140]; rw [if_neg (fun q => q.1 c166)]) h4b
                            · refine jr_iload cx dX7_plateau_169 12 rfl ?_
                              refine jr_iload cx dX7_plateau_171 11 rfl ?_
                              refine jr_isub cx dX7_plateau_173 ?_
                              refine jr_top (show (nI i : Int32) - (nI fr) = nI (i - fr) from pk_sub (a := i) (b := fr) (by omega)) ?_
                              refine jr_iconst (v := 1) cx dX7_plateau_174 (by decide) ?_
                              refine jr_iadd cx dX7_plateau_175 ?_
                              refine jr_top (show (nI (i - fr) : Int32) + 1 = nI ((i - fr) + 1) from nI_add (i - fr) 1) ?_
                              refine jr_iload cx dX7_plateau_176 9 rfl ?_
                              refine jr_icmp_le (tgt := 198) cx dX7_plateau_178 (by decide) (fun c178 => ?_) (fun c178 => ?_)
                              · have n178 : (i - fr) + 1 ≤ s2.2.1 := (nI_leI (a := (i - fr) + 1) (b := s2.2.1) (by omega) (by omega)).mp c178
                                refine jr_iinc (n := 12) (v := nI (i + 1)) (L' := [(14, .int (nI (i + 1))), (12, .long (sm + (Int32.toInt64 (g 15 ((40 * j) + i))))), (11, .int hi), (10, .int lo), (15, .int (g 15 ((40 * j) + i))), (0, .ref (E.1 7)), (1, .int (nI j)), (2, .int w), (3, .int (nI M)), (5, .int s2.1), (6, .int (nI s2.2.1)), (7, .long s2.2.2), (9, .int (nI fr))]) cx dX7_plateau_198 rfl (nI_1 _) (by decide) rfl ?_
                                refine jr_goto (tgt := 78) cx dX7_plateau_201 (by decide) ?_
                                refine jr_pick (L' := [(0, .ref (E.1 7)), (1, .int (nI j)), (2, .int w), (3, .int (nI M)), (5, .int s2.1), (6, .int (nI s2.2.1)), (7, .long s2.2.2), (9, .int (nI fr)), (10, .int lo), (11, .int hi), (12, .long (sm + (Int32.toInt64 (g 15 ((40 * j) + i))))), (14, .int (nI (i + 1)))]) [5, 6, 7, 8, 9, 10, 11, 12, 3, 2, 1, 0] rfl ?_
                                have e12 : (sm + (Int32.toInt64 (g 15 ((40 * j) + i))) : Int64) = (sm + (Int32.toInt64 (g 15 ((40 * j) + i)))) := by rfl
                                refine jr_loc (lc_n (lc_n (lc_n (lc_n (lc_n (lc_n (lc_n (lc_n (lc_n (lc_n (lc_l e12 (lc_n rfl)))))))))))) ?_
                                exact ih2 (i + 1) lo hi (sm + (Int32.toInt64 (g 15 ((40 * j) + i)))) s2 (by omega) (by omega) (by omega) (by rw [← h4, show n - i = (n - (i + 1)) + 1 by omega, plI_s (f := (fun q => g 15 (40 * j + q))) c103]; simp only [if_pos c124, if_pos c140]; rw [if_neg (fun q => q.2 n178)]) h4b
                              · have n178 : ¬ ((i - fr) + 1 ≤ s2.2.1) := fun qq9 => c178 ((nI_leI (a := (i - fr) + 1) (b := s2.2.1) (by omega) (by omega)).mpr qq9)
                                refine jr_iload cx dX7_plateau_181 11 rfl ?_
                                refine jr_istore (L' := [(5, .int (nI fr)), (12, .long (sm + (Int32.toInt64 (g 15 ((40 * j) + i))))), (11, .int hi), (10, .int lo), (15, .int (g 15 ((40 * j) + i))), (0, .ref (E.1 7)), (1, .int (nI j)), (2, .int w), (3, .int (nI M)), (6, .int (nI s2.2.1)), (7, .long s2.2.2), (9, .int (nI fr)), (14, .int (nI i))]) cx dX7_plateau_183 (by decide) rfl ?_
                                refine jr_iload cx dX7_plateau_185 12 rfl ?_
                                refine jr_iload cx dX7_plateau_187 11 rfl ?_
                                refine jr_isub cx dX7_plateau_189 ?_
                                refine jr_top (show (nI i : Int32) - (nI fr) = nI (i - fr) from pk_sub (a := i) (b := fr) (by omega)) ?_
                                refine jr_iconst (v := 1) cx dX7_plateau_190 (by decide) ?_
                                refine jr_iadd cx dX7_plateau_191 ?_
                                refine jr_top (show (nI (i - fr) : Int32) + 1 = nI ((i - fr) + 1) from nI_add (i - fr) 1) ?_
                                refine jr_istore (L' := [(6, .int (nI ((i - fr) + 1))), (5, .int (nI fr)), (12, .long (sm + (Int32.toInt64 (g 15 ((40 * j) + i))))), (11, .int hi), (10, .int lo), (15, .int (g 15 ((40 * j) + i))), (0, .ref (E.1 7)), (1, .int (nI j)), (2, .int w), (3, .int (nI M)), (7, .long s2.2.2), (9, .int (nI fr)), (14, .int (nI i))]) cx dX7_plateau_192 (by decide) rfl ?_
                                refine jr_lload cx dX7_plateau_194 2 rfl ?_
                                refine jr_lstore (L' := [(7, .long (sm + (Int32.toInt64 (g 15 ((40 * j) + i))))), (6, .int (nI ((i - fr) + 1))), (5, .int (nI fr)), (12, .long (sm + (Int32.toInt64 (g 15 ((40 * j) + i))))), (11, .int hi), (10, .int lo), (15, .int (g 15 ((40 * j) + i))), (0, .ref (E.1 7)), (1, .int (nI j)), (2, .int w), (3, .int (nI M)), (9, .int (nI fr)), (14, .int (nI i))]) cx dX7_plateau_196 (by decide) rfl ?_
                                refine jr_iinc (n := 12) (v := nI (i + 1)) (L' := [(14, .int (nI (i + 1))), (7, .long (sm + (Int32.toInt64 (g 15 ((40 * j) + i))))), (6, .int (nI ((i - fr) + 1))), (5, .int (nI fr)), (12, .long (sm + (Int32.toInt64 (g 15 ((40 * j) + i))))), (11, .int hi), (10, .int lo), (15, .int (g 15 ((40 * j) + i))), (0, .ref (E.1 7)), (1, .int (nI j)), (2, .int w), (3, .int (nI M)), (9, .int (nI fr))]) cx dX7_plateau_198 rfl (nI_1 _) (by decide) rfl ?_
                                refine jr_goto (tgt := 78) cx dX7_plateau_201 (by decide) ?_
                                refine jr_pick (L' := [(0, .ref (E.1 7)), (1, .int (nI j)), (2, .int w), (3, .int (nI M)), (5, .int (nI fr)), (6, .int (nI ((i - fr) + 1))), (7, .long (sm + (Int32.toInt64 (g 15 ((40 * j) + i))))), (9, .int (nI fr)), (10, .int lo), (11, .int hi), (12, .long (sm + (Int32.toInt64 (g 15 ((40 * j) + i))))), (14, .int (nI (i + 1)))]) [8, 9, 10, 11, 3, 2, 1, 12, 6, 5, 4, 0] rfl ?_
                                have e5 : (nI fr : Int32) = (((nI fr, i - fr + 1, sm + Int32.toInt64 (g 15 (40 * j + i))) : plT).1) := by rfl
                                have e6 : (nI ((i - fr) + 1) : Int32) = (nI (((nI fr, i - fr + 1, sm + Int32.toInt64 (g 15 (40 * j + i))) : plT).2.1)) := by rfl
                                have e7 : (sm + (Int32.toInt64 (g 15 ((40 * j) + i))) : Int64) = (((nI fr, i - fr + 1, sm + Int32.toInt64 (g 15 (40 * j + i))) : plT).2.2) := by rfl
                                have e12 : (sm + (Int32.toInt64 (g 15 ((40 * j) + i))) : Int64) = (sm + (Int32.toInt64 (g 15 ((40 * j) + i)))) := by rfl
                                refine jr_loc (lc_n (lc_n (lc_n (lc_n (lc_i e5 (lc_i e6 (lc_l e7 (lc_n (lc_n (lc_n (lc_l e12 (lc_n rfl)))))))))))) ?_
                                exact ih2 (i + 1) lo hi (sm + (Int32.toInt64 (g 15 ((40 * j) + i)))) ((nI fr, i - fr + 1, sm + Int32.toInt64 (g 15 (40 * j + i))) : plT) (by omega) (by omega) (by omega) (by rw [← h4, show n - i = (n - (i + 1)) + 1 by omega, plI_s (f := (fun q => g 15 (40 * j + q))) c103]; simp only [if_pos c124, if_pos c140]; rw [if_pos ⟨c166, n178⟩]) (by show i - fr + 1 ≤ 40; omega)
                          · refine jr_iload cx dX7_plateau_143 1 rfl ?_
                            refine jr_goto (tgt := 150) cx dX7_plateau_145 (by decide) ?_
                            refine jr_istore (L' := [(11, .int (g 15 ((40 * j) + i))), (10, .int lo), (15, .int (g 15 ((40 * j) + i))), (0, .ref (E.1 7)), (1, .int (nI j)), (2, .int w), (3, .int (nI M)), (5, .int s2.1), (6, .int (nI s2.2.1)), (7, .long s2.2.2), (9, .int (nI fr)), (12, .long sm), (14, .int (nI i))]) cx dX7_plateau_150 (by decide) rfl ?_
                            refine jr_lload cx dX7_plateau_152 11 rfl ?_
                            refine jr_iload cx dX7_plateau_154 2 rfl ?_
                            refine jr_i2l cx dX7_plateau_156 ?_
                            refine jr_ladd cx dX7_plateau_157 ?_
                            refine jr_lstore (L' := [(12, .long (sm + (Int32.toInt64 (g 15 ((40 * j) + i))))), (11, .int (g 15 ((40 * j) + i))), (10, .int lo), (15, .int (g 15 ((40 * j) + i))), (0, .ref (E.1 7)), (1, .int (nI j)), (2, .int w), (3, .int (nI M)), (5, .int s2.1), (6, .int (nI s2.2.1)), (7, .long s2.2.2), (9, .int (nI fr)), (14, .int (nI i))]) cx dX7_plateau_158 (by decide) rfl ?_
                            refine jr_iload cx dX7_plateau_160 1 rfl ?_
                            refine jr_iload cx dX7_plateau_162 2 rfl ?_
                            refine jr_isub cx dX7_plateau_164 ?_
                            refine jr_iload_n cx dX7_plateau_165 6 rfl rfl ?_
                            refine jr_icmp_gt (tgt := 198) cx dX7_plateau_166 (by decide) (fun c166 => ?_) (fun c166 => ?_)
                            · refine jr_iinc (n := 12) (v := nI (i + 1)) (L' := [(14, .int (nI (i + 1))), (12, .long (sm + (Int32.toInt64 (g 15 ((40 * j) + i))))), (11, .int (g 15 ((40 * j) + i))), (10, .int lo), (15, .int (g 15 ((40 * j) + i))), (0, .ref (E.1 7)), (1, .int (nI j)), (2, .int w), (3, .int (nI M)), (5, .int s2.1), (6, .int (nI s2.2.1)), (7, .long s2.2.2), (9, .int (nI fr))]) cx dX7_plateau_198 rfl (nI_1 _) (by decide) rfl ?_
                              refine jr_goto (tgt := 78) cx dX7_plateau_201 (by decide) ?_
                              refine jr_pick (L' := [(0, .ref (E.1 7)), (1, .int (nI j)), (2, .int w), (3, .int (nI M)), (5, .int s2.1), (6, .int (nI s2.2.1)), (7, .long s2.2.2), (9, .int (nI fr)), (10, .int lo), (11, .int (g 15 ((40 * j) + i))), (12, .long (sm + (Int32.toInt64 (g 15 ((40 * j) + i))))), (14, .int (nI (i + 1)))]) [5, 6, 7, 8, 9, 10, 11, 12, 3, 2, 1, 0] rfl ?_
                              have e11 : (g 15 ((40 * j) + i) : Int32) = (g 15 ((40 * j) + i)) := by rfl
                              have e12 : (sm + (Int32.toInt64 (g 15 ((40 * j) + i))) : Int64) = (sm + (Int32.toInt64 (g 15 ((40 * j) + i)))) := by rfl
                              refine jr_loc (lc_n (lc_n (lc_n (lc_n (lc_n (lc_n (lc_n (lc_n (lc_n (lc_i e11 (lc_l e12 (lc_n rfl)))))))))))) ?_
                              exact ih2 (i + 1) lo (g 15 ((40 * j) + i)) (sm + (Int32.toInt64 (g 15 ((40 * j) + i)))) s2 (by omega) (by omega) (by omega) (by rw [← h4, show n - i = (n - (i + 1)) + 1 by omega, plI_s (f := (fun q => g 15 (40 * j + q))) c103]; simp only [if_pos c124, if_neg c140]; rw [if_neg (fun q => q.1 c166)]) h4b
                            · refine jr_iload cx dX7_plateau_169 12 rfl ?_
                              refine jr_iload cx dX7_plateau_171 11 rfl ?_
                              refine jr_isub cx dX7_plateau_173 ?_
                              refine jr_top (show (nI i : Int32) - (nI fr) = nI (i - fr) from pk_sub (a := i) (b := fr) (by omega)) ?_
                              refine jr_iconst (v := 1) cx dX7_plateau_174 (by decide) ?_
                              refine jr_iadd cx dX7_plateau_175 ?_
                              refine jr_top (show (nI (i - fr) : Int32) + 1 = nI ((i - fr) + 1) from nI_add (i - fr) 1) ?_
                              refine jr_iload cx dX7_plateau_176 9 rfl ?_
                              refine jr_icmp_le (tgt := 198) cx dX7_plateau_178 (by decide) (fun c178 => ?_) (fun c178 => ?_)
                              · have n178 : (i - fr) + 1 ≤ s2.2.1 := (nI_leI (a := (i - fr) + 1) (b := s2.2.1) (by omega) (by omega)).mp c178
                                refine jr_iinc (n := 12) (v := nI (i + 1)) (L' := [(14, .int (nI (i + 1))), (12, .long (sm + (Int32.toInt64 (g 15 ((40 * j) + i))))), (11, .int (g 15 ((40 * j) + i))), (10, .int lo), (15, .int (g 15 ((40 * j) + i))), (0, .ref (E.1 7)), (1, .int (nI j)), (2, .int w), (3, .int (nI M)), (5, .int s2.1), (6, .int (nI s2.2.1)), (7, .long s2.2.2), (9, .int (nI fr))]) cx dX7_plateau_198 rfl (nI_1 _) (by decide) rfl ?_
                                refine jr_goto (tgt := 78) cx dX7_plateau_201 (by decide) ?_
                                refine jr_pick (L' := [(0, .ref (E.1 7)), (1, .int (nI j)), (2, .int w), (3, .int (nI M)), (5, .int s2.1), (6, .int (nI s2.2.1)), (7, .long s2.2.2), (9, .int (nI fr)), (10, .int lo), (11, .int (g 15 ((40 * j) + i))), (12, .long (sm + (Int32.toInt64 (g 15 ((40 * j) + i))))), (14, .int (nI (i + 1)))]) [5, 6, 7, 8, 9, 10, 11, 12, 3, 2, 1, 0] rfl ?_
                                have e11 : (g 15 ((40 * j) + i) : Int32) = (g 15 ((40 * j) + i)) := by rfl
                                have e12 : (sm + (Int32.toInt64 (g 15 ((40 * j) + i))) : Int64) = (sm + (Int32.toInt64 (g 15 ((40 * j) + i)))) := by rfl
                                refine jr_loc (lc_n (lc_n (lc_n (lc_n (lc_n (lc_n (lc_n (lc_n (lc_n (lc_i e11 (lc_l e12 (lc_n rfl)))))))))))) ?_
                                exact ih2 (i + 1) lo (g 15 ((40 * j) + i)) (sm + (Int32.toInt64 (g 15 ((40 * j) + i)))) s2 (by omega) (by omega) (by omega) (by rw [← h4, show n - i = (n - (i + 1)) + 1 by omega, plI_s (f := (fun q => g 15 (40 * j + q))) c103]; simp only [if_pos c124, if_neg c140]; rw [if_neg (fun q => q.2 n178)]) h4b
                              · have n178 : ¬ ((i - fr) + 1 ≤ s2.2.1) := fun qq9 => c178 ((nI_leI (a := (i - fr) + 1) (b := s2.2.1) (by omega) (by omega)).mpr qq9)
                                refine jr_iload cx dX7_plateau_181 11 rfl ?_
                                refine jr_istore (L' := [(5, .int (nI fr)), (12, .long (sm + (Int32.toInt64 (g 15 ((40 * j) + i))))), (11, .int (g 15 ((40 * j) + i))), (10, .int lo), (15, .int (g 15 ((40 * j) + i))), (0, .ref (E.1 7)), (1, .int (nI j)), (2, .int w), (3, .int (nI M)), (6, .int (nI s2.2.1)), (7, .long s2.2.2), (9, .int (nI fr)), (14, .int (nI i))]) cx dX7_plateau_183 (by decide) rfl ?_
                                refine jr_iload cx dX7_plateau_185 12 rfl ?_
                                refine jr_iload cx dX7_plateau_187 11 rfl ?_
                                refine jr_isub cx dX7_plateau_189 ?_
                                refine jr_top (show (nI i : Int32) - (nI fr) = nI (i - fr) from pk_sub (a := i) (b := fr) (by omega)) ?_
                                refine jr_iconst (v := 1) cx dX7_plateau_190 (by decide) ?_
                                refine jr_iadd cx dX7_plateau_191 ?_
                                refine jr_top (show (nI (i - fr) : Int32) + 1 = nI ((i - fr) + 1) from nI_add (i - fr) 1) ?_
                                refine jr_istore (L' := [(6, .int (nI ((i - fr) + 1))), (5, .int (nI fr)), (12, .long (sm + (Int32.toInt64 (g 15 ((40 * j) + i))))), (11, .int (g 15 ((40 * j) + i))), (10, .int lo), (15, .int (g 15 ((40 * j) + i))), (0, .ref (E.1 7)), (1, .int (nI j)), (2, .int w), (3, .int (nI M)), (7, .long s2.2.2), (9, .int (nI fr)), (14, .int (nI i))]) cx dX7_plateau_192 (by decide) rfl ?_
                                refine jr_lload cx dX7_plateau_194 2 rfl ?_
                                refine jr_lstore (L' := [(7, .long (sm + (Int32.toInt64 (g 15 ((40 * j) + i))))), (6, .int (nI ((i - fr) + 1))), (5, .int (nI fr)), (12, .long (sm + (Int32.toInt64 (g 15 ((40 * j) + i))))), (11, .int (g 15 ((40 * j) + i))), (10, .int lo), (15, .int (g 15 ((40 * j) + i))), (0, .ref (E.1 7)), (1, .int (nI j)), (2, .int w), (3, .int (nI M)), (9, .int (nI fr)), (14, .int (nI i))]) cx dX7_plateau_196 (by decide) rfl ?_
                                refine jr_iinc (n := 12) (v := nI (i + 1)) (L' := [(14, .int (nI (i + 1))), (7, .long (sm + (Int32.toInt64 (g 15 ((40 * j) + i))))), (6, .int (nI ((i - fr) + 1))), (5, .int (nI fr)), (12, .long (sm + (Int32.toInt64 (g 15 ((40 * j) + i))))), (11, .int (g 15 ((40 * j) + i))), (10, .int lo), (15, .int (g 15 ((40 * j) + i))), (0, .ref (E.1 7)), (1, .int (nI j)), (2, .int w), (3, .int (nI M)), (9, .int (nI fr))]) cx dX7_plateau_198 rfl (nI_1 _) (by decide) rfl ?_
                                refine jr_goto (tgt := 78) cx dX7_plateau_201 (by decide) ?_
                                refine jr_pick (L' := [(0, .ref (E.1 7)), (1, .int (nI j)), (2, .int w), (3, .int (nI M)), (5, .int (nI fr)), (6, .int (nI ((i - fr) + 1))), (7, .long (sm + (Int32.toInt64 (g 15 ((40 * j) + i))))), (9, .int (nI fr)), (10, .int lo), (11, .int (g 15 ((40 * j) + i))), (12, .long (sm + (Int32.toInt64 (g 15 ((40 * j) + i))))), (14, .int (nI (i + 1)))]) [8, 9, 10, 11, 3, 2, 1, 12, 6, 5, 4, 0] rfl ?_
                                have e5 : (nI fr : Int32) = (((nI fr, i - fr + 1, sm + Int32.toInt64 (g 15 (40 * j + i))) : plT).1) := by rfl
                                have e6 : (nI ((i - fr) + 1) : Int32) = (nI (((nI fr, i - fr + 1, sm + Int32.toInt64 (g 15 (40 * j + i))) : plT).2.1)) := by rfl
                                have e7 : (sm + (Int32.toInt64 (g 15 ((40 * j) + i))) : Int64) = (((nI fr, i - fr + 1, sm + Int32.toInt64 (g 15 (40 * j + i))) : plT).2.2) := by rfl
                                have e11 : (g 15 ((40 * j) + i) : Int32) = (g 15 ((40 * j) + i)) := by rfl
                                have e12 : (sm + (Int32.toInt64 (g 15 ((40 * j) + i))) : Int64) = (sm + (Int32.toInt64 (g 15 ((40 * j) + i)))) := by rfl
                                refine jr_loc (lc_n (lc_n (lc_n (lc_n (lc_i e5 (lc_i e6 (lc_l e7 (lc_n (lc_n (lc_i e11 (lc_l e12 (lc_n rfl)))))))))))) ?_
                                exact ih2 (i + 1) lo (g 15 ((40 * j) + i)) (sm + (Int32.toInt64 (g 15 ((40 * j) + i)))) ((nI fr, i - fr + 1, sm + Int32.toInt64 (g 15 (40 * j + i))) : plT) (by omega) (by omega) (by omega) (by rw [← h4, show n - i = (n - (i + 1)) + 1 by omega, plI_s (f := (fun q => g 15 (40 * j + q))) c103]; simp only [if_pos c124, if_neg c140]; rw [if_pos ⟨c166, n178⟩]) (by show i - fr + 1 ≤ 40; omega)
                        · refine jr_iload cx dX7_plateau_127 0 rfl ?_
                          refine jr_goto (tgt := 134) cx dX7_plateau_129 (by decide) ?_
                          refine jr_istore (L' := [(10, .int (g 15 ((40 * j) + i))), (15, .int (g 15 ((40 * j) + i))), (0, .ref (E.1 7)), (1, .int (nI j)), (2, .int w), (3, .int (nI M)), (5, .int s2.1), (6, .int (nI s2.2.1)), (7, .long s2.2.2), (9, .int (nI fr)), (11, .int hi), (12, .long sm), (14, .int (nI i))]) cx dX7_plateau_134 (by decide) rfl ?_
                          refine jr_iload cx dX7_plateau_136 1 rfl ?_
                          refine jr_iload cx dX7_plateau_138 10 rfl ?_
                          refine jr_icmp_le (tgt := 148) cx dX7_plateau_140 (by decide) (fun c140 => ?_) (fun c140 => ?_)
                          · refine jr_iload cx dX7_plateau_148 10 rfl ?_
                            refine jr_istore (L' := [(11, .int hi), (10, .int (g 15 ((40 * j) + i))), (15, .int (g 15 ((40 * j) + i))), (0, .ref (E.1 7)), (1, .int (nI j)), (2, .int w), (3, .int (nI M)), (5, .int s2.1), (6, .int (nI s2.2.1)), (7, .long s2.2.2), (9, .int (nI fr)), (12, .long sm), (14, .int (nI i))]) cx dX7_plateau_150 (by decide) rfl ?_
                            refine jr_lload cx dX7_plateau_152 11 rfl ?_
                            refine jr_iload cx dX7_plateau_154 2 rfl ?_
                            refine jr_i2l cx dX7_plateau_156 ?_
                            refine jr_ladd cx dX7_plateau_157 ?_
                            refine jr_lstore (L' := [(12, .long (sm + (Int32.toInt64 (g 15 ((40 * j) + i))))), (11, .int hi), (10, .int (g 15 ((40 * j) + i))), (15, .int (g 15 ((40 * j) + i))), (0, .ref (E.1 7)), (1, .int (nI j)), (2, .int w), (3, .int (nI M)), (5, .int s2.1), (6, .int (nI s2.2.1)), (7, .long s2.2.2), (9, .int (nI fr)), (14, .int (nI i))]) cx dX7_plateau_158 (by decide) rfl ?_
                            refine jr_iload cx dX7_plateau_160 1 rfl ?_
                            refine jr_iload cx dX7_plateau_162 2 rfl ?_
                            refine jr_isub cx dX7_plateau_164 ?_
                            refine jr_iload_n cx dX7_plateau_165 6 rfl rfl ?_
                            refine jr_icmp_gt (tgt := 198) cx dX7_plateau_166 (by decide) (fun c166 => ?_) (fun c166 => ?_)
                            · refine jr_iinc (n := 12) (v := nI (i + 1)) (L' := [(14, .int (nI (i + 1))), (12, .long (sm + (Int32.toInt64 (g 15 ((40 * j) + i))))), (11, .int hi), (10, .int (g 15 ((40 * j) + i))), (15, .int (g 15 ((40 * j) + i))), (0, .ref (E.1 7)), (1, .int (nI j)), (2, .int w), (3, .int (nI M)), (5, .int s2.1), (6, .int (nI s2.2.1)), (7, .long s2.2.2), (9, .int (nI fr))]) cx dX7_plateau_198 rfl (nI_1 _) (by decide) rfl ?_
                              refine jr_goto (tgt := 78) cx dX7_plateau_201 (by decide) ?_
                              refine jr_pick (L' := [(0, .ref (E.1 7)), (1, .int (nI j)), (2, .int w), (3, .int (nI M)), (5, .int s2.1), (6, .int (nI s2.2.1)), (7, .long s2.2.2), (9, .int (nI fr)), (10, .int (g 15 ((40 * j) + i))), (11, .int hi), (12, .long (sm + (Int32.toInt64 (g 15 ((40 * j) + i))))), (14, .int (nI (i + 1)))]) [5, 6, 7, 8, 9, 10, 11, 12, 3, 2, 1, 0] rfl ?_
                              have e10 : (g 15 ((40 * j) + i) : Int32) = (g 15 ((40 * j) + i)) := by rfl
                              have e12 : (sm + (Int32.toInt64 (g 15 ((40 * j) + i))) : Int64) = (sm + (Int32.toInt64 (g 15 ((40 * j) + i)))) := by rfl
                              refine jr_loc (lc_n (lc_n (lc_n (lc_n (lc_n (lc_n (lc_n (lc_n (lc_i e10 (lc_n (lc_l e12 (lc_n rfl)))))))))))) ?_
                              exact ih2 (i + 1) (g 15 ((40 * j) + i)) hi (sm + (Int32.toInt64 (g 15 ((40 * j) + i)))) s2 (by omega) (by omega) (by omega) (by rw [← h4, show n - i = (n - (i + 1)) + 1 by omega, plI_s (f := (fun q => g 15 (40 * j + q))) c103]; simp only [if_neg c124, if_pos c140]; rw [if_neg (fun q => q.1 c166)]) h4b
                            · refine jr_iload cx dX7_plateau_169 12 rfl ?_
                              refine jr_iload cx dX7_plateau_171 11 rfl ?_
                              refine jr_isub cx dX7_plateau_173 ?_
                              refine jr_top (show (nI i : Int32) - (nI fr) = nI (i - fr) from pk_sub (a := i) (b := fr) (by omega)) ?_
                              refine jr_iconst (v := 1) cx dX7_plateau_174 (by decide) ?_
                              refine jr_iadd cx dX7_plateau_175 ?_
                              refine jr_top (show (nI (i - fr) : Int32) + 1 = nI ((i - fr) + 1) from nI_add (i - fr) 1) ?_
                              refine jr_iload cx dX7_plateau_176 9 rfl ?_
                              refine jr_icmp_le (tgt := 198) cx dX7_plateau_178 (by decide) (fun c178 => ?_) (fun c178 => ?_)
                              · have n178 : (i - fr) + 1 ≤ s2.2.1 := (nI_leI (a := (i - fr) + 1) (b := s2.2.1) (by omega) (by omega)).mp c178
                                refine jr_iinc (n := 12) (v := nI (i + 1)) (L' := [(14, .int (nI (i + 1))), (12, .long (sm + (Int32.toInt64 (g 15 ((40 * j) + i))))), (11, .int hi), (10, .int (g 15 ((40 * j) + i))), (15, .int (g 15 ((40 * j) + i))), (0, .ref (E.1 7)), (1, .int (nI j)), (2, .int w), (3, .int (nI M)), (5, .int s2.1), (6, .int (nI s2.2.1)), (7, .long s2.2.2), (9, .int (nI fr))]) cx dX7_plateau_198 rfl (nI_1 _) (by decide) rfl ?_
                                refine jr_goto (tgt := 78) cx dX7_plateau_201 (by decide) ?_
                                refine jr_pick (L' := [(0, .ref (E.1 7)), (1, .int (nI j)), (2, .int w), (3, .int (nI M)), (5, .int s2.1), (6, .int (nI s2.2.1)), (7, .long s2.2.2), (9, .int (nI fr)), (10, .int (g 15 ((40 * j) + i))), (11, .int hi), (12, .long (sm + (Int32.toInt64 (g 15 ((40 * j) + i))))), (14, .int (nI (i + 1)))]) [5, 6, 7, 8, 9, 10, 11, 12, 3, 2, 1, 0] rfl ?_
                                have e10 : (g 15 ((40 * j) + i) : Int32) = (g 15 ((40 * j) + i)) := by rfl
                                have e12 : (sm + (Int32.toInt64 (g 15 ((40 * j) + i))) : Int64) = (sm + (Int32.toInt64 (g 15 ((40 * j) + i)))) := by rfl
                                refine jr_loc (lc_n (lc_n (lc_n (lc_n (lc_n (lc_n (lc_n (lc_n (lc_i e10 (lc_n (lc_l e12 (lc_n rfl)))))))))))) ?_
                                exact ih2 (i + 1) (g 15 ((40 * j) + i)) hi (sm + (Int32.toInt64 (g 15 ((40 * j) + i)))) s2 (by omega) (by omega) (by omega) (by rw [← h4, show n - i = (n - (i + 1)) + 1 by omega, plI_s (f := (fun q => g 15 (40 * j + q))) c103]; simp only [if_neg c124, if_pos c140]; rw [if_neg (fun q => q.2 n178)]) h4b
                              · have n178 : ¬ ((i - fr) + 1 ≤ s2.2.1) := fun qq9 => c178 ((nI_leI (a := (i - fr) + 1) (b := s2.2.1) (by omega) (by omega)).mpr qq9)
                                refine jr_iload cx dX7_plateau_181 11 rfl ?_
                                refine jr_istore (L' := [(5, .int (nI fr)), (12, .long (sm + (Int32.toInt64 (g 15 ((40 * j) + i))))), (11, .int hi), (10, .int (g 15 ((40 * j) + i))), (15, .int (g 15 ((40 * j) + i))), (0, .ref (E.1 7)), (1, .int (nI j)), (2, .int w), (3, .int (nI M)), (6, .int (nI s2.2.1)), (7, .long s2.2.2), (9, .int (nI fr)), (14, .int (nI i))]) cx dX7_plateau_183 (by decide) rfl ?_
                                refine jr_iload cx dX7_plateau_185 12 rfl ?_
                                refine jr_iload cx dX7_plateau_187 11 rfl ?_
                                refine jr_isub cx dX7_plateau_189 ?_
                                refine jr_top (show (nI i : Int32) - (nI fr) = nI (i - fr) from pk_sub (a := i) (b := fr) (by omega)) ?_
                                refine jr_iconst (v := 1) cx dX7_plateau_190 (by decide) ?_
                                refine jr_iadd cx dX7_plateau_191 ?_
                                refine jr_top (show (nI (i - fr) : Int32) + 1 = nI ((i - fr) + 1) from nI_add (i - fr) 1) ?_
                                refine jr_istore (L' := [(6, .int (nI ((i - fr) + 1))), (5, .int (nI fr)), (12, .long (sm + (Int32.toInt64 (g 15 ((40 * j) + i))))), (11, .int hi), (10, .int (g 15 ((40 * j) + i))), (15, .int (g 15 ((40 * j) + i))), (0, .ref (E.1 7)), (1, .int (nI j)), (2, .int w), (3, .int (nI M)), (7, .long s2.2.2), (9, .int (nI fr)), (14, .int (nI i))]) cx dX7_plateau_192 (by decide) rfl ?_
                                refine jr_lload cx dX7_plateau_194 2 rfl ?_
                                refine jr_lstore (L' := [(7, .long (sm + (Int32.toInt64 (g 15 ((40 * j) + i))))), (6, .int (nI ((i - fr) + 1))), (5, .int (nI fr)), (12, .long (sm + (Int32.toInt64 (g 15 ((40 * j) + i))))), (11, .int hi), (10, .int (g 15 ((40 * j) + i))), (15, .int (g 15 ((40 * j) + i))), (0, .ref (E.1 7)), (1, .int (nI j)), (2, .int w), (3, .int (nI M)), (9, .int (nI fr)), (14, .int (nI i))]) cx dX7_plateau_196 (by decide) rfl ?_
                                refine jr_iinc (n := 12) (v := nI (i + 1)) (L' := [(14, .int (nI (i + 1))), (7, .long (sm + (Int32.toInt64 (g 15 ((40 * j) + i))))), (6, .int (nI ((i - fr) + 1))), (5, .int (nI fr)), (12, .long (sm + (Int32.toInt64 (g 15 ((40 * j) + i))))), (11, .int hi), (10, .int (g 15 ((40 * j) + i))), (15, .int (g 15 ((40 * j) + i))), (0, .ref (E.1 7)), (1, .int (nI j)), (2, .int w), (3, .int (nI M)), (9, .int (nI fr))]) cx dX7_plateau_198 rfl (nI_1 _) (by decide) rfl ?_
                                refine jr_goto (tgt := 78) cx dX7_plateau_201 (by decide) ?_
                                refine jr_pick (L' := [(0, .ref (E.1 7)), (1, .int (nI j)), (2, .int w), (3, .int (nI M)), (5, .int (nI fr)), (6, .int (nI ((i - fr) + 1))), (7, .long (sm + (Int32.toInt64 (g 15 ((40 * j) + i))))), (9, .int (nI fr)), (10, .int (g 15 ((40 * j) + i))), (11, .int hi), (12, .long (sm + (Int32.toInt64 (g 15 ((40 * j) + i))))), (14, .int (nI (i + 1)))]) [8, 9, 10, 11, 3, 2, 1, 12, 6, 5, 4, 0] rfl ?_
                                have e5 : (nI fr : Int32) = (((nI fr, i - fr + 1, sm + Int32.toInt64 (g 15 (40 * j + i))) : plT).1) := by rfl
                                have e6 : (nI ((i - fr) + 1) : Int32) = (nI (((nI fr, i - fr + 1, sm + Int32.toInt64 (g 15 (40 * j + i))) : plT).2.1)) := by rfl
                                have e7 : (sm + (Int32.toInt64 (g 15 ((40 * j) + i))) : Int64) = (((nI fr, i - fr + 1, sm + Int32.toInt64 (g 15 (40 * j + i))) : plT).2.2) := by rfl
                                have e10 : (g 15 ((40 * j) + i) : Int32) = (g 15 ((40 * j) + i)) := by rfl
                                have e12 : (sm + (Int32.toInt64 (g 15 ((40 * j) + i))) : Int64) = (sm + (Int32.toInt64 (g 15 ((40 * j) + i)))) := by rfl
                                refine jr_loc (lc_n (lc_n (lc_n (lc_n (lc_i e5 (lc_i e6 (lc_l e7 (lc_n (lc_i e10 (lc_n (lc_l e12 (lc_n rfl)))))))))))) ?_
                                exact ih2 (i + 1) (g 15 ((40 * j) + i)) hi (sm + (Int32.toInt64 (g 15 ((40 * j) + i)))) ((nI fr, i - fr + 1, sm + Int32.toInt64 (g 15 (40 * j + i))) : plT) (by omega) (by omega) (by omega) (by rw [← h4, show n - i = (n - (i + 1)) + 1 by omega, plI_s (f := (fun q => g 15 (40 * j + q))) c103]; simp only [if_neg c124, if_pos c140]; rw [if_pos ⟨c166, n178⟩]) (by show i - fr + 1 ≤ 40; omega)
                          · refine jr_iload cx dX7_plateau_143 1 rfl ?_
                            refine jr_goto (tgt := 150) cx dX7_plateau_145 (by decide) ?_
                            refine jr_istore (L' := [(11, .int (g 15 ((40 * j) + i))), (10, .int (g 15 ((40 * j) + i))), (15, .int (g 15 ((40 * j) + i))), (0, .ref (E.1 7)), (1, .int (nI j)), (2, .int w), (3, .int (nI M)), (5, .int s2.1), (6, .int (nI s2.2.1)), (7, .long s2.2.2), (9, .int (nI fr)), (12, .long sm), (14, .int (nI i))]) cx dX7_plateau_150 (by decide) rfl ?_
                            refine jr_lload cx dX7_plateau_152 11 rfl ?_
                            refine jr_iload cx dX7_plateau_154 2 rfl ?_
                            refine jr_i2l cx dX7_plateau_156 ?_
                            refine jr_ladd cx dX7_plateau_157 ?_
                            refine jr_lstore (L' := [(12, .long (sm + (Int32.toInt64 (g 15 ((40 * j) + i))))), (11, .int (g 15 ((40 * j) + i))), (10, .int (g 15 ((40 * j) + i))), (15, .int (g 15 ((40 * j) + i))), (0, .ref (E.1 7)), (1, .int (nI j)), (2, .int w), (3, .int (nI M)), (5, .int s2.1), (6, .int (nI s2.2.1)), (7, .long s2.2.2), (9, .int (nI fr)), (14, .int (nI i))]) cx dX7_plateau_158 (by decide) rfl ?_
                            refine jr_iload cx dX7_plateau_160 1 rfl ?_
                            refine jr_iload cx dX7_plateau_162 2 rfl ?_
                            refine jr_isub cx dX7_plateau_164 ?_
                            refine jr_iload_n cx dX7_plateau_165 6 rfl rfl ?_
                            refine jr_icmp_gt (tgt := 198) cx dX7_plateau_166 (by decide) (fun c166 => ?_) (fun c166 => ?_)
                            · refine jr_iinc (n := 12) (v := nI (i + 1)) (L' := [(14, .int (nI (i + 1))), (12, .long (sm + (Int32.toInt64 (g 15 ((40 * j) + i))))), (11, .int (g 15 ((40 * j) + i))), (10, .int (g 15 ((40 * j) + i))), (15, .int (g 15 ((40 * j) + i))), (0, .ref (E.1 7)), (1, .int (nI j)), (2, .int w), (3, .int (nI M)), (5, .int s2.1), (6, .int (nI s2.2.1)), (7, .long s2.2.2), (9, .int (nI fr))]) cx dX7_plateau_198 rfl (nI_1 _) (by decide) rfl ?_
                              refine jr_goto (tgt := 78) cx dX7_plateau_201 (by decide) ?_
                              refine jr_pick (L' := [(0, .ref (E.1 7)), (1, .int (nI j)), (2, .int w), (3, .int (nI M)), (5, .int s2.1), (6, .int (nI s2.2.1)), (7, .long s2.2.2), (9, .int (nI fr)), (10, .int (g 15 ((40 * j) + i))), (11, .int (g 15 ((40 * j) + i))), (12, .long (sm + (Int32.toInt64 (g 15 ((40 * j) + i))))), (14, .int (nI (i + 1)))]) [5, 6, 7, 8, 9, 10, 11, 12, 3, 2, 1, 0] rfl ?_
                              have e10 : (g 15 ((40 * j) + i) : Int32) = (g 15 ((40 * j) + i)) := by rfl
                              have e11 : (g 15 ((40 * j) + i) : Int32) = (g 15 ((40 * j) + i)) := by rfl
                              have e12 : (sm + (Int32.toInt64 (g 15 ((40 * j) + i))) : Int64) = (sm + (Int32.toInt64 (g 15 ((40 * j) + i)))) := by rfl
                              refine jr_loc (lc_n (lc_n (lc_n (lc_n (lc_n (lc_n (lc_n (lc_n (lc_i e10 (lc_i e11 (lc_l e12 (lc_n rfl)))))))))))) ?_
                              exact ih2 (i + 1) (g 15 ((40 * j) + i)) (g 15 ((40 * j) + i)) (sm + (Int32.toInt64 (g 15 ((40 * j) + i)))) s2 (by omega) (by omega) (by omega) (by rw [← h4, show n - i = (n - (i + 1)) + 1 by omega, plI_s (f := (fun q => g 15 (40 * j + q))) c103]; simp only [if_neg c124, if_neg c140]; rw [if_neg (fun q => q.1 c166)]) h4b
                            · refine jr_iload cx dX7_plateau_169 12 rfl ?_
                              refine jr_iload cx dX7_plateau_171 11 rfl ?_
                              refine jr_isub cx dX7_plateau_173 ?_
                              refine jr_top (show (nI i : Int32) - (nI fr) = nI (i - fr) from pk_sub (a := i) (b := fr) (by omega)) ?_
                              refine jr_iconst (v := 1) cx dX7_plateau_174 (by decide) ?_
                              refine jr_iadd cx dX7_plateau_175 ?_
                              refine jr_top (show (nI (i - fr) : Int32) + 1 = nI ((i - fr) + 1) from nI_add (i - fr) 1) ?_
                              refine jr_iload cx dX7_plateau_176 9 rfl ?_
                              refine jr_icmp_le (tgt := 198) cx dX7_plateau_178 (by decide) (fun c178 => ?_) (fun c178 => ?_)
                              · have n178 : (i - fr) + 1 ≤ s2.2.1 := (nI_leI (a := (i - fr) + 1) (b := s2.2.1) (by omega) (by omega)).mp c178
                                refine jr_iinc (n := 12) (v := nI (i + 1)) (L' := [(14, .int (nI (i + 1))), (12, .long (sm + (Int32.toInt64 (g 15 ((40 * j) + i))))), (11, .int (g 15 ((40 * j) + i))), (10, .int (g 15 ((40 * j) + i))), (15, .int (g 15 ((40 * j) + i))), (0, .ref (E.1 7)), (1, .int (nI j)), (2, .int w), (3, .int (nI M)), (5, .int s2.1), (6, .int (nI s2.2.1)), (7, .long s2.2.2), (9, .int (nI fr))]) cx dX7_plateau_198 rfl (nI_1 _) (by decide) rfl ?_
                                refine jr_goto (tgt := 78) cx dX7_plateau_201 (by decide) ?_
                                refine jr_pick (L' := [(0, .ref (E.1 7)), (1, .int (nI j)), (2, .int w), (3, .int (nI M)), (5, .int s2.1), (6, .int (nI s2.2.1)), (7, .long s2.2.2), (9, .int (nI fr)), (10, .int (g 15 ((40 * j) + i))), (11, .int (g 15 ((40 * j) + i))), (12, .long (sm + (Int32.toInt64 (g 15 ((40 * j) + i))))), (14, .int (nI (i + 1)))]) [5, 6, 7, 8, 9, 10, 11, 12, 3, 2, 1, 0] rfl ?_
                                have e10 : (g 15 ((40 * j) + i) : Int32) = (g 15 ((40 * j) + i)) := by rfl
                                have e11 : (g 15 ((40 * j) + i) : Int32) = (g 15 ((40 * j) + i)) := by rfl
                                have e12 : (sm + (Int32.toInt64 (g 15 ((40 * j) + i))) : Int64) = (sm + (Int32.toInt64 (g 15 ((40 * j) + i)))) := by rfl
                                refine jr_loc (lc_n (lc_n (lc_n (lc_n (lc_n (lc_n (lc_n (lc_n (lc_i e10 (lc_i e11 (lc_l e12 (lc_n rfl)))))))))))) ?_
                                exact ih2 (i + 1) (g 15 ((40 * j) + i)) (g 15 ((40 * j) + i)) (sm + (Int32.toInt64 (g 15 ((40 * j) + i)))) s2 (by omega) (by omega) (by omega) (by rw [← h4, show n - i = (n - (i + 1)) + 1 by omega, plI_s (f := (fun q => g 15 (40 * j + q))) c103]; simp only [if_neg c124, if_neg c140]; rw [if_neg (fun q => q.2 n178)]) h4b
                              · have n178 : ¬ ((i - fr) + 1 ≤ s2.2.1) := fun qq9 => c178 ((nI_leI (a := (i - fr) + 1) (b := s2.2.1) (by omega) (by omega)).mpr qq9)
                                refine jr_iload cx dX7_plateau_181 11 rfl ?_
                                refine jr_istore (L' := [(5, .int (nI fr)), (12, .long (sm + (Int32.toInt64 (g 15 ((40 * j) + i))))), (11, .int (g 15 ((40 * j) + i))), (10, .int (g 15 ((40 * j) + i))), (15, .int (g 15 ((40 * j) + i))), (0, .ref (E.1 7)), (1, .int (nI j)), (2, .int w), (3, .int (nI M)), (6, .int (nI s2.2.1)), (7, .long s2.2.2), (9, .int (nI fr)), (14, .int (nI i))]) cx dX7_plateau_183 (by decide) rfl ?_
                                refine jr_iload cx dX7_plateau_185 12 rfl ?_
                                refine jr_iload cx dX7_plateau_187 11 rfl ?_
                                refine jr_isub cx dX7_plateau_189 ?_
                                refine jr_top (show (nI i : Int32) - (nI fr) = nI (i - fr) from pk_sub (a := i) (b := fr) (by omega)) ?_
                                refine jr_iconst (v := 1) cx dX7_plateau_190 (by decide) ?_
                                refine jr_iadd cx dX7_plateau_191 ?_
                                refine jr_top (show (nI (i - fr) : Int32) + 1 = nI ((i - fr) + 1) from nI_add (i - fr) 1) ?_
                                refine jr_istore (L' := [(6, .int (nI ((i - fr) + 1))), (5, .int (nI fr)), (12, .long (sm + (Int32.toInt64 (g 15 ((40 * j) + i))))), (11, .int (g 15 ((40 * j) + i))), (10, .int (g 15 ((40 * j) + i))), (15, .int (g 15 ((40 * j) + i))), (0, .ref (E.1 7)), (1, .int (nI j)), (2, .int w), (3, .int (nI M)), (7, .long s2.2.2), (9, .int (nI fr)), (14, .int (nI i))]) cx dX7_plateau_192 (by decide) rfl ?_
                                refine jr_lload cx dX7_plateau_194 2 rfl ?_
                                refine jr_lstore (L' := [(7, .long (sm + (Int32.toInt64 (g 15 ((40 * j) + i))))), (6, .int (nI ((i - fr) + 1))), (5, .int (nI fr)), (12, .long (sm + (Int32.toInt64 (g 15 ((40 * j) + i))))), (11, .int (g 15 ((40 * j) + i))), (10, .int (g 15 ((40 * j) + i))), (15, .int (g 15 ((40 * j) + i))), (0, .ref (E.1 7)), (1, .int (nI j)), (2, .int w), (3, .int (nI M)), (9, .int (nI fr)), (14, .int (nI i))]) cx dX7_plateau_196 (by decide) rfl ?_
                                refine jr_iinc (n := 12) (v := nI (i + 1)) (L' := [(14, .int (nI (i + 1))), (7, .long (sm + (Int32.toInt64 (g 15 ((40 * j) + i))))), (6, .int (nI ((i - fr) + 1))), (5, .int (nI fr)), (12, .long (sm + (Int32.toInt64 (g 15 ((40 * j) + i))))), (11, .int (g 15 ((40 * j) + i))), (10, .int (g 15 ((40 * j) + i))), (15, .int (g 15 ((40 * j) + i))), (0, .ref (E.1 7)), (1, .int (nI j)), (2, .int w), (3, .int (nI M)), (9, .int (nI fr))]) cx dX7_plateau_198 rfl (nI_1 _) (by decide) rfl ?_
                                refine jr_goto (tgt := 78) cx dX7_plateau_201 (by decide) ?_
                                refine jr_pick (L' := [(0, .ref (E.1 7)), (1, .int (nI j)), (2, .int w), (3, .int (nI M)), (5, .int (nI fr)), (6, .int (nI ((i - fr) + 1))), (7, .long (sm + (Int32.toInt64 (g 15 ((40 * j) + i))))), (9, .int (nI fr)), (10, .int (g 15 ((40 * j) + i))), (11, .int (g 15 ((40 * j) + i))), (12, .long (sm + (Int32.toInt64 (g 15 ((40 * j) + i))))), (14, .int (nI (i + 1)))]) [8, 9, 10, 11, 3, 2, 1, 12, 6, 5, 4, 0] rfl ?_
                                have e5 : (nI fr : Int32) = (((nI fr, i - fr + 1, sm + Int32.toInt64 (g 15 (40 * j + i))) : plT).1) := by rfl
                                have e6 : (nI ((i - fr) + 1) : Int32) = (nI (((nI fr, i - fr + 1, sm + Int32.toInt64 (g 15 (40 * j + i))) : plT).2.1)) := by rfl
                                have e7 : (sm + (Int32.toInt64 (g 15 ((40 * j) + i))) : Int64) = (((nI fr, i - fr + 1, sm + Int32.toInt64 (g 15 (40 * j + i))) : plT).2.2) := by rfl
                                have e10 : (g 15 ((40 * j) + i) : Int32) = (g 15 ((40 * j) + i)) := by rfl
                                have e11 : (g 15 ((40 * j) + i) : Int32) = (g 15 ((40 * j) + i)) := by rfl
                                have e12 : (sm + (Int32.toInt64 (g 15 ((40 * j) + i))) : Int64) = (sm + (Int32.toInt64 (g 15 ((40 * j) + i)))) := by rfl
                                refine jr_loc (lc_n (lc_n (lc_n (lc_n (lc_i e5 (lc_i e6 (lc_l e7 (lc_n (lc_i e10 (lc_i e11 (lc_l e12 (lc_n rfl)))))))))))) ?_
                                exact ih2 (i + 1) (g 15 ((40 * j) + i)) (g 15 ((40 * j) + i)) (sm + (Int32.toInt64 (g 15 ((40 * j) + i)))) ((nI fr, i - fr + 1, sm + Int32.toInt64 (g 15 (40 * j + i))) : plT) (by omega) (by omega) (by omega) (by rw [← h4, show n - i = (n - (i + 1)) + 1 by omega, plI_s (f := (fun q => g 15 (40 * j + q))) c103]; simp only [if_neg c124, if_neg c140]; rw [if_pos ⟨c166, n178⟩]) (by show i - fr + 1 ≤ 40; omega)
                refine jr_pick (L' := [(0, .ref (E.1 7)), (1, .int (nI j)), (2, .int w), (3, .int (nI M)), (5, .int s.1), (6, .int (nI s.2.1)), (7, .long s.2.2), (9, .int (nI fr)), (10, .int 100000), (11, .int (-100000)), (12, .long 0), (14, .int (nI fr))]) [4, 5, 6, 7, 8, 9, 10, 11, 3, 2, 1, 0] rfl ?_
                exact key2 (n + 1) fr 100000 (-100000) 0 s (by omega) (by omega) (Nat.le_refl _) rfl h2b
          refine jr_pick (L' := [(0, .ref (E.1 7)), (1, .int (nI j)), (2, .int w), (3, .int (nI M)), (5, .int (-9)), (6, .int (nI (M - 1))), (7, .long 0), (9, .int 0)]) [5, 6, 7, 8, 3, 2, 1, 0] rfl ?_
          have e5 : ((-9) : Int32) = (((-9, M - 1, 0) : plT).1) := by rfl
          have e6 : (nI (M - 1) : Int32) = (nI (((-9, M - 1, 0) : plT).2.1)) := by rfl
          have e7 : (0 : Int64) = (((-9, M - 1, 0) : plT).2.2) := by rfl
          have e9 : (0 : Int32) = (nI 0) := by rfl
          refine jr_loc (lc_n (lc_n (lc_n (lc_n (lc_i e5 (lc_i e6 (lc_l e7 (lc_i e9 rfl)))))))) ?_
          exact key1 (n + 1) 0 ((-9, M - 1, 0) : plT) (by omega) (by omega) (by rw [hT, Nat.sub_zero]) (by show M - 1 ≤ 40; omega)
      · refine jr_vi [.int r] 1 cx dX7_plateau_24 (c_X7_looked_bad E g h r hr) (by decide) rfl rfl gX7_plateau_X7_looked rfl (by decide +kernel) ⟨Nat.le_of_ble_eq_true rfl, Nat.le_of_ble_eq_true rfl⟩ rfl rfl (Nat.le_of_ble_eq_true rfl) ?_
        refine jr_istore (L' := [(4, .int (-1)), (0, .ref (E.1 7)), (1, .int r), (2, .int w), (3, .int (nI M))]) cx dX7_plateau_27 (by decide) rfl ?_
        refine jr_iload cx dX7_plateau_29 0 rfl ?_
        refine jr_if_ge (tgt := 37) cx dX7_plateau_31 (by decide) (fun c31 => absurd c31 (by decide)) (fun c31 => ?_)
        refine jr_iload cx dX7_plateau_34 0 rfl ?_
        exact jr_ri (by simp only [dPl, ite_self, if_pos c7, if_pos c17, if_neg hr]; try rfl) (by simp only [dPl, ite_self, if_pos c7, if_pos c17, if_neg hr]; try rfl) (by simp only [dPl, ite_self, if_pos c7, if_pos c17, if_neg hr]; try rfl) (hR 36 _ dX7_plateau_36)
    · refine jr_iconst (v := (-1)) cx dX7_plateau_20 (by decide) ?_
      exact jr_ri (by simp only [dPl, ite_self, if_pos c7, if_neg c17]; try rfl) (by simp only [dPl, ite_self, if_pos c7, if_neg c17]; try rfl) (by simp only [dPl, ite_self, if_pos c7, if_neg c17]; try rfl) (hR 21 _ dX7_plateau_21)
