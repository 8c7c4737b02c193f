theorem lw_six {N i : Nat} (hN : N ≤ 3584) (hi : i ≤ 4000) (c : ¬ nI N - 7 < nI i) : i + 7 ≤ N := by
  by_cases h7 : 7 ≤ N
  · rw [show nI N - 7 = nI (N - 7) by rw [show nI N = nI (N - 7) + 7 by rw [show (7 : Int32) = nI 7 from rfl, nI_add]; congr 1; omega]; exact Int32.add_sub_cancel _ _] at c
    rw [nI_ltI (by omega) (by omega)] at c
    omega
  · refine absurd ?_ c
    rw [fa_lt, nI_toInt (show i < 2 ^ 31 by omega)]
    have e : (nI N - 7).toInt < 0 := by
      rcases (show N = 0 ∨ N = 1 ∨ N = 2 ∨ N = 3 ∨ N = 4 ∨ N = 5 ∨ N = 6 by omega) with rfl | rfl | rfl | rfl | rfl | rfl | rfl <;> decide +kernel
    omega
theorem lw_63 (x : Int32) : ∃ m : Nat, m < 64 ∧ x &&& 63 = nI m := by
  refine ⟨x.toBitVec.toNat % 64, Nat.mod_lt _ (by decide), ?_⟩
  have e : x = nI x.toBitVec.toNat := Int32.toBitVec_inj.mp (by show _ = BitVec.ofNat 32 _; simp)
  exact (congrArg (fun y : Int32 => y &&& 63) e).trans (fa_mask x.toBitVec.toNat 6)
theorem lw_case (E : mm_E) (X : mm_X) (g : mm_I) (h : mm_L) (b N i : Nat) (xs : Nat → Int32) (cx : Cx E X cL_law RL wsL_law 4 7 286) (sx : SX X b N xs) (hN : N ≤ 3584) (hi : i + 7 ≤ N) (R : Rl g h) (K : ∀ g2 h2, Rl g2 h2 → JJ E X g2 h2 1339 (LL E b i) []) {m : Nat} (hm : m < 64) : JJ E X g h 33 (LL E b i) [.int (nI m)] := by
  have t := nI_toInt (n := m) (by omega)
  rcases (show m = 0 ∨ m = 1 ∨ m = 2 ∨ m = 3 ∨ m = 4 ∨ m = 5 ∨ m = 6 ∨ m = 7 ∨ m = 8 ∨ m = 9 ∨ m = 10 ∨ m = 11 ∨ m = 12 ∨ m = 13 ∨ m = 14 ∨ m = 15 ∨ m = 16 ∨ m = 17 ∨ m = 18 ∨ m = 19 ∨ m = 20 ∨ m = 21 ∨ m = 22 ∨ m = 23 ∨ m = 24 ∨ m = 25 ∨ m = 26 ∨ m = 27 ∨ m = 28 ∨ m = 29 ∨ m = 30 ∨ m = 31 ∨ m = 32 ∨ m = 33 ∨ m = 34 ∨ 35 ≤ m by omega) with rfl | rfl | rfl | rfl | rfl | rfl | rfl | rfl | rfl | rfl | rfl | rfl | rfl | rfl | rfl | rfl | rfl | rfl | rfl | rfl | rfl | rfl | rfl | rfl | rfl | rfl | rfl | rfl | rfl | rfl | rfl | rfl | rfl | rfl | rfl | hm2
  · exact jr_tableIn (off := 155) (tgt := 188) cx dL_law_33 (by decide +kernel) (by decide +kernel) (by rfl) (by decide) (lc_row E X g h b N i xs cx sx hN hi R K)
  · exact jr_tableIn (off := 188) (tgt := 221) cx dL_law_33 (by decide +kernel) (by decide +kernel) (by rfl) (by decide) (lc_lay E X g h b N i xs cx sx hN hi R K)
  · exact jr_tableIn (off := 231) (tgt := 264) cx dL_law_33 (by decide +kernel) (by decide +kernel) (by rfl) (by decide) (lc_tear E X g h b N i xs cx sx hN hi R K)
  · exact jr_tableIn (off := 254) (tgt := 287) cx dL_law_33 (by decide +kernel) (by decide +kernel) (by rfl) (by decide) (lc_copy E X g h b N i xs cx sx hN hi R K)
  · exact jr_tableIn (off := 317) (tgt := 350) cx dL_law_33 (by decide +kernel) (by decide +kernel) (by rfl) (by decide) (lc_mean E X g h b N i xs cx sx hN hi R K)
  · exact jr_tableIn (off := 340) (tgt := 373) cx dL_law_33 (by decide +kernel) (by decide +kernel) (by rfl) (by decide) (lc_plateau E X g h b N i xs cx sx hN hi R K)
  · exact jr_tableIn (off := 383) (tgt := 416) cx dL_law_33 (by decide +kernel) (by decide +kernel) (by rfl) (by decide) (lc_point E X g h b N i xs cx sx hN hi R K)
  · exact jr_tableIn (off := 426) (tgt := 459) cx dL_law_33 (by decide +kernel) (by decide +kernel) (by rfl) (by decide) (lc_clear E X g h b N i xs cx sx hN hi R K)
  · exact jr_tableIn (off := 449) (tgt := 482) cx dL_law_33 (by decide +kernel) (by decide +kernel) (by rfl) (by decide) (lc_curve E X g h b N i xs cx sx hN hi R K)
  · exact jr_tableIn (off := 482) (tgt := 515) cx dL_law_33 (by decide +kernel) (by decide +kernel) (by rfl) (by decide) (lc_apart E X g h b N i xs cx sx hN hi R K)
  · exact jr_tableIn (off := 535) (tgt := 568) cx dL_law_33 (by decide +kernel) (by decide +kernel) (by rfl) (by decide) (lc_bulb E X g h b N i xs cx sx hN hi R K)
  · exact jr_tableIn (off := 568) (tgt := 601) cx dL_law_33 (by decide +kernel) (by decide +kernel) (by rfl) (by decide) (lc_told E X g h b N i xs cx sx hN hi R K)
  · exact jr_tableIn (off := 601) (tgt := 634) cx dL_law_33 (by decide +kernel) (by decide +kernel) (by rfl) (by decide) (lc_mark E X g h b N i xs cx sx hN hi R K)
  · exact jr_tableIn (off := 634) (tgt := 667) cx dL_law_33 (by decide +kernel) (by decide +kernel) (by rfl) (by decide) (lc_stem E X g h b N i xs cx sx hN hi R K)
  · exact jr_tableIn (off := 697) (tgt := 730) cx dL_law_33 (by decide +kernel) (by decide +kernel) (by rfl) (by decide) (lc_currents E X g h b N i xs cx sx hN hi R K)
  · exact jr_tableIn (off := 760) (tgt := 793) cx dL_law_33 (by decide +kernel) (by decide +kernel) (by rfl) (by decide) (lc_compare E X g h b N i xs cx sx hN hi R K)
  · exact jr_tableIn (off := 793) (tgt := 826) cx dL_law_33 (by decide +kernel) (by decide +kernel) (by rfl) (by decide) (lc_certify E X g h b N i xs cx sx hN hi R K)
  · exact jr_tableIn (off := 868) (tgt := 901) cx dL_law_33 (by decide +kernel) (by decide +kernel) (by rfl) (by decide) (lc_certificate E X g h b N i xs cx sx hN hi R K)
  · exact jr_tableIn (off := 901) (tgt := 934) cx dL_law_33 (by decide +kernel) (by decide +kernel) (by rfl) (by decide) (lc_offset E X g h b N i xs cx sx hN hi R K)
  · exact jr_tableIn (off := 924) (tgt := 957) cx dL_law_33 (by decide +kernel) (by decide +kernel) (by rfl) (by decide) (lc_wrong E X g h b N i xs cx sx hN hi R K)
  · exact jr_tableIn (off := 967) (tgt := 1000) cx dL_law_33 (by decide +kernel) (by decide +kernel) (by rfl) (by decide) (lc_passes E X g h b N i xs cx sx hN hi R K)
  · exact jr_tableIn (off := 990) (tgt := 1023) cx dL_law_33 (by decide +kernel) (by decide +kernel) (by rfl) (by decide) (lc_whole E X g h b N i xs cx sx hN hi R K)
  · exact jr_tableIn (off := 1013) (tgt := 1046) cx dL_law_33 (by decide +kernel) (by decide +kernel) (by rfl) (by decide) (lc_drift E X g h b N i xs cx sx hN hi R K)
  · exact jr_tableIn (off := 1036) (tgt := 1069) cx dL_law_33 (by decide +kernel) (by decide +kernel) (by rfl) (by decide) (lc_due E X g h b N i xs cx sx hN hi R K)
  · exact jr_tableIn (off := 1059) (tgt := 1092) cx dL_law_33 (by decide +kernel) (by decide +kernel) (by rfl) (by decide) (lc_resting E X g h b N i xs cx sx hN hi R K)
  · exact jr_tableIn (off := 1082) (tgt := 1115) cx dL_law_33 (by decide +kernel) (by decide +kernel) (by rfl) (by decide) (lc_lab E X g h b N i xs cx sx hN hi R K)
  · exact jr_tableIn (off := 1135) (tgt := 1168) cx dL_law_33 (by decide +kernel) (by decide +kernel) (by rfl) (by decide) (lc_closes E X g h b N i xs cx sx hN hi R K)
  · exact jr_tableIn (off := 1178) (tgt := 1211) cx dL_law_33 (by decide +kernel) (by decide +kernel) (by rfl) (by decide) (lc_open E X g h b N i xs cx sx hN hi R K)
  · exact jr_tableIn (off := 1191) (tgt := 1224) cx dL_law_33 (by decide +kernel) (by decide +kernel) (by rfl) (by decide) (lc_asked E X g h b N i xs cx sx hN hi R K)
  · exact jr_tableIn (off := 1205) (tgt := 1238) cx dL_law_33 (by decide +kernel) (by decide +kernel) (by rfl) (by decide) (lc_upper E X g h b N i xs cx sx hN hi R K)
  · exact jr_tableIn (off := 1219) (tgt := 1252) cx dL_law_33 (by decide +kernel) (by decide +kernel) (by rfl) (by decide) (lc_lower E X g h b N i xs cx sx hN hi R K)
  · exact jr_tableIn (off := 1233) (tgt := 1266) cx dL_law_33 (by decide +kernel) (by decide +kernel) (by rfl) (by decide) (lc_count E X g h b N i xs cx sx hN hi R K)
  · exact jr_tableIn (off := 1256) (tgt := 1289) cx dL_law_33 (by decide +kernel) (by decide +kernel) (by rfl) (by decide) (lc_finding E X g h b N i xs cx sx hN hi R K)
  · exact jr_tableIn (off := 1269) (tgt := 1302) cx dL_law_33 (by decide +kernel) (by decide +kernel) (by rfl) (by decide) (lc_findings E X g h b N i xs cx sx hN hi R K)
  · exact jr_tableIn (off := 1292) (tgt := 1325) cx dL_law_33 (by decide +kernel) (by decide +kernel) (by rfl) (by decide) (lc_digest E X g h b N i xs cx sx hN hi R K)
  · exact jr_tableOut (tgt := 1339) cx dL_law_33 (by rw [t]; omega) (by decide) (K g h R)
theorem law_loop (E : mm_E) (X : mm_X) (b N : Nat) (xs : Nat → Int32) (cx : Cx E X cL_law RL wsL_law 4 7 286) (sx : SX X b N xs) (hN : N ≤ 3584) (K : ∀ g h L, JJ E X g h 1345 L []) : ∀ (n i : Nat) (g : mm_I) (h : mm_L), i ≤ 4000 → N ≤ i + 7 * n → Rl g h → JJ E X g h 18 (LL E b i) [] := by
  intro n
  induction n with
  | zero =>
    intro i g h hi hn R
    refine jr_iload_n cx dL_law_18 3 rfl rfl ?_
    refine jr_aload_n cx dL_law_19 0 rfl rfl ?_
    refine jr_slen cx sx dL_law_20 ?_
    refine jr_bipush (v := 7) cx dL_law_21 (by decide +kernel) ?_
    refine jr_isub cx dL_law_23 ?_
    refine jr_icmp_gt (tgt := 1345) cx dL_law_24 (by decide) (fun _ => K g h _) (fun c => ?_)
    have := lw_six hN hi c
    omega
  | succ n ih =>
    intro i g h hi hn R
    refine jr_iload_n cx dL_law_18 3 rfl rfl ?_
    refine jr_aload_n cx dL_law_19 0 rfl rfl ?_
    refine jr_slen cx sx dL_law_20 ?_
    refine jr_bipush (v := 7) cx dL_law_21 (by decide +kernel) ?_
    refine jr_isub cx dL_law_23 ?_
    refine jr_icmp_gt (tgt := 1345) cx dL_law_24 (by decide) (fun _ => K g h _) (fun c => ?_)
    have h7 := lw_six hN hi c
    refine jr_aload_n cx dL_law_27 0 rfl rfl ?_
    refine jr_iload_n cx dL_law_28 3 rfl rfl ?_
    refine jr_sld cx sx dL_law_29 rfl (by omega) hN ?_
    refine jr_bipush (v := 63) cx dL_law_30 (by decide +kernel) ?_
    refine jr_iand cx dL_law_32 ?_
    obtain ⟨m, hm, e⟩ := lw_63 (xs i)
    refine jr_top e ?_
    refine lw_case E X g h b N i xs cx sx hN h7 R (fun g2 h2 R2 => ?_) hm
    refine jr_iinc (v := nI (i + 7)) (L' := [(3, .int (nI (i + 7))), (0, .ref b), (1, .ref (E.1 0)), (2, .ref (E.1 7))]) cx dL_law_1339 (n := 3) rfl (by exact nI_add i 7) (by decide) rfl ?_
    refine jr_pick (L' := LL E b (i + 7)) [1, 2, 3, 0] rfl ?_
    exact jr_goto (tgt := 18) cx dL_law_1342 (by decide) (ih (i + 7) g2 h2 (by omega) (by omega) R2)
