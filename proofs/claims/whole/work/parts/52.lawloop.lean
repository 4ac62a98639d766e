/-! The law's loop over the script, its start, and the claim. -/
set_option maxHeartbeats 4000000 in
set_option maxRecDepth 100000 in
theorem lp_law {X : XT} {cI cJ cD : ClassId} {b L : Nat} {xs : Nat → Int32} (cx : LCx X cI cJ cD b L xs) {adA adM : Nat → Nat} {aL aD : Nat} (fin : ∀ (k z : Nat) (ws : va_W) (lc : List (Nat × Value)), k ≤ 601024 → z ≤ 7293034 → V X k z ws 1100 lc []) : ∀ (m j n : Nat) (wA wM : va_W) (th0 : Int32) (fL : Nat → Int64) (fD : Nat → UInt64), L + 6 - 6 * j < m → n ≤ j → 6 * j ≤ L + 5 → InvW cI adA adM n wA wM th0 → V X (300 + 6 * j) (8000 + 36 * j) (LW cJ cD aL fL wA aD fD wM) 28 (lcL b (adA 0) (adM 0) aL aD (nI (6 * j))) [] := by
  intro m
  induction m with
  | zero => intro j n wA wM th0 fL fD h; omega
  | succ m ih =>
    intro j n wA wM th0 fL fD hm hnj hjL hI
    obtain ⟨o, xo, xl, sc, hX8, hT0, hT1, hT2, hc9, hz9, hL9⟩ := id cx
    refine V_iload (pc := 28) o dL_law_28 rfl ?_
    refine V_aload_n (pc := 30) o dL_law_30 rfl ?_
    refine V_slen (pc := 31) o sc dL_law_31 ?_
    refine V_bipush (pc := 32) o (nI 6) dL_law_32 (by decide) ?_
    refine V_isub (pc := 34) o dL_law_34 ?_
    refine V_icmp_gt (pc := 35) o 1100 dL_law_35 (by decide) (fun _ => fin _ _ _ _ (by omega) (by omega)) (fun h => ?_)
    have h6 : 6 * j + 6 ≤ L := by
      rcases Nat.lt_or_ge L (6 * j + 6) with q | q
      · exfalso
        apply h
        by_cases c : 6 ≤ L
        · rw [pk_sub c]
          exact nI_lt (by omega) (by omega)
        · exact Int32.lt_of_lt_of_le (pk_sneg (by omega) (by omega)) (nI_pos' (by omega))
      · exact q
    have kk2 : ∀ (n2 : Nat) (wA2 wM2 : va_W) (t2 : Int32) (fL2 : Nat → Int64) (fD2 : Nat → UInt64), n2 ≤ n + 1 → InvW cI adA adM n2 wA2 wM2 t2 → V X (300 + 6 * j + 6) (8000 + 36 * j + 36) (LW cJ cD aL fL2 wA2 aD fD2 wM2) 1094 (lcL b (adA 0) (adM 0) aL aD (nI (6 * j))) [] := by
      intro n2 wA2 wM2 t2 fL2 fD2 hn2 hI2
      refine V_iincN (pc := 1094) o (6 * j) 6 rfl dL_law_1094 (by rw [hX8]; decide) rfl (by decide) ?_
      refine V_goto (pc := 1097) o 28 dL_law_1097 (by decide) ?_
      rw [show 300 + 6 * j + 6 = 300 + 6 * (j + 1) by omega, show 8000 + 36 * j + 36 = 8000 + 36 * (j + 1) by omega, show 6 * j + 6 = 6 * (j + 1) by omega]
      exact V_sub (lc2 := lcL b (adA 0) (adM 0) aL aD (nI (6 * (j + 1)))) ⟨rfl, rfl, rfl, rfl, rfl, rfl, trivial⟩ (ih (j + 1) n2 wA2 wM2 t2 fL2 fD2 (by omega) (by omega) (by omega) hI2)
    have hn : n < 512 := by omega
    have hk : 300 + 6 * j + 6 ≤ 601024 ∧ 8000 + 36 * j + 36 ≤ 7293034 := ⟨by omega, by omega⟩
    refine V_aload_n (pc := 38) o dL_law_38 rfl ?_
    refine V_iload (pc := 39) o dL_law_39 rfl ?_
    refine V_sld (pc := 41) o sc (6 * j) rfl (by omega) (by omega) dL_law_41 ?_
    refine V_bipush (pc := 42) o 15 dL_law_42 (by decide) ?_
    refine V_iand (pc := 44) o dL_law_44 ?_
    obtain ⟨v, hv, ev⟩ := pk_andE (xs (6 * j)) (m := 15) 4 (by decide)
    rw [ev]
    rcases (show v = 0 ∨ v = 1 ∨ v = 2 ∨ v = 3 ∨ v = 4 ∨ v = 5 ∨ v = 6 ∨ v = 7 ∨ v = 8 ∨ v = 9 ∨ v = 10 ∨ v = 11 ∨ v = 12 ∨ v = 13 ∨ v = 14 ∨ v = 15 by omega) with rfl | rfl | rfl | rfl | rfl | rfl | rfl | rfl | rfl | rfl | rfl | rfl | rfl | rfl | rfl | rfl
    · refine V_tableIn (pc := 45) (off := 75) o 120 dL_law_45 (by decide) (by decide) (by decide +kernel) (by decide) ?_
      exact lc_version cx hI hn h6 hk kk2
    · refine V_tableIn (pc := 45) (off := 143) o 188 dL_law_45 (by decide) (by decide) (by decide +kernel) (by decide) ?_
      exact lc_need cx hI hn h6 hk kk2
    · refine V_tableIn (pc := 45) (off := 247) o 292 dL_law_45 (by decide) (by decide) (by decide +kernel) (by decide) ?_
      exact lc_replace cx hI hn h6 hk kk2
    · refine V_tableIn (pc := 45) (off := 315) o 360 dL_law_45 (by decide) (by decide) (by decide +kernel) (by decide) ?_
      exact lc_request cx hI hn h6 hk kk2
    · refine V_tableIn (pc := 45) (off := 395) o 440 dL_law_45 (by decide) (by decide) (by decide +kernel) (by decide) ?_
      exact lc_resolve cx hI hn h6 hk kk2
    · refine V_tableIn (pc := 45) (off := 451) o 496 dL_law_45 (by decide) (by decide) (by decide +kernel) (by decide) ?_
      exact lc_chosen cx hI hn h6 hk kk2
    · refine V_tableIn (pc := 45) (off := 519) o 564 dL_law_45 (by decide) (by decide) (by decide +kernel) (by decide) ?_
      exact lc_limit cx hI hn h6 hk kk2
    · refine V_tableIn (pc := 45) (off := 587) o 632 dL_law_45 (by decide) (by decide) (by decide +kernel) (by decide) ?_
      exact lc_leave cx hI hn h6 hk kk2
    · refine V_tableIn (pc := 45) (off := 667) o 712 dL_law_45 (by decide) (by decide) (by decide +kernel) (by decide) ?_
      exact lc_approve cx hI hn h6 hk kk2
    · refine V_tableIn (pc := 45) (off := 735) o 780 dL_law_45 (by decide) (by decide) (by decide +kernel) (by decide) ?_
      exact lc_release cx hI hn h6 hk kk2
    · refine V_tableIn (pc := 45) (off := 771) o 816 dL_law_45 (by decide) (by decide) (by decide +kernel) (by decide) ?_
      exact lc_pass cx hI hn h6 hk kk2
    · refine V_tableIn (pc := 45) (off := 827) o 872 dL_law_45 (by decide) (by decide) (by decide +kernel) (by decide) ?_
      exact lc_ofRequest cx hI hn h6 hk kk2
    · refine V_tableIn (pc := 45) (off := 895) o 940 dL_law_45 (by decide) (by decide) (by decide +kernel) (by decide) ?_
      exact lc_isCoveredAnew cx hI hn h6 hk kk2
    · refine V_tableIn (pc := 45) (off := 958) o 1003 dL_law_45 (by decide) (by decide) (by decide +kernel) (by decide) ?_
      exact lc_strain cx hI hn h6 hk kk2
    · refine V_tableIn (pc := 45) (off := 1036) o 1081 dL_law_45 (by decide) (by decide) (by decide +kernel) (by decide) ?_
      exact lc_entries cx hI hn hk kk2
    · refine V_tableOut (pc := 45) o 1094 dL_law_45 (Or.inr (by decide)) (by decide) ?_
      exact V_widen (by omega) (by omega) (kk2 n wA wM th0 fL fD (Nat.le_succ _) hI)
