/-! resolve, isCoveredAnew, strain -/
theorem hdX8_resolve : yX8_resolve.cls = RX8 ∧ yX8_resolve.cls ≠ "java/lang/invoke/MethodHandle" ∧ yX8_resolve.cls ≠ "java/lang/invoke/VarHandle" ∧ (parseMethodDescriptor yX8_resolve.desc).map (fun d => d.parameters.length) = some 1 := by decide +kernel
theorem hiX8_resolve_X8 : ∀ w ∈ wsX80, w ∈ wsX8_resolve := by decide +kernel
theorem lkX8_resolve_19 : Cond.fieldLink RX8 19 RX8 "desk" "LApprovalyard$Desk;" ∈ wsX8_resolve := by decide +kernel
theorem hiX8_resolve_X2 : ∀ w ∈ wsX20, w ∈ wsX8_resolve := by decide +kernel
theorem lkX8_resolve_97 : Cond.fieldLink RX8 97 RX2 "requests" "LApprovalyard$Requests;" ∈ wsX8_resolve := by decide +kernel
theorem lkX8_resolve_29 : Cond.fieldLink RX8 29 RX8 "search" "LApprovalyard$Search;" ∈ wsX8_resolve := by decide +kernel
theorem lkX8_resolve_44 : Cond.fieldLink RX8 44 RX2 "parts" "LApprovalyard$Parts;" ∈ wsX8_resolve := by decide +kernel
theorem twX8_resolve_3 : ThW 3 wsX8_resolve := by refine ⟨?_, ?_, ?_⟩ <;> decide +kernel
set_option maxHeartbeats 4000000 in
set_option maxRecDepth 100000 in
/-- Approvalyard.resolve  -/
theorem cX8_resolveN_met (l : Launch) (D : va_G) (tys : List (ClassId × FieldType)) (cI : ClassId) (ht : tys[0]? = some (cI, .int)) (ad : Nat → Nat) (B0 : Nat → Int32) (P0 P1 P2 P3 P4 P5 : Nat → Int32) (L0 L1 L2 : Nat → Int32) (dy : Int32) (Q0 Q1 Q2 Q3 Q4 Q5 Q6 : Nat → Int32) (nm : Int32) (P'0 P'1 P'2 P'3 P'4 P'5 : Nat → Int32) (L'0 L'1 L'2 : Nat → Int32) (dy2 : Int32) (Q'0 Q'1 Q'2 Q'3 Q'4 Q'5 Q'6 : Nat → Int32) (nm2 : Int32) (O0 O1 : Nat → Int32) (on : Int32) (oc : Int32) (q : Int32) (n : Nat) (hn9 : n < 512) (hch : (fnF P0 P2 P3 P4 P5 O0 O1 (rat 30 Q1 q) (rat 30 Q2 q)).2.2.2 = 0) : CXi l yX8_resolve wsX8_resolve 14 2 D tys [.ref (ad 0), .int q] (wApp cI ad B0 (nI n) P0 P1 P2 P3 P4 P5 L0 L1 L2 dy Q0 Q1 Q2 Q3 Q4 Q5 Q6 nm (P'0) (P'1) (P'2) (P'3) (P'4) (P'5) (L'0) (L'1) (L'2) dy2 (Q'0) (Q'1) (Q'2) (Q'3) (Q'4) (Q'5) (Q'6) nm2 O0 O1 on oc) (if (if q < 0 then 1 else (if q < nm then 0 else 1)) = 0 then (if ¬ rat 30 Q3 q = 2 then 0 else 3) else if q < 0 then 1 else (if q < nm then 0 else 1)) (-1) (wApp cI ad B0 (nI n) P0 P1 P2 P3 P4 P5 L0 L1 L2 dy Q0 Q1 Q2 Q3 Q4 Q5 Q6 nm (P'0) (P'1) (P'2) (P'3) (P'4) (P'5) (L'0) (L'1) (L'2) dy2 (Q'0) (Q'1) (Q'2) (Q'3) (Q'4) (Q'5) (Q'6) nm2 ((fnF P0 P2 P3 P4 P5 O0 O1 (rat 30 Q1 q) (rat 30 Q2 q)).1) ((fnF P0 P2 P3 P4 P5 O0 O1 (rat 30 Q1 q) (rat 30 Q2 q)).2.1) ((fnF P0 P2 P3 P4 P5 O0 O1 (rat 30 Q1 q) (rat 30 Q2 q)).2.2.1) ((fnF P0 P2 P3 P4 P5 O0 O1 (rat 30 Q1 q) (rat 30 Q2 q)).2.2.2)) := by
  have hb9 : nI n < 512 := nI_lt (b := 512) (by omega) (by decide)
  refine CXi_of (maxL := 3) (cc := cX8_resolve) (y := yX8_resolve) rfl rfl (Nat.le_of_ble_eq_true rfl) rfl (by decide) (fun X hl hD hk hn hcz hsz o xo fin out thr => ?_)
  subst hl; subst hD; subst hk
  refine V_aload_n (pc := 0) o dX8_resolve_0 rfl ?_
  refine V_iload_n (pc := 1) o dX8_resolve_1 rfl ?_
  refine V_xVv (pc := 2) o xo (cX8_checkRequest_met _ _ _ cI ht ad B0 (nI n) P0 P1 P2 P3 P4 P5 L0 L1 L2 dy Q0 Q1 Q2 Q3 Q4 Q5 Q6 nm (P'0) (P'1) (P'2) (P'3) (P'4) (P'5) (L'0) (L'1) (L'2) dy2 (Q'0) (Q'1) (Q'2) (Q'3) (Q'4) (Q'5) (Q'6) nm2 O0 O1 on oc q) 0 81 gX8_resolve_X8_checkRequest rfl hdX8_checkRequest ⟨by omega, by decide⟩ rfl rfl rfl (Nat.le_of_ble_eq_true rfl) ⟨by rw [hcz]; omega, by rw [hsz]; omega⟩ dX8_resolve_2 rfl (fun t2 => out _ _ _ _ _ _ (by omega) (by omega) (by rw [if_neg t2]; exact t2) (by rw [if_neg t2])) (fun t2 => ?_)
  refine V_aload_n (pc := 5) o dX8_resolve_5 rfl ?_
  refine V_get (pc := 6) o 0 1 hiX8_resolve_X8 rfl rfl (by decide) lkX8_resolve_19 rfl rfl dX8_resolve_6 ?_
  refine V_get (pc := 9) o 4 2 hiX8_resolve_X2 rfl rfl (by decide) lkX8_resolve_97 rfl rfl dX8_resolve_9 ?_
  refine V_iload_n (pc := 12) o dX8_resolve_12 rfl ?_
  refine V_rVi (pc := 13) o (cX5_stateOf_met _ _ _ cI ht (fun k => ad (25 + k)) Q0 Q1 Q2 Q3 Q4 Q5 Q6 nm q) 25 15 gX8_resolve_X5_stateOf rfl hdX5_stateOf ⟨by omega, by decide⟩ rfl rfl rfl (Nat.le_of_ble_eq_true rfl) dX8_resolve_13 rfl ?_ ⟨by rw [hcz]; omega, by rw [hsz]; omega⟩
  refine V_iconst (pc := 16) o 2 dX8_resolve_16 (by decide) ?_
  refine V_icmp_ne (pc := 17) o 30 dX8_resolve_17 (by decide) (fun c17 => ?_) (fun c17 => ?_)
  · refine V_aload_n (pc := 30) o dX8_resolve_30 rfl ?_
    refine V_get (pc := 31) o 0 3 hiX8_resolve_X8 rfl rfl (by decide) lkX8_resolve_29 rfl rfl dX8_resolve_31 ?_
    refine V_aload_n (pc := 34) o dX8_resolve_34 rfl ?_
    refine V_get (pc := 35) o 0 1 hiX8_resolve_X8 rfl rfl (by decide) lkX8_resolve_19 rfl rfl dX8_resolve_35 ?_
    refine V_get (pc := 38) o 4 0 hiX8_resolve_X2 rfl rfl (by decide) lkX8_resolve_44 rfl rfl dX8_resolve_38 ?_
    refine V_aload_n (pc := 41) o dX8_resolve_41 rfl ?_
    refine V_get (pc := 42) o 0 1 hiX8_resolve_X8 rfl rfl (by decide) lkX8_resolve_19 rfl rfl dX8_resolve_42 ?_
    refine V_get (pc := 45) o 4 2 hiX8_resolve_X2 rfl rfl (by decide) lkX8_resolve_97 rfl rfl dX8_resolve_45 ?_
    refine V_iload_n (pc := 48) o dX8_resolve_48 rfl ?_
    refine V_rVi (pc := 49) o (cX5_partOf_met _ _ _ cI ht (fun k => ad (25 + k)) Q0 Q1 Q2 Q3 Q4 Q5 Q6 nm q) 25 15 gX8_resolve_X5_partOf rfl hdX5_partOf ⟨by omega, by decide⟩ rfl rfl rfl (Nat.le_of_ble_eq_true rfl) dX8_resolve_49 rfl ?_ ⟨by rw [hcz]; omega, by rw [hsz]; omega⟩
    refine V_aload_n (pc := 52) o dX8_resolve_52 rfl ?_
    refine V_get (pc := 53) o 0 1 hiX8_resolve_X8 rfl rfl (by decide) lkX8_resolve_19 rfl rfl dX8_resolve_53 ?_
    refine V_get (pc := 56) o 4 2 hiX8_resolve_X2 rfl rfl (by decide) lkX8_resolve_97 rfl rfl dX8_resolve_56 ?_
    refine V_iload_n (pc := 59) o dX8_resolve_59 rfl ?_
    refine V_rVi (pc := 60) o (cX5_leastOf_met _ _ _ cI ht (fun k => ad (25 + k)) Q0 Q1 Q2 Q3 Q4 Q5 Q6 nm q) 25 15 gX8_resolve_X5_leastOf rfl hdX5_leastOf ⟨by omega, by decide⟩ rfl rfl rfl (Nat.le_of_ble_eq_true rfl) dX8_resolve_60 rfl ?_ ⟨by rw [hcz]; omega, by rw [hsz]; omega⟩
    refine V_wVp (pc := 63) o (cX7_find_met _ _ _ cI ht (fun k => ad (76 + k)) (fun k => ad (5 + k)) O0 O1 on oc P0 P1 P2 P3 P4 P5 (rat 30 Q1 q) (rat 30 Q2 q)) _ (wApp cI ad B0 (nI n) P0 P1 P2 P3 P4 P5 L0 L1 L2 dy Q0 Q1 Q2 Q3 Q4 Q5 Q6 nm (P'0) (P'1) (P'2) (P'3) (P'4) (P'5) (L'0) (L'1) (L'2) dy2 (Q'0) (Q'1) (Q'2) (Q'3) (Q'4) (Q'5) (Q'6) nm2 ((fnF P0 P2 P3 P4 P5 O0 O1 (rat 30 Q1 q) (rat 30 Q2 q)).1) ((fnF P0 P2 P3 P4 P5 O0 O1 (rat 30 Q1 q) (rat 30 Q2 q)).2.1) ((fnF P0 P2 P3 P4 P5 O0 O1 (rat 30 Q1 q) (rat 30 Q2 q)).2.2.1) ((fnF P0 P2 P3 P4 P5 O0 O1 (rat 30 Q1 q) (rat 30 Q2 q)).2.2.2)) gX8_resolve_X7_find rfl hdX7_find ⟨by omega, by decide⟩ rfl rfl rfl (Nat.le_of_ble_eq_true rfl) dX8_resolve_63 (pm_3 _ _ _ _ _ _ _) (pm_3 _ _ _ _ _ _ _) ?_ ⟨by rw [hcz]; omega, by rw [hsz]; omega⟩
    refine V_istore_n (pc := 66) o dX8_resolve_66 (by rw [hn]; decide) ?_
    refine V_iload_n (pc := 67) o dX8_resolve_67 rfl ?_
    refine V_if_ne (pc := 68) o 73 dX8_resolve_68 (by decide) (fun c68 => ?_) (fun c68 => ?_)
    · exact absurd hch c68
    · refine V_iconst (pc := 71) o (-1) dX8_resolve_71 (by decide) ?_
      exact V_widen (by omega) (by omega) (fin 72 _ _ dX8_resolve_72 rfl (by rw [if_pos t2, if_pos c17]) rfl)
  · exact thr _ _ 20 3 115 "the request is released" _ _ (by omega) (by omega) (by rw [if_pos t2, if_neg (fun h => h c17)]) (by decide) twX8_resolve_3 (by decide) dX8_resolve_20 dX8_resolve_23 dX8_resolve_24 dX8_resolve_26 dX8_resolve_29 (Nat.le_of_ble_eq_true rfl)
set_option maxHeartbeats 4000000 in
set_option maxRecDepth 100000 in
/-- Approvalyard.resolve  -/
theorem cX8_resolveY_met (l : Launch) (D : va_G) (tys : List (ClassId × FieldType)) (cI : ClassId) (ht : tys[0]? = some (cI, .int)) (ad : Nat → Nat) (B0 : Nat → Int32) (P0 P1 P2 P3 P4 P5 : Nat → Int32) (L0 L1 L2 : Nat → Int32) (dy : Int32) (Q0 Q1 Q2 Q3 Q4 Q5 Q6 : Nat → Int32) (nm : Int32) (P'0 P'1 P'2 P'3 P'4 P'5 : Nat → Int32) (L'0 L'1 L'2 : Nat → Int32) (dy2 : Int32) (Q'0 Q'1 Q'2 Q'3 Q'4 Q'5 Q'6 : Nat → Int32) (nm2 : Int32) (O0 O1 : Nat → Int32) (on : Int32) (oc : Int32) (q : Int32) (n : Nat) (hn9 : n < 512) (hch : ¬ (fnF P0 P2 P3 P4 P5 O0 O1 (rat 30 Q1 q) (rat 30 Q2 q)).2.2.2 = 0) : CXi l yX8_resolve wsX8_resolve 14 2 D tys [.ref (ad 0), .int q] (wApp cI ad B0 (nI n) P0 P1 P2 P3 P4 P5 L0 L1 L2 dy Q0 Q1 Q2 Q3 Q4 Q5 Q6 nm (P'0) (P'1) (P'2) (P'3) (P'4) (P'5) (L'0) (L'1) (L'2) dy2 (Q'0) (Q'1) (Q'2) (Q'3) (Q'4) (Q'5) (Q'6) nm2 O0 O1 on oc) (if (if q < 0 then 1 else (if q < nm then 0 else 1)) = 0 then (if ¬ rat 30 Q3 q = 2 then 0 else 3) else if q < 0 then 1 else (if q < nm then 0 else 1)) (pcostN P1 ((fnF P0 P2 P3 P4 P5 O0 O1 (rat 30 Q1 q) (rat 30 Q2 q)).2.2.2) 8) (wApp cI ad (bwr B0 (nI n) 5 q ((fnF P0 P2 P3 P4 P5 O0 O1 (rat 30 Q1 q) (rat 30 Q2 q)).2.2.2) 0 0 0) (nI n + 1) P0 P1 P2 P3 P4 P5 L0 L1 L2 dy Q0 Q1 Q2 (rup 30 Q3 q 1) (rup 30 Q4 q ((fnF P0 P2 P3 P4 P5 O0 O1 (rat 30 Q1 q) (rat 30 Q2 q)).2.2.2)) (rup 30 Q5 q (pcostN P1 ((fnF P0 P2 P3 P4 P5 O0 O1 (rat 30 Q1 q) (rat 30 Q2 q)).2.2.2) 8)) (erN Q6 q 8) nm (P'0) (P'1) (P'2) (P'3) (P'4) (P'5) (L'0) (L'1) (L'2) dy2 (Q'0) (Q'1) (Q'2) (Q'3) (Q'4) (Q'5) (Q'6) nm2 ((fnF P0 P2 P3 P4 P5 O0 O1 (rat 30 Q1 q) (rat 30 Q2 q)).1) ((fnF P0 P2 P3 P4 P5 O0 O1 (rat 30 Q1 q) (rat 30 Q2 q)).2.1) ((fnF P0 P2 P3 P4 P5 O0 O1 (rat 30 Q1 q) (rat 30 Q2 q)).2.2.1) ((fnF P0 P2 P3 P4 P5 O0 O1 (rat 30 Q1 q) (rat 30 Q2 q)).2.2.2)) := by
  have hb9 : nI n < 512 := nI_lt (b := 512) (by omega) (by decide)
  refine CXi_of (maxL := 3) (cc := cX8_resolve) (y := yX8_resolve) rfl rfl (Nat.le_of_ble_eq_true rfl) rfl (by decide) (fun X hl hD hk hn hcz hsz o xo fin out thr => ?_)
  subst hl; subst hD; subst hk
  refine V_aload_n (pc := 0) o dX8_resolve_0 rfl ?_
  refine V_iload_n (pc := 1) o dX8_resolve_1 rfl ?_
  refine V_xVv (pc := 2) o xo (cX8_checkRequest_met _ _ _ cI ht ad B0 (nI n) P0 P1 P2 P3 P4 P5 L0 L1 L2 dy Q0 Q1 Q2 Q3 Q4 Q5 Q6 nm (P'0) (P'1) (P'2) (P'3) (P'4) (P'5) (L'0) (L'1) (L'2) dy2 (Q'0) (Q'1) (Q'2) (Q'3) (Q'4) (Q'5) (Q'6) nm2 O0 O1 on oc q) 0 81 gX8_resolve_X8_checkRequest rfl hdX8_checkRequest ⟨by omega, by decide⟩ rfl rfl rfl (Nat.le_of_ble_eq_true rfl) ⟨by rw [hcz]; omega, by rw [hsz]; omega⟩ dX8_resolve_2 rfl (fun t2 => out _ _ _ _ _ _ (by omega) (by omega) (by rw [if_neg t2]; exact t2) (by rw [if_neg t2])) (fun t2 => ?_)
  refine V_aload_n (pc := 5) o dX8_resolve_5 rfl ?_
  refine V_get (pc := 6) o 0 1 hiX8_resolve_X8 rfl rfl (by decide) lkX8_resolve_19 rfl rfl dX8_resolve_6 ?_
  refine V_get (pc := 9) o 4 2 hiX8_resolve_X2 rfl rfl (by decide) lkX8_resolve_97 rfl rfl dX8_resolve_9 ?_
  refine V_iload_n (pc := 12) o dX8_resolve_12 rfl ?_
  refine V_rVi (pc := 13) o (cX5_stateOf_met _ _ _ cI ht (fun k => ad (25 + k)) Q0 Q1 Q2 Q3 Q4 Q5 Q6 nm q) 25 15 gX8_resolve_X5_stateOf rfl hdX5_stateOf ⟨by omega, by decide⟩ rfl rfl rfl (Nat.le_of_ble_eq_true rfl) dX8_resolve_13 rfl ?_ ⟨by rw [hcz]; omega, by rw [hsz]; omega⟩
  refine V_iconst (pc := 16) o 2 dX8_resolve_16 (by decide) ?_
  refine V_icmp_ne (pc := 17) o 30 dX8_resolve_17 (by decide) (fun c17 => ?_) (fun c17 => ?_)
  · refine V_aload_n (pc := 30) o dX8_resolve_30 rfl ?_
    refine V_get (pc := 31) o 0 3 hiX8_resolve_X8 rfl rfl (by decide) lkX8_resolve_29 rfl rfl dX8_resolve_31 ?_
    refine V_aload_n (pc := 34) o dX8_resolve_34 rfl ?_
    refine V_get (pc := 35) o 0 1 hiX8_resolve_X8 rfl rfl (by decide) lkX8_resolve_19 rfl rfl dX8_resolve_35 ?_
    refine V_get (pc := 38) o 4 0 hiX8_resolve_X2 rfl rfl (by decide) lkX8_resolve_44 rfl rfl dX8_resolve_38 ?_
    refine V_aload_n (pc := 41) o dX8_resolve_41 rfl ?_
    refine V_get (pc := 42) o 0 1 hiX8_resolve_X8 rfl rfl (by decide) lkX8_resolve_19 rfl rfl dX8_resolve_42 ?_
    refine V_get (pc := 45) o 4 2 hiX8_resolve_X2 rfl rfl (by decide) lkX8_resolve_97 rfl rfl dX8_resolve_45 ?_
    refine V_iload_n (pc := 48) o dX8_resolve_48 rfl ?_
    refine V_rVi (pc := 49) o (cX5_partOf_met _ _ _ cI ht (fun k => ad (25 + k)) Q0 Q1 Q2 Q3 Q4 Q5 Q6 nm q) 25 15 gX8_resolve_X5_partOf rfl hdX5_partOf ⟨by omega, by decide⟩ rfl rfl rfl (Nat.le_of_ble_eq_true rfl) dX8_resolve_49 rfl ?_ ⟨by rw [hcz]; omega, by rw [hsz]; omega⟩
    refine V_aload_n (pc := 52) o dX8_resolve_52 rfl ?_
    refine V_get (pc := 53) o 0 1 hiX8_resolve_X8 rfl rfl (by decide) lkX8_resolve_19 rfl rfl dX8_resolve_53 ?_
    refine V_get (pc := 56) o 4 2 hiX8_resolve_X2 rfl rfl (by decide) lkX8_resolve_97 rfl rfl dX8_resolve_56 ?_
    refine V_iload_n (pc := 59) o dX8_resolve_59 rfl ?_
    refine V_rVi (pc := 60) o (cX5_leastOf_met _ _ _ cI ht (fun k => ad (25 + k)) Q0 Q1 Q2 Q3 Q4 Q5 Q6 nm q) 25 15 gX8_resolve_X5_leastOf rfl hdX5_leastOf ⟨by omega, by decide⟩ rfl rfl rfl (Nat.le_of_ble_eq_true rfl) dX8_resolve_60 rfl ?_ ⟨by rw [hcz]; omega, by rw [hsz]; omega⟩
    refine V_wVp (pc := 63) o (cX7_find_met _ _ _ cI ht (fun k => ad (76 + k)) (fun k => ad (5 + k)) O0 O1 on oc P0 P1 P2 P3 P4 P5 (rat 30 Q1 q) (rat 30 Q2 q)) _ (wApp cI ad B0 (nI n) P0 P1 P2 P3 P4 P5 L0 L1 L2 dy Q0 Q1 Q2 Q3 Q4 Q5 Q6 nm (P'0) (P'1) (P'2) (P'3) (P'4) (P'5) (L'0) (L'1) (L'2) dy2 (Q'0) (Q'1) (Q'2) (Q'3) (Q'4) (Q'5) (Q'6) nm2 ((fnF P0 P2 P3 P4 P5 O0 O1 (rat 30 Q1 q) (rat 30 Q2 q)).1) ((fnF P0 P2 P3 P4 P5 O0 O1 (rat 30 Q1 q) (rat 30 Q2 q)).2.1) ((fnF P0 P2 P3 P4 P5 O0 O1 (rat 30 Q1 q) (rat 30 Q2 q)).2.2.1) ((fnF P0 P2 P3 P4 P5 O0 O1 (rat 30 Q1 q) (rat 30 Q2 q)).2.2.2)) gX8_resolve_X7_find rfl hdX7_find ⟨by omega, by decide⟩ rfl rfl rfl (Nat.le_of_ble_eq_true rfl) dX8_resolve_63 (pm_3 _ _ _ _ _ _ _) (pm_3 _ _ _ _ _ _ _) ?_ ⟨by rw [hcz]; omega, by rw [hsz]; omega⟩
    refine V_istore_n (pc := 66) o dX8_resolve_66 (by rw [hn]; decide) ?_
    refine V_iload_n (pc := 67) o dX8_resolve_67 rfl ?_
    refine V_if_ne (pc := 68) o 73 dX8_resolve_68 (by decide) (fun c68 => ?_) (fun c68 => ?_)
    · refine V_aload_n (pc := 73) o dX8_resolve_73 rfl ?_
      refine V_iconst (pc := 74) o 5 dX8_resolve_74 (by decide) ?_
      refine V_iload_n (pc := 75) o dX8_resolve_75 rfl ?_
      refine V_iload_n (pc := 76) o dX8_resolve_76 rfl ?_
      refine V_iconst (pc := 77) o 0 dX8_resolve_77 (by decide) ?_
      refine V_wVi (pc := 78) o (cX8_tell5 _ _ _ cI ht ad B0 P0 P1 P2 P3 P4 P5 L0 L1 L2 dy Q0 Q1 Q2 Q3 Q4 Q5 Q6 nm (P'0) (P'1) (P'2) (P'3) (P'4) (P'5) (L'0) (L'1) (L'2) dy2 (Q'0) (Q'1) (Q'2) (Q'3) (Q'4) (Q'5) (Q'6) nm2 ((fnF P0 P2 P3 P4 P5 O0 O1 (rat 30 Q1 q) (rat 30 Q2 q)).1) ((fnF P0 P2 P3 P4 P5 O0 O1 (rat 30 Q1 q) (rat 30 Q2 q)).2.1) ((fnF P0 P2 P3 P4 P5 O0 O1 (rat 30 Q1 q) (rat 30 Q2 q)).2.2.1) ((fnF P0 P2 P3 P4 P5 O0 O1 (rat 30 Q1 q) (rat 30 Q2 q)).2.2.2) q ((fnF P0 P2 P3 P4 P5 O0 O1 (rat 30 Q1 q) (rat 30 Q2 q)).2.2.2) 0 n hn9) 0 81 (wApp cI ad (bwr B0 (nI n) 5 q ((fnF P0 P2 P3 P4 P5 O0 O1 (rat 30 Q1 q) (rat 30 Q2 q)).2.2.2) 0 0 0) (nI n + 1) P0 P1 P2 P3 P4 P5 L0 L1 L2 dy Q0 Q1 Q2 (rup 30 Q3 q 1) (rup 30 Q4 q ((fnF P0 P2 P3 P4 P5 O0 O1 (rat 30 Q1 q) (rat 30 Q2 q)).2.2.2)) (rup 30 Q5 q (pcostN P1 ((fnF P0 P2 P3 P4 P5 O0 O1 (rat 30 Q1 q) (rat 30 Q2 q)).2.2.2) 8)) (erN Q6 q 8) nm (P'0) (P'1) (P'2) (P'3) (P'4) (P'5) (L'0) (L'1) (L'2) dy2 (Q'0) (Q'1) (Q'2) (Q'3) (Q'4) (Q'5) (Q'6) nm2 ((fnF P0 P2 P3 P4 P5 O0 O1 (rat 30 Q1 q) (rat 30 Q2 q)).1) ((fnF P0 P2 P3 P4 P5 O0 O1 (rat 30 Q1 q) (rat 30 Q2 q)).2.1) ((fnF P0 P2 P3 P4 P5 O0 O1 (rat 30 Q1 q) (rat 30 Q2 q)).2.2.1) ((fnF P0 P2 P3 P4 P5 O0 O1 (rat 30 Q1 q) (rat 30 Q2 q)).2.2.2)) gX8_resolve_X8_tell rfl hdX8_tell ⟨by omega, by decide⟩ rfl rfl rfl (Nat.le_of_ble_eq_true rfl) dX8_resolve_78 rfl rfl ?_ ⟨by rw [hcz]; omega, by rw [hsz]; omega⟩
      exact V_widen (by omega) (by omega) (fin 81 _ _ dX8_resolve_81 rfl (by rw [if_pos t2, if_pos c17]) rfl)
    · exact absurd c68 hch
  · exact thr _ _ 20 3 115 "the request is released" _ _ (by omega) (by omega) (by rw [if_pos t2, if_neg (fun h => h c17)]) (by decide) twX8_resolve_3 (by decide) dX8_resolve_20 dX8_resolve_23 dX8_resolve_24 dX8_resolve_26 dX8_resolve_29 (Nat.le_of_ble_eq_true rfl)
