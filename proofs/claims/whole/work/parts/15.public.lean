/-! Approvalyard: the public methods. -/
theorem covI_1 {c n : Int32} (h : ¬ covI c n = 0) : (1 : Int32) = covI c n := by
  revert h; unfold covI; split <;> split <;> simp
theorem covI_0 {c n : Int32} (h : covI c n = 0) : (0 : Int32) = covI c n := h.symm
theorem hdX8_version : yX8_version.cls = RX8 ∧ yX8_version.cls ≠ "java/lang/invoke/MethodHandle" ∧ yX8_version.cls ≠ "java/lang/invoke/VarHandle" ∧ (parseMethodDescriptor yX8_version.desc).map (fun d => d.parameters.length) = some 2 := by decide +kernel
theorem twX8_version_2 : ThW 2 wsX8_version := by refine ⟨?_, ?_, ?_⟩ <;> decide +kernel
theorem hiX8_version_X8 : ∀ w ∈ wsX80, w ∈ wsX8_version := by decide +kernel
theorem lkX8_version_19 : Cond.fieldLink RX8 19 RX8 "desk" "LApprovalyard$Desk;" ∈ wsX8_version := by decide +kernel
theorem hiX8_version_X2 : ∀ w ∈ wsX20, w ∈ wsX8_version := by decide +kernel
theorem lkX8_version_44 : Cond.fieldLink RX8 44 RX2 "parts" "LApprovalyard$Parts;" ∈ wsX8_version := by decide +kernel
theorem twX8_version_3 : ThW 3 wsX8_version := by refine ⟨?_, ?_, ?_⟩ <;> decide +kernel
set_option maxHeartbeats 4000000 in
set_option maxRecDepth 100000 in
/-- Approvalyard.version  -/
theorem cX8_version_met (l : Launch) (D : va_G) (tys : List (ClassId × FieldType)) (cI : ClassId) (ht : tys[0]? = some (cI, .int)) (ad : Nat → Nat) (B0 : Nat → Int32) (P0 P1 P2 P3 P4 P5 : Nat → Int32) (L0 L1 L2 : Nat → Int32) (dy : Int32) (Q0 Q1 Q2 Q3 Q4 Q5 Q6 : Nat → Int32) (nm : Int32) (P'0 P'1 P'2 P'3 P'4 P'5 : Nat → Int32) (L'0 L'1 L'2 : Nat → Int32) (dy2 : Int32) (Q'0 Q'1 Q'2 Q'3 Q'4 Q'5 Q'6 : Nat → Int32) (nm2 : Int32) (O0 O1 : Nat → Int32) (on : Int32) (oc : Int32) (p c : Int32) (n : Nat) (hn9 : n < 512) : CXi l yX8_version wsX8_version 14 2 D tys [.ref (ad 0), .int p, .int c] (wApp cI ad B0 (nI n) P0 P1 P2 P3 P4 P5 L0 L1 L2 dy Q0 Q1 Q2 Q3 Q4 Q5 Q6 nm (P'0) (P'1) (P'2) (P'3) (P'4) (P'5) (L'0) (L'1) (L'2) dy2 (Q'0) (Q'1) (Q'2) (Q'3) (Q'4) (Q'5) (Q'6) nm2 O0 O1 on oc) (if (if p < 0 then 1 else (if p < 8 then 0 else 1)) = 0 then (if c < 0 then 2 else (if c ≤ 1000 then (if rat 8 P0 p < 3 then 0 else 3) else 2)) else if p < 0 then 1 else (if p < 8 then 0 else 1)) (rat 8 P0 p + 1) (wApp cI ad (bwr B0 (nI n) 1 p c 0 0 0) (nI n + 1) (rup 8 P0 p (rat 8 P0 p + 1)) (rup 24 P1 (plc p (rat 8 P0 p + 1)) c) (rup 24 P2 (plc p (rat 8 P0 p + 1)) 0) (rup 24 P3 (plc p (rat 8 P0 p + 1)) 0) P4 P5 L0 L1 L2 dy Q0 Q1 Q2 Q3 Q4 Q5 Q6 nm (P'0) (P'1) (P'2) (P'3) (P'4) (P'5) (L'0) (L'1) (L'2) dy2 (Q'0) (Q'1) (Q'2) (Q'3) (Q'4) (Q'5) (Q'6) nm2 O0 O1 on oc) := by
  have hb9 : nI n < 512 := nI_lt (b := 512) (by omega) (by decide)
  refine CXi_of (maxL := 3) (cc := cX8_version) (y := yX8_version) rfl rfl (Nat.le_of_ble_eq_true rfl) rfl (by decide) (fun X hl hD hk hn hcz hsz o xo fin out thr => ?_)
  subst hl; subst hD; subst hk
  refine V_iload_n (pc := 0) o dX8_version_0 rfl ?_
  refine V_xSv (pc := 1) o xo (cX8_checkPart_met _ _ _ p) 0 0 gX8_version_X8_checkPart rfl hdX8_checkPart ⟨by omega, by decide⟩ rfl (Nat.le_of_ble_eq_true rfl) ⟨by rw [hcz]; omega, by rw [hsz]; omega⟩ dX8_version_1 rfl (fun t1 => out _ _ _ _ _ _ (by omega) (by omega) (by rw [if_neg t1]; exact t1) (by rw [if_neg t1])) (fun t1 => ?_)
  refine V_iload_n (pc := 4) o dX8_version_4 rfl ?_
  refine V_if_lt (pc := 5) o 15 dX8_version_5 (by decide) (fun c5 => ?_) (fun c5 => ?_)
  · exact thr _ _ 15 2 39 "the cost is out of range" _ _ (by omega) (by omega) (by rw [if_pos t1, if_pos c5]) (by decide) twX8_version_2 (by decide) dX8_version_15 dX8_version_18 dX8_version_19 dX8_version_21 dX8_version_24 (Nat.le_of_ble_eq_true rfl)
  · refine V_iload_n (pc := 8) o dX8_version_8 rfl ?_
    refine V_sipush (pc := 9) o 1000 dX8_version_9 (by decide) ?_
    refine V_icmp_le (pc := 12) o 25 dX8_version_12 (by decide) (fun c12 => ?_) (fun c12 => ?_)
    · refine V_aload_n (pc := 25) o dX8_version_25 rfl ?_
      refine V_get (pc := 26) o 0 1 hiX8_version_X8 rfl rfl (by decide) lkX8_version_19 rfl rfl dX8_version_26 ?_
      refine V_get (pc := 29) o 4 0 hiX8_version_X2 rfl rfl (by decide) lkX8_version_44 rfl rfl dX8_version_29 ?_
      refine V_iload_n (pc := 32) o dX8_version_32 rfl ?_
      refine V_rVi (pc := 33) o (cX3_countOf_met _ _ _ cI ht (fun k => ad (5 + k)) P0 P1 P2 P3 P4 P5 p) 5 13 gX8_version_X3_countOf rfl hdX3_countOf ⟨by omega, by decide⟩ rfl rfl rfl (Nat.le_of_ble_eq_true rfl) dX8_version_33 rfl ?_ ⟨by rw [hcz]; omega, by rw [hsz]; omega⟩
      refine V_iconst (pc := 36) o 3 dX8_version_36 (by decide) ?_
      refine V_icmp_lt (pc := 37) o 50 dX8_version_37 (by decide) (fun c37 => ?_) (fun c37 => ?_)
      · refine V_aload_n (pc := 50) o dX8_version_50 rfl ?_
        refine V_iconst (pc := 51) o 1 dX8_version_51 (by decide) ?_
        refine V_iload_n (pc := 52) o dX8_version_52 rfl ?_
        refine V_iload_n (pc := 53) o dX8_version_53 rfl ?_
        refine V_iconst (pc := 54) o 0 dX8_version_54 (by decide) ?_
        refine V_wVi (pc := 55) o (cX8_tell1 _ _ _ cI ht ad B0 P0 P1 P2 P3 P4 P5 L0 L1 L2 dy Q0 Q1 Q2 Q3 Q4 Q5 Q6 nm (P'0) (P'1) (P'2) (P'3) (P'4) (P'5) (L'0) (L'1) (L'2) dy2 (Q'0) (Q'1) (Q'2) (Q'3) (Q'4) (Q'5) (Q'6) nm2 O0 O1 on oc p c 0 n hn9) 0 81 (wApp cI ad (bwr B0 (nI n) 1 p c 0 0 0) (nI n + 1) (rup 8 P0 p (rat 8 P0 p + 1)) (rup 24 P1 (plc p (rat 8 P0 p + 1)) c) (rup 24 P2 (plc p (rat 8 P0 p + 1)) 0) (rup 24 P3 (plc p (rat 8 P0 p + 1)) 0) P4 P5 L0 L1 L2 dy Q0 Q1 Q2 Q3 Q4 Q5 Q6 nm (P'0) (P'1) (P'2) (P'3) (P'4) (P'5) (L'0) (L'1) (L'2) dy2 (Q'0) (Q'1) (Q'2) (Q'3) (Q'4) (Q'5) (Q'6) nm2 O0 O1 on oc) gX8_version_X8_tell rfl hdX8_tell ⟨by omega, by decide⟩ rfl rfl rfl (Nat.le_of_ble_eq_true rfl) dX8_version_55 rfl rfl ?_ ⟨by rw [hcz]; omega, by rw [hsz]; omega⟩
        exact V_widen (by omega) (by omega) (fin 58 _ _ dX8_version_58 rfl (by rw [if_pos t1, if_neg c5, if_pos c12, if_pos c37]) rfl)
      · exact thr _ _ 40 3 56 "the part has all its versions" _ _ (by omega) (by omega) (by rw [if_pos t1, if_neg c5, if_pos c12, if_neg c37]) (by decide) twX8_version_3 (by decide) dX8_version_40 dX8_version_43 dX8_version_44 dX8_version_46 dX8_version_49 (Nat.le_of_ble_eq_true rfl)
    · exact thr _ _ 15 2 39 "the cost is out of range" _ _ (by omega) (by omega) (by rw [if_pos t1, if_neg c5, if_neg c12]) (by decide) twX8_version_2 (by decide) dX8_version_15 dX8_version_18 dX8_version_19 dX8_version_21 dX8_version_24 (Nat.le_of_ble_eq_true rfl)
theorem hdX8_replace : yX8_replace.cls = RX8 ∧ yX8_replace.cls ≠ "java/lang/invoke/MethodHandle" ∧ yX8_replace.cls ≠ "java/lang/invoke/VarHandle" ∧ (parseMethodDescriptor yX8_replace.desc).map (fun d => d.parameters.length) = some 2 := by decide +kernel
theorem hiX8_replace_X8 : ∀ w ∈ wsX80, w ∈ wsX8_replace := by decide +kernel
theorem lkX8_replace_19 : Cond.fieldLink RX8 19 RX8 "desk" "LApprovalyard$Desk;" ∈ wsX8_replace := by decide +kernel
theorem hiX8_replace_X2 : ∀ w ∈ wsX20, w ∈ wsX8_replace := by decide +kernel
theorem lkX8_replace_44 : Cond.fieldLink RX8 44 RX2 "parts" "LApprovalyard$Parts;" ∈ wsX8_replace := by decide +kernel
theorem twX8_replace_3 : ThW 3 wsX8_replace := by refine ⟨?_, ?_, ?_⟩ <;> decide +kernel
set_option maxHeartbeats 4000000 in
set_option maxRecDepth 100000 in
/-- Approvalyard.replace  -/
theorem cX8_replace_met (l : Launch) (D : va_G) (tys : List (ClassId × FieldType)) (cI : ClassId) (ht : tys[0]? = some (cI, .int)) (ad : Nat → Nat) (B0 : Nat → Int32) (P0 P1 P2 P3 P4 P5 : Nat → Int32) (L0 L1 L2 : Nat → Int32) (dy : Int32) (Q0 Q1 Q2 Q3 Q4 Q5 Q6 : Nat → Int32) (nm : Int32) (P'0 P'1 P'2 P'3 P'4 P'5 : Nat → Int32) (L'0 L'1 L'2 : Nat → Int32) (dy2 : Int32) (Q'0 Q'1 Q'2 Q'3 Q'4 Q'5 Q'6 : Nat → Int32) (nm2 : Int32) (O0 O1 : Nat → Int32) (on : Int32) (oc : Int32) (p v : Int32) (n : Nat) (hn9 : n < 512) : CXi l yX8_replace wsX8_replace 14 3 D tys [.ref (ad 0), .int p, .int v] (wApp cI ad B0 (nI n) P0 P1 P2 P3 P4 P5 L0 L1 L2 dy Q0 Q1 Q2 Q3 Q4 Q5 Q6 nm (P'0) (P'1) (P'2) (P'3) (P'4) (P'5) (L'0) (L'1) (L'2) dy2 (Q'0) (Q'1) (Q'2) (Q'3) (Q'4) (Q'5) (Q'6) nm2 O0 O1 on oc) (if (if p < 0 then 1 else (if p < 8 then 0 else 1)) = 0 then (if (if v < 1 then 1 else (if v ≤ rat 8 P0 p then 0 else 1)) = 0 then (if ¬ rat 24 P2 (plc p v) = 0 then 3 else 0) else if v < 1 then 1 else (if v ≤ rat 8 P0 p then 0 else 1)) else if p < 0 then 1 else (if p < 8 then 0 else 1)) (lvE (Q3, Q4, Q5, Q6) p v dy nm.toNatClampNeg) (wApp cI ad (bwr B0 (nI n) 3 p v 0 0 0) (nI n + 1) P0 P1 (rup 24 P2 (plc p v) 1) P3 P4 P5 L0 L1 L2 dy Q0 Q1 Q2 ((lvT (Q3, Q4, Q5, Q6) p v nm.toNatClampNeg).1) ((lvT (Q3, Q4, Q5, Q6) p v nm.toNatClampNeg).2.1) ((lvT (Q3, Q4, Q5, Q6) p v nm.toNatClampNeg).2.2.1) ((lvT (Q3, Q4, Q5, Q6) p v nm.toNatClampNeg).2.2.2) nm (P'0) (P'1) (P'2) (P'3) (P'4) (P'5) (L'0) (L'1) (L'2) dy2 (Q'0) (Q'1) (Q'2) (Q'3) (Q'4) (Q'5) (Q'6) nm2 O0 O1 on oc) := by
  have hb9 : nI n < 512 := nI_lt (b := 512) (by omega) (by decide)
  refine CXi_of (maxL := 3) (cc := cX8_replace) (y := yX8_replace) rfl rfl (Nat.le_of_ble_eq_true rfl) rfl (by decide) (fun X hl hD hk hn hcz hsz o xo fin out thr => ?_)
  subst hl; subst hD; subst hk
  refine V_iload_n (pc := 0) o dX8_replace_0 rfl ?_
  refine V_xSv (pc := 1) o xo (cX8_checkPart_met _ _ _ p) 0 0 gX8_replace_X8_checkPart rfl hdX8_checkPart ⟨by omega, by decide⟩ rfl (Nat.le_of_ble_eq_true rfl) ⟨by rw [hcz]; omega, by rw [hsz]; omega⟩ dX8_replace_1 rfl (fun t1 => out _ _ _ _ _ _ (by omega) (by omega) (by rw [if_neg t1]; exact t1) (by rw [if_neg t1])) (fun t1 => ?_)
  refine V_aload_n (pc := 4) o dX8_replace_4 rfl ?_
  refine V_iload_n (pc := 5) o dX8_replace_5 rfl ?_
  refine V_iload_n (pc := 6) o dX8_replace_6 rfl ?_
  refine V_xVv (pc := 7) o xo (cX8_checkVersion_met _ _ _ cI ht ad B0 (nI n) P0 P1 P2 P3 P4 P5 L0 L1 L2 dy Q0 Q1 Q2 Q3 Q4 Q5 Q6 nm (P'0) (P'1) (P'2) (P'3) (P'4) (P'5) (L'0) (L'1) (L'2) dy2 (Q'0) (Q'1) (Q'2) (Q'3) (Q'4) (Q'5) (Q'6) nm2 O0 O1 on oc p v) 0 81 gX8_replace_X8_checkVersion rfl hdX8_checkVersion ⟨by omega, by decide⟩ rfl rfl rfl (Nat.le_of_ble_eq_true rfl) ⟨by rw [hcz]; omega, by rw [hsz]; omega⟩ dX8_replace_7 rfl (fun t7 => out _ _ _ _ _ _ (by omega) (by omega) (by rw [if_pos t1, if_neg t7]; exact t7) (by rw [if_pos t1, if_neg t7])) (fun t7 => ?_)
  refine V_aload_n (pc := 10) o dX8_replace_10 rfl ?_
  refine V_get (pc := 11) o 0 1 hiX8_replace_X8 rfl rfl (by decide) lkX8_replace_19 rfl rfl dX8_replace_11 ?_
  refine V_get (pc := 14) o 4 0 hiX8_replace_X2 rfl rfl (by decide) lkX8_replace_44 rfl rfl dX8_replace_14 ?_
  refine V_iload_n (pc := 17) o dX8_replace_17 rfl ?_
  refine V_iload_n (pc := 18) o dX8_replace_18 rfl ?_
  refine V_rVi (pc := 19) o (cX3_isReplaced_met _ _ _ cI ht (fun k => ad (5 + k)) P0 P1 P2 P3 P4 P5 p v) 5 13 gX8_replace_X3_isReplaced rfl hdX3_isReplaced ⟨by omega, by decide⟩ rfl rfl rfl (Nat.le_of_ble_eq_true rfl) dX8_replace_19 rfl ?_ ⟨by rw [hcz]; omega, by rw [hsz]; omega⟩
  refine V_ite (fun b19 => ?_) (fun b19 => ?_)
  · refine V_if_eq (pc := 22) o 35 dX8_replace_22 (by decide) (fun c22 => absurd c22 (by decide)) (fun _ => ?_)
    exact thr _ _ 25 3 92 "the version is replaced" _ _ (by omega) (by omega) (by rw [if_pos t1, if_pos t7, if_pos b19]) (by decide) twX8_replace_3 (by decide) dX8_replace_25 dX8_replace_28 dX8_replace_29 dX8_replace_31 dX8_replace_34 (Nat.le_of_ble_eq_true rfl)
  · refine V_if_eq (pc := 22) o 35 dX8_replace_22 (by decide) (fun _ => ?_) (fun c22 => absurd c22 (by decide))
    refine V_aload_n (pc := 35) o dX8_replace_35 rfl ?_
    refine V_iconst (pc := 36) o 3 dX8_replace_36 (by decide) ?_
    refine V_iload_n (pc := 37) o dX8_replace_37 rfl ?_
    refine V_iload_n (pc := 38) o dX8_replace_38 rfl ?_
    refine V_iconst (pc := 39) o 0 dX8_replace_39 (by decide) ?_
    refine V_wVi (pc := 40) o (cX8_tell3 _ _ _ cI ht ad B0 P0 P1 P2 P3 P4 P5 L0 L1 L2 dy Q0 Q1 Q2 Q3 Q4 Q5 Q6 nm (P'0) (P'1) (P'2) (P'3) (P'4) (P'5) (L'0) (L'1) (L'2) dy2 (Q'0) (Q'1) (Q'2) (Q'3) (Q'4) (Q'5) (Q'6) nm2 O0 O1 on oc p v 0 n hn9) 0 81 (wApp cI ad (bwr B0 (nI n) 3 p v 0 0 0) (nI n + 1) P0 P1 (rup 24 P2 (plc p v) 1) P3 P4 P5 L0 L1 L2 dy Q0 Q1 Q2 ((lvT (Q3, Q4, Q5, Q6) p v nm.toNatClampNeg).1) ((lvT (Q3, Q4, Q5, Q6) p v nm.toNatClampNeg).2.1) ((lvT (Q3, Q4, Q5, Q6) p v nm.toNatClampNeg).2.2.1) ((lvT (Q3, Q4, Q5, Q6) p v nm.toNatClampNeg).2.2.2) nm (P'0) (P'1) (P'2) (P'3) (P'4) (P'5) (L'0) (L'1) (L'2) dy2 (Q'0) (Q'1) (Q'2) (Q'3) (Q'4) (Q'5) (Q'6) nm2 O0 O1 on oc) gX8_replace_X8_tell rfl hdX8_tell ⟨by omega, by decide⟩ rfl rfl rfl (Nat.le_of_ble_eq_true rfl) dX8_replace_40 rfl rfl ?_ ⟨by rw [hcz]; omega, by rw [hsz]; omega⟩
    exact V_widen (by omega) (by omega) (fin 43 _ _ dX8_replace_43 rfl (by rw [if_pos t1, if_pos t7, if_neg b19]) rfl)
theorem hdX8_request : yX8_request.cls = RX8 ∧ yX8_request.cls ≠ "java/lang/invoke/MethodHandle" ∧ yX8_request.cls ≠ "java/lang/invoke/VarHandle" ∧ (parseMethodDescriptor yX8_request.desc).map (fun d => d.parameters.length) = some 3 := by decide +kernel
theorem hiX8_request_X8 : ∀ w ∈ wsX80, w ∈ wsX8_request := by decide +kernel
theorem lkX8_request_19 : Cond.fieldLink RX8 19 RX8 "desk" "LApprovalyard$Desk;" ∈ wsX8_request := by decide +kernel
theorem hiX8_request_X2 : ∀ w ∈ wsX20, w ∈ wsX8_request := by decide +kernel
theorem lkX8_request_97 : Cond.fieldLink RX8 97 RX2 "requests" "LApprovalyard$Requests;" ∈ wsX8_request := by decide +kernel
theorem twX8_request_3 : ThW 3 wsX8_request := by refine ⟨?_, ?_, ?_⟩ <;> decide +kernel
set_option maxHeartbeats 4000000 in
set_option maxRecDepth 100000 in
/-- Approvalyard.request  -/
theorem cX8_request_met (l : Launch) (D : va_G) (tys : List (ClassId × FieldType)) (cI : ClassId) (ht : tys[0]? = some (cI, .int)) (ad : Nat → Nat) (B0 : Nat → Int32) (P0 P1 P2 P3 P4 P5 : Nat → Int32) (L0 L1 L2 : Nat → Int32) (dy : Int32) (Q0 Q1 Q2 Q3 Q4 Q5 Q6 : Nat → Int32) (nm : Int32) (P'0 P'1 P'2 P'3 P'4 P'5 : Nat → Int32) (L'0 L'1 L'2 : Nat → Int32) (dy2 : Int32) (Q'0 Q'1 Q'2 Q'3 Q'4 Q'5 Q'6 : Nat → Int32) (nm2 : Int32) (O0 O1 : Nat → Int32) (on : Int32) (oc : Int32) (p q a : Int32) (n : Nat) (hn9 : n < 512) : CXi l yX8_request wsX8_request 14 4 D tys [.ref (ad 0), .int p, .int q, .int a] (wApp cI ad B0 (nI n) P0 P1 P2 P3 P4 P5 L0 L1 L2 dy Q0 Q1 Q2 Q3 Q4 Q5 Q6 nm (P'0) (P'1) (P'2) (P'3) (P'4) (P'5) (L'0) (L'1) (L'2) dy2 (Q'0) (Q'1) (Q'2) (Q'3) (Q'4) (Q'5) (Q'6) nm2 O0 O1 on oc) (if (if p < 0 then 1 else (if p < 8 then 0 else 1)) = 0 then (if (if q < 0 then 1 else (if q < 8 then 0 else 1)) = 0 then (if (if a < 1 then 2 else (if a ≤ 3 then 0 else 2)) = 0 then (if nm < 30 then 0 else 3) else if a < 1 then 2 else (if a ≤ 3 then 0 else 2)) else if q < 0 then 1 else (if q < 8 then 0 else 1)) else if p < 0 then 1 else (if p < 8 then 0 else 1)) nm (wApp cI ad (bwr B0 (nI n) 4 p q a 0 0) (nI n + 1) P0 P1 P2 P3 P4 P5 L0 L1 L2 dy (rup 30 Q0 nm p) (rup 30 Q1 nm q) (rup 30 Q2 nm a) (rup 30 Q3 nm 0) (rup 30 Q4 nm 0) (rup 30 Q5 nm 0) (erN Q6 nm 8) (nm + 1) (P'0) (P'1) (P'2) (P'3) (P'4) (P'5) (L'0) (L'1) (L'2) dy2 (Q'0) (Q'1) (Q'2) (Q'3) (Q'4) (Q'5) (Q'6) nm2 O0 O1 on oc) := by
  have hb9 : nI n < 512 := nI_lt (b := 512) (by omega) (by decide)
  refine CXi_of (maxL := 4) (cc := cX8_request) (y := yX8_request) rfl rfl (Nat.le_of_ble_eq_true rfl) rfl (by decide) (fun X hl hD hk hn hcz hsz o xo fin out thr => ?_)
  subst hl; subst hD; subst hk
  refine V_iload_n (pc := 0) o dX8_request_0 rfl ?_
  refine V_xSv (pc := 1) o xo (cX8_checkPerson_met _ _ _ p) 0 0 gX8_request_X8_checkPerson rfl hdX8_checkPerson ⟨by omega, by decide⟩ rfl (Nat.le_of_ble_eq_true rfl) ⟨by rw [hcz]; omega, by rw [hsz]; omega⟩ dX8_request_1 rfl (fun t1 => out _ _ _ _ _ _ (by omega) (by omega) (by rw [if_neg t1]; exact t1) (by rw [if_neg t1])) (fun t1 => ?_)
  refine V_iload_n (pc := 4) o dX8_request_4 rfl ?_
  refine V_xSv (pc := 5) o xo (cX8_checkPart_met _ _ _ q) 0 0 gX8_request_X8_checkPart rfl hdX8_checkPart ⟨by omega, by decide⟩ rfl (Nat.le_of_ble_eq_true rfl) ⟨by rw [hcz]; omega, by rw [hsz]; omega⟩ dX8_request_5 rfl (fun t5 => out _ _ _ _ _ _ (by omega) (by omega) (by rw [if_pos t1, if_neg t5]; exact t5) (by rw [if_pos t1, if_neg t5])) (fun t5 => ?_)
  refine V_iload_n (pc := 8) o dX8_request_8 rfl ?_
  refine V_xSv (pc := 9) o xo (cX8_checkLeast_met _ _ _ a) 0 0 gX8_request_X8_checkLeast rfl hdX8_checkLeast ⟨by omega, by decide⟩ rfl (Nat.le_of_ble_eq_true rfl) ⟨by rw [hcz]; omega, by rw [hsz]; omega⟩ dX8_request_9 rfl (fun t9 => out _ _ _ _ _ _ (by omega) (by omega) (by rw [if_pos t1, if_pos t5, if_neg t9]; exact t9) (by rw [if_pos t1, if_pos t5, if_neg t9])) (fun t9 => ?_)
  refine V_aload_n (pc := 12) o dX8_request_12 rfl ?_
  refine V_get (pc := 13) o 0 1 hiX8_request_X8 rfl rfl (by decide) lkX8_request_19 rfl rfl dX8_request_13 ?_
  refine V_get (pc := 16) o 4 2 hiX8_request_X2 rfl rfl (by decide) lkX8_request_97 rfl rfl dX8_request_16 ?_
  refine V_rVi (pc := 19) o (cX5_count_met _ _ _ cI ht (fun k => ad (25 + k)) Q0 Q1 Q2 Q3 Q4 Q5 Q6 nm ) 25 15 gX8_request_X5_count rfl hdX5_count ⟨by omega, by decide⟩ rfl rfl rfl (Nat.le_of_ble_eq_true rfl) dX8_request_19 rfl ?_ ⟨by rw [hcz]; omega, by rw [hsz]; omega⟩
  refine V_bipush (pc := 22) o 30 dX8_request_22 (by decide) ?_
  refine V_icmp_lt (pc := 24) o 37 dX8_request_24 (by decide) (fun c24 => ?_) (fun c24 => ?_)
  · refine V_aload_n (pc := 37) o dX8_request_37 rfl ?_
    refine V_iconst (pc := 38) o 4 dX8_request_38 (by decide) ?_
    refine V_iload_n (pc := 39) o dX8_request_39 rfl ?_
    refine V_iload_n (pc := 40) o dX8_request_40 rfl ?_
    refine V_iload_n (pc := 41) o dX8_request_41 rfl ?_
    refine V_wVi (pc := 42) o (cX8_tell4 _ _ _ cI ht ad B0 P0 P1 P2 P3 P4 P5 L0 L1 L2 dy Q0 Q1 Q2 Q3 Q4 Q5 Q6 nm (P'0) (P'1) (P'2) (P'3) (P'4) (P'5) (L'0) (L'1) (L'2) dy2 (Q'0) (Q'1) (Q'2) (Q'3) (Q'4) (Q'5) (Q'6) nm2 O0 O1 on oc p q a n hn9) 0 81 (wApp cI ad (bwr B0 (nI n) 4 p q a 0 0) (nI n + 1) P0 P1 P2 P3 P4 P5 L0 L1 L2 dy (rup 30 Q0 nm p) (rup 30 Q1 nm q) (rup 30 Q2 nm a) (rup 30 Q3 nm 0) (rup 30 Q4 nm 0) (rup 30 Q5 nm 0) (erN Q6 nm 8) (nm + 1) (P'0) (P'1) (P'2) (P'3) (P'4) (P'5) (L'0) (L'1) (L'2) dy2 (Q'0) (Q'1) (Q'2) (Q'3) (Q'4) (Q'5) (Q'6) nm2 O0 O1 on oc) gX8_request_X8_tell rfl hdX8_tell ⟨by omega, by decide⟩ rfl rfl rfl (Nat.le_of_ble_eq_true rfl) dX8_request_42 rfl rfl ?_ ⟨by rw [hcz]; omega, by rw [hsz]; omega⟩
    exact V_widen (by omega) (by omega) (fin 45 _ _ dX8_request_45 rfl (by rw [if_pos t1, if_pos t5, if_pos t9, if_pos c24]) rfl)
  · exact thr _ _ 27 3 107 "there are all the requests that can be" _ _ (by omega) (by omega) (by rw [if_pos t1, if_pos t5, if_pos t9, if_neg c24]) (by decide) twX8_request_3 (by decide) dX8_request_27 dX8_request_30 dX8_request_31 dX8_request_33 dX8_request_36 (Nat.le_of_ble_eq_true rfl)
theorem hdX8_limit : yX8_limit.cls = RX8 ∧ yX8_limit.cls ≠ "java/lang/invoke/MethodHandle" ∧ yX8_limit.cls ≠ "java/lang/invoke/VarHandle" ∧ (parseMethodDescriptor yX8_limit.desc).map (fun d => d.parameters.length) = some 2 := by decide +kernel
theorem twX8_limit_2 : ThW 2 wsX8_limit := by refine ⟨?_, ?_, ?_⟩ <;> decide +kernel
set_option maxHeartbeats 4000000 in
set_option maxRecDepth 100000 in
/-- Approvalyard.limit  -/
theorem cX8_limit_met (l : Launch) (D : va_G) (tys : List (ClassId × FieldType)) (cI : ClassId) (ht : tys[0]? = some (cI, .int)) (ad : Nat → Nat) (B0 : Nat → Int32) (P0 P1 P2 P3 P4 P5 : Nat → Int32) (L0 L1 L2 : Nat → Int32) (dy : Int32) (Q0 Q1 Q2 Q3 Q4 Q5 Q6 : Nat → Int32) (nm : Int32) (P'0 P'1 P'2 P'3 P'4 P'5 : Nat → Int32) (L'0 L'1 L'2 : Nat → Int32) (dy2 : Int32) (Q'0 Q'1 Q'2 Q'3 Q'4 Q'5 Q'6 : Nat → Int32) (nm2 : Int32) (O0 O1 : Nat → Int32) (on : Int32) (oc : Int32) (p c : Int32) (n : Nat) (hn9 : n < 512) : CXi l yX8_limit wsX8_limit 14 2 D tys [.ref (ad 0), .int p, .int c] (wApp cI ad B0 (nI n) P0 P1 P2 P3 P4 P5 L0 L1 L2 dy Q0 Q1 Q2 Q3 Q4 Q5 Q6 nm (P'0) (P'1) (P'2) (P'3) (P'4) (P'5) (L'0) (L'1) (L'2) dy2 (Q'0) (Q'1) (Q'2) (Q'3) (Q'4) (Q'5) (Q'6) nm2 O0 O1 on oc) (if (if p < 0 then 1 else (if p < 8 then 0 else 1)) = 0 then (if c < 0 then 2 else (if c ≤ 10000 then 0 else 2)) else if p < 0 then 1 else (if p < 8 then 0 else 1)) (rat 8 L0 p) (wApp cI ad (bwr B0 (nI n) 6 p c 0 0 0) (nI n + 1) P0 P1 P2 P3 P4 P5 (rup 8 L0 p c) L1 L2 dy Q0 Q1 Q2 Q3 Q4 Q5 Q6 nm (P'0) (P'1) (P'2) (P'3) (P'4) (P'5) (L'0) (L'1) (L'2) dy2 (Q'0) (Q'1) (Q'2) (Q'3) (Q'4) (Q'5) (Q'6) nm2 O0 O1 on oc) := by
  have hb9 : nI n < 512 := nI_lt (b := 512) (by omega) (by decide)
  refine CXi_of (maxL := 3) (cc := cX8_limit) (y := yX8_limit) rfl rfl (Nat.le_of_ble_eq_true rfl) rfl (by decide) (fun X hl hD hk hn hcz hsz o xo fin out thr => ?_)
  subst hl; subst hD; subst hk
  refine V_iload_n (pc := 0) o dX8_limit_0 rfl ?_
  refine V_xSv (pc := 1) o xo (cX8_checkPerson_met _ _ _ p) 0 0 gX8_limit_X8_checkPerson rfl hdX8_checkPerson ⟨by omega, by decide⟩ rfl (Nat.le_of_ble_eq_true rfl) ⟨by rw [hcz]; omega, by rw [hsz]; omega⟩ dX8_limit_1 rfl (fun t1 => out _ _ _ _ _ _ (by omega) (by omega) (by rw [if_neg t1]; exact t1) (by rw [if_neg t1])) (fun t1 => ?_)
  refine V_iload_n (pc := 4) o dX8_limit_4 rfl ?_
  refine V_if_lt (pc := 5) o 15 dX8_limit_5 (by decide) (fun c5 => ?_) (fun c5 => ?_)
  · exact thr _ _ 15 2 135 "the limit is out of range" _ _ (by omega) (by omega) (by rw [if_pos t1, if_pos c5]) (by decide) twX8_limit_2 (by decide) dX8_limit_15 dX8_limit_18 dX8_limit_19 dX8_limit_21 dX8_limit_24 (Nat.le_of_ble_eq_true rfl)
  · refine V_iload_n (pc := 8) o dX8_limit_8 rfl ?_
    refine V_sipush (pc := 9) o 10000 dX8_limit_9 (by decide) ?_
    refine V_icmp_le (pc := 12) o 25 dX8_limit_12 (by decide) (fun c12 => ?_) (fun c12 => ?_)
    · refine V_aload_n (pc := 25) o dX8_limit_25 rfl ?_
      refine V_bipush (pc := 26) o 6 dX8_limit_26 (by decide) ?_
      refine V_iload_n (pc := 28) o dX8_limit_28 rfl ?_
      refine V_iload_n (pc := 29) o dX8_limit_29 rfl ?_
      refine V_iconst (pc := 30) o 0 dX8_limit_30 (by decide) ?_
      refine V_wVi (pc := 31) o (cX8_tell6 _ _ _ cI ht ad B0 P0 P1 P2 P3 P4 P5 L0 L1 L2 dy Q0 Q1 Q2 Q3 Q4 Q5 Q6 nm (P'0) (P'1) (P'2) (P'3) (P'4) (P'5) (L'0) (L'1) (L'2) dy2 (Q'0) (Q'1) (Q'2) (Q'3) (Q'4) (Q'5) (Q'6) nm2 O0 O1 on oc p c 0 n hn9) 0 81 (wApp cI ad (bwr B0 (nI n) 6 p c 0 0 0) (nI n + 1) P0 P1 P2 P3 P4 P5 (rup 8 L0 p c) L1 L2 dy Q0 Q1 Q2 Q3 Q4 Q5 Q6 nm (P'0) (P'1) (P'2) (P'3) (P'4) (P'5) (L'0) (L'1) (L'2) dy2 (Q'0) (Q'1) (Q'2) (Q'3) (Q'4) (Q'5) (Q'6) nm2 O0 O1 on oc) gX8_limit_X8_tell rfl hdX8_tell ⟨by omega, by decide⟩ rfl rfl rfl (Nat.le_of_ble_eq_true rfl) dX8_limit_31 rfl rfl ?_ ⟨by rw [hcz]; omega, by rw [hsz]; omega⟩
      exact V_widen (by omega) (by omega) (fin 34 _ _ dX8_limit_34 rfl (by rw [if_pos t1, if_neg c5, if_pos c12]) rfl)
    · exact thr _ _ 15 2 135 "the limit is out of range" _ _ (by omega) (by omega) (by rw [if_pos t1, if_neg c5, if_neg c12]) (by decide) twX8_limit_2 (by decide) dX8_limit_15 dX8_limit_18 dX8_limit_19 dX8_limit_21 dX8_limit_24 (Nat.le_of_ble_eq_true rfl)
theorem hdX8_leave : yX8_leave.cls = RX8 ∧ yX8_leave.cls ≠ "java/lang/invoke/MethodHandle" ∧ yX8_leave.cls ≠ "java/lang/invoke/VarHandle" ∧ (parseMethodDescriptor yX8_leave.desc).map (fun d => d.parameters.length) = some 3 := by decide +kernel
theorem twX8_leave_2 : ThW 2 wsX8_leave := by refine ⟨?_, ?_, ?_⟩ <;> decide +kernel
set_option maxHeartbeats 4000000 in
set_option maxRecDepth 100000 in
/-- Approvalyard.leave  -/
theorem cX8_leave_met (l : Launch) (D : va_G) (tys : List (ClassId × FieldType)) (cI : ClassId) (ht : tys[0]? = some (cI, .int)) (ad : Nat → Nat) (B0 : Nat → Int32) (P0 P1 P2 P3 P4 P5 : Nat → Int32) (L0 L1 L2 : Nat → Int32) (dy : Int32) (Q0 Q1 Q2 Q3 Q4 Q5 Q6 : Nat → Int32) (nm : Int32) (P'0 P'1 P'2 P'3 P'4 P'5 : Nat → Int32) (L'0 L'1 L'2 : Nat → Int32) (dy2 : Int32) (Q'0 Q'1 Q'2 Q'3 Q'4 Q'5 Q'6 : Nat → Int32) (nm2 : Int32) (O0 O1 : Nat → Int32) (on : Int32) (oc : Int32) (p q m : Int32) (n : Nat) (hn9 : n < 512) : CXi l yX8_leave wsX8_leave 14 4 D tys [.ref (ad 0), .int p, .int q, .int m] (wApp cI ad B0 (nI n) P0 P1 P2 P3 P4 P5 L0 L1 L2 dy Q0 Q1 Q2 Q3 Q4 Q5 Q6 nm (P'0) (P'1) (P'2) (P'3) (P'4) (P'5) (L'0) (L'1) (L'2) dy2 (Q'0) (Q'1) (Q'2) (Q'3) (Q'4) (Q'5) (Q'6) nm2 O0 O1 on oc) (if (if p < 0 then 1 else (if p < 8 then 0 else 1)) = 0 then (if (if q < 0 then 1 else (if q < 8 then 0 else 1)) = 0 then (if ¬ p = q then (if (if m < 1 then 2 else (if m ≤ 60 then 0 else 2)) = 0 then 0 else if m < 1 then 2 else (if m ≤ 60 then 0 else 2)) else 2) else if q < 0 then 1 else (if q < 8 then 0 else 1)) else if p < 0 then 1 else (if p < 8 then 0 else 1)) (rat 8 (rup 8 L2 p (dy + m)) p) (wApp cI ad (bwr B0 (nI n) 7 p q m 0 0) (nI n + 1) P0 P1 P2 P3 P4 P5 L0 (rup 8 L1 p q) (rup 8 L2 p (dy + m)) dy Q0 Q1 Q2 Q3 Q4 Q5 Q6 nm (P'0) (P'1) (P'2) (P'3) (P'4) (P'5) (L'0) (L'1) (L'2) dy2 (Q'0) (Q'1) (Q'2) (Q'3) (Q'4) (Q'5) (Q'6) nm2 O0 O1 on oc) := by
  have hb9 : nI n < 512 := nI_lt (b := 512) (by omega) (by decide)
  refine CXi_of (maxL := 4) (cc := cX8_leave) (y := yX8_leave) rfl rfl (Nat.le_of_ble_eq_true rfl) rfl (by decide) (fun X hl hD hk hn hcz hsz o xo fin out thr => ?_)
  subst hl; subst hD; subst hk
  refine V_iload_n (pc := 0) o dX8_leave_0 rfl ?_
  refine V_xSv (pc := 1) o xo (cX8_checkPerson_met _ _ _ p) 0 0 gX8_leave_X8_checkPerson rfl hdX8_checkPerson ⟨by omega, by decide⟩ rfl (Nat.le_of_ble_eq_true rfl) ⟨by rw [hcz]; omega, by rw [hsz]; omega⟩ dX8_leave_1 rfl (fun t1 => out _ _ _ _ _ _ (by omega) (by omega) (by rw [if_neg t1]; exact t1) (by rw [if_neg t1])) (fun t1 => ?_)
  refine V_iload_n (pc := 4) o dX8_leave_4 rfl ?_
  refine V_xSv (pc := 5) o xo (cX8_checkPerson_met _ _ _ q) 0 0 gX8_leave_X8_checkPerson rfl hdX8_checkPerson ⟨by omega, by decide⟩ rfl (Nat.le_of_ble_eq_true rfl) ⟨by rw [hcz]; omega, by rw [hsz]; omega⟩ dX8_leave_5 rfl (fun t5 => out _ _ _ _ _ _ (by omega) (by omega) (by rw [if_pos t1, if_neg t5]; exact t5) (by rw [if_pos t1, if_neg t5])) (fun t5 => ?_)
  refine V_iload_n (pc := 8) o dX8_leave_8 rfl ?_
  refine V_iload_n (pc := 9) o dX8_leave_9 rfl ?_
  refine V_icmp_ne (pc := 10) o 23 dX8_leave_10 (by decide) (fun c10 => ?_) (fun c10 => ?_)
  · refine V_iload_n (pc := 23) o dX8_leave_23 rfl ?_
    refine V_xSv (pc := 24) o xo (cX8_checkDays_met _ _ _ m) 0 0 gX8_leave_X8_checkDays rfl hdX8_checkDays ⟨by omega, by decide⟩ rfl (Nat.le_of_ble_eq_true rfl) ⟨by rw [hcz]; omega, by rw [hsz]; omega⟩ dX8_leave_24 rfl (fun t24 => out _ _ _ _ _ _ (by omega) (by omega) (by rw [if_pos t1, if_pos t5, if_pos c10, if_neg t24]; exact t24) (by rw [if_pos t1, if_pos t5, if_pos c10, if_neg t24])) (fun t24 => ?_)
    refine V_aload_n (pc := 27) o dX8_leave_27 rfl ?_
    refine V_bipush (pc := 28) o 7 dX8_leave_28 (by decide) ?_
    refine V_iload_n (pc := 30) o dX8_leave_30 rfl ?_
    refine V_iload_n (pc := 31) o dX8_leave_31 rfl ?_
    refine V_iload_n (pc := 32) o dX8_leave_32 rfl ?_
    refine V_wVi (pc := 33) o (cX8_tell7 _ _ _ cI ht ad B0 P0 P1 P2 P3 P4 P5 L0 L1 L2 dy Q0 Q1 Q2 Q3 Q4 Q5 Q6 nm (P'0) (P'1) (P'2) (P'3) (P'4) (P'5) (L'0) (L'1) (L'2) dy2 (Q'0) (Q'1) (Q'2) (Q'3) (Q'4) (Q'5) (Q'6) nm2 O0 O1 on oc p q m n hn9) 0 81 (wApp cI ad (bwr B0 (nI n) 7 p q m 0 0) (nI n + 1) P0 P1 P2 P3 P4 P5 L0 (rup 8 L1 p q) (rup 8 L2 p (dy + m)) dy Q0 Q1 Q2 Q3 Q4 Q5 Q6 nm (P'0) (P'1) (P'2) (P'3) (P'4) (P'5) (L'0) (L'1) (L'2) dy2 (Q'0) (Q'1) (Q'2) (Q'3) (Q'4) (Q'5) (Q'6) nm2 O0 O1 on oc) gX8_leave_X8_tell rfl hdX8_tell ⟨by omega, by decide⟩ rfl rfl rfl (Nat.le_of_ble_eq_true rfl) dX8_leave_33 rfl rfl ?_ ⟨by rw [hcz]; omega, by rw [hsz]; omega⟩
    exact V_widen (by omega) (by omega) (fin 36 _ _ dX8_leave_36 rfl (by rw [if_pos t1, if_pos t5, if_pos c10, if_pos t24]) rfl)
  · exact thr _ _ 13 2 137 "the delegate is another person" _ _ (by omega) (by omega) (by rw [if_pos t1, if_pos t5, if_neg (fun h => h c10)]) (by decide) twX8_leave_2 (by decide) dX8_leave_13 dX8_leave_16 dX8_leave_17 dX8_leave_19 dX8_leave_22 (Nat.le_of_ble_eq_true rfl)
theorem hdX8_approve : yX8_approve.cls = RX8 ∧ yX8_approve.cls ≠ "java/lang/invoke/MethodHandle" ∧ yX8_approve.cls ≠ "java/lang/invoke/VarHandle" ∧ (parseMethodDescriptor yX8_approve.desc).map (fun d => d.parameters.length) = some 2 := by decide +kernel
theorem hiX8_approve_X8 : ∀ w ∈ wsX80, w ∈ wsX8_approve := by decide +kernel
theorem lkX8_approve_19 : Cond.fieldLink RX8 19 RX8 "desk" "LApprovalyard$Desk;" ∈ wsX8_approve := by decide +kernel
theorem twX8_approve_3 : ThW 3 wsX8_approve := by refine ⟨?_, ?_, ?_⟩ <;> decide +kernel
set_option maxHeartbeats 4000000 in
set_option maxRecDepth 100000 in
/-- Approvalyard.approve  -/
theorem cX8_approve_met (l : Launch) (D : va_G) (tys : List (ClassId × FieldType)) (cI : ClassId) (ht : tys[0]? = some (cI, .int)) (ad : Nat → Nat) (B0 : Nat → Int32) (P0 P1 P2 P3 P4 P5 : Nat → Int32) (L0 L1 L2 : Nat → Int32) (dy : Int32) (Q0 Q1 Q2 Q3 Q4 Q5 Q6 : Nat → Int32) (nm : Int32) (P'0 P'1 P'2 P'3 P'4 P'5 : Nat → Int32) (L'0 L'1 L'2 : Nat → Int32) (dy2 : Int32) (Q'0 Q'1 Q'2 Q'3 Q'4 Q'5 Q'6 : Nat → Int32) (nm2 : Int32) (O0 O1 : Nat → Int32) (on : Int32) (oc : Int32) (q p : Int32) (n : Nat) (hn9 : n < 512) : CXi l yX8_approve wsX8_approve 14 3 D tys [.ref (ad 0), .int q, .int p] (wApp cI ad B0 (nI n) P0 P1 P2 P3 P4 P5 L0 L1 L2 dy Q0 Q1 Q2 Q3 Q4 Q5 Q6 nm (P'0) (P'1) (P'2) (P'3) (P'4) (P'5) (L'0) (L'1) (L'2) dy2 (Q'0) (Q'1) (Q'2) (Q'3) (Q'4) (Q'5) (Q'6) nm2 O0 O1 on oc) (if (if q < 0 then 1 else (if q < nm then 0 else 1)) = 0 then (if (if p < 0 then 1 else (if p < 8 then 0 else 1)) = 0 then (if ¬ pfF L0 L1 L2 dy Q0 Q3 Q5 Q6 q p = (-1) then 0 else 3) else if p < 0 then 1 else (if p < 8 then 0 else 1)) else if q < 0 then 1 else (if q < nm then 0 else 1)) (prF L0 L1 L2 dy p (rat 30 Q5 q)) (wApp cI ad (bwr B0 (nI n) 8 q p 0 0 0) (nI n + 1) P0 P1 P2 P3 P4 P5 L0 L1 L2 dy Q0 Q1 Q2 Q3 Q4 Q5 (rup 240 Q6 (q * 8 + p) (tkE L0 L1 L2 dy p (rat 30 Q5 q))) nm (P'0) (P'1) (P'2) (P'3) (P'4) (P'5) (L'0) (L'1) (L'2) dy2 (Q'0) (Q'1) (Q'2) (Q'3) (Q'4) (Q'5) (Q'6) nm2 O0 O1 on oc) := by
  have hb9 : nI n < 512 := nI_lt (b := 512) (by omega) (by decide)
  refine CXi_of (maxL := 3) (cc := cX8_approve) (y := yX8_approve) rfl rfl (Nat.le_of_ble_eq_true rfl) rfl (by decide) (fun X hl hD hk hn hcz hsz o xo fin out thr => ?_)
  subst hl; subst hD; subst hk
  refine V_aload_n (pc := 0) o dX8_approve_0 rfl ?_
  refine V_iload_n (pc := 1) o dX8_approve_1 rfl ?_
  refine V_xVv (pc := 2) o xo (cX8_checkRequest_met _ _ _ cI ht ad B0 (nI n) P0 P1 P2 P3 P4 P5 L0 L1 L2 dy Q0 Q1 Q2 Q3 Q4 Q5 Q6 nm (P'0) (P'1) (P'2) (P'3) (P'4) (P'5) (L'0) (L'1) (L'2) dy2 (Q'0) (Q'1) (Q'2) (Q'3) (Q'4) (Q'5) (Q'6) nm2 O0 O1 on oc q) 0 81 gX8_approve_X8_checkRequest rfl hdX8_checkRequest ⟨by omega, by decide⟩ rfl rfl rfl (Nat.le_of_ble_eq_true rfl) ⟨by rw [hcz]; omega, by rw [hsz]; omega⟩ dX8_approve_2 rfl (fun t2 => out _ _ _ _ _ _ (by omega) (by omega) (by rw [if_neg t2]; exact t2) (by rw [if_neg t2])) (fun t2 => ?_)
  refine V_iload_n (pc := 5) o dX8_approve_5 rfl ?_
  refine V_xSv (pc := 6) o xo (cX8_checkPerson_met _ _ _ p) 0 0 gX8_approve_X8_checkPerson rfl hdX8_checkPerson ⟨by omega, by decide⟩ rfl (Nat.le_of_ble_eq_true rfl) ⟨by rw [hcz]; omega, by rw [hsz]; omega⟩ dX8_approve_6 rfl (fun t6 => out _ _ _ _ _ _ (by omega) (by omega) (by rw [if_pos t2, if_neg t6]; exact t6) (by rw [if_pos t2, if_neg t6])) (fun t6 => ?_)
  refine V_aload_n (pc := 9) o dX8_approve_9 rfl ?_
  refine V_get (pc := 10) o 0 1 hiX8_approve_X8 rfl rfl (by decide) lkX8_approve_19 rfl rfl dX8_approve_10 ?_
  refine V_iload_n (pc := 13) o dX8_approve_13 rfl ?_
  refine V_iload_n (pc := 14) o dX8_approve_14 rfl ?_
  refine V_rVi (pc := 15) o (cX2_principalFor_met _ _ _ cI ht (fun k => ad (4 + k)) P0 P1 P2 P3 P4 P5 L0 L1 L2 dy Q0 Q1 Q2 Q3 Q4 Q5 Q6 nm q p) 4 36 gX8_approve_X2_principalFor rfl hdX2_principalFor ⟨by omega, by decide⟩ rfl rfl rfl (Nat.le_of_ble_eq_true rfl) dX8_approve_15 rfl ?_ ⟨by rw [hcz]; omega, by rw [hsz]; omega⟩
  refine V_iconst (pc := 18) o (-1) dX8_approve_18 (by decide) ?_
  refine V_icmp_ne (pc := 19) o 32 dX8_approve_19 (by decide) (fun c19 => ?_) (fun c19 => ?_)
  · refine V_aload_n (pc := 32) o dX8_approve_32 rfl ?_
    refine V_bipush (pc := 33) o 8 dX8_approve_33 (by decide) ?_
    refine V_iload_n (pc := 35) o dX8_approve_35 rfl ?_
    refine V_iload_n (pc := 36) o dX8_approve_36 rfl ?_
    refine V_iconst (pc := 37) o 0 dX8_approve_37 (by decide) ?_
    refine V_wVi (pc := 38) o (cX8_tell8 _ _ _ cI ht ad B0 P0 P1 P2 P3 P4 P5 L0 L1 L2 dy Q0 Q1 Q2 Q3 Q4 Q5 Q6 nm (P'0) (P'1) (P'2) (P'3) (P'4) (P'5) (L'0) (L'1) (L'2) dy2 (Q'0) (Q'1) (Q'2) (Q'3) (Q'4) (Q'5) (Q'6) nm2 O0 O1 on oc q p 0 n hn9) 0 81 (wApp cI ad (bwr B0 (nI n) 8 q p 0 0 0) (nI n + 1) P0 P1 P2 P3 P4 P5 L0 L1 L2 dy Q0 Q1 Q2 Q3 Q4 Q5 (rup 240 Q6 (q * 8 + p) (tkE L0 L1 L2 dy p (rat 30 Q5 q))) nm (P'0) (P'1) (P'2) (P'3) (P'4) (P'5) (L'0) (L'1) (L'2) dy2 (Q'0) (Q'1) (Q'2) (Q'3) (Q'4) (Q'5) (Q'6) nm2 O0 O1 on oc) gX8_approve_X8_tell rfl hdX8_tell ⟨by omega, by decide⟩ rfl rfl rfl (Nat.le_of_ble_eq_true rfl) dX8_approve_38 rfl rfl ?_ ⟨by rw [hcz]; omega, by rw [hsz]; omega⟩
    exact V_widen (by omega) (by omega) (fin 41 _ _ dX8_approve_41 rfl (by rw [if_pos t2, if_pos t6, if_pos c19]) rfl)
  · exact thr _ _ 22 3 145 "the person cannot approve the request now" _ _ (by omega) (by omega) (by rw [if_pos t2, if_pos t6, if_neg (fun h => h c19)]) (by decide) twX8_approve_3 (by decide) dX8_approve_22 dX8_approve_25 dX8_approve_26 dX8_approve_28 dX8_approve_31 (Nat.le_of_ble_eq_true rfl)
theorem hdX8_release : yX8_release.cls = RX8 ∧ yX8_release.cls ≠ "java/lang/invoke/MethodHandle" ∧ yX8_release.cls ≠ "java/lang/invoke/VarHandle" ∧ (parseMethodDescriptor yX8_release.desc).map (fun d => d.parameters.length) = some 1 := by decide +kernel
theorem hiX8_release_X8 : ∀ w ∈ wsX80, w ∈ wsX8_release := by decide +kernel
theorem lkX8_release_19 : Cond.fieldLink RX8 19 RX8 "desk" "LApprovalyard$Desk;" ∈ wsX8_release := by decide +kernel
theorem hiX8_release_X2 : ∀ w ∈ wsX20, w ∈ wsX8_release := by decide +kernel
theorem lkX8_release_97 : Cond.fieldLink RX8 97 RX2 "requests" "LApprovalyard$Requests;" ∈ wsX8_release := by decide +kernel
theorem twX8_release_3 : ThW 3 wsX8_release := by refine ⟨?_, ?_, ?_⟩ <;> decide +kernel
set_option maxHeartbeats 4000000 in
set_option maxRecDepth 100000 in
/-- Approvalyard.release  -/
theorem cX8_release_met (l : Launch) (D : va_G) (tys : List (ClassId × FieldType)) (cI : ClassId) (ht : tys[0]? = some (cI, .int)) (ad : Nat → Nat) (B0 : Nat → Int32) (P0 P1 P2 P3 P4 P5 : Nat → Int32) (L0 L1 L2 : Nat → Int32) (dy : Int32) (Q0 Q1 Q2 Q3 Q4 Q5 Q6 : Nat → Int32) (nm : Int32) (P'0 P'1 P'2 P'3 P'4 P'5 : Nat → Int32) (L'0 L'1 L'2 : Nat → Int32) (dy2 : Int32) (Q'0 Q'1 Q'2 Q'3 Q'4 Q'5 Q'6 : Nat → Int32) (nm2 : Int32) (O0 O1 : Nat → Int32) (on : Int32) (oc : Int32) (q : Int32) (n : Nat) (hn9 : n < 512) : CXv l yX8_release wsX8_release 14 2 D tys [.ref (ad 0), .int q] (wApp cI ad B0 (nI n) P0 P1 P2 P3 P4 P5 L0 L1 L2 dy Q0 Q1 Q2 Q3 Q4 Q5 Q6 nm (P'0) (P'1) (P'2) (P'3) (P'4) (P'5) (L'0) (L'1) (L'2) dy2 (Q'0) (Q'1) (Q'2) (Q'3) (Q'4) (Q'5) (Q'6) nm2 O0 O1 on oc) (if (if q < 0 then 1 else (if q < nm then 0 else 1)) = 0 then (if ¬ rat 30 Q3 q = 1 then 3 else (if ¬ covI (rat 30 Q5 q) (apN Q6 q dy 8) = 0 then 0 else 3)) else if q < 0 then 1 else (if q < nm then 0 else 1)) (wApp cI ad (bwr B0 (nI n) 9 q 0 0 0 0) (nI n + 1) P0 P1 P2 P3 P4 P5 L0 L1 L2 dy Q0 Q1 Q2 (rup 30 Q3 q 2) Q4 Q5 Q6 nm (P'0) (P'1) (P'2) (P'3) (P'4) (P'5) (L'0) (L'1) (L'2) dy2 (Q'0) (Q'1) (Q'2) (Q'3) (Q'4) (Q'5) (Q'6) nm2 O0 O1 on oc) := by
  have hb9 : nI n < 512 := nI_lt (b := 512) (by omega) (by decide)
  refine CXv_of (maxL := 2) (cc := cX8_release) (y := yX8_release) rfl rfl (Nat.le_of_ble_eq_true rfl) rfl (by decide) (fun X hl hD hk hn hcz hsz o xo fin out thr => ?_)
  subst hl; subst hD; subst hk
  refine V_aload_n (pc := 0) o dX8_release_0 rfl ?_
  refine V_iload_n (pc := 1) o dX8_release_1 rfl ?_
  refine V_xVv (pc := 2) o xo (cX8_checkRequest_met _ _ _ cI ht ad B0 (nI n) P0 P1 P2 P3 P4 P5 L0 L1 L2 dy Q0 Q1 Q2 Q3 Q4 Q5 Q6 nm (P'0) (P'1) (P'2) (P'3) (P'4) (P'5) (L'0) (L'1) (L'2) dy2 (Q'0) (Q'1) (Q'2) (Q'3) (Q'4) (Q'5) (Q'6) nm2 O0 O1 on oc q) 0 81 gX8_release_X8_checkRequest rfl hdX8_checkRequest ⟨by omega, by decide⟩ rfl rfl rfl (Nat.le_of_ble_eq_true rfl) ⟨by rw [hcz]; omega, by rw [hsz]; omega⟩ dX8_release_2 rfl (fun t2 => out _ _ _ _ _ _ (by omega) (by omega) (by rw [if_neg t2]; exact t2) (by rw [if_neg t2])) (fun t2 => ?_)
  refine V_aload_n (pc := 5) o dX8_release_5 rfl ?_
  refine V_get (pc := 6) o 0 1 hiX8_release_X8 rfl rfl (by decide) lkX8_release_19 rfl rfl dX8_release_6 ?_
  refine V_get (pc := 9) o 4 2 hiX8_release_X2 rfl rfl (by decide) lkX8_release_97 rfl rfl dX8_release_9 ?_
  refine V_iload_n (pc := 12) o dX8_release_12 rfl ?_
  refine V_rVi (pc := 13) o (cX5_stateOf_met _ _ _ cI ht (fun k => ad (25 + k)) Q0 Q1 Q2 Q3 Q4 Q5 Q6 nm q) 25 15 gX8_release_X5_stateOf rfl hdX5_stateOf ⟨by omega, by decide⟩ rfl rfl rfl (Nat.le_of_ble_eq_true rfl) dX8_release_13 rfl ?_ ⟨by rw [hcz]; omega, by rw [hsz]; omega⟩
  refine V_iconst (pc := 16) o 1 dX8_release_16 (by decide) ?_
  refine V_icmp_ne (pc := 17) o 31 dX8_release_17 (by decide) (fun c17 => ?_) (fun c17 => ?_)
  · exact thr _ _ 31 3 151 "the request is not resolved and covered" _ _ (by omega) (by omega) (by rw [if_pos t2, if_pos c17]) (by decide) twX8_release_3 (by decide) dX8_release_31 dX8_release_34 dX8_release_35 dX8_release_37 dX8_release_40 (Nat.le_of_ble_eq_true rfl)
  · refine V_aload_n (pc := 20) o dX8_release_20 rfl ?_
    refine V_get (pc := 21) o 0 1 hiX8_release_X8 rfl rfl (by decide) lkX8_release_19 rfl rfl dX8_release_21 ?_
    refine V_iload_n (pc := 24) o dX8_release_24 rfl ?_
    refine V_rVi (pc := 25) o (cX2_isCovered_met _ _ _ cI ht (fun k => ad (4 + k)) P0 P1 P2 P3 P4 P5 L0 L1 L2 dy Q0 Q1 Q2 Q3 Q4 Q5 Q6 nm q) 4 36 gX8_release_X2_isCovered rfl hdX2_isCovered ⟨by omega, by decide⟩ rfl rfl rfl (Nat.le_of_ble_eq_true rfl) dX8_release_25 rfl ?_ ⟨by rw [hcz]; omega, by rw [hsz]; omega⟩
    refine V_if_ne (pc := 28) o 41 dX8_release_28 (by decide) (fun c28 => ?_) (fun c28 => ?_)
    · refine V_aload_n (pc := 41) o dX8_release_41 rfl ?_
      refine V_bipush (pc := 42) o 9 dX8_release_42 (by decide) ?_
      refine V_iload_n (pc := 44) o dX8_release_44 rfl ?_
      refine V_iconst (pc := 45) o 0 dX8_release_45 (by decide) ?_
      refine V_iconst (pc := 46) o 0 dX8_release_46 (by decide) ?_
      refine V_wVi (pc := 47) o (cX8_tell9 _ _ _ cI ht ad B0 P0 P1 P2 P3 P4 P5 L0 L1 L2 dy Q0 Q1 Q2 Q3 Q4 Q5 Q6 nm (P'0) (P'1) (P'2) (P'3) (P'4) (P'5) (L'0) (L'1) (L'2) dy2 (Q'0) (Q'1) (Q'2) (Q'3) (Q'4) (Q'5) (Q'6) nm2 O0 O1 on oc q 0 0 n hn9) 0 81 (wApp cI ad (bwr B0 (nI n) 9 q 0 0 0 0) (nI n + 1) P0 P1 P2 P3 P4 P5 L0 L1 L2 dy Q0 Q1 Q2 (rup 30 Q3 q 2) Q4 Q5 Q6 nm (P'0) (P'1) (P'2) (P'3) (P'4) (P'5) (L'0) (L'1) (L'2) dy2 (Q'0) (Q'1) (Q'2) (Q'3) (Q'4) (Q'5) (Q'6) nm2 O0 O1 on oc) gX8_release_X8_tell rfl hdX8_tell ⟨by omega, by decide⟩ rfl rfl rfl (Nat.le_of_ble_eq_true rfl) dX8_release_47 rfl rfl ?_ ⟨by rw [hcz]; omega, by rw [hsz]; omega⟩
      refine V_pop (pc := 50) o rfl dX8_release_50 ?_
      exact V_widen (by omega) (by omega) (fin 51 _ dX8_release_51 (by rw [if_pos t2, if_neg (fun h => h c17), if_pos c28]))
    · exact thr _ _ 31 3 151 "the request is not resolved and covered" _ _ (by omega) (by omega) (by rw [if_pos t2, if_neg (fun h => h c17), if_neg (fun h => h c28)]) (by decide) twX8_release_3 (by decide) dX8_release_31 dX8_release_34 dX8_release_35 dX8_release_37 dX8_release_40 (Nat.le_of_ble_eq_true rfl)
theorem hdX8_pass : yX8_pass.cls = RX8 ∧ yX8_pass.cls ≠ "java/lang/invoke/MethodHandle" ∧ yX8_pass.cls ≠ "java/lang/invoke/VarHandle" ∧ (parseMethodDescriptor yX8_pass.desc).map (fun d => d.parameters.length) = some 1 := by decide +kernel
set_option maxHeartbeats 4000000 in
set_option maxRecDepth 100000 in
/-- Approvalyard.pass  -/
theorem cX8_pass_met (l : Launch) (D : va_G) (tys : List (ClassId × FieldType)) (cI : ClassId) (ht : tys[0]? = some (cI, .int)) (ad : Nat → Nat) (B0 : Nat → Int32) (P0 P1 P2 P3 P4 P5 : Nat → Int32) (L0 L1 L2 : Nat → Int32) (dy : Int32) (Q0 Q1 Q2 Q3 Q4 Q5 Q6 : Nat → Int32) (nm : Int32) (P'0 P'1 P'2 P'3 P'4 P'5 : Nat → Int32) (L'0 L'1 L'2 : Nat → Int32) (dy2 : Int32) (Q'0 Q'1 Q'2 Q'3 Q'4 Q'5 Q'6 : Nat → Int32) (nm2 : Int32) (O0 O1 : Nat → Int32) (on : Int32) (oc : Int32) (m : Int32) (n : Nat) (hn9 : n < 512) : CXi l yX8_pass wsX8_pass 14 1 D tys [.ref (ad 0), .int m] (wApp cI ad B0 (nI n) P0 P1 P2 P3 P4 P5 L0 L1 L2 dy Q0 Q1 Q2 Q3 Q4 Q5 Q6 nm (P'0) (P'1) (P'2) (P'3) (P'4) (P'5) (L'0) (L'1) (L'2) dy2 (Q'0) (Q'1) (Q'2) (Q'3) (Q'4) (Q'5) (Q'6) nm2 O0 O1 on oc) (if (if m < 1 then 2 else (if m ≤ 60 then 0 else 2)) = 0 then 0 else if m < 1 then 2 else (if m ≤ 60 then 0 else 2)) (dy + m) (wApp cI ad (bwr B0 (nI n) 10 m 0 0 0 0) (nI n + 1) P0 P1 P2 P3 P4 P5 L0 L1 L2 (dy + m) Q0 Q1 Q2 Q3 Q4 Q5 Q6 nm (P'0) (P'1) (P'2) (P'3) (P'4) (P'5) (L'0) (L'1) (L'2) dy2 (Q'0) (Q'1) (Q'2) (Q'3) (Q'4) (Q'5) (Q'6) nm2 O0 O1 on oc) := by
  have hb9 : nI n < 512 := nI_lt (b := 512) (by omega) (by decide)
  refine CXi_of (maxL := 2) (cc := cX8_pass) (y := yX8_pass) rfl rfl (Nat.le_of_ble_eq_true rfl) rfl (by decide) (fun X hl hD hk hn hcz hsz o xo fin out thr => ?_)
  subst hl; subst hD; subst hk
  refine V_iload_n (pc := 0) o dX8_pass_0 rfl ?_
  refine V_xSv (pc := 1) o xo (cX8_checkDays_met _ _ _ m) 0 0 gX8_pass_X8_checkDays rfl hdX8_checkDays ⟨by omega, by decide⟩ rfl (Nat.le_of_ble_eq_true rfl) ⟨by rw [hcz]; omega, by rw [hsz]; omega⟩ dX8_pass_1 rfl (fun t1 => out _ _ _ _ _ _ (by omega) (by omega) (by rw [if_neg t1]; exact t1) (by rw [if_neg t1])) (fun t1 => ?_)
  refine V_aload_n (pc := 4) o dX8_pass_4 rfl ?_
  refine V_bipush (pc := 5) o 10 dX8_pass_5 (by decide) ?_
  refine V_iload_n (pc := 7) o dX8_pass_7 rfl ?_
  refine V_iconst (pc := 8) o 0 dX8_pass_8 (by decide) ?_
  refine V_iconst (pc := 9) o 0 dX8_pass_9 (by decide) ?_
  refine V_wVi (pc := 10) o (cX8_tell10 _ _ _ cI ht ad B0 P0 P1 P2 P3 P4 P5 L0 L1 L2 dy Q0 Q1 Q2 Q3 Q4 Q5 Q6 nm (P'0) (P'1) (P'2) (P'3) (P'4) (P'5) (L'0) (L'1) (L'2) dy2 (Q'0) (Q'1) (Q'2) (Q'3) (Q'4) (Q'5) (Q'6) nm2 O0 O1 on oc m 0 0 n hn9) 0 81 (wApp cI ad (bwr B0 (nI n) 10 m 0 0 0 0) (nI n + 1) P0 P1 P2 P3 P4 P5 L0 L1 L2 (dy + m) Q0 Q1 Q2 Q3 Q4 Q5 Q6 nm (P'0) (P'1) (P'2) (P'3) (P'4) (P'5) (L'0) (L'1) (L'2) dy2 (Q'0) (Q'1) (Q'2) (Q'3) (Q'4) (Q'5) (Q'6) nm2 O0 O1 on oc) gX8_pass_X8_tell rfl hdX8_tell ⟨by omega, by decide⟩ rfl rfl rfl (Nat.le_of_ble_eq_true rfl) dX8_pass_10 rfl rfl ?_ ⟨by rw [hcz]; omega, by rw [hsz]; omega⟩
  exact V_widen (by omega) (by omega) (fin 13 _ _ dX8_pass_13 rfl (by rw [if_pos t1]) rfl)
theorem hdX8_need : yX8_need.cls = RX8 ∧ yX8_need.cls ≠ "java/lang/invoke/MethodHandle" ∧ yX8_need.cls ≠ "java/lang/invoke/VarHandle" ∧ (parseMethodDescriptor yX8_need.desc).map (fun d => d.parameters.length) = some 5 := by decide +kernel
theorem twX8_need_2 : ThW 2 wsX8_need := by refine ⟨?_, ?_, ?_⟩ <;> decide +kernel
theorem hiX8_need_X8 : ∀ w ∈ wsX80, w ∈ wsX8_need := by decide +kernel
theorem lkX8_need_19 : Cond.fieldLink RX8 19 RX8 "desk" "LApprovalyard$Desk;" ∈ wsX8_need := by decide +kernel
theorem hiX8_need_X2 : ∀ w ∈ wsX20, w ∈ wsX8_need := by decide +kernel
theorem lkX8_need_44 : Cond.fieldLink RX8 44 RX2 "parts" "LApprovalyard$Parts;" ∈ wsX8_need := by decide +kernel
theorem lkX8_need_10 : Cond.fieldLink RX8 10 RX8 "book" "LApprovalyard$Book;" ∈ wsX8_need := by decide +kernel
theorem twX8_need_3 : ThW 3 wsX8_need := by refine ⟨?_, ?_, ?_⟩ <;> decide +kernel
set_option maxHeartbeats 4000000 in
set_option maxRecDepth 100000 in
/-- Approvalyard.need  -/
theorem cX8_need_met (l : Launch) (D : va_G) (tys : List (ClassId × FieldType)) (cI : ClassId) (ht : tys[0]? = some (cI, .int)) (ad : Nat → Nat) (B0 : Nat → Int32) (P0 P1 P2 P3 P4 P5 : Nat → Int32) (L0 L1 L2 : Nat → Int32) (dy : Int32) (Q0 Q1 Q2 Q3 Q4 Q5 Q6 : Nat → Int32) (nm : Int32) (P'0 P'1 P'2 P'3 P'4 P'5 : Nat → Int32) (L'0 L'1 L'2 : Nat → Int32) (dy2 : Int32) (Q'0 Q'1 Q'2 Q'3 Q'4 Q'5 Q'6 : Nat → Int32) (nm2 : Int32) (O0 O1 : Nat → Int32) (on : Int32) (oc : Int32) (p v q a b : Int32) (n : Nat) (hn9 : n < 512) : CXi l yX8_need wsX8_need 14 6 D tys [.ref (ad 0), .int p, .int v, .int q, .int a, .int b] (wApp cI ad B0 (nI n) P0 P1 P2 P3 P4 P5 L0 L1 L2 dy Q0 Q1 Q2 Q3 Q4 Q5 Q6 nm (P'0) (P'1) (P'2) (P'3) (P'4) (P'5) (L'0) (L'1) (L'2) dy2 (Q'0) (Q'1) (Q'2) (Q'3) (Q'4) (Q'5) (Q'6) nm2 O0 O1 on oc) (if (if p < 0 then 1 else (if p < 8 then 0 else 1)) = 0 then (if (if q < 0 then 1 else (if q < 8 then 0 else 1)) = 0 then (if (if v < 1 then 1 else (if v ≤ rat 8 P0 p then 0 else 1)) = 0 then (if ¬ p = q then (if (if a < 1 then 2 else (if a ≤ 3 then 0 else 2)) = 0 then (if b < a then 2 else (if b ≤ 3 then (if rat 24 P3 (plc p v) < 4 then 0 else 3) else 2)) else if a < 1 then 2 else (if a ≤ 3 then 0 else 2)) else 2) else if v < 1 then 1 else (if v ≤ rat 8 P0 p then 0 else 1)) else if q < 0 then 1 else (if q < 8 then 0 else 1)) else if p < 0 then 1 else (if p < 8 then 0 else 1)) ((rat 24 P3 (plc p v)) + 1) (wApp cI ad (bwr B0 (nI n) 2 p v q a b) (nI n + 1) P0 P1 P2 (rup 24 P3 (plc p v) ((rat 24 P3 (plc p v)) + 1)) (rup 96 P4 (plc p v * 4 + (rat 24 P3 (plc p v))) q) (rup 96 P5 (plc p v * 4 + (rat 24 P3 (plc p v))) (vset a b)) L0 L1 L2 dy Q0 Q1 Q2 Q3 Q4 Q5 Q6 nm (P'0) (P'1) (P'2) (P'3) (P'4) (P'5) (L'0) (L'1) (L'2) dy2 (Q'0) (Q'1) (Q'2) (Q'3) (Q'4) (Q'5) (Q'6) nm2 O0 O1 on oc) := by
  have hb9 : nI n < 512 := nI_lt (b := 512) (by omega) (by decide)
  refine CXi_of (maxL := 6) (cc := cX8_need) (y := yX8_need) rfl rfl (Nat.le_of_ble_eq_true rfl) rfl (by decide) (fun X hl hD hk hn hcz hsz o xo fin out thr => ?_)
  subst hl; subst hD; subst hk
  refine V_iload_n (pc := 0) o dX8_need_0 rfl ?_
  refine V_xSv (pc := 1) o xo (cX8_checkPart_met _ _ _ p) 0 0 gX8_need_X8_checkPart rfl hdX8_checkPart ⟨by omega, by decide⟩ rfl (Nat.le_of_ble_eq_true rfl) ⟨by rw [hcz]; omega, by rw [hsz]; omega⟩ dX8_need_1 rfl (fun t1 => out _ _ _ _ _ _ (by omega) (by omega) (by rw [if_neg t1]; exact t1) (by rw [if_neg t1])) (fun t1 => ?_)
  refine V_iload_n (pc := 4) o dX8_need_4 rfl ?_
  refine V_xSv (pc := 5) o xo (cX8_checkPart_met _ _ _ q) 0 0 gX8_need_X8_checkPart rfl hdX8_checkPart ⟨by omega, by decide⟩ rfl (Nat.le_of_ble_eq_true rfl) ⟨by rw [hcz]; omega, by rw [hsz]; omega⟩ dX8_need_5 rfl (fun t5 => out _ _ _ _ _ _ (by omega) (by omega) (by rw [if_pos t1, if_neg t5]; exact t5) (by rw [if_pos t1, if_neg t5])) (fun t5 => ?_)
  refine V_aload_n (pc := 8) o dX8_need_8 rfl ?_
  refine V_iload_n (pc := 9) o dX8_need_9 rfl ?_
  refine V_iload_n (pc := 10) o dX8_need_10 rfl ?_
  refine V_xVv (pc := 11) o xo (cX8_checkVersion_met _ _ _ cI ht ad B0 (nI n) P0 P1 P2 P3 P4 P5 L0 L1 L2 dy Q0 Q1 Q2 Q3 Q4 Q5 Q6 nm (P'0) (P'1) (P'2) (P'3) (P'4) (P'5) (L'0) (L'1) (L'2) dy2 (Q'0) (Q'1) (Q'2) (Q'3) (Q'4) (Q'5) (Q'6) nm2 O0 O1 on oc p v) 0 81 gX8_need_X8_checkVersion rfl hdX8_checkVersion ⟨by omega, by decide⟩ rfl rfl rfl (Nat.le_of_ble_eq_true rfl) ⟨by rw [hcz]; omega, by rw [hsz]; omega⟩ dX8_need_11 rfl (fun t11 => out _ _ _ _ _ _ (by omega) (by omega) (by rw [if_pos t1, if_pos t5, if_neg t11]; exact t11) (by rw [if_pos t1, if_pos t5, if_neg t11])) (fun t11 => ?_)
  refine V_iload_n (pc := 14) o dX8_need_14 rfl ?_
  refine V_iload_n (pc := 15) o dX8_need_15 rfl ?_
  refine V_icmp_ne (pc := 16) o 29 dX8_need_16 (by decide) (fun c16 => ?_) (fun c16 => ?_)
  · refine V_iload (pc := 29) o dX8_need_29 rfl ?_
    refine V_xSv (pc := 31) o xo (cX8_checkLeast_met _ _ _ a) 0 0 gX8_need_X8_checkLeast rfl hdX8_checkLeast ⟨by omega, by decide⟩ rfl (Nat.le_of_ble_eq_true rfl) ⟨by rw [hcz]; omega, by rw [hsz]; omega⟩ dX8_need_31 rfl (fun t31 => out _ _ _ _ _ _ (by omega) (by omega) (by rw [if_pos t1, if_pos t5, if_pos t11, if_pos c16, if_neg t31]; exact t31) (by rw [if_pos t1, if_pos t5, if_pos t11, if_pos c16, if_neg t31])) (fun t31 => ?_)
    refine V_iload (pc := 34) o dX8_need_34 rfl ?_
    refine V_iload (pc := 36) o dX8_need_36 rfl ?_
    refine V_icmp_lt (pc := 38) o 47 dX8_need_38 (by decide) (fun c38 => ?_) (fun c38 => ?_)
    · exact thr _ _ 47 2 72 "the greatest version is out of range" _ _ (by omega) (by omega) (by rw [if_pos t1, if_pos t5, if_pos t11, if_pos c16, if_pos t31, if_pos c38]) (by decide) twX8_need_2 (by decide) dX8_need_47 dX8_need_50 dX8_need_51 dX8_need_53 dX8_need_56 (Nat.le_of_ble_eq_true rfl)
    · refine V_iload (pc := 41) o dX8_need_41 rfl ?_
      refine V_iconst (pc := 43) o 3 dX8_need_43 (by decide) ?_
      refine V_icmp_le (pc := 44) o 57 dX8_need_44 (by decide) (fun c44 => ?_) (fun c44 => ?_)
      · refine V_aload_n (pc := 57) o dX8_need_57 rfl ?_
        refine V_get (pc := 58) o 0 1 hiX8_need_X8 rfl rfl (by decide) lkX8_need_19 rfl rfl dX8_need_58 ?_
        refine V_get (pc := 61) o 4 0 hiX8_need_X2 rfl rfl (by decide) lkX8_need_44 rfl rfl dX8_need_61 ?_
        refine V_iload_n (pc := 64) o dX8_need_64 rfl ?_
        refine V_iload_n (pc := 65) o dX8_need_65 rfl ?_
        refine V_rVi (pc := 66) o (cX3_needsOf_met _ _ _ cI ht (fun k => ad (5 + k)) P0 P1 P2 P3 P4 P5 p v) 5 13 gX8_need_X3_needsOf rfl hdX3_needsOf ⟨by omega, by decide⟩ rfl rfl rfl (Nat.le_of_ble_eq_true rfl) dX8_need_66 rfl ?_ ⟨by rw [hcz]; omega, by rw [hsz]; omega⟩
        refine V_iconst (pc := 69) o 4 dX8_need_69 (by decide) ?_
        refine V_icmp_lt (pc := 70) o 83 dX8_need_70 (by decide) (fun c70 => ?_) (fun c70 => ?_)
        · refine V_aload_n (pc := 83) o dX8_need_83 rfl ?_
          refine V_get (pc := 84) o 0 1 hiX8_need_X8 rfl rfl (by decide) lkX8_need_19 rfl rfl dX8_need_84 ?_
          refine V_aload_n (pc := 87) o dX8_need_87 rfl ?_
          refine V_get (pc := 88) o 0 0 hiX8_need_X8 rfl rfl (by decide) lkX8_need_10 rfl rfl dX8_need_88 ?_
          refine V_aload_n (pc := 91) o dX8_need_91 rfl ?_
          refine V_get (pc := 92) o 0 0 hiX8_need_X8 rfl rfl (by decide) lkX8_need_10 rfl rfl dX8_need_92 ?_
          refine V_iconst (pc := 95) o 2 dX8_need_95 (by decide) ?_
          refine V_iload_n (pc := 96) o dX8_need_96 rfl ?_
          refine V_iload_n (pc := 97) o dX8_need_97 rfl ?_
          refine V_iload_n (pc := 98) o dX8_need_98 rfl ?_
          refine V_iload (pc := 99) o dX8_need_99 rfl ?_
          refine V_iload (pc := 101) o dX8_need_101 rfl ?_
          refine V_wVi (pc := 103) o (cX0_write_met _ _ _ cI ht (fun k => ad (1 + k)) B0 (nI n) 2 p v q a b hb9) 1 3 (wApp cI ad (bwr B0 (nI n) 2 p v q a b) ((nI n) + 1) P0 P1 P2 P3 P4 P5 L0 L1 L2 dy Q0 Q1 Q2 Q3 Q4 Q5 Q6 nm (P'0) (P'1) (P'2) (P'3) (P'4) (P'5) (L'0) (L'1) (L'2) dy2 (Q'0) (Q'1) (Q'2) (Q'3) (Q'4) (Q'5) (Q'6) nm2 O0 O1 on oc) gX8_need_X0_write rfl hdX0_write ⟨by omega, by decide⟩ rfl rfl rfl (Nat.le_of_ble_eq_true rfl) dX8_need_103 rfl rfl ?_ ⟨by rw [hcz]; omega, by rw [hsz]; omega⟩
          refine V_wVp (pc := 106) o (cX2_ap2 _ _ _ cI ht (fun k => ad (4 + k)) (fun k => ad (1 + k)) P0 P1 P2 P3 P4 P5 L0 L1 L2 dy Q0 Q1 Q2 Q3 Q4 Q5 Q6 nm (bwr B0 (nI n) 2 p v q a b) (nI n + 1) ((nI n + 1) - 1) p v q a b (bwr_ne hn9) (bwr_rd B0 hn9 (i := 0) (by decide) 2 p v q a b) (bwr_rd B0 hn9 (i := 1) (by decide) 2 p v q a b) (bwr_rd B0 hn9 (i := 2) (by decide) 2 p v q a b) (bwr_rd B0 hn9 (i := 3) (by decide) 2 p v q a b) (bwr_rd B0 hn9 (i := 4) (by decide) 2 p v q a b) (bwr_rd B0 hn9 (i := 5) (by decide) 2 p v q a b)) _ (wApp cI ad (bwr B0 (nI n) 2 p v q a b) ((nI n) + 1) P0 P1 P2 (rup 24 P3 (plc p v) ((rat 24 P3 (plc p v)) + 1)) (rup 96 P4 (plc p v * 4 + (rat 24 P3 (plc p v))) q) (rup 96 P5 (plc p v * 4 + (rat 24 P3 (plc p v))) (vset a b)) L0 L1 L2 dy Q0 Q1 Q2 Q3 Q4 Q5 Q6 nm (P'0) (P'1) (P'2) (P'3) (P'4) (P'5) (L'0) (L'1) (L'2) dy2 (Q'0) (Q'1) (Q'2) (Q'3) (Q'4) (Q'5) (Q'6) nm2 O0 O1 on oc) gX8_need_X2_apply rfl hdX2_apply ⟨by omega, by decide⟩ rfl rfl rfl (Nat.le_of_ble_eq_true rfl) dX8_need_106 (pm_1 _ _ _ _) (pm_1 _ _ _ _) ?_ ⟨by rw [hcz]; omega, by rw [hsz]; omega⟩
          exact V_widen (by omega) (by omega) (fin 109 _ _ dX8_need_109 rfl (by rw [if_pos t1, if_pos t5, if_pos t11, if_pos c16, if_pos t31, if_neg c38, if_pos c44, if_pos c70]) rfl)
        · exact thr _ _ 73 3 78 "the version has all its needs" _ _ (by omega) (by omega) (by rw [if_pos t1, if_pos t5, if_pos t11, if_pos c16, if_pos t31, if_neg c38, if_pos c44, if_neg c70]) (by decide) twX8_need_3 (by decide) dX8_need_73 dX8_need_76 dX8_need_77 dX8_need_79 dX8_need_82 (Nat.le_of_ble_eq_true rfl)
      · exact thr _ _ 47 2 72 "the greatest version is out of range" _ _ (by omega) (by omega) (by rw [if_pos t1, if_pos t5, if_pos t11, if_pos c16, if_pos t31, if_neg c38, if_neg c44]) (by decide) twX8_need_2 (by decide) dX8_need_47 dX8_need_50 dX8_need_51 dX8_need_53 dX8_need_56 (Nat.le_of_ble_eq_true rfl)
  · exact thr _ _ 19 2 67 "a version needs other parts than its own" _ _ (by omega) (by omega) (by rw [if_pos t1, if_pos t5, if_pos t11, if_neg (fun h => h c16)]) (by decide) twX8_need_2 (by decide) dX8_need_19 dX8_need_22 dX8_need_23 dX8_need_25 dX8_need_28 (Nat.le_of_ble_eq_true rfl)
theorem hdX8_entries : yX8_entries.cls = RX8 ∧ yX8_entries.cls ≠ "java/lang/invoke/MethodHandle" ∧ yX8_entries.cls ≠ "java/lang/invoke/VarHandle" ∧ (parseMethodDescriptor yX8_entries.desc).map (fun d => d.parameters.length) = some 0 := by decide +kernel
theorem hiX8_entries_X8 : ∀ w ∈ wsX80, w ∈ wsX8_entries := by decide +kernel
theorem lkX8_entries_10 : Cond.fieldLink RX8 10 RX8 "book" "LApprovalyard$Book;" ∈ wsX8_entries := by decide +kernel
set_option maxHeartbeats 4000000 in
set_option maxRecDepth 100000 in
theorem cX8_entries_met (l : Launch) (D : va_G) (tys : List (ClassId × FieldType)) (cI : ClassId) (ht : tys[0]? = some (cI, .int)) (ad : Nat → Nat) (B0 : Nat → Int32) (P0 P1 P2 P3 P4 P5 : Nat → Int32) (L0 L1 L2 : Nat → Int32) (dy : Int32) (Q0 Q1 Q2 Q3 Q4 Q5 Q6 : Nat → Int32) (nm : Int32) (P'0 P'1 P'2 P'3 P'4 P'5 : Nat → Int32) (L'0 L'1 L'2 : Nat → Int32) (dy2 : Int32) (Q'0 Q'1 Q'2 Q'3 Q'4 Q'5 Q'6 : Nat → Int32) (nm2 : Int32) (O0 O1 : Nat → Int32) (on : Int32) (oc : Int32) (n : Nat) (hn9 : n < 512) : CId l yX8_entries wsX8_entries 14 D tys [.ref (ad 0)] (wApp cI ad B0 (nI n) P0 P1 P2 P3 P4 P5 L0 L1 L2 dy Q0 Q1 Q2 Q3 Q4 Q5 Q6 nm (P'0) (P'1) (P'2) (P'3) (P'4) (P'5) (L'0) (L'1) (L'2) dy2 (Q'0) (Q'1) (Q'2) (Q'3) (Q'4) (Q'5) (Q'6) nm2 O0 O1 on oc) (nI n) (wApp cI ad B0 (nI n) P0 P1 P2 P3 P4 P5 L0 L1 L2 dy Q0 Q1 Q2 Q3 Q4 Q5 Q6 nm (P'0) (P'1) (P'2) (P'3) (P'4) (P'5) (L'0) (L'1) (L'2) dy2 (Q'0) (Q'1) (Q'2) (Q'3) (Q'4) (Q'5) (Q'6) nm2 O0 O1 on oc) := by
  refine CI_of (maxL := 1) (cc := cX8_entries) (y := yX8_entries) rfl rfl (Nat.le_of_ble_eq_true rfl) (fun X hl hD hk hn hcz hsz o fin => ?_)
  subst hl; subst hD; subst hk
  refine V_aload_n (pc := 0) o dX8_entries_0 rfl ?_
  refine V_get (pc := 1) o 0 0 hiX8_entries_X8 rfl rfl (by decide) lkX8_entries_10 rfl rfl dX8_entries_1 ?_
  refine V_rVi (pc := 4) o (cX0_count_met _ _ _ cI ht (fun k => ad (1 + k)) B0 (nI n) ) 1 3 gX8_entries_X0_count rfl hdX0_count ⟨by omega, by decide⟩ rfl rfl rfl (Nat.le_of_ble_eq_true rfl) dX8_entries_4 rfl ?_
  exact fin 7 _ _ () dX8_entries_7 rfl rfl
theorem hdX8_chosen : yX8_chosen.cls = RX8 ∧ yX8_chosen.cls ≠ "java/lang/invoke/MethodHandle" ∧ yX8_chosen.cls ≠ "java/lang/invoke/VarHandle" ∧ (parseMethodDescriptor yX8_chosen.desc).map (fun d => d.parameters.length) = some 2 := by decide +kernel
theorem hiX8_chosen_X8 : ∀ w ∈ wsX80, w ∈ wsX8_chosen := by decide +kernel
theorem lkX8_chosen_19 : Cond.fieldLink RX8 19 RX8 "desk" "LApprovalyard$Desk;" ∈ wsX8_chosen := by decide +kernel
theorem hiX8_chosen_X2 : ∀ w ∈ wsX20, w ∈ wsX8_chosen := by decide +kernel
theorem lkX8_chosen_97 : Cond.fieldLink RX8 97 RX2 "requests" "LApprovalyard$Requests;" ∈ wsX8_chosen := by decide +kernel
set_option maxHeartbeats 4000000 in
set_option maxRecDepth 100000 in
/-- Approvalyard.chosen  -/
theorem cX8_chosen_met (l : Launch) (D : va_G) (tys : List (ClassId × FieldType)) (cI : ClassId) (ht : tys[0]? = some (cI, .int)) (ad : Nat → Nat) (B0 : Nat → Int32) (P0 P1 P2 P3 P4 P5 : Nat → Int32) (L0 L1 L2 : Nat → Int32) (dy : Int32) (Q0 Q1 Q2 Q3 Q4 Q5 Q6 : Nat → Int32) (nm : Int32) (P'0 P'1 P'2 P'3 P'4 P'5 : Nat → Int32) (L'0 L'1 L'2 : Nat → Int32) (dy2 : Int32) (Q'0 Q'1 Q'2 Q'3 Q'4 Q'5 Q'6 : Nat → Int32) (nm2 : Int32) (O0 O1 : Nat → Int32) (on : Int32) (oc : Int32) (q p : Int32) (n : Nat) (hn9 : n < 512) : CXi l yX8_chosen wsX8_chosen 14 2 D tys [.ref (ad 0), .int q, .int p] (wApp cI ad B0 (nI n) P0 P1 P2 P3 P4 P5 L0 L1 L2 dy Q0 Q1 Q2 Q3 Q4 Q5 Q6 nm (P'0) (P'1) (P'2) (P'3) (P'4) (P'5) (L'0) (L'1) (L'2) dy2 (Q'0) (Q'1) (Q'2) (Q'3) (Q'4) (Q'5) (Q'6) nm2 O0 O1 on oc) (if (if q < 0 then 1 else (if q < nm then 0 else 1)) = 0 then (if (if p < 0 then 1 else (if p < 8 then 0 else 1)) = 0 then 0 else if p < 0 then 1 else (if p < 8 then 0 else 1)) else if q < 0 then 1 else (if q < nm then 0 else 1)) (if chv (rat 30 Q4 q) p = 0 then -1 else chv (rat 30 Q4 q) p) (wApp cI ad B0 (nI n) P0 P1 P2 P3 P4 P5 L0 L1 L2 dy Q0 Q1 Q2 Q3 Q4 Q5 Q6 nm (P'0) (P'1) (P'2) (P'3) (P'4) (P'5) (L'0) (L'1) (L'2) dy2 (Q'0) (Q'1) (Q'2) (Q'3) (Q'4) (Q'5) (Q'6) nm2 O0 O1 on oc) := by
  have hb9 : nI n < 512 := nI_lt (b := 512) (by omega) (by decide)
  refine CXi_of (maxL := 4) (cc := cX8_chosen) (y := yX8_chosen) rfl rfl (Nat.le_of_ble_eq_true rfl) rfl (by decide) (fun X hl hD hk hn hcz hsz o xo fin out thr => ?_)
  subst hl; subst hD; subst hk
  refine V_aload_n (pc := 0) o dX8_chosen_0 rfl ?_
  refine V_iload_n (pc := 1) o dX8_chosen_1 rfl ?_
  refine V_xVv (pc := 2) o xo (cX8_checkRequest_met _ _ _ cI ht ad B0 (nI n) P0 P1 P2 P3 P4 P5 L0 L1 L2 dy Q0 Q1 Q2 Q3 Q4 Q5 Q6 nm (P'0) (P'1) (P'2) (P'3) (P'4) (P'5) (L'0) (L'1) (L'2) dy2 (Q'0) (Q'1) (Q'2) (Q'3) (Q'4) (Q'5) (Q'6) nm2 O0 O1 on oc q) 0 81 gX8_chosen_X8_checkRequest rfl hdX8_checkRequest ⟨by omega, by decide⟩ rfl rfl rfl (Nat.le_of_ble_eq_true rfl) ⟨by rw [hcz]; omega, by rw [hsz]; omega⟩ dX8_chosen_2 rfl (fun t2 => out _ _ _ _ _ _ (by omega) (by omega) (by rw [if_neg t2]; exact t2) (by rw [if_neg t2])) (fun t2 => ?_)
  refine V_iload_n (pc := 5) o dX8_chosen_5 rfl ?_
  refine V_xSv (pc := 6) o xo (cX8_checkPart_met _ _ _ p) 0 0 gX8_chosen_X8_checkPart rfl hdX8_checkPart ⟨by omega, by decide⟩ rfl (Nat.le_of_ble_eq_true rfl) ⟨by rw [hcz]; omega, by rw [hsz]; omega⟩ dX8_chosen_6 rfl (fun t6 => out _ _ _ _ _ _ (by omega) (by omega) (by rw [if_pos t2, if_neg t6]; exact t6) (by rw [if_pos t2, if_neg t6])) (fun t6 => ?_)
  refine V_aload_n (pc := 9) o dX8_chosen_9 rfl ?_
  refine V_get (pc := 10) o 0 1 hiX8_chosen_X8 rfl rfl (by decide) lkX8_chosen_19 rfl rfl dX8_chosen_10 ?_
  refine V_get (pc := 13) o 4 2 hiX8_chosen_X2 rfl rfl (by decide) lkX8_chosen_97 rfl rfl dX8_chosen_13 ?_
  refine V_iload_n (pc := 16) o dX8_chosen_16 rfl ?_
  refine V_rVi (pc := 17) o (cX5_choiceOf_met _ _ _ cI ht (fun k => ad (25 + k)) Q0 Q1 Q2 Q3 Q4 Q5 Q6 nm q) 25 15 gX8_chosen_X5_choiceOf rfl hdX5_choiceOf ⟨by omega, by decide⟩ rfl rfl rfl (Nat.le_of_ble_eq_true rfl) dX8_chosen_17 rfl ?_ ⟨by rw [hcz]; omega, by rw [hsz]; omega⟩
  refine V_iload_n (pc := 20) o dX8_chosen_20 rfl ?_
  refine V_rSi (pc := 21) o (cX1_versionOf_met _ _ _ (rat 30 Q4 q) p) 0 0 gX8_chosen_X1_versionOf rfl hdX1_versionOf ⟨by omega, by decide⟩ rfl (Nat.le_of_ble_eq_true rfl) dX8_chosen_21 rfl ?_ ⟨by rw [hcz]; omega, by rw [hsz]; omega⟩
  refine V_istore_n (pc := 24) o dX8_chosen_24 (by rw [hn]; decide) ?_
  refine V_iload_n (pc := 25) o dX8_chosen_25 rfl ?_
  refine V_if_ne (pc := 26) o 33 dX8_chosen_26 (by decide) (fun c26 => ?_) (fun c26 => ?_)
  · refine V_iload_n (pc := 33) o dX8_chosen_33 rfl ?_
    exact V_widen (by omega) (by omega) (fin 34 _ _ dX8_chosen_34 rfl (by rw [if_pos t2, if_pos t6]) (by first | rw [if_pos (by assumption)] | rw [if_neg (by assumption)]))
  · refine V_iconst (pc := 29) o (-1) dX8_chosen_29 (by decide) ?_
    refine V_goto (pc := 30) o 34 dX8_chosen_30 (by decide) ?_
    exact V_widen (by omega) (by omega) (fin 34 _ _ dX8_chosen_34 rfl (by rw [if_pos t2, if_pos t6]) (by first | rw [if_pos (by assumption)] | rw [if_neg (by assumption)]))
theorem hdX8_ofRequest : yX8_ofRequest.cls = RX8 ∧ yX8_ofRequest.cls ≠ "java/lang/invoke/MethodHandle" ∧ yX8_ofRequest.cls ≠ "java/lang/invoke/VarHandle" ∧ (parseMethodDescriptor yX8_ofRequest.desc).map (fun d => d.parameters.length) = some 2 := by decide +kernel
theorem hiX8_ofRequest_X8 : ∀ w ∈ wsX80, w ∈ wsX8_ofRequest := by decide +kernel
theorem lkX8_ofRequest_19 : Cond.fieldLink RX8 19 RX8 "desk" "LApprovalyard$Desk;" ∈ wsX8_ofRequest := by decide +kernel
theorem hiX8_ofRequest_X2 : ∀ w ∈ wsX20, w ∈ wsX8_ofRequest := by decide +kernel
theorem lkX8_ofRequest_97 : Cond.fieldLink RX8 97 RX2 "requests" "LApprovalyard$Requests;" ∈ wsX8_ofRequest := by decide +kernel
set_option maxHeartbeats 4000000 in
set_option maxRecDepth 100000 in
/-- Approvalyard.ofRequest  -/
theorem cX8_ofRequest0_met (l : Launch) (D : va_G) (tys : List (ClassId × FieldType)) (cI : ClassId) (ht : tys[0]? = some (cI, .int)) (ad : Nat → Nat) (B0 : Nat → Int32) (P0 P1 P2 P3 P4 P5 : Nat → Int32) (L0 L1 L2 : Nat → Int32) (dy : Int32) (Q0 Q1 Q2 Q3 Q4 Q5 Q6 : Nat → Int32) (nm : Int32) (P'0 P'1 P'2 P'3 P'4 P'5 : Nat → Int32) (L'0 L'1 L'2 : Nat → Int32) (dy2 : Int32) (Q'0 Q'1 Q'2 Q'3 Q'4 Q'5 Q'6 : Nat → Int32) (nm2 : Int32) (O0 O1 : Nat → Int32) (on : Int32) (oc : Int32) (q : Int32) (n : Nat) (hn9 : n < 512) : CXi l yX8_ofRequest wsX8_ofRequest 14 1 D tys [.ref (ad 0), .int q, .int 0] (wApp cI ad B0 (nI n) P0 P1 P2 P3 P4 P5 L0 L1 L2 dy Q0 Q1 Q2 Q3 Q4 Q5 Q6 nm (P'0) (P'1) (P'2) (P'3) (P'4) (P'5) (L'0) (L'1) (L'2) dy2 (Q'0) (Q'1) (Q'2) (Q'3) (Q'4) (Q'5) (Q'6) nm2 O0 O1 on oc) (if (if q < 0 then 1 else (if q < nm then 0 else 1)) = 0 then 0 else if q < 0 then 1 else (if q < nm then 0 else 1)) (rat 30 Q3 q) (wApp cI ad B0 (nI n) P0 P1 P2 P3 P4 P5 L0 L1 L2 dy Q0 Q1 Q2 Q3 Q4 Q5 Q6 nm (P'0) (P'1) (P'2) (P'3) (P'4) (P'5) (L'0) (L'1) (L'2) dy2 (Q'0) (Q'1) (Q'2) (Q'3) (Q'4) (Q'5) (Q'6) nm2 O0 O1 on oc) := by
  have hb9 : nI n < 512 := nI_lt (b := 512) (by omega) (by decide)
  refine CXi_of (maxL := 3) (cc := cX8_ofRequest) (y := yX8_ofRequest) rfl rfl (Nat.le_of_ble_eq_true rfl) rfl (by decide) (fun X hl hD hk hn hcz hsz o xo fin out thr => ?_)
  subst hl; subst hD; subst hk
  refine V_aload_n (pc := 0) o dX8_ofRequest_0 rfl ?_
  refine V_iload_n (pc := 1) o dX8_ofRequest_1 rfl ?_
  refine V_xVv (pc := 2) o xo (cX8_checkRequest_met _ _ _ cI ht ad B0 (nI n) P0 P1 P2 P3 P4 P5 L0 L1 L2 dy Q0 Q1 Q2 Q3 Q4 Q5 Q6 nm (P'0) (P'1) (P'2) (P'3) (P'4) (P'5) (L'0) (L'1) (L'2) dy2 (Q'0) (Q'1) (Q'2) (Q'3) (Q'4) (Q'5) (Q'6) nm2 O0 O1 on oc q) 0 81 gX8_ofRequest_X8_checkRequest rfl hdX8_checkRequest ⟨by omega, by decide⟩ rfl rfl rfl (Nat.le_of_ble_eq_true rfl) ⟨by rw [hcz]; omega, by rw [hsz]; omega⟩ dX8_ofRequest_2 rfl (fun t2 => out _ _ _ _ _ _ (by omega) (by omega) (by rw [if_neg t2]; exact t2) (by rw [if_neg t2])) (fun t2 => ?_)
  refine V_iload_n (pc := 5) o dX8_ofRequest_5 rfl ?_
  refine V_tableIn (pc := 6) o 36 dX8_ofRequest_6 (by decide) (by decide) (by first | rfl | decide) (by decide) ?_
  refine V_aload_n (pc := 36) o dX8_ofRequest_36 rfl ?_
  refine V_get (pc := 37) o 0 1 hiX8_ofRequest_X8 rfl rfl (by decide) lkX8_ofRequest_19 rfl rfl dX8_ofRequest_37 ?_
  refine V_get (pc := 40) o 4 2 hiX8_ofRequest_X2 rfl rfl (by decide) lkX8_ofRequest_97 rfl rfl dX8_ofRequest_40 ?_
  refine V_iload_n (pc := 43) o dX8_ofRequest_43 rfl ?_
  refine V_rVi (pc := 44) o (cX5_stateOf_met _ _ _ cI ht (fun k => ad (25 + k)) Q0 Q1 Q2 Q3 Q4 Q5 Q6 nm q) 25 15 gX8_ofRequest_X5_stateOf rfl hdX5_stateOf ⟨by omega, by decide⟩ rfl rfl rfl (Nat.le_of_ble_eq_true rfl) dX8_ofRequest_44 rfl ?_ ⟨by rw [hcz]; omega, by rw [hsz]; omega⟩
  exact V_widen (by omega) (by omega) (fin 47 _ _ dX8_ofRequest_47 rfl (by rw [if_pos t2]) (by first | rfl | (rw [if_pos (by assumption)]; done) | (rw [if_neg (by assumption)]; done)))
set_option maxHeartbeats 4000000 in
set_option maxRecDepth 100000 in
/-- Approvalyard.ofRequest  -/
theorem cX8_ofRequest1_met (l : Launch) (D : va_G) (tys : List (ClassId × FieldType)) (cI : ClassId) (ht : tys[0]? = some (cI, .int)) (ad : Nat → Nat) (B0 : Nat → Int32) (P0 P1 P2 P3 P4 P5 : Nat → Int32) (L0 L1 L2 : Nat → Int32) (dy : Int32) (Q0 Q1 Q2 Q3 Q4 Q5 Q6 : Nat → Int32) (nm : Int32) (P'0 P'1 P'2 P'3 P'4 P'5 : Nat → Int32) (L'0 L'1 L'2 : Nat → Int32) (dy2 : Int32) (Q'0 Q'1 Q'2 Q'3 Q'4 Q'5 Q'6 : Nat → Int32) (nm2 : Int32) (O0 O1 : Nat → Int32) (on : Int32) (oc : Int32) (q : Int32) (n : Nat) (hn9 : n < 512) : CXi l yX8_ofRequest wsX8_ofRequest 14 1 D tys [.ref (ad 0), .int q, .int 1] (wApp cI ad B0 (nI n) P0 P1 P2 P3 P4 P5 L0 L1 L2 dy Q0 Q1 Q2 Q3 Q4 Q5 Q6 nm (P'0) (P'1) (P'2) (P'3) (P'4) (P'5) (L'0) (L'1) (L'2) dy2 (Q'0) (Q'1) (Q'2) (Q'3) (Q'4) (Q'5) (Q'6) nm2 O0 O1 on oc) (if (if q < 0 then 1 else (if q < nm then 0 else 1)) = 0 then 0 else if q < 0 then 1 else (if q < nm then 0 else 1)) (if rat 30 Q3 q = 0 then -1 else rat 30 Q5 q) (wApp cI ad B0 (nI n) P0 P1 P2 P3 P4 P5 L0 L1 L2 dy Q0 Q1 Q2 Q3 Q4 Q5 Q6 nm (P'0) (P'1) (P'2) (P'3) (P'4) (P'5) (L'0) (L'1) (L'2) dy2 (Q'0) (Q'1) (Q'2) (Q'3) (Q'4) (Q'5) (Q'6) nm2 O0 O1 on oc) := by
  have hb9 : nI n < 512 := nI_lt (b := 512) (by omega) (by decide)
  refine CXi_of (maxL := 3) (cc := cX8_ofRequest) (y := yX8_ofRequest) rfl rfl (Nat.le_of_ble_eq_true rfl) rfl (by decide) (fun X hl hD hk hn hcz hsz o xo fin out thr => ?_)
  subst hl; subst hD; subst hk
  refine V_aload_n (pc := 0) o dX8_ofRequest_0 rfl ?_
  refine V_iload_n (pc := 1) o dX8_ofRequest_1 rfl ?_
  refine V_xVv (pc := 2) o xo (cX8_checkRequest_met _ _ _ cI ht ad B0 (nI n) P0 P1 P2 P3 P4 P5 L0 L1 L2 dy Q0 Q1 Q2 Q3 Q4 Q5 Q6 nm (P'0) (P'1) (P'2) (P'3) (P'4) (P'5) (L'0) (L'1) (L'2) dy2 (Q'0) (Q'1) (Q'2) (Q'3) (Q'4) (Q'5) (Q'6) nm2 O0 O1 on oc q) 0 81 gX8_ofRequest_X8_checkRequest rfl hdX8_checkRequest ⟨by omega, by decide⟩ rfl rfl rfl (Nat.le_of_ble_eq_true rfl) ⟨by rw [hcz]; omega, by rw [hsz]; omega⟩ dX8_ofRequest_2 rfl (fun t2 => out _ _ _ _ _ _ (by omega) (by omega) (by rw [if_neg t2]; exact t2) (by rw [if_neg t2])) (fun t2 => ?_)
  refine V_iload_n (pc := 5) o dX8_ofRequest_5 rfl ?_
  refine V_tableIn (pc := 6) o 48 dX8_ofRequest_6 (by decide) (by decide) (by first | rfl | decide) (by decide) ?_
  refine V_aload_n (pc := 48) o dX8_ofRequest_48 rfl ?_
  refine V_get (pc := 49) o 0 1 hiX8_ofRequest_X8 rfl rfl (by decide) lkX8_ofRequest_19 rfl rfl dX8_ofRequest_49 ?_
  refine V_get (pc := 52) o 4 2 hiX8_ofRequest_X2 rfl rfl (by decide) lkX8_ofRequest_97 rfl rfl dX8_ofRequest_52 ?_
  refine V_iload_n (pc := 55) o dX8_ofRequest_55 rfl ?_
  refine V_rVi (pc := 56) o (cX5_stateOf_met _ _ _ cI ht (fun k => ad (25 + k)) Q0 Q1 Q2 Q3 Q4 Q5 Q6 nm q) 25 15 gX8_ofRequest_X5_stateOf rfl hdX5_stateOf ⟨by omega, by decide⟩ rfl rfl rfl (Nat.le_of_ble_eq_true rfl) dX8_ofRequest_56 rfl ?_ ⟨by rw [hcz]; omega, by rw [hsz]; omega⟩
  refine V_if_ne (pc := 59) o 66 dX8_ofRequest_59 (by decide) (fun c59 => ?_) (fun c59 => ?_)
  · refine V_aload_n (pc := 66) o dX8_ofRequest_66 rfl ?_
    refine V_get (pc := 67) o 0 1 hiX8_ofRequest_X8 rfl rfl (by decide) lkX8_ofRequest_19 rfl rfl dX8_ofRequest_67 ?_
    refine V_get (pc := 70) o 4 2 hiX8_ofRequest_X2 rfl rfl (by decide) lkX8_ofRequest_97 rfl rfl dX8_ofRequest_70 ?_
    refine V_iload_n (pc := 73) o dX8_ofRequest_73 rfl ?_
    refine V_rVi (pc := 74) o (cX5_costOf_met _ _ _ cI ht (fun k => ad (25 + k)) Q0 Q1 Q2 Q3 Q4 Q5 Q6 nm q) 25 15 gX8_ofRequest_X5_costOf rfl hdX5_costOf ⟨by omega, by decide⟩ rfl rfl rfl (Nat.le_of_ble_eq_true rfl) dX8_ofRequest_74 rfl ?_ ⟨by rw [hcz]; omega, by rw [hsz]; omega⟩
    exact V_widen (by omega) (by omega) (fin 77 _ _ dX8_ofRequest_77 rfl (by rw [if_pos t2]) (by first | rfl | (rw [if_pos (by assumption)]; done) | (rw [if_neg (by assumption)]; done)))
  · refine V_iconst (pc := 62) o (-1) dX8_ofRequest_62 (by decide) ?_
    refine V_goto (pc := 63) o 77 dX8_ofRequest_63 (by decide) ?_
    exact V_widen (by omega) (by omega) (fin 77 _ _ dX8_ofRequest_77 rfl (by rw [if_pos t2]) (by first | rfl | (rw [if_pos (by assumption)]; done) | (rw [if_neg (by assumption)]; done)))
set_option maxHeartbeats 4000000 in
set_option maxRecDepth 100000 in
/-- Approvalyard.ofRequest  -/
theorem cX8_ofRequest2_met (l : Launch) (D : va_G) (tys : List (ClassId × FieldType)) (cI : ClassId) (ht : tys[0]? = some (cI, .int)) (ad : Nat → Nat) (B0 : Nat → Int32) (P0 P1 P2 P3 P4 P5 : Nat → Int32) (L0 L1 L2 : Nat → Int32) (dy : Int32) (Q0 Q1 Q2 Q3 Q4 Q5 Q6 : Nat → Int32) (nm : Int32) (P'0 P'1 P'2 P'3 P'4 P'5 : Nat → Int32) (L'0 L'1 L'2 : Nat → Int32) (dy2 : Int32) (Q'0 Q'1 Q'2 Q'3 Q'4 Q'5 Q'6 : Nat → Int32) (nm2 : Int32) (O0 O1 : Nat → Int32) (on : Int32) (oc : Int32) (q : Int32) (n : Nat) (hn9 : n < 512) : CXi l yX8_ofRequest wsX8_ofRequest 14 1 D tys [.ref (ad 0), .int q, .int 2] (wApp cI ad B0 (nI n) P0 P1 P2 P3 P4 P5 L0 L1 L2 dy Q0 Q1 Q2 Q3 Q4 Q5 Q6 nm (P'0) (P'1) (P'2) (P'3) (P'4) (P'5) (L'0) (L'1) (L'2) dy2 (Q'0) (Q'1) (Q'2) (Q'3) (Q'4) (Q'5) (Q'6) nm2 O0 O1 on oc) (if (if q < 0 then 1 else (if q < nm then 0 else 1)) = 0 then 0 else if q < 0 then 1 else (if q < nm then 0 else 1)) (apN Q6 q dy 8) (wApp cI ad B0 (nI n) P0 P1 P2 P3 P4 P5 L0 L1 L2 dy Q0 Q1 Q2 Q3 Q4 Q5 Q6 nm (P'0) (P'1) (P'2) (P'3) (P'4) (P'5) (L'0) (L'1) (L'2) dy2 (Q'0) (Q'1) (Q'2) (Q'3) (Q'4) (Q'5) (Q'6) nm2 O0 O1 on oc) := by
  have hb9 : nI n < 512 := nI_lt (b := 512) (by omega) (by decide)
  refine CXi_of (maxL := 3) (cc := cX8_ofRequest) (y := yX8_ofRequest) rfl rfl (Nat.le_of_ble_eq_true rfl) rfl (by decide) (fun X hl hD hk hn hcz hsz o xo fin out thr => ?_)
  subst hl; subst hD; subst hk
  refine V_aload_n (pc := 0) o dX8_ofRequest_0 rfl ?_
  refine V_iload_n (pc := 1) o dX8_ofRequest_1 rfl ?_
  refine V_xVv (pc := 2) o xo (cX8_checkRequest_met _ _ _ cI ht ad B0 (nI n) P0 P1 P2 P3 P4 P5 L0 L1 L2 dy Q0 Q1 Q2 Q3 Q4 Q5 Q6 nm (P'0) (P'1) (P'2) (P'3) (P'4) (P'5) (L'0) (L'1) (L'2) dy2 (Q'0) (Q'1) (Q'2) (Q'3) (Q'4) (Q'5) (Q'6) nm2 O0 O1 on oc q) 0 81 gX8_ofRequest_X8_checkRequest rfl hdX8_checkRequest ⟨by omega, by decide⟩ rfl rfl rfl (Nat.le_of_ble_eq_true rfl) ⟨by rw [hcz]; omega, by rw [hsz]; omega⟩ dX8_ofRequest_2 rfl (fun t2 => out _ _ _ _ _ _ (by omega) (by omega) (by rw [if_neg t2]; exact t2) (by rw [if_neg t2])) (fun t2 => ?_)
  refine V_iload_n (pc := 5) o dX8_ofRequest_5 rfl ?_
  refine V_tableIn (pc := 6) o 78 dX8_ofRequest_6 (by decide) (by decide) (by first | rfl | decide) (by decide) ?_
  refine V_aload_n (pc := 78) o dX8_ofRequest_78 rfl ?_
  refine V_get (pc := 79) o 0 1 hiX8_ofRequest_X8 rfl rfl (by decide) lkX8_ofRequest_19 rfl rfl dX8_ofRequest_79 ?_
  refine V_iload_n (pc := 82) o dX8_ofRequest_82 rfl ?_
  refine V_rVi (pc := 83) o (cX2_approvalsOf_met _ _ _ cI ht (fun k => ad (4 + k)) P0 P1 P2 P3 P4 P5 L0 L1 L2 dy Q0 Q1 Q2 Q3 Q4 Q5 Q6 nm q) 4 36 gX8_ofRequest_X2_approvalsOf rfl hdX2_approvalsOf ⟨by omega, by decide⟩ rfl rfl rfl (Nat.le_of_ble_eq_true rfl) dX8_ofRequest_83 rfl ?_ ⟨by rw [hcz]; omega, by rw [hsz]; omega⟩
  exact V_widen (by omega) (by omega) (fin 86 _ _ dX8_ofRequest_86 rfl (by rw [if_pos t2]) (by first | rfl | (rw [if_pos (by assumption)]; done) | (rw [if_neg (by assumption)]; done)))
set_option maxHeartbeats 4000000 in
set_option maxRecDepth 100000 in
/-- Approvalyard.ofRequest  -/
theorem cX8_ofRequest3_met (l : Launch) (D : va_G) (tys : List (ClassId × FieldType)) (cI : ClassId) (ht : tys[0]? = some (cI, .int)) (ad : Nat → Nat) (B0 : Nat → Int32) (P0 P1 P2 P3 P4 P5 : Nat → Int32) (L0 L1 L2 : Nat → Int32) (dy : Int32) (Q0 Q1 Q2 Q3 Q4 Q5 Q6 : Nat → Int32) (nm : Int32) (P'0 P'1 P'2 P'3 P'4 P'5 : Nat → Int32) (L'0 L'1 L'2 : Nat → Int32) (dy2 : Int32) (Q'0 Q'1 Q'2 Q'3 Q'4 Q'5 Q'6 : Nat → Int32) (nm2 : Int32) (O0 O1 : Nat → Int32) (on : Int32) (oc : Int32) (q : Int32) (n : Nat) (hn9 : n < 512) : CXi l yX8_ofRequest wsX8_ofRequest 14 1 D tys [.ref (ad 0), .int q, .int 3] (wApp cI ad B0 (nI n) P0 P1 P2 P3 P4 P5 L0 L1 L2 dy Q0 Q1 Q2 Q3 Q4 Q5 Q6 nm (P'0) (P'1) (P'2) (P'3) (P'4) (P'5) (L'0) (L'1) (L'2) dy2 (Q'0) (Q'1) (Q'2) (Q'3) (Q'4) (Q'5) (Q'6) nm2 O0 O1 on oc) (if (if q < 0 then 1 else (if q < nm then 0 else 1)) = 0 then 0 else if q < 0 then 1 else (if q < nm then 0 else 1)) (covI (rat 30 Q5 q) (apN Q6 q dy 8)) (wApp cI ad B0 (nI n) P0 P1 P2 P3 P4 P5 L0 L1 L2 dy Q0 Q1 Q2 Q3 Q4 Q5 Q6 nm (P'0) (P'1) (P'2) (P'3) (P'4) (P'5) (L'0) (L'1) (L'2) dy2 (Q'0) (Q'1) (Q'2) (Q'3) (Q'4) (Q'5) (Q'6) nm2 O0 O1 on oc) := by
  have hb9 : nI n < 512 := nI_lt (b := 512) (by omega) (by decide)
  refine CXi_of (maxL := 3) (cc := cX8_ofRequest) (y := yX8_ofRequest) rfl rfl (Nat.le_of_ble_eq_true rfl) rfl (by decide) (fun X hl hD hk hn hcz hsz o xo fin out thr => ?_)
  subst hl; subst hD; subst hk
  refine V_aload_n (pc := 0) o dX8_ofRequest_0 rfl ?_
  refine V_iload_n (pc := 1) o dX8_ofRequest_1 rfl ?_
  refine V_xVv (pc := 2) o xo (cX8_checkRequest_met _ _ _ cI ht ad B0 (nI n) P0 P1 P2 P3 P4 P5 L0 L1 L2 dy Q0 Q1 Q2 Q3 Q4 Q5 Q6 nm (P'0) (P'1) (P'2) (P'3) (P'4) (P'5) (L'0) (L'1) (L'2) dy2 (Q'0) (Q'1) (Q'2) (Q'3) (Q'4) (Q'5) (Q'6) nm2 O0 O1 on oc q) 0 81 gX8_ofRequest_X8_checkRequest rfl hdX8_checkRequest ⟨by omega, by decide⟩ rfl rfl rfl (Nat.le_of_ble_eq_true rfl) ⟨by rw [hcz]; omega, by rw [hsz]; omega⟩ dX8_ofRequest_2 rfl (fun t2 => out _ _ _ _ _ _ (by omega) (by omega) (by rw [if_neg t2]; exact t2) (by rw [if_neg t2])) (fun t2 => ?_)
  refine V_iload_n (pc := 5) o dX8_ofRequest_5 rfl ?_
  refine V_tableIn (pc := 6) o 87 dX8_ofRequest_6 (by decide) (by decide) (by first | rfl | decide) (by decide) ?_
  refine V_aload_n (pc := 87) o dX8_ofRequest_87 rfl ?_
  refine V_get (pc := 88) o 0 1 hiX8_ofRequest_X8 rfl rfl (by decide) lkX8_ofRequest_19 rfl rfl dX8_ofRequest_88 ?_
  refine V_iload_n (pc := 91) o dX8_ofRequest_91 rfl ?_
  refine V_rVi (pc := 92) o (cX2_isCovered_met _ _ _ cI ht (fun k => ad (4 + k)) P0 P1 P2 P3 P4 P5 L0 L1 L2 dy Q0 Q1 Q2 Q3 Q4 Q5 Q6 nm q) 4 36 gX8_ofRequest_X2_isCovered rfl hdX2_isCovered ⟨by omega, by decide⟩ rfl rfl rfl (Nat.le_of_ble_eq_true rfl) dX8_ofRequest_92 rfl ?_ ⟨by rw [hcz]; omega, by rw [hsz]; omega⟩
  refine V_if_eq (pc := 95) o 102 dX8_ofRequest_95 (by decide) (fun c95 => ?_) (fun c95 => ?_)
  · refine V_iconst (pc := 102) o 0 dX8_ofRequest_102 (by decide) ?_
    exact V_widen (by omega) (by omega) (fin 103 _ _ dX8_ofRequest_103 rfl (by rw [if_pos t2]) (covI_0 (by assumption)))
  · refine V_iconst (pc := 98) o 1 dX8_ofRequest_98 (by decide) ?_
    refine V_goto (pc := 99) o 103 dX8_ofRequest_99 (by decide) ?_
    exact V_widen (by omega) (by omega) (fin 103 _ _ dX8_ofRequest_103 rfl (by rw [if_pos t2]) (covI_1 (by assumption)))
theorem twX8_ofRequest_2 : ThW 2 wsX8_ofRequest := by refine ⟨?_, ?_, ?_⟩ <;> decide +kernel
set_option maxHeartbeats 4000000 in
set_option maxRecDepth 100000 in
/-- Approvalyard.ofRequest  -/
theorem cX8_ofRequest9_met (l : Launch) (D : va_G) (tys : List (ClassId × FieldType)) (cI : ClassId) (ht : tys[0]? = some (cI, .int)) (ad : Nat → Nat) (B0 : Nat → Int32) (P0 P1 P2 P3 P4 P5 : Nat → Int32) (L0 L1 L2 : Nat → Int32) (dy : Int32) (Q0 Q1 Q2 Q3 Q4 Q5 Q6 : Nat → Int32) (nm : Int32) (P'0 P'1 P'2 P'3 P'4 P'5 : Nat → Int32) (L'0 L'1 L'2 : Nat → Int32) (dy2 : Int32) (Q'0 Q'1 Q'2 Q'3 Q'4 Q'5 Q'6 : Nat → Int32) (nm2 : Int32) (O0 O1 : Nat → Int32) (on : Int32) (oc : Int32) (q w : Int32) (n : Nat) (hn9 : n < 512) (hw : w.toInt < 0 ∨ 3 < w.toInt) : CXi l yX8_ofRequest wsX8_ofRequest 14 2 D tys [.ref (ad 0), .int q, .int w] (wApp cI ad B0 (nI n) P0 P1 P2 P3 P4 P5 L0 L1 L2 dy Q0 Q1 Q2 Q3 Q4 Q5 Q6 nm (P'0) (P'1) (P'2) (P'3) (P'4) (P'5) (L'0) (L'1) (L'2) dy2 (Q'0) (Q'1) (Q'2) (Q'3) (Q'4) (Q'5) (Q'6) nm2 O0 O1 on oc) (if (if q < 0 then 1 else (if q < nm then 0 else 1)) = 0 then 2 else if q < 0 then 1 else (if q < nm then 0 else 1)) 0 (wApp cI ad B0 (nI n) P0 P1 P2 P3 P4 P5 L0 L1 L2 dy Q0 Q1 Q2 Q3 Q4 Q5 Q6 nm (P'0) (P'1) (P'2) (P'3) (P'4) (P'5) (L'0) (L'1) (L'2) dy2 (Q'0) (Q'1) (Q'2) (Q'3) (Q'4) (Q'5) (Q'6) nm2 O0 O1 on oc) := by
  have hb9 : nI n < 512 := nI_lt (b := 512) (by omega) (by decide)
  refine CXi_of (maxL := 3) (cc := cX8_ofRequest) (y := yX8_ofRequest) rfl rfl (Nat.le_of_ble_eq_true rfl) rfl (by decide) (fun X hl hD hk hn hcz hsz o xo fin out thr => ?_)
  subst hl; subst hD; subst hk
  refine V_aload_n (pc := 0) o dX8_ofRequest_0 rfl ?_
  refine V_iload_n (pc := 1) o dX8_ofRequest_1 rfl ?_
  refine V_xVv (pc := 2) o xo (cX8_checkRequest_met _ _ _ cI ht ad B0 (nI n) P0 P1 P2 P3 P4 P5 L0 L1 L2 dy Q0 Q1 Q2 Q3 Q4 Q5 Q6 nm (P'0) (P'1) (P'2) (P'3) (P'4) (P'5) (L'0) (L'1) (L'2) dy2 (Q'0) (Q'1) (Q'2) (Q'3) (Q'4) (Q'5) (Q'6) nm2 O0 O1 on oc q) 0 81 gX8_ofRequest_X8_checkRequest rfl hdX8_checkRequest ⟨by omega, by decide⟩ rfl rfl rfl (Nat.le_of_ble_eq_true rfl) ⟨by rw [hcz]; omega, by rw [hsz]; omega⟩ dX8_ofRequest_2 rfl (fun t2 => out _ _ _ _ _ _ (by omega) (by omega) (by rw [if_neg t2]; exact t2) (by rw [if_neg t2])) (fun t2 => ?_)
  refine V_iload_n (pc := 5) o dX8_ofRequest_5 rfl ?_
  refine V_tableOut (pc := 6) o 104 dX8_ofRequest_6 hw (by decide) ?_
  exact thr _ _ 104 2 159 "there is nothing of that number to tell" _ _ (by omega) (by omega) (by rw [if_pos t2]) (by decide) twX8_ofRequest_2 (by decide) dX8_ofRequest_104 dX8_ofRequest_107 dX8_ofRequest_108 dX8_ofRequest_110 dX8_ofRequest_113 (Nat.le_of_ble_eq_true rfl)
