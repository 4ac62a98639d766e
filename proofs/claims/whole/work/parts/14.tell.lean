theorem hdX8_tell : yX8_tell.cls = RX8 ∧ yX8_tell.cls ≠ "java/lang/invoke/MethodHandle" ∧ yX8_tell.cls ≠ "java/lang/invoke/VarHandle" ∧ (parseMethodDescriptor yX8_tell.desc).map (fun d => d.parameters.length) = some 4 := by decide +kernel
theorem hiX8_tell_X8 : ∀ w ∈ wsX80, w ∈ wsX8_tell := by decide +kernel
theorem lkX8_tell_19 : Cond.fieldLink RX8 19 RX8 "desk" "LApprovalyard$Desk;" ∈ wsX8_tell := by decide +kernel
theorem lkX8_tell_10 : Cond.fieldLink RX8 10 RX8 "book" "LApprovalyard$Book;" ∈ wsX8_tell := by decide +kernel
set_option maxHeartbeats 4000000 in
set_option maxRecDepth 100000 in
/-- tell, kind 1 -/
theorem cX8_tell1 (l : Launch) (D : va_G) (tys : List (ClassId × FieldType)) (cI : ClassId) (ht : tys[0]? = some (cI, .int)) (ad : Nat → Nat) (B0 : Nat → Int32) (P0 P1 P2 P3 P4 P5 : Nat → Int32) (L0 L1 L2 : Nat → Int32) (dy : Int32) (Q0 Q1 Q2 Q3 Q4 Q5 Q6 : Nat → Int32) (nm : Int32) (P'0 P'1 P'2 P'3 P'4 P'5 : Nat → Int32) (L'0 L'1 L'2 : Nat → Int32) (dy2 : Int32) (Q'0 Q'1 Q'2 Q'3 Q'4 Q'5 Q'6 : Nat → Int32) (nm2 : Int32) (O0 O1 : Nat → Int32) (on : Int32) (oc : Int32) (a b c : Int32) (n : Nat) (hn9 : n < 512) : CId l yX8_tell wsX8_tell 7 D tys [.ref (ad 0), .int 1, .int a, .int b, .int c] (wApp cI ad B0 (nI n) P0 P1 P2 P3 P4 P5 L0 L1 L2 dy Q0 Q1 Q2 Q3 Q4 Q5 Q6 nm (P'0) (P'1) (P'2) (P'3) (P'4) (P'5) (L'0) (L'1) (L'2) dy2 (Q'0) (Q'1) (Q'2) (Q'3) (Q'4) (Q'5) (Q'6) nm2 O0 O1 on oc) (rat 8 P0 a + 1) (wApp cI ad (bwr B0 (nI n) 1 a b c 0 0) (nI n + 1) (rup 8 P0 a (rat 8 P0 a + 1)) (rup 24 P1 (plc a (rat 8 P0 a + 1)) b) (rup 24 P2 (plc a (rat 8 P0 a + 1)) 0) (rup 24 P3 (plc a (rat 8 P0 a + 1)) 0) P4 P5 L0 L1 L2 dy Q0 Q1 Q2 Q3 Q4 Q5 Q6 nm (P'0) (P'1) (P'2) (P'3) (P'4) (P'5) (L'0) (L'1) (L'2) dy2 (Q'0) (Q'1) (Q'2) (Q'3) (Q'4) (Q'5) (Q'6) nm2 O0 O1 on oc) := by
  have hb9 : nI n < 512 := nI_lt (b := 512) (by omega) (by decide)
  refine CI_of (maxL := 5) (cc := cX8_tell) (y := yX8_tell) rfl rfl (Nat.le_of_ble_eq_true rfl) (fun X hl hD hk hn hcz hsz o fin => ?_)
  subst hl; subst hD; subst hk
  refine V_aload_n (pc := 0) o dX8_tell_0 rfl ?_
  refine V_get (pc := 1) o 0 1 hiX8_tell_X8 rfl rfl (by decide) lkX8_tell_19 rfl rfl dX8_tell_1 ?_
  refine V_aload_n (pc := 4) o dX8_tell_4 rfl ?_
  refine V_get (pc := 5) o 0 0 hiX8_tell_X8 rfl rfl (by decide) lkX8_tell_10 rfl rfl dX8_tell_5 ?_
  refine V_aload_n (pc := 8) o dX8_tell_8 rfl ?_
  refine V_get (pc := 9) o 0 0 hiX8_tell_X8 rfl rfl (by decide) lkX8_tell_10 rfl rfl dX8_tell_9 ?_
  refine V_iload_n (pc := 12) o dX8_tell_12 rfl ?_
  refine V_iload_n (pc := 13) o dX8_tell_13 rfl ?_
  refine V_iload_n (pc := 14) o dX8_tell_14 rfl ?_
  refine V_iload (pc := 15) o dX8_tell_15 rfl ?_
  refine V_iconst (pc := 17) o 0 dX8_tell_17 (by decide) ?_
  refine V_iconst (pc := 18) o 0 dX8_tell_18 (by decide) ?_
  refine V_wVi (pc := 19) o (cX0_write_met _ _ _ cI ht (fun k => ad (1 + k)) B0 (nI n) 1 a b c 0 0 hb9) 1 3 (wApp cI ad (bwr B0 (nI n) 1 a b c 0 0) ((nI n) + 1) P0 P1 P2 P3 P4 P5 L0 L1 L2 dy Q0 Q1 Q2 Q3 Q4 Q5 Q6 nm (P'0) (P'1) (P'2) (P'3) (P'4) (P'5) (L'0) (L'1) (L'2) dy2 (Q'0) (Q'1) (Q'2) (Q'3) (Q'4) (Q'5) (Q'6) nm2 O0 O1 on oc) gX8_tell_X0_write rfl hdX0_write ⟨by omega, by decide⟩ rfl rfl rfl (Nat.le_of_ble_eq_true rfl) dX8_tell_19 rfl rfl ?_
  refine V_wVp (pc := 22) o (cX2_ap1 _ _ _ cI ht (fun k => ad (4 + k)) (fun k => ad (1 + k)) P0 P1 P2 P3 P4 P5 L0 L1 L2 dy Q0 Q1 Q2 Q3 Q4 Q5 Q6 nm (bwr B0 (nI n) 1 a b c 0 0) (nI n + 1) ((nI n + 1) - 1) a b c 0 0 (bwr_ne hn9) (bwr_rd B0 hn9 (i := 0) (by decide) 1 a b c 0 0) (bwr_rd B0 hn9 (i := 1) (by decide) 1 a b c 0 0) (bwr_rd B0 hn9 (i := 2) (by decide) 1 a b c 0 0) (bwr_rd B0 hn9 (i := 3) (by decide) 1 a b c 0 0) (bwr_rd B0 hn9 (i := 4) (by decide) 1 a b c 0 0) (bwr_rd B0 hn9 (i := 5) (by decide) 1 a b c 0 0)) _ (wApp cI ad (bwr B0 (nI n) 1 a b c 0 0) ((nI n) + 1) (rup 8 P0 a (rat 8 P0 a + 1)) (rup 24 P1 (plc a (rat 8 P0 a + 1)) b) (rup 24 P2 (plc a (rat 8 P0 a + 1)) 0) (rup 24 P3 (plc a (rat 8 P0 a + 1)) 0) P4 P5 L0 L1 L2 dy Q0 Q1 Q2 Q3 Q4 Q5 Q6 nm (P'0) (P'1) (P'2) (P'3) (P'4) (P'5) (L'0) (L'1) (L'2) dy2 (Q'0) (Q'1) (Q'2) (Q'3) (Q'4) (Q'5) (Q'6) nm2 O0 O1 on oc) gX8_tell_X2_apply rfl hdX2_apply ⟨by omega, by decide⟩ rfl rfl rfl (Nat.le_of_ble_eq_true rfl) dX8_tell_22 (pm_1 _ _ _ _) (pm_1 _ _ _ _) ?_
  exact fin 25 _ _ () dX8_tell_25 rfl rfl
set_option maxHeartbeats 4000000 in
set_option maxRecDepth 100000 in
/-- tell, kind 3 -/
theorem cX8_tell3 (l : Launch) (D : va_G) (tys : List (ClassId × FieldType)) (cI : ClassId) (ht : tys[0]? = some (cI, .int)) (ad : Nat → Nat) (B0 : Nat → Int32) (P0 P1 P2 P3 P4 P5 : Nat → Int32) (L0 L1 L2 : Nat → Int32) (dy : Int32) (Q0 Q1 Q2 Q3 Q4 Q5 Q6 : Nat → Int32) (nm : Int32) (P'0 P'1 P'2 P'3 P'4 P'5 : Nat → Int32) (L'0 L'1 L'2 : Nat → Int32) (dy2 : Int32) (Q'0 Q'1 Q'2 Q'3 Q'4 Q'5 Q'6 : Nat → Int32) (nm2 : Int32) (O0 O1 : Nat → Int32) (on : Int32) (oc : Int32) (a b c : Int32) (n : Nat) (hn9 : n < 512) : CId l yX8_tell wsX8_tell 7 D tys [.ref (ad 0), .int 3, .int a, .int b, .int c] (wApp cI ad B0 (nI n) P0 P1 P2 P3 P4 P5 L0 L1 L2 dy Q0 Q1 Q2 Q3 Q4 Q5 Q6 nm (P'0) (P'1) (P'2) (P'3) (P'4) (P'5) (L'0) (L'1) (L'2) dy2 (Q'0) (Q'1) (Q'2) (Q'3) (Q'4) (Q'5) (Q'6) nm2 O0 O1 on oc) (lvE (Q3, Q4, Q5, Q6) a b dy nm.toNatClampNeg) (wApp cI ad (bwr B0 (nI n) 3 a b c 0 0) (nI n + 1) P0 P1 (rup 24 P2 (plc a b) 1) P3 P4 P5 L0 L1 L2 dy Q0 Q1 Q2 ((lvT (Q3, Q4, Q5, Q6) a b nm.toNatClampNeg).1) ((lvT (Q3, Q4, Q5, Q6) a b nm.toNatClampNeg).2.1) ((lvT (Q3, Q4, Q5, Q6) a b nm.toNatClampNeg).2.2.1) ((lvT (Q3, Q4, Q5, Q6) a b nm.toNatClampNeg).2.2.2) nm (P'0) (P'1) (P'2) (P'3) (P'4) (P'5) (L'0) (L'1) (L'2) dy2 (Q'0) (Q'1) (Q'2) (Q'3) (Q'4) (Q'5) (Q'6) nm2 O0 O1 on oc) := by
  have hb9 : nI n < 512 := nI_lt (b := 512) (by omega) (by decide)
  refine CI_of (maxL := 5) (cc := cX8_tell) (y := yX8_tell) rfl rfl (Nat.le_of_ble_eq_true rfl) (fun X hl hD hk hn hcz hsz o fin => ?_)
  subst hl; subst hD; subst hk
  refine V_aload_n (pc := 0) o dX8_tell_0 rfl ?_
  refine V_get (pc := 1) o 0 1 hiX8_tell_X8 rfl rfl (by decide) lkX8_tell_19 rfl rfl dX8_tell_1 ?_
  refine V_aload_n (pc := 4) o dX8_tell_4 rfl ?_
  refine V_get (pc := 5) o 0 0 hiX8_tell_X8 rfl rfl (by decide) lkX8_tell_10 rfl rfl dX8_tell_5 ?_
  refine V_aload_n (pc := 8) o dX8_tell_8 rfl ?_
  refine V_get (pc := 9) o 0 0 hiX8_tell_X8 rfl rfl (by decide) lkX8_tell_10 rfl rfl dX8_tell_9 ?_
  refine V_iload_n (pc := 12) o dX8_tell_12 rfl ?_
  refine V_iload_n (pc := 13) o dX8_tell_13 rfl ?_
  refine V_iload_n (pc := 14) o dX8_tell_14 rfl ?_
  refine V_iload (pc := 15) o dX8_tell_15 rfl ?_
  refine V_iconst (pc := 17) o 0 dX8_tell_17 (by decide) ?_
  refine V_iconst (pc := 18) o 0 dX8_tell_18 (by decide) ?_
  refine V_wVi (pc := 19) o (cX0_write_met _ _ _ cI ht (fun k => ad (1 + k)) B0 (nI n) 3 a b c 0 0 hb9) 1 3 (wApp cI ad (bwr B0 (nI n) 3 a b c 0 0) ((nI n) + 1) P0 P1 P2 P3 P4 P5 L0 L1 L2 dy Q0 Q1 Q2 Q3 Q4 Q5 Q6 nm (P'0) (P'1) (P'2) (P'3) (P'4) (P'5) (L'0) (L'1) (L'2) dy2 (Q'0) (Q'1) (Q'2) (Q'3) (Q'4) (Q'5) (Q'6) nm2 O0 O1 on oc) gX8_tell_X0_write rfl hdX0_write ⟨by omega, by decide⟩ rfl rfl rfl (Nat.le_of_ble_eq_true rfl) dX8_tell_19 rfl rfl ?_
  refine V_wVp (pc := 22) o (cX2_ap3 _ _ _ cI ht (fun k => ad (4 + k)) (fun k => ad (1 + k)) P0 P1 P2 P3 P4 P5 L0 L1 L2 dy Q0 Q1 Q2 Q3 Q4 Q5 Q6 nm (bwr B0 (nI n) 3 a b c 0 0) (nI n + 1) ((nI n + 1) - 1) a b c 0 0 (bwr_ne hn9) (bwr_rd B0 hn9 (i := 0) (by decide) 3 a b c 0 0) (bwr_rd B0 hn9 (i := 1) (by decide) 3 a b c 0 0) (bwr_rd B0 hn9 (i := 2) (by decide) 3 a b c 0 0) (bwr_rd B0 hn9 (i := 3) (by decide) 3 a b c 0 0) (bwr_rd B0 hn9 (i := 4) (by decide) 3 a b c 0 0) (bwr_rd B0 hn9 (i := 5) (by decide) 3 a b c 0 0)) _ (wApp cI ad (bwr B0 (nI n) 3 a b c 0 0) ((nI n) + 1) P0 P1 (rup 24 P2 (plc a b) 1) P3 P4 P5 L0 L1 L2 dy Q0 Q1 Q2 ((lvT (Q3, Q4, Q5, Q6) a b nm.toNatClampNeg).1) ((lvT (Q3, Q4, Q5, Q6) a b nm.toNatClampNeg).2.1) ((lvT (Q3, Q4, Q5, Q6) a b nm.toNatClampNeg).2.2.1) ((lvT (Q3, Q4, Q5, Q6) a b nm.toNatClampNeg).2.2.2) nm (P'0) (P'1) (P'2) (P'3) (P'4) (P'5) (L'0) (L'1) (L'2) dy2 (Q'0) (Q'1) (Q'2) (Q'3) (Q'4) (Q'5) (Q'6) nm2 O0 O1 on oc) gX8_tell_X2_apply rfl hdX2_apply ⟨by omega, by decide⟩ rfl rfl rfl (Nat.le_of_ble_eq_true rfl) dX8_tell_22 (pm_1 _ _ _ _) (pm_1 _ _ _ _) ?_
  exact fin 25 _ _ () dX8_tell_25 rfl rfl
set_option maxHeartbeats 4000000 in
set_option maxRecDepth 100000 in
/-- tell, kind 4 -/
theorem cX8_tell4 (l : Launch) (D : va_G) (tys : List (ClassId × FieldType)) (cI : ClassId) (ht : tys[0]? = some (cI, .int)) (ad : Nat → Nat) (B0 : Nat → Int32) (P0 P1 P2 P3 P4 P5 : Nat → Int32) (L0 L1 L2 : Nat → Int32) (dy : Int32) (Q0 Q1 Q2 Q3 Q4 Q5 Q6 : Nat → Int32) (nm : Int32) (P'0 P'1 P'2 P'3 P'4 P'5 : Nat → Int32) (L'0 L'1 L'2 : Nat → Int32) (dy2 : Int32) (Q'0 Q'1 Q'2 Q'3 Q'4 Q'5 Q'6 : Nat → Int32) (nm2 : Int32) (O0 O1 : Nat → Int32) (on : Int32) (oc : Int32) (a b c : Int32) (n : Nat) (hn9 : n < 512) : CId l yX8_tell wsX8_tell 7 D tys [.ref (ad 0), .int 4, .int a, .int b, .int c] (wApp cI ad B0 (nI n) P0 P1 P2 P3 P4 P5 L0 L1 L2 dy Q0 Q1 Q2 Q3 Q4 Q5 Q6 nm (P'0) (P'1) (P'2) (P'3) (P'4) (P'5) (L'0) (L'1) (L'2) dy2 (Q'0) (Q'1) (Q'2) (Q'3) (Q'4) (Q'5) (Q'6) nm2 O0 O1 on oc) (nm) (wApp cI ad (bwr B0 (nI n) 4 a b c 0 0) (nI n + 1) P0 P1 P2 P3 P4 P5 L0 L1 L2 dy (rup 30 Q0 nm a) (rup 30 Q1 nm b) (rup 30 Q2 nm c) (rup 30 Q3 nm 0) (rup 30 Q4 nm 0) (rup 30 Q5 nm 0) (erN Q6 nm 8) (nm + 1) (P'0) (P'1) (P'2) (P'3) (P'4) (P'5) (L'0) (L'1) (L'2) dy2 (Q'0) (Q'1) (Q'2) (Q'3) (Q'4) (Q'5) (Q'6) nm2 O0 O1 on oc) := by
  have hb9 : nI n < 512 := nI_lt (b := 512) (by omega) (by decide)
  refine CI_of (maxL := 5) (cc := cX8_tell) (y := yX8_tell) rfl rfl (Nat.le_of_ble_eq_true rfl) (fun X hl hD hk hn hcz hsz o fin => ?_)
  subst hl; subst hD; subst hk
  refine V_aload_n (pc := 0) o dX8_tell_0 rfl ?_
  refine V_get (pc := 1) o 0 1 hiX8_tell_X8 rfl rfl (by decide) lkX8_tell_19 rfl rfl dX8_tell_1 ?_
  refine V_aload_n (pc := 4) o dX8_tell_4 rfl ?_
  refine V_get (pc := 5) o 0 0 hiX8_tell_X8 rfl rfl (by decide) lkX8_tell_10 rfl rfl dX8_tell_5 ?_
  refine V_aload_n (pc := 8) o dX8_tell_8 rfl ?_
  refine V_get (pc := 9) o 0 0 hiX8_tell_X8 rfl rfl (by decide) lkX8_tell_10 rfl rfl dX8_tell_9 ?_
  refine V_iload_n (pc := 12) o dX8_tell_12 rfl ?_
  refine V_iload_n (pc := 13) o dX8_tell_13 rfl ?_
  refine V_iload_n (pc := 14) o dX8_tell_14 rfl ?_
  refine V_iload (pc := 15) o dX8_tell_15 rfl ?_
  refine V_iconst (pc := 17) o 0 dX8_tell_17 (by decide) ?_
  refine V_iconst (pc := 18) o 0 dX8_tell_18 (by decide) ?_
  refine V_wVi (pc := 19) o (cX0_write_met _ _ _ cI ht (fun k => ad (1 + k)) B0 (nI n) 4 a b c 0 0 hb9) 1 3 (wApp cI ad (bwr B0 (nI n) 4 a b c 0 0) ((nI n) + 1) P0 P1 P2 P3 P4 P5 L0 L1 L2 dy Q0 Q1 Q2 Q3 Q4 Q5 Q6 nm (P'0) (P'1) (P'2) (P'3) (P'4) (P'5) (L'0) (L'1) (L'2) dy2 (Q'0) (Q'1) (Q'2) (Q'3) (Q'4) (Q'5) (Q'6) nm2 O0 O1 on oc) gX8_tell_X0_write rfl hdX0_write ⟨by omega, by decide⟩ rfl rfl rfl (Nat.le_of_ble_eq_true rfl) dX8_tell_19 rfl rfl ?_
  refine V_wVp (pc := 22) o (cX2_ap4 _ _ _ cI ht (fun k => ad (4 + k)) (fun k => ad (1 + k)) P0 P1 P2 P3 P4 P5 L0 L1 L2 dy Q0 Q1 Q2 Q3 Q4 Q5 Q6 nm (bwr B0 (nI n) 4 a b c 0 0) (nI n + 1) ((nI n + 1) - 1) a b c 0 0 (bwr_ne hn9) (bwr_rd B0 hn9 (i := 0) (by decide) 4 a b c 0 0) (bwr_rd B0 hn9 (i := 1) (by decide) 4 a b c 0 0) (bwr_rd B0 hn9 (i := 2) (by decide) 4 a b c 0 0) (bwr_rd B0 hn9 (i := 3) (by decide) 4 a b c 0 0) (bwr_rd B0 hn9 (i := 4) (by decide) 4 a b c 0 0) (bwr_rd B0 hn9 (i := 5) (by decide) 4 a b c 0 0)) _ (wApp cI ad (bwr B0 (nI n) 4 a b c 0 0) ((nI n) + 1) P0 P1 P2 P3 P4 P5 L0 L1 L2 dy (rup 30 Q0 nm a) (rup 30 Q1 nm b) (rup 30 Q2 nm c) (rup 30 Q3 nm 0) (rup 30 Q4 nm 0) (rup 30 Q5 nm 0) (erN Q6 nm 8) (nm + 1) (P'0) (P'1) (P'2) (P'3) (P'4) (P'5) (L'0) (L'1) (L'2) dy2 (Q'0) (Q'1) (Q'2) (Q'3) (Q'4) (Q'5) (Q'6) nm2 O0 O1 on oc) gX8_tell_X2_apply rfl hdX2_apply ⟨by omega, by decide⟩ rfl rfl rfl (Nat.le_of_ble_eq_true rfl) dX8_tell_22 (pm_1 _ _ _ _) (pm_1 _ _ _ _) ?_
  exact fin 25 _ _ () dX8_tell_25 rfl rfl
set_option maxHeartbeats 4000000 in
set_option maxRecDepth 100000 in
/-- tell, kind 5 -/
theorem cX8_tell5 (l : Launch) (D : va_G) (tys : List (ClassId × FieldType)) (cI : ClassId) (ht : tys[0]? = some (cI, .int)) (ad : Nat → Nat) (B0 : Nat → Int32) (P0 P1 P2 P3 P4 P5 : Nat → Int32) (L0 L1 L2 : Nat → Int32) (dy : Int32) (Q0 Q1 Q2 Q3 Q4 Q5 Q6 : Nat → Int32) (nm : Int32) (P'0 P'1 P'2 P'3 P'4 P'5 : Nat → Int32) (L'0 L'1 L'2 : Nat → Int32) (dy2 : Int32) (Q'0 Q'1 Q'2 Q'3 Q'4 Q'5 Q'6 : Nat → Int32) (nm2 : Int32) (O0 O1 : Nat → Int32) (on : Int32) (oc : Int32) (a b c : Int32) (n : Nat) (hn9 : n < 512) : CId l yX8_tell wsX8_tell 7 D tys [.ref (ad 0), .int 5, .int a, .int b, .int c] (wApp cI ad B0 (nI n) P0 P1 P2 P3 P4 P5 L0 L1 L2 dy Q0 Q1 Q2 Q3 Q4 Q5 Q6 nm (P'0) (P'1) (P'2) (P'3) (P'4) (P'5) (L'0) (L'1) (L'2) dy2 (Q'0) (Q'1) (Q'2) (Q'3) (Q'4) (Q'5) (Q'6) nm2 O0 O1 on oc) (pcostN P1 b 8) (wApp cI ad (bwr B0 (nI n) 5 a b c 0 0) (nI n + 1) P0 P1 P2 P3 P4 P5 L0 L1 L2 dy Q0 Q1 Q2 (rup 30 Q3 a 1) (rup 30 Q4 a b) (rup 30 Q5 a (pcostN P1 b 8)) (erN Q6 a 8) nm (P'0) (P'1) (P'2) (P'3) (P'4) (P'5) (L'0) (L'1) (L'2) dy2 (Q'0) (Q'1) (Q'2) (Q'3) (Q'4) (Q'5) (Q'6) nm2 O0 O1 on oc) := by
  have hb9 : nI n < 512 := nI_lt (b := 512) (by omega) (by decide)
  refine CI_of (maxL := 5) (cc := cX8_tell) (y := yX8_tell) rfl rfl (Nat.le_of_ble_eq_true rfl) (fun X hl hD hk hn hcz hsz o fin => ?_)
  subst hl; subst hD; subst hk
  refine V_aload_n (pc := 0) o dX8_tell_0 rfl ?_
  refine V_get (pc := 1) o 0 1 hiX8_tell_X8 rfl rfl (by decide) lkX8_tell_19 rfl rfl dX8_tell_1 ?_
  refine V_aload_n (pc := 4) o dX8_tell_4 rfl ?_
  refine V_get (pc := 5) o 0 0 hiX8_tell_X8 rfl rfl (by decide) lkX8_tell_10 rfl rfl dX8_tell_5 ?_
  refine V_aload_n (pc := 8) o dX8_tell_8 rfl ?_
  refine V_get (pc := 9) o 0 0 hiX8_tell_X8 rfl rfl (by decide) lkX8_tell_10 rfl rfl dX8_tell_9 ?_
  refine V_iload_n (pc := 12) o dX8_tell_12 rfl ?_
  refine V_iload_n (pc := 13) o dX8_tell_13 rfl ?_
  refine V_iload_n (pc := 14) o dX8_tell_14 rfl ?_
  refine V_iload (pc := 15) o dX8_tell_15 rfl ?_
  refine V_iconst (pc := 17) o 0 dX8_tell_17 (by decide) ?_
  refine V_iconst (pc := 18) o 0 dX8_tell_18 (by decide) ?_
  refine V_wVi (pc := 19) o (cX0_write_met _ _ _ cI ht (fun k => ad (1 + k)) B0 (nI n) 5 a b c 0 0 hb9) 1 3 (wApp cI ad (bwr B0 (nI n) 5 a b c 0 0) ((nI n) + 1) P0 P1 P2 P3 P4 P5 L0 L1 L2 dy Q0 Q1 Q2 Q3 Q4 Q5 Q6 nm (P'0) (P'1) (P'2) (P'3) (P'4) (P'5) (L'0) (L'1) (L'2) dy2 (Q'0) (Q'1) (Q'2) (Q'3) (Q'4) (Q'5) (Q'6) nm2 O0 O1 on oc) gX8_tell_X0_write rfl hdX0_write ⟨by omega, by decide⟩ rfl rfl rfl (Nat.le_of_ble_eq_true rfl) dX8_tell_19 rfl rfl ?_
  refine V_wVp (pc := 22) o (cX2_ap5 _ _ _ cI ht (fun k => ad (4 + k)) (fun k => ad (1 + k)) P0 P1 P2 P3 P4 P5 L0 L1 L2 dy Q0 Q1 Q2 Q3 Q4 Q5 Q6 nm (bwr B0 (nI n) 5 a b c 0 0) (nI n + 1) ((nI n + 1) - 1) a b c 0 0 (bwr_ne hn9) (bwr_rd B0 hn9 (i := 0) (by decide) 5 a b c 0 0) (bwr_rd B0 hn9 (i := 1) (by decide) 5 a b c 0 0) (bwr_rd B0 hn9 (i := 2) (by decide) 5 a b c 0 0) (bwr_rd B0 hn9 (i := 3) (by decide) 5 a b c 0 0) (bwr_rd B0 hn9 (i := 4) (by decide) 5 a b c 0 0) (bwr_rd B0 hn9 (i := 5) (by decide) 5 a b c 0 0)) _ (wApp cI ad (bwr B0 (nI n) 5 a b c 0 0) ((nI n) + 1) P0 P1 P2 P3 P4 P5 L0 L1 L2 dy Q0 Q1 Q2 (rup 30 Q3 a 1) (rup 30 Q4 a b) (rup 30 Q5 a (pcostN P1 b 8)) (erN Q6 a 8) nm (P'0) (P'1) (P'2) (P'3) (P'4) (P'5) (L'0) (L'1) (L'2) dy2 (Q'0) (Q'1) (Q'2) (Q'3) (Q'4) (Q'5) (Q'6) nm2 O0 O1 on oc) gX8_tell_X2_apply rfl hdX2_apply ⟨by omega, by decide⟩ rfl rfl rfl (Nat.le_of_ble_eq_true rfl) dX8_tell_22 (pm_1 _ _ _ _) (pm_1 _ _ _ _) ?_
  exact fin 25 _ _ () dX8_tell_25 rfl rfl
set_option maxHeartbeats 4000000 in
set_option maxRecDepth 100000 in
/-- tell, kind 6 -/
theorem cX8_tell6 (l : Launch) (D : va_G) (tys : List (ClassId × FieldType)) (cI : ClassId) (ht : tys[0]? = some (cI, .int)) (ad : Nat → Nat) (B0 : Nat → Int32) (P0 P1 P2 P3 P4 P5 : Nat → Int32) (L0 L1 L2 : Nat → Int32) (dy : Int32) (Q0 Q1 Q2 Q3 Q4 Q5 Q6 : Nat → Int32) (nm : Int32) (P'0 P'1 P'2 P'3 P'4 P'5 : Nat → Int32) (L'0 L'1 L'2 : Nat → Int32) (dy2 : Int32) (Q'0 Q'1 Q'2 Q'3 Q'4 Q'5 Q'6 : Nat → Int32) (nm2 : Int32) (O0 O1 : Nat → Int32) (on : Int32) (oc : Int32) (a b c : Int32) (n : Nat) (hn9 : n < 512) : CId l yX8_tell wsX8_tell 7 D tys [.ref (ad 0), .int 6, .int a, .int b, .int c] (wApp cI ad B0 (nI n) P0 P1 P2 P3 P4 P5 L0 L1 L2 dy Q0 Q1 Q2 Q3 Q4 Q5 Q6 nm (P'0) (P'1) (P'2) (P'3) (P'4) (P'5) (L'0) (L'1) (L'2) dy2 (Q'0) (Q'1) (Q'2) (Q'3) (Q'4) (Q'5) (Q'6) nm2 O0 O1 on oc) (rat 8 L0 a) (wApp cI ad (bwr B0 (nI n) 6 a b c 0 0) (nI n + 1) P0 P1 P2 P3 P4 P5 (rup 8 L0 a b) L1 L2 dy Q0 Q1 Q2 Q3 Q4 Q5 Q6 nm (P'0) (P'1) (P'2) (P'3) (P'4) (P'5) (L'0) (L'1) (L'2) dy2 (Q'0) (Q'1) (Q'2) (Q'3) (Q'4) (Q'5) (Q'6) nm2 O0 O1 on oc) := by
  have hb9 : nI n < 512 := nI_lt (b := 512) (by omega) (by decide)
  refine CI_of (maxL := 5) (cc := cX8_tell) (y := yX8_tell) rfl rfl (Nat.le_of_ble_eq_true rfl) (fun X hl hD hk hn hcz hsz o fin => ?_)
  subst hl; subst hD; subst hk
  refine V_aload_n (pc := 0) o dX8_tell_0 rfl ?_
  refine V_get (pc := 1) o 0 1 hiX8_tell_X8 rfl rfl (by decide) lkX8_tell_19 rfl rfl dX8_tell_1 ?_
  refine V_aload_n (pc := 4) o dX8_tell_4 rfl ?_
  refine V_get (pc := 5) o 0 0 hiX8_tell_X8 rfl rfl (by decide) lkX8_tell_10 rfl rfl dX8_tell_5 ?_
  refine V_aload_n (pc := 8) o dX8_tell_8 rfl ?_
  refine V_get (pc := 9) o 0 0 hiX8_tell_X8 rfl rfl (by decide) lkX8_tell_10 rfl rfl dX8_tell_9 ?_
  refine V_iload_n (pc := 12) o dX8_tell_12 rfl ?_
  refine V_iload_n (pc := 13) o dX8_tell_13 rfl ?_
  refine V_iload_n (pc := 14) o dX8_tell_14 rfl ?_
  refine V_iload (pc := 15) o dX8_tell_15 rfl ?_
  refine V_iconst (pc := 17) o 0 dX8_tell_17 (by decide) ?_
  refine V_iconst (pc := 18) o 0 dX8_tell_18 (by decide) ?_
  refine V_wVi (pc := 19) o (cX0_write_met _ _ _ cI ht (fun k => ad (1 + k)) B0 (nI n) 6 a b c 0 0 hb9) 1 3 (wApp cI ad (bwr B0 (nI n) 6 a b c 0 0) ((nI n) + 1) P0 P1 P2 P3 P4 P5 L0 L1 L2 dy Q0 Q1 Q2 Q3 Q4 Q5 Q6 nm (P'0) (P'1) (P'2) (P'3) (P'4) (P'5) (L'0) (L'1) (L'2) dy2 (Q'0) (Q'1) (Q'2) (Q'3) (Q'4) (Q'5) (Q'6) nm2 O0 O1 on oc) gX8_tell_X0_write rfl hdX0_write ⟨by omega, by decide⟩ rfl rfl rfl (Nat.le_of_ble_eq_true rfl) dX8_tell_19 rfl rfl ?_
  refine V_wVp (pc := 22) o (cX2_ap6 _ _ _ cI ht (fun k => ad (4 + k)) (fun k => ad (1 + k)) P0 P1 P2 P3 P4 P5 L0 L1 L2 dy Q0 Q1 Q2 Q3 Q4 Q5 Q6 nm (bwr B0 (nI n) 6 a b c 0 0) (nI n + 1) ((nI n + 1) - 1) a b c 0 0 (bwr_ne hn9) (bwr_rd B0 hn9 (i := 0) (by decide) 6 a b c 0 0) (bwr_rd B0 hn9 (i := 1) (by decide) 6 a b c 0 0) (bwr_rd B0 hn9 (i := 2) (by decide) 6 a b c 0 0) (bwr_rd B0 hn9 (i := 3) (by decide) 6 a b c 0 0) (bwr_rd B0 hn9 (i := 4) (by decide) 6 a b c 0 0) (bwr_rd B0 hn9 (i := 5) (by decide) 6 a b c 0 0)) _ (wApp cI ad (bwr B0 (nI n) 6 a b c 0 0) ((nI n) + 1) P0 P1 P2 P3 P4 P5 (rup 8 L0 a b) L1 L2 dy Q0 Q1 Q2 Q3 Q4 Q5 Q6 nm (P'0) (P'1) (P'2) (P'3) (P'4) (P'5) (L'0) (L'1) (L'2) dy2 (Q'0) (Q'1) (Q'2) (Q'3) (Q'4) (Q'5) (Q'6) nm2 O0 O1 on oc) gX8_tell_X2_apply rfl hdX2_apply ⟨by omega, by decide⟩ rfl rfl rfl (Nat.le_of_ble_eq_true rfl) dX8_tell_22 (pm_1 _ _ _ _) (pm_1 _ _ _ _) ?_
  exact fin 25 _ _ () dX8_tell_25 rfl rfl
set_option maxHeartbeats 4000000 in
set_option maxRecDepth 100000 in
/-- tell, kind 7 -/
theorem cX8_tell7 (l : Launch) (D : va_G) (tys : List (ClassId × FieldType)) (cI : ClassId) (ht : tys[0]? = some (cI, .int)) (ad : Nat → Nat) (B0 : Nat → Int32) (P0 P1 P2 P3 P4 P5 : Nat → Int32) (L0 L1 L2 : Nat → Int32) (dy : Int32) (Q0 Q1 Q2 Q3 Q4 Q5 Q6 : Nat → Int32) (nm : Int32) (P'0 P'1 P'2 P'3 P'4 P'5 : Nat → Int32) (L'0 L'1 L'2 : Nat → Int32) (dy2 : Int32) (Q'0 Q'1 Q'2 Q'3 Q'4 Q'5 Q'6 : Nat → Int32) (nm2 : Int32) (O0 O1 : Nat → Int32) (on : Int32) (oc : Int32) (a b c : Int32) (n : Nat) (hn9 : n < 512) : CId l yX8_tell wsX8_tell 7 D tys [.ref (ad 0), .int 7, .int a, .int b, .int c] (wApp cI ad B0 (nI n) P0 P1 P2 P3 P4 P5 L0 L1 L2 dy Q0 Q1 Q2 Q3 Q4 Q5 Q6 nm (P'0) (P'1) (P'2) (P'3) (P'4) (P'5) (L'0) (L'1) (L'2) dy2 (Q'0) (Q'1) (Q'2) (Q'3) (Q'4) (Q'5) (Q'6) nm2 O0 O1 on oc) (rat 8 (rup 8 L2 a (dy + c)) a) (wApp cI ad (bwr B0 (nI n) 7 a b c 0 0) (nI n + 1) P0 P1 P2 P3 P4 P5 L0 (rup 8 L1 a b) (rup 8 L2 a (dy + c)) dy Q0 Q1 Q2 Q3 Q4 Q5 Q6 nm (P'0) (P'1) (P'2) (P'3) (P'4) (P'5) (L'0) (L'1) (L'2) dy2 (Q'0) (Q'1) (Q'2) (Q'3) (Q'4) (Q'5) (Q'6) nm2 O0 O1 on oc) := by
  have hb9 : nI n < 512 := nI_lt (b := 512) (by omega) (by decide)
  refine CI_of (maxL := 5) (cc := cX8_tell) (y := yX8_tell) rfl rfl (Nat.le_of_ble_eq_true rfl) (fun X hl hD hk hn hcz hsz o fin => ?_)
  subst hl; subst hD; subst hk
  refine V_aload_n (pc := 0) o dX8_tell_0 rfl ?_
  refine V_get (pc := 1) o 0 1 hiX8_tell_X8 rfl rfl (by decide) lkX8_tell_19 rfl rfl dX8_tell_1 ?_
  refine V_aload_n (pc := 4) o dX8_tell_4 rfl ?_
  refine V_get (pc := 5) o 0 0 hiX8_tell_X8 rfl rfl (by decide) lkX8_tell_10 rfl rfl dX8_tell_5 ?_
  refine V_aload_n (pc := 8) o dX8_tell_8 rfl ?_
  refine V_get (pc := 9) o 0 0 hiX8_tell_X8 rfl rfl (by decide) lkX8_tell_10 rfl rfl dX8_tell_9 ?_
  refine V_iload_n (pc := 12) o dX8_tell_12 rfl ?_
  refine V_iload_n (pc := 13) o dX8_tell_13 rfl ?_
  refine V_iload_n (pc := 14) o dX8_tell_14 rfl ?_
  refine V_iload (pc := 15) o dX8_tell_15 rfl ?_
  refine V_iconst (pc := 17) o 0 dX8_tell_17 (by decide) ?_
  refine V_iconst (pc := 18) o 0 dX8_tell_18 (by decide) ?_
  refine V_wVi (pc := 19) o (cX0_write_met _ _ _ cI ht (fun k => ad (1 + k)) B0 (nI n) 7 a b c 0 0 hb9) 1 3 (wApp cI ad (bwr B0 (nI n) 7 a b c 0 0) ((nI n) + 1) P0 P1 P2 P3 P4 P5 L0 L1 L2 dy Q0 Q1 Q2 Q3 Q4 Q5 Q6 nm (P'0) (P'1) (P'2) (P'3) (P'4) (P'5) (L'0) (L'1) (L'2) dy2 (Q'0) (Q'1) (Q'2) (Q'3) (Q'4) (Q'5) (Q'6) nm2 O0 O1 on oc) gX8_tell_X0_write rfl hdX0_write ⟨by omega, by decide⟩ rfl rfl rfl (Nat.le_of_ble_eq_true rfl) dX8_tell_19 rfl rfl ?_
  refine V_wVp (pc := 22) o (cX2_ap7 _ _ _ cI ht (fun k => ad (4 + k)) (fun k => ad (1 + k)) P0 P1 P2 P3 P4 P5 L0 L1 L2 dy Q0 Q1 Q2 Q3 Q4 Q5 Q6 nm (bwr B0 (nI n) 7 a b c 0 0) (nI n + 1) ((nI n + 1) - 1) a b c 0 0 (bwr_ne hn9) (bwr_rd B0 hn9 (i := 0) (by decide) 7 a b c 0 0) (bwr_rd B0 hn9 (i := 1) (by decide) 7 a b c 0 0) (bwr_rd B0 hn9 (i := 2) (by decide) 7 a b c 0 0) (bwr_rd B0 hn9 (i := 3) (by decide) 7 a b c 0 0) (bwr_rd B0 hn9 (i := 4) (by decide) 7 a b c 0 0) (bwr_rd B0 hn9 (i := 5) (by decide) 7 a b c 0 0)) _ (wApp cI ad (bwr B0 (nI n) 7 a b c 0 0) ((nI n) + 1) P0 P1 P2 P3 P4 P5 L0 (rup 8 L1 a b) (rup 8 L2 a (dy + c)) dy Q0 Q1 Q2 Q3 Q4 Q5 Q6 nm (P'0) (P'1) (P'2) (P'3) (P'4) (P'5) (L'0) (L'1) (L'2) dy2 (Q'0) (Q'1) (Q'2) (Q'3) (Q'4) (Q'5) (Q'6) nm2 O0 O1 on oc) gX8_tell_X2_apply rfl hdX2_apply ⟨by omega, by decide⟩ rfl rfl rfl (Nat.le_of_ble_eq_true rfl) dX8_tell_22 (pm_1 _ _ _ _) (pm_1 _ _ _ _) ?_
  exact fin 25 _ _ () dX8_tell_25 rfl rfl
set_option maxHeartbeats 4000000 in
set_option maxRecDepth 100000 in
/-- tell, kind 8 -/
theorem cX8_tell8 (l : Launch) (D : va_G) (tys : List (ClassId × FieldType)) (cI : ClassId) (ht : tys[0]? = some (cI, .int)) (ad : Nat → Nat) (B0 : Nat → Int32) (P0 P1 P2 P3 P4 P5 : Nat → Int32) (L0 L1 L2 : Nat → Int32) (dy : Int32) (Q0 Q1 Q2 Q3 Q4 Q5 Q6 : Nat → Int32) (nm : Int32) (P'0 P'1 P'2 P'3 P'4 P'5 : Nat → Int32) (L'0 L'1 L'2 : Nat → Int32) (dy2 : Int32) (Q'0 Q'1 Q'2 Q'3 Q'4 Q'5 Q'6 : Nat → Int32) (nm2 : Int32) (O0 O1 : Nat → Int32) (on : Int32) (oc : Int32) (a b c : Int32) (n : Nat) (hn9 : n < 512) : CId l yX8_tell wsX8_tell 7 D tys [.ref (ad 0), .int 8, .int a, .int b, .int c] (wApp cI ad B0 (nI n) P0 P1 P2 P3 P4 P5 L0 L1 L2 dy Q0 Q1 Q2 Q3 Q4 Q5 Q6 nm (P'0) (P'1) (P'2) (P'3) (P'4) (P'5) (L'0) (L'1) (L'2) dy2 (Q'0) (Q'1) (Q'2) (Q'3) (Q'4) (Q'5) (Q'6) nm2 O0 O1 on oc) (prF L0 L1 L2 dy b (rat 30 Q5 a)) (wApp cI ad (bwr B0 (nI n) 8 a b c 0 0) (nI n + 1) P0 P1 P2 P3 P4 P5 L0 L1 L2 dy Q0 Q1 Q2 Q3 Q4 Q5 (rup 240 Q6 (a * 8 + b) (tkE L0 L1 L2 dy b (rat 30 Q5 a))) nm (P'0) (P'1) (P'2) (P'3) (P'4) (P'5) (L'0) (L'1) (L'2) dy2 (Q'0) (Q'1) (Q'2) (Q'3) (Q'4) (Q'5) (Q'6) nm2 O0 O1 on oc) := by
  have hb9 : nI n < 512 := nI_lt (b := 512) (by omega) (by decide)
  refine CI_of (maxL := 5) (cc := cX8_tell) (y := yX8_tell) rfl rfl (Nat.le_of_ble_eq_true rfl) (fun X hl hD hk hn hcz hsz o fin => ?_)
  subst hl; subst hD; subst hk
  refine V_aload_n (pc := 0) o dX8_tell_0 rfl ?_
  refine V_get (pc := 1) o 0 1 hiX8_tell_X8 rfl rfl (by decide) lkX8_tell_19 rfl rfl dX8_tell_1 ?_
  refine V_aload_n (pc := 4) o dX8_tell_4 rfl ?_
  refine V_get (pc := 5) o 0 0 hiX8_tell_X8 rfl rfl (by decide) lkX8_tell_10 rfl rfl dX8_tell_5 ?_
  refine V_aload_n (pc := 8) o dX8_tell_8 rfl ?_
  refine V_get (pc := 9) o 0 0 hiX8_tell_X8 rfl rfl (by decide) lkX8_tell_10 rfl rfl dX8_tell_9 ?_
  refine V_iload_n (pc := 12) o dX8_tell_12 rfl ?_
  refine V_iload_n (pc := 13) o dX8_tell_13 rfl ?_
  refine V_iload_n (pc := 14) o dX8_tell_14 rfl ?_
  refine V_iload (pc := 15) o dX8_tell_15 rfl ?_
  refine V_iconst (pc := 17) o 0 dX8_tell_17 (by decide) ?_
  refine V_iconst (pc := 18) o 0 dX8_tell_18 (by decide) ?_
  refine V_wVi (pc := 19) o (cX0_write_met _ _ _ cI ht (fun k => ad (1 + k)) B0 (nI n) 8 a b c 0 0 hb9) 1 3 (wApp cI ad (bwr B0 (nI n) 8 a b c 0 0) ((nI n) + 1) P0 P1 P2 P3 P4 P5 L0 L1 L2 dy Q0 Q1 Q2 Q3 Q4 Q5 Q6 nm (P'0) (P'1) (P'2) (P'3) (P'4) (P'5) (L'0) (L'1) (L'2) dy2 (Q'0) (Q'1) (Q'2) (Q'3) (Q'4) (Q'5) (Q'6) nm2 O0 O1 on oc) gX8_tell_X0_write rfl hdX0_write ⟨by omega, by decide⟩ rfl rfl rfl (Nat.le_of_ble_eq_true rfl) dX8_tell_19 rfl rfl ?_
  refine V_wVp (pc := 22) o (cX2_ap8 _ _ _ cI ht (fun k => ad (4 + k)) (fun k => ad (1 + k)) P0 P1 P2 P3 P4 P5 L0 L1 L2 dy Q0 Q1 Q2 Q3 Q4 Q5 Q6 nm (bwr B0 (nI n) 8 a b c 0 0) (nI n + 1) ((nI n + 1) - 1) a b c 0 0 (bwr_ne hn9) (bwr_rd B0 hn9 (i := 0) (by decide) 8 a b c 0 0) (bwr_rd B0 hn9 (i := 1) (by decide) 8 a b c 0 0) (bwr_rd B0 hn9 (i := 2) (by decide) 8 a b c 0 0) (bwr_rd B0 hn9 (i := 3) (by decide) 8 a b c 0 0) (bwr_rd B0 hn9 (i := 4) (by decide) 8 a b c 0 0) (bwr_rd B0 hn9 (i := 5) (by decide) 8 a b c 0 0)) _ (wApp cI ad (bwr B0 (nI n) 8 a b c 0 0) ((nI n) + 1) P0 P1 P2 P3 P4 P5 L0 L1 L2 dy Q0 Q1 Q2 Q3 Q4 Q5 (rup 240 Q6 (a * 8 + b) (tkE L0 L1 L2 dy b (rat 30 Q5 a))) nm (P'0) (P'1) (P'2) (P'3) (P'4) (P'5) (L'0) (L'1) (L'2) dy2 (Q'0) (Q'1) (Q'2) (Q'3) (Q'4) (Q'5) (Q'6) nm2 O0 O1 on oc) gX8_tell_X2_apply rfl hdX2_apply ⟨by omega, by decide⟩ rfl rfl rfl (Nat.le_of_ble_eq_true rfl) dX8_tell_22 (pm_1 _ _ _ _) (pm_1 _ _ _ _) ?_
  exact fin 25 _ _ () dX8_tell_25 rfl rfl
set_option maxHeartbeats 4000000 in
set_option maxRecDepth 100000 in
/-- tell, kind 9 -/
theorem cX8_tell9 (l : Launch) (D : va_G) (tys : List (ClassId × FieldType)) (cI : ClassId) (ht : tys[0]? = some (cI, .int)) (ad : Nat → Nat) (B0 : Nat → Int32) (P0 P1 P2 P3 P4 P5 : Nat → Int32) (L0 L1 L2 : Nat → Int32) (dy : Int32) (Q0 Q1 Q2 Q3 Q4 Q5 Q6 : Nat → Int32) (nm : Int32) (P'0 P'1 P'2 P'3 P'4 P'5 : Nat → Int32) (L'0 L'1 L'2 : Nat → Int32) (dy2 : Int32) (Q'0 Q'1 Q'2 Q'3 Q'4 Q'5 Q'6 : Nat → Int32) (nm2 : Int32) (O0 O1 : Nat → Int32) (on : Int32) (oc : Int32) (a b c : Int32) (n : Nat) (hn9 : n < 512) : CId l yX8_tell wsX8_tell 7 D tys [.ref (ad 0), .int 9, .int a, .int b, .int c] (wApp cI ad B0 (nI n) P0 P1 P2 P3 P4 P5 L0 L1 L2 dy Q0 Q1 Q2 Q3 Q4 Q5 Q6 nm (P'0) (P'1) (P'2) (P'3) (P'4) (P'5) (L'0) (L'1) (L'2) dy2 (Q'0) (Q'1) (Q'2) (Q'3) (Q'4) (Q'5) (Q'6) nm2 O0 O1 on oc) (2) (wApp cI ad (bwr B0 (nI n) 9 a b c 0 0) (nI n + 1) P0 P1 P2 P3 P4 P5 L0 L1 L2 dy Q0 Q1 Q2 (rup 30 Q3 a 2) Q4 Q5 Q6 nm (P'0) (P'1) (P'2) (P'3) (P'4) (P'5) (L'0) (L'1) (L'2) dy2 (Q'0) (Q'1) (Q'2) (Q'3) (Q'4) (Q'5) (Q'6) nm2 O0 O1 on oc) := by
  have hb9 : nI n < 512 := nI_lt (b := 512) (by omega) (by decide)
  refine CI_of (maxL := 5) (cc := cX8_tell) (y := yX8_tell) rfl rfl (Nat.le_of_ble_eq_true rfl) (fun X hl hD hk hn hcz hsz o fin => ?_)
  subst hl; subst hD; subst hk
  refine V_aload_n (pc := 0) o dX8_tell_0 rfl ?_
  refine V_get (pc := 1) o 0 1 hiX8_tell_X8 rfl rfl (by decide) lkX8_tell_19 rfl rfl dX8_tell_1 ?_
  refine V_aload_n (pc := 4) o dX8_tell_4 rfl ?_
  refine V_get (pc := 5) o 0 0 hiX8_tell_X8 rfl rfl (by decide) lkX8_tell_10 rfl rfl dX8_tell_5 ?_
  refine V_aload_n (pc := 8) o dX8_tell_8 rfl ?_
  refine V_get (pc := 9) o 0 0 hiX8_tell_X8 rfl rfl (by decide) lkX8_tell_10 rfl rfl dX8_tell_9 ?_
  refine V_iload_n (pc := 12) o dX8_tell_12 rfl ?_
  refine V_iload_n (pc := 13) o dX8_tell_13 rfl ?_
  refine V_iload_n (pc := 14) o dX8_tell_14 rfl ?_
  refine V_iload (pc := 15) o dX8_tell_15 rfl ?_
  refine V_iconst (pc := 17) o 0 dX8_tell_17 (by decide) ?_
  refine V_iconst (pc := 18) o 0 dX8_tell_18 (by decide) ?_
  refine V_wVi (pc := 19) o (cX0_write_met _ _ _ cI ht (fun k => ad (1 + k)) B0 (nI n) 9 a b c 0 0 hb9) 1 3 (wApp cI ad (bwr B0 (nI n) 9 a b c 0 0) ((nI n) + 1) P0 P1 P2 P3 P4 P5 L0 L1 L2 dy Q0 Q1 Q2 Q3 Q4 Q5 Q6 nm (P'0) (P'1) (P'2) (P'3) (P'4) (P'5) (L'0) (L'1) (L'2) dy2 (Q'0) (Q'1) (Q'2) (Q'3) (Q'4) (Q'5) (Q'6) nm2 O0 O1 on oc) gX8_tell_X0_write rfl hdX0_write ⟨by omega, by decide⟩ rfl rfl rfl (Nat.le_of_ble_eq_true rfl) dX8_tell_19 rfl rfl ?_
  refine V_wVp (pc := 22) o (cX2_ap9 _ _ _ cI ht (fun k => ad (4 + k)) (fun k => ad (1 + k)) P0 P1 P2 P3 P4 P5 L0 L1 L2 dy Q0 Q1 Q2 Q3 Q4 Q5 Q6 nm (bwr B0 (nI n) 9 a b c 0 0) (nI n + 1) ((nI n + 1) - 1) a b c 0 0 (bwr_ne hn9) (bwr_rd B0 hn9 (i := 0) (by decide) 9 a b c 0 0) (bwr_rd B0 hn9 (i := 1) (by decide) 9 a b c 0 0) (bwr_rd B0 hn9 (i := 2) (by decide) 9 a b c 0 0) (bwr_rd B0 hn9 (i := 3) (by decide) 9 a b c 0 0) (bwr_rd B0 hn9 (i := 4) (by decide) 9 a b c 0 0) (bwr_rd B0 hn9 (i := 5) (by decide) 9 a b c 0 0)) _ (wApp cI ad (bwr B0 (nI n) 9 a b c 0 0) ((nI n) + 1) P0 P1 P2 P3 P4 P5 L0 L1 L2 dy Q0 Q1 Q2 (rup 30 Q3 a 2) Q4 Q5 Q6 nm (P'0) (P'1) (P'2) (P'3) (P'4) (P'5) (L'0) (L'1) (L'2) dy2 (Q'0) (Q'1) (Q'2) (Q'3) (Q'4) (Q'5) (Q'6) nm2 O0 O1 on oc) gX8_tell_X2_apply rfl hdX2_apply ⟨by omega, by decide⟩ rfl rfl rfl (Nat.le_of_ble_eq_true rfl) dX8_tell_22 (pm_1 _ _ _ _) (pm_1 _ _ _ _) ?_
  exact fin 25 _ _ () dX8_tell_25 rfl rfl
set_option maxHeartbeats 4000000 in
set_option maxRecDepth 100000 in
/-- tell, kind 10 -/
theorem cX8_tell10 (l : Launch) (D : va_G) (tys : List (ClassId × FieldType)) (cI : ClassId) (ht : tys[0]? = some (cI, .int)) (ad : Nat → Nat) (B0 : Nat → Int32) (P0 P1 P2 P3 P4 P5 : Nat → Int32) (L0 L1 L2 : Nat → Int32) (dy : Int32) (Q0 Q1 Q2 Q3 Q4 Q5 Q6 : Nat → Int32) (nm : Int32) (P'0 P'1 P'2 P'3 P'4 P'5 : Nat → Int32) (L'0 L'1 L'2 : Nat → Int32) (dy2 : Int32) (Q'0 Q'1 Q'2 Q'3 Q'4 Q'5 Q'6 : Nat → Int32) (nm2 : Int32) (O0 O1 : Nat → Int32) (on : Int32) (oc : Int32) (a b c : Int32) (n : Nat) (hn9 : n < 512) : CId l yX8_tell wsX8_tell 7 D tys [.ref (ad 0), .int 10, .int a, .int b, .int c] (wApp cI ad B0 (nI n) P0 P1 P2 P3 P4 P5 L0 L1 L2 dy Q0 Q1 Q2 Q3 Q4 Q5 Q6 nm (P'0) (P'1) (P'2) (P'3) (P'4) (P'5) (L'0) (L'1) (L'2) dy2 (Q'0) (Q'1) (Q'2) (Q'3) (Q'4) (Q'5) (Q'6) nm2 O0 O1 on oc) (dy + a) (wApp cI ad (bwr B0 (nI n) 10 a b c 0 0) (nI n + 1) P0 P1 P2 P3 P4 P5 L0 L1 L2 (dy + a) Q0 Q1 Q2 Q3 Q4 Q5 Q6 nm (P'0) (P'1) (P'2) (P'3) (P'4) (P'5) (L'0) (L'1) (L'2) dy2 (Q'0) (Q'1) (Q'2) (Q'3) (Q'4) (Q'5) (Q'6) nm2 O0 O1 on oc) := by
  have hb9 : nI n < 512 := nI_lt (b := 512) (by omega) (by decide)
  refine CI_of (maxL := 5) (cc := cX8_tell) (y := yX8_tell) rfl rfl (Nat.le_of_ble_eq_true rfl) (fun X hl hD hk hn hcz hsz o fin => ?_)
  subst hl; subst hD; subst hk
  refine V_aload_n (pc := 0) o dX8_tell_0 rfl ?_
  refine V_get (pc := 1) o 0 1 hiX8_tell_X8 rfl rfl (by decide) lkX8_tell_19 rfl rfl dX8_tell_1 ?_
  refine V_aload_n (pc := 4) o dX8_tell_4 rfl ?_
  refine V_get (pc := 5) o 0 0 hiX8_tell_X8 rfl rfl (by decide) lkX8_tell_10 rfl rfl dX8_tell_5 ?_
  refine V_aload_n (pc := 8) o dX8_tell_8 rfl ?_
  refine V_get (pc := 9) o 0 0 hiX8_tell_X8 rfl rfl (by decide) lkX8_tell_10 rfl rfl dX8_tell_9 ?_
  refine V_iload_n (pc := 12) o dX8_tell_12 rfl ?_
  refine V_iload_n (pc := 13) o dX8_tell_13 rfl ?_
  refine V_iload_n (pc := 14) o dX8_tell_14 rfl ?_
  refine V_iload (pc := 15) o dX8_tell_15 rfl ?_
  refine V_iconst (pc := 17) o 0 dX8_tell_17 (by decide) ?_
  refine V_iconst (pc := 18) o 0 dX8_tell_18 (by decide) ?_
  refine V_wVi (pc := 19) o (cX0_write_met _ _ _ cI ht (fun k => ad (1 + k)) B0 (nI n) 10 a b c 0 0 hb9) 1 3 (wApp cI ad (bwr B0 (nI n) 10 a b c 0 0) ((nI n) + 1) P0 P1 P2 P3 P4 P5 L0 L1 L2 dy Q0 Q1 Q2 Q3 Q4 Q5 Q6 nm (P'0) (P'1) (P'2) (P'3) (P'4) (P'5) (L'0) (L'1) (L'2) dy2 (Q'0) (Q'1) (Q'2) (Q'3) (Q'4) (Q'5) (Q'6) nm2 O0 O1 on oc) gX8_tell_X0_write rfl hdX0_write ⟨by omega, by decide⟩ rfl rfl rfl (Nat.le_of_ble_eq_true rfl) dX8_tell_19 rfl rfl ?_
  refine V_wVp (pc := 22) o (cX2_ap10 _ _ _ cI ht (fun k => ad (4 + k)) (fun k => ad (1 + k)) P0 P1 P2 P3 P4 P5 L0 L1 L2 dy Q0 Q1 Q2 Q3 Q4 Q5 Q6 nm (bwr B0 (nI n) 10 a b c 0 0) (nI n + 1) ((nI n + 1) - 1) a b c 0 0 (bwr_ne hn9) (bwr_rd B0 hn9 (i := 0) (by decide) 10 a b c 0 0) (bwr_rd B0 hn9 (i := 1) (by decide) 10 a b c 0 0) (bwr_rd B0 hn9 (i := 2) (by decide) 10 a b c 0 0) (bwr_rd B0 hn9 (i := 3) (by decide) 10 a b c 0 0) (bwr_rd B0 hn9 (i := 4) (by decide) 10 a b c 0 0) (bwr_rd B0 hn9 (i := 5) (by decide) 10 a b c 0 0)) _ (wApp cI ad (bwr B0 (nI n) 10 a b c 0 0) ((nI n) + 1) P0 P1 P2 P3 P4 P5 L0 L1 L2 (dy + a) Q0 Q1 Q2 Q3 Q4 Q5 Q6 nm (P'0) (P'1) (P'2) (P'3) (P'4) (P'5) (L'0) (L'1) (L'2) dy2 (Q'0) (Q'1) (Q'2) (Q'3) (Q'4) (Q'5) (Q'6) nm2 O0 O1 on oc) gX8_tell_X2_apply rfl hdX2_apply ⟨by omega, by decide⟩ rfl rfl rfl (Nat.le_of_ble_eq_true rfl) dX8_tell_22 (pm_1 _ _ _ _) (pm_1 _ _ _ _) ?_
  exact fin 25 _ _ () dX8_tell_25 rfl rfl
