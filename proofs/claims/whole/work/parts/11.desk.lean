/-! Desk -/
def tkE (L0 L1 L2 : Nat → Int32) (dy p c : Int32) : Int32 := if prF L0 L1 L2 dy p c = p then 2147483647 else rat 8 L2 (prF L0 L1 L2 dy p c)
def pfF (L0 L1 L2 : Nat → Int32) (dy : Int32) (Q0 Q3 Q5 Q6 : Nat → Int32) (q p : Int32) : Int32 := if rat 30 Q3 q = 1 then (if p = rat 30 Q0 q then -1 else if dy < rat 240 Q6 (q * 8 + p) then -1 else prF L0 L1 L2 dy p (rat 30 Q5 q)) else -1
def covI (c n : Int32) : Int32 := if c ≤ 500 then (if 1 ≤ n then 1 else 0) else (if 2 ≤ n then 1 else 0)
theorem V_ldc {X : XT} {k z : Nat} {ws : va_W} {pc : Nat} {lc : List (Nat × Value)} {st : List Value} {cc : ByteArray} {own : String} {Ts : List Cond} {d : Nat} (o : OkX X cc own Ts d) {index : Nat} {v : Int32} (hc : Cond.constant own index v ∈ Ts) (dg : decode cc pc = .ok (.ldc index, 2)) (kk : V X k z ws (pc + 2) lc (.int v :: st)) : V X k z ws pc lc st := by
  obtain ⟨p, l, e, R, s, m, args, below, meth, c, D, tys, A, Q, n⟩ := X
  obtain ⟨hx, hb, -, hown, hts, -⟩ := o
  intro ls H locs hl hP hD hS
  exact lv_ldc hx hb hown (hts _ hc) dg (kk ls H locs hl hP hD hS)
theorem hdX2_clear : yX2_clear.cls = RX2 ∧ yX2_clear.cls ≠ "java/lang/invoke/MethodHandle" ∧ yX2_clear.cls ≠ "java/lang/invoke/VarHandle" ∧ (parseMethodDescriptor yX2_clear.desc).map (fun d => d.parameters.length) = some 0 := by decide +kernel
theorem hiX2_clear_X2 : ∀ w ∈ wsX20, w ∈ wsX2_clear := by decide +kernel
theorem lkX2_clear_12 : Cond.fieldLink RX2 12 RX2 "parts" "LApprovalyard$Parts;" ∈ wsX2_clear := by decide +kernel
theorem lkX2_clear_21 : Cond.fieldLink RX2 21 RX2 "people" "LApprovalyard$People;" ∈ wsX2_clear := by decide +kernel
theorem lkX2_clear_28 : Cond.fieldLink RX2 28 RX2 "requests" "LApprovalyard$Requests;" ∈ wsX2_clear := by decide +kernel
set_option maxHeartbeats 4000000 in
set_option maxRecDepth 100000 in
/-- X2.clear -/
theorem cX2_clear_met (l : Launch) (D : va_G) (tys : List (ClassId × FieldType)) (cI : ClassId) (ht : tys[0]? = some (cI, .int)) (ad : Nat → Nat) (P0 P1 P2 P3 P4 P5 : Nat → Int32) (L0 L1 L2 : Nat → Int32) (dy : Int32) (Q0 Q1 Q2 Q3 Q4 Q5 Q6 : Nat → Int32) (nm : Int32) : CVd l yX2_clear wsX2_clear 2 D tys [.ref (ad 0)] (wDesk cI ad P0 P1 P2 P3 P4 P5 L0 L1 L2 dy Q0 Q1 Q2 Q3 Q4 Q5 Q6 nm) (wDesk cI ad (rfi 8 P0 0) P1 P2 P3 P4 P5 (rfi 8 L0 100) L1 (rfi 8 L2 0) 0 Q0 Q1 Q2 Q3 Q4 Q5 Q6 0) := by
  refine CV_of (maxL := 1) (cc := cX2_clear) (y := yX2_clear) rfl rfl (Nat.le_of_ble_eq_true rfl) (fun X hl hD hk hn hcz hsz o fin => ?_)
  subst hl; subst hD; subst hk
  refine V_aload_n (pc := 0) o dX2_clear_0 rfl ?_
  refine V_get (pc := 1) o 0 0 hiX2_clear_X2 rfl rfl (by decide) lkX2_clear_12 rfl rfl dX2_clear_1 ?_
  refine V_wVv (pc := 4) o (cX3_clear_met _ _ _ cI ht (fun k => ad (1 + k)) P0 P1 P2 P3 P4 P5 ) 1 13 (wDesk cI ad (rfi 8 P0 0) P1 P2 P3 P4 P5 L0 L1 L2 dy Q0 Q1 Q2 Q3 Q4 Q5 Q6 nm) gX2_clear_X3_clear rfl hdX3_clear ⟨by omega, by decide⟩ rfl rfl rfl (Nat.le_of_ble_eq_true rfl) dX2_clear_4 rfl rfl ?_
  refine V_aload_n (pc := 7) o dX2_clear_7 rfl ?_
  refine V_get (pc := 8) o 0 1 hiX2_clear_X2 rfl rfl (by decide) lkX2_clear_21 rfl rfl dX2_clear_8 ?_
  refine V_wVv (pc := 11) o (cX4_clear_met _ _ _ cI ht (fun k => ad (14 + k)) L0 L1 L2 dy ) 14 7 (wDesk cI ad (rfi 8 P0 0) P1 P2 P3 P4 P5 (rfi 8 L0 100) L1 (rfi 8 L2 0) 0 Q0 Q1 Q2 Q3 Q4 Q5 Q6 nm) gX2_clear_X4_clear rfl hdX4_clear ⟨by omega, by decide⟩ rfl rfl rfl (Nat.le_of_ble_eq_true rfl) dX2_clear_11 rfl rfl ?_
  refine V_aload_n (pc := 14) o dX2_clear_14 rfl ?_
  refine V_get (pc := 15) o 0 2 hiX2_clear_X2 rfl rfl (by decide) lkX2_clear_28 rfl rfl dX2_clear_15 ?_
  refine V_wVv (pc := 18) o (cX5_clear_met _ _ _ cI ht (fun k => ad (21 + k)) Q0 Q1 Q2 Q3 Q4 Q5 Q6 nm ) 21 15 (wDesk cI ad (rfi 8 P0 0) P1 P2 P3 P4 P5 (rfi 8 L0 100) L1 (rfi 8 L2 0) 0 Q0 Q1 Q2 Q3 Q4 Q5 Q6 0) gX2_clear_X5_clear rfl hdX5_clear ⟨by omega, by decide⟩ rfl rfl rfl (Nat.le_of_ble_eq_true rfl) dX2_clear_18 rfl rfl ?_
  exact fin 21 _ () dX2_clear_21 trivial
theorem hdX2_approvalsOf : yX2_approvalsOf.cls = RX2 ∧ yX2_approvalsOf.cls ≠ "java/lang/invoke/MethodHandle" ∧ yX2_approvalsOf.cls ≠ "java/lang/invoke/VarHandle" ∧ (parseMethodDescriptor yX2_approvalsOf.desc).map (fun d => d.parameters.length) = some 1 := by decide +kernel
theorem hiX2_approvalsOf_X2 : ∀ w ∈ wsX20, w ∈ wsX2_approvalsOf := by decide +kernel
theorem lkX2_approvalsOf_28 : Cond.fieldLink RX2 28 RX2 "requests" "LApprovalyard$Requests;" ∈ wsX2_approvalsOf := by decide +kernel
theorem lkX2_approvalsOf_21 : Cond.fieldLink RX2 21 RX2 "people" "LApprovalyard$People;" ∈ wsX2_approvalsOf := by decide +kernel
set_option maxHeartbeats 4000000 in
set_option maxRecDepth 100000 in
/-- X2.approvalsOf -/
theorem cX2_approvalsOf_met (l : Launch) (D : va_G) (tys : List (ClassId × FieldType)) (cI : ClassId) (ht : tys[0]? = some (cI, .int)) (ad : Nat → Nat) (P0 P1 P2 P3 P4 P5 : Nat → Int32) (L0 L1 L2 : Nat → Int32) (dy : Int32) (Q0 Q1 Q2 Q3 Q4 Q5 Q6 : Nat → Int32) (nm : Int32) (q : Int32) : CId l yX2_approvalsOf wsX2_approvalsOf 3 D tys [.ref (ad 0), .int q] (wDesk cI ad P0 P1 P2 P3 P4 P5 L0 L1 L2 dy Q0 Q1 Q2 Q3 Q4 Q5 Q6 nm) (apN Q6 q dy 8) (wDesk cI ad P0 P1 P2 P3 P4 P5 L0 L1 L2 dy Q0 Q1 Q2 Q3 Q4 Q5 Q6 nm) := by
  refine CI_of (maxL := 2) (cc := cX2_approvalsOf) (y := yX2_approvalsOf) rfl rfl (Nat.le_of_ble_eq_true rfl) (fun X hl hD hk hn hcz hsz o fin => ?_)
  subst hl; subst hD; subst hk
  refine V_aload_n (pc := 0) o dX2_approvalsOf_0 rfl ?_
  refine V_get (pc := 1) o 0 2 hiX2_approvalsOf_X2 rfl rfl (by decide) lkX2_approvalsOf_28 rfl rfl dX2_approvalsOf_1 ?_
  refine V_iload_n (pc := 4) o dX2_approvalsOf_4 rfl ?_
  refine V_aload_n (pc := 5) o dX2_approvalsOf_5 rfl ?_
  refine V_get (pc := 6) o 0 1 hiX2_approvalsOf_X2 rfl rfl (by decide) lkX2_approvalsOf_21 rfl rfl dX2_approvalsOf_6 ?_
  refine V_rVi (pc := 9) o (cX4_today_met _ _ _ cI ht (fun k => ad (14 + k)) L0 L1 L2 dy ) 14 7 gX2_approvalsOf_X4_today rfl hdX4_today ⟨by omega, by decide⟩ rfl rfl rfl (Nat.le_of_ble_eq_true rfl) dX2_approvalsOf_9 rfl ?_
  refine V_rVi (pc := 12) o (cX5_approvalsOf_met _ _ _ cI ht (fun k => ad (21 + k)) Q0 Q1 Q2 Q3 Q4 Q5 Q6 nm q dy) 21 15 gX2_approvalsOf_X5_approvalsOf rfl hdX5_approvalsOf ⟨by omega, by decide⟩ rfl rfl rfl (Nat.le_of_ble_eq_true rfl) dX2_approvalsOf_12 rfl ?_
  exact fin 15 _ _ () dX2_approvalsOf_15 rfl rfl
theorem hdX2_isCovered : yX2_isCovered.cls = RX2 ∧ yX2_isCovered.cls ≠ "java/lang/invoke/MethodHandle" ∧ yX2_isCovered.cls ≠ "java/lang/invoke/VarHandle" ∧ (parseMethodDescriptor yX2_isCovered.desc).map (fun d => d.parameters.length) = some 1 := by decide +kernel
theorem hiX2_isCovered_X2 : ∀ w ∈ wsX20, w ∈ wsX2_isCovered := by decide +kernel
theorem lkX2_isCovered_28 : Cond.fieldLink RX2 28 RX2 "requests" "LApprovalyard$Requests;" ∈ wsX2_isCovered := by decide +kernel
set_option maxHeartbeats 4000000 in
set_option maxRecDepth 100000 in
/-- X2.isCovered -/
theorem cX2_isCovered_met (l : Launch) (D : va_G) (tys : List (ClassId × FieldType)) (cI : ClassId) (ht : tys[0]? = some (cI, .int)) (ad : Nat → Nat) (P0 P1 P2 P3 P4 P5 : Nat → Int32) (L0 L1 L2 : Nat → Int32) (dy : Int32) (Q0 Q1 Q2 Q3 Q4 Q5 Q6 : Nat → Int32) (nm : Int32) (q : Int32) : CId l yX2_isCovered wsX2_isCovered 4 D tys [.ref (ad 0), .int q] (wDesk cI ad P0 P1 P2 P3 P4 P5 L0 L1 L2 dy Q0 Q1 Q2 Q3 Q4 Q5 Q6 nm) (covI (rat 30 Q5 q) (apN Q6 q dy 8)) (wDesk cI ad P0 P1 P2 P3 P4 P5 L0 L1 L2 dy Q0 Q1 Q2 Q3 Q4 Q5 Q6 nm) := by
  refine CI_of (maxL := 3) (cc := cX2_isCovered) (y := yX2_isCovered) rfl rfl (Nat.le_of_ble_eq_true rfl) (fun X hl hD hk hn hcz hsz o fin => ?_)
  subst hl; subst hD; subst hk
  refine V_aload_n (pc := 0) o dX2_isCovered_0 rfl ?_
  refine V_get (pc := 1) o 0 2 hiX2_isCovered_X2 rfl rfl (by decide) lkX2_isCovered_28 rfl rfl dX2_isCovered_1 ?_
  refine V_iload_n (pc := 4) o dX2_isCovered_4 rfl ?_
  refine V_rVi (pc := 5) o (cX5_costOf_met _ _ _ cI ht (fun k => ad (21 + k)) Q0 Q1 Q2 Q3 Q4 Q5 Q6 nm q) 21 15 gX2_isCovered_X5_costOf rfl hdX5_costOf ⟨by omega, by decide⟩ rfl rfl rfl (Nat.le_of_ble_eq_true rfl) dX2_isCovered_5 rfl ?_
  refine V_sipush (pc := 8) o 500 dX2_isCovered_8 (by decide) ?_
  refine V_icmp_le (pc := 11) o 18 dX2_isCovered_11 (by decide) (fun c11 => ?_) (fun c11 => ?_)
  · refine V_iconst (pc := 18) o 1 dX2_isCovered_18 (by decide) ?_
    refine V_istore_n (pc := 19) o dX2_isCovered_19 (by rw [hn]; decide) ?_
    refine V_aload_n (pc := 20) o dX2_isCovered_20 rfl ?_
    refine V_iload_n (pc := 21) o dX2_isCovered_21 rfl ?_
    refine V_rVi (pc := 22) o (cX2_approvalsOf_met _ _ _ cI ht ad P0 P1 P2 P3 P4 P5 L0 L1 L2 dy Q0 Q1 Q2 Q3 Q4 Q5 Q6 nm q) 0 36 gX2_isCovered_X2_approvalsOf rfl hdX2_approvalsOf ⟨by omega, by decide⟩ rfl rfl rfl (Nat.le_of_ble_eq_true rfl) dX2_isCovered_22 rfl ?_
    refine V_iload_n (pc := 25) o dX2_isCovered_25 rfl ?_
    refine V_icmp_lt (pc := 26) o 33 dX2_isCovered_26 (by decide) (fun c26 => ?_) (fun c26 => ?_)
    · refine V_iconst (pc := 33) o 0 dX2_isCovered_33 (by decide) ?_
      exact fin 34 _ _ () dX2_isCovered_34 rfl (by unfold covI; first | (rw [if_pos (by assumption), if_pos (i_nlt (by assumption))]; done) | (rw [if_pos (by assumption), if_neg (Int32.not_le.mpr (by assumption))]; done) | (rw [if_neg (by assumption), if_pos (i_nlt (by assumption))]; done) | (rw [if_neg (by assumption), if_neg (Int32.not_le.mpr (by assumption))]; done))
    · refine V_iconst (pc := 29) o 1 dX2_isCovered_29 (by decide) ?_
      refine V_goto (pc := 30) o 34 dX2_isCovered_30 (by decide) ?_
      exact fin 34 _ _ () dX2_isCovered_34 rfl (by unfold covI; first | (rw [if_pos (by assumption), if_pos (i_nlt (by assumption))]; done) | (rw [if_pos (by assumption), if_neg (Int32.not_le.mpr (by assumption))]; done) | (rw [if_neg (by assumption), if_pos (i_nlt (by assumption))]; done) | (rw [if_neg (by assumption), if_neg (Int32.not_le.mpr (by assumption))]; done))
  · refine V_iconst (pc := 14) o 2 dX2_isCovered_14 (by decide) ?_
    refine V_goto (pc := 15) o 19 dX2_isCovered_15 (by decide) ?_
    refine V_istore_n (pc := 19) o dX2_isCovered_19 (by rw [hn]; decide) ?_
    refine V_aload_n (pc := 20) o dX2_isCovered_20 rfl ?_
    refine V_iload_n (pc := 21) o dX2_isCovered_21 rfl ?_
    refine V_rVi (pc := 22) o (cX2_approvalsOf_met _ _ _ cI ht ad P0 P1 P2 P3 P4 P5 L0 L1 L2 dy Q0 Q1 Q2 Q3 Q4 Q5 Q6 nm q) 0 36 gX2_isCovered_X2_approvalsOf rfl hdX2_approvalsOf ⟨by omega, by decide⟩ rfl rfl rfl (Nat.le_of_ble_eq_true rfl) dX2_isCovered_22 rfl ?_
    refine V_iload_n (pc := 25) o dX2_isCovered_25 rfl ?_
    refine V_icmp_lt (pc := 26) o 33 dX2_isCovered_26 (by decide) (fun c26 => ?_) (fun c26 => ?_)
    · refine V_iconst (pc := 33) o 0 dX2_isCovered_33 (by decide) ?_
      exact fin 34 _ _ () dX2_isCovered_34 rfl (by unfold covI; first | (rw [if_pos (by assumption), if_pos (i_nlt (by assumption))]; done) | (rw [if_pos (by assumption), if_neg (Int32.not_le.mpr (by assumption))]; done) | (rw [if_neg (by assumption), if_pos (i_nlt (by assumption))]; done) | (rw [if_neg (by assumption), if_neg (Int32.not_le.mpr (by assumption))]; done))
    · refine V_iconst (pc := 29) o 1 dX2_isCovered_29 (by decide) ?_
      refine V_goto (pc := 30) o 34 dX2_isCovered_30 (by decide) ?_
      exact fin 34 _ _ () dX2_isCovered_34 rfl (by unfold covI; first | (rw [if_pos (by assumption), if_pos (i_nlt (by assumption))]; done) | (rw [if_pos (by assumption), if_neg (Int32.not_le.mpr (by assumption))]; done) | (rw [if_neg (by assumption), if_pos (i_nlt (by assumption))]; done) | (rw [if_neg (by assumption), if_neg (Int32.not_le.mpr (by assumption))]; done))
theorem hdX2_principalFor : yX2_principalFor.cls = RX2 ∧ yX2_principalFor.cls ≠ "java/lang/invoke/MethodHandle" ∧ yX2_principalFor.cls ≠ "java/lang/invoke/VarHandle" ∧ (parseMethodDescriptor yX2_principalFor.desc).map (fun d => d.parameters.length) = some 2 := by decide +kernel
theorem hiX2_principalFor_X2 : ∀ w ∈ wsX20, w ∈ wsX2_principalFor := by decide +kernel
theorem lkX2_principalFor_28 : Cond.fieldLink RX2 28 RX2 "requests" "LApprovalyard$Requests;" ∈ wsX2_principalFor := by decide +kernel
theorem lkX2_principalFor_21 : Cond.fieldLink RX2 21 RX2 "people" "LApprovalyard$People;" ∈ wsX2_principalFor := by decide +kernel
set_option maxHeartbeats 4000000 in
set_option maxRecDepth 100000 in
/-- X2.principalFor -/
theorem cX2_principalFor_met (l : Launch) (D : va_G) (tys : List (ClassId × FieldType)) (cI : ClassId) (ht : tys[0]? = some (cI, .int)) (ad : Nat → Nat) (P0 P1 P2 P3 P4 P5 : Nat → Int32) (L0 L1 L2 : Nat → Int32) (dy : Int32) (Q0 Q1 Q2 Q3 Q4 Q5 Q6 : Nat → Int32) (nm : Int32) (q p : Int32) : CId l yX2_principalFor wsX2_principalFor 3 D tys [.ref (ad 0), .int q, .int p] (wDesk cI ad P0 P1 P2 P3 P4 P5 L0 L1 L2 dy Q0 Q1 Q2 Q3 Q4 Q5 Q6 nm) (pfF L0 L1 L2 dy Q0 Q3 Q5 Q6 q p) (wDesk cI ad P0 P1 P2 P3 P4 P5 L0 L1 L2 dy Q0 Q1 Q2 Q3 Q4 Q5 Q6 nm) := by
  refine CI_of (maxL := 4) (cc := cX2_principalFor) (y := yX2_principalFor) rfl rfl (Nat.le_of_ble_eq_true rfl) (fun X hl hD hk hn hcz hsz o fin => ?_)
  subst hl; subst hD; subst hk
  refine V_aload_n (pc := 0) o dX2_principalFor_0 rfl ?_
  refine V_get (pc := 1) o 0 2 hiX2_principalFor_X2 rfl rfl (by decide) lkX2_principalFor_28 rfl rfl dX2_principalFor_1 ?_
  refine V_iload_n (pc := 4) o dX2_principalFor_4 rfl ?_
  refine V_rVi (pc := 5) o (cX5_stateOf_met _ _ _ cI ht (fun k => ad (21 + k)) Q0 Q1 Q2 Q3 Q4 Q5 Q6 nm q) 21 15 gX2_principalFor_X5_stateOf rfl hdX5_stateOf ⟨by omega, by decide⟩ rfl rfl rfl (Nat.le_of_ble_eq_true rfl) dX2_principalFor_5 rfl ?_
  refine V_iconst (pc := 8) o 1 dX2_principalFor_8 (by decide) ?_
  refine V_icmp_ne (pc := 9) o 47 dX2_principalFor_9 (by decide) (fun c9 => ?_) (fun c9 => ?_)
  · refine V_iconst (pc := 47) o 0 dX2_principalFor_47 (by decide) ?_
    refine V_istore_n (pc := 48) o dX2_principalFor_48 (by rw [hn]; decide) ?_
    refine V_iload_n (pc := 49) o dX2_principalFor_49 rfl ?_
    refine V_if_eq (pc := 50) o 72 dX2_principalFor_50 (by decide) (fun _ => ?_) (fun c50 => absurd c50 (by decide))
    refine V_iconst (pc := 72) o (-1) dX2_principalFor_72 (by decide) ?_
    exact fin 73 _ _ () dX2_principalFor_73 rfl (by unfold pfF; first | (rw [if_pos (Decidable.not_not.mp (by assumption)), if_neg (by assumption), if_neg (by assumption)]; done) | (rw [if_pos (by assumption), if_neg (by assumption), if_neg (by assumption)]; done) | (rw [if_pos (by assumption), if_neg (by assumption), if_pos (by assumption)]; done) | (rw [if_pos (by assumption), if_pos (by assumption)]; done) | (rw [if_neg (by assumption)]; done))
  · refine V_iload_n (pc := 12) o dX2_principalFor_12 rfl ?_
    refine V_aload_n (pc := 13) o dX2_principalFor_13 rfl ?_
    refine V_get (pc := 14) o 0 2 hiX2_principalFor_X2 rfl rfl (by decide) lkX2_principalFor_28 rfl rfl dX2_principalFor_14 ?_
    refine V_iload_n (pc := 17) o dX2_principalFor_17 rfl ?_
    refine V_rVi (pc := 18) o (cX5_personOf_met _ _ _ cI ht (fun k => ad (21 + k)) Q0 Q1 Q2 Q3 Q4 Q5 Q6 nm q) 21 15 gX2_principalFor_X5_personOf rfl hdX5_personOf ⟨by omega, by decide⟩ rfl rfl rfl (Nat.le_of_ble_eq_true rfl) dX2_principalFor_18 rfl ?_
    refine V_icmp_eq (pc := 21) o 47 dX2_principalFor_21 (by decide) (fun c21 => ?_) (fun c21 => ?_)
    · refine V_iconst (pc := 47) o 0 dX2_principalFor_47 (by decide) ?_
      refine V_istore_n (pc := 48) o dX2_principalFor_48 (by rw [hn]; decide) ?_
      refine V_iload_n (pc := 49) o dX2_principalFor_49 rfl ?_
      refine V_if_eq (pc := 50) o 72 dX2_principalFor_50 (by decide) (fun _ => ?_) (fun c50 => absurd c50 (by decide))
      refine V_iconst (pc := 72) o (-1) dX2_principalFor_72 (by decide) ?_
      exact fin 73 _ _ () dX2_principalFor_73 rfl (by unfold pfF; first | (rw [if_pos (Decidable.not_not.mp (by assumption)), if_neg (by assumption), if_neg (by assumption)]; done) | (rw [if_pos (by assumption), if_neg (by assumption), if_neg (by assumption)]; done) | (rw [if_pos (by assumption), if_neg (by assumption), if_pos (by assumption)]; done) | (rw [if_pos (by assumption), if_pos (by assumption)]; done) | (rw [if_neg (by assumption)]; done))
    · refine V_aload_n (pc := 24) o dX2_principalFor_24 rfl ?_
      refine V_get (pc := 25) o 0 2 hiX2_principalFor_X2 rfl rfl (by decide) lkX2_principalFor_28 rfl rfl dX2_principalFor_25 ?_
      refine V_iload_n (pc := 28) o dX2_principalFor_28 rfl ?_
      refine V_iload_n (pc := 29) o dX2_principalFor_29 rfl ?_
      refine V_aload_n (pc := 30) o dX2_principalFor_30 rfl ?_
      refine V_get (pc := 31) o 0 1 hiX2_principalFor_X2 rfl rfl (by decide) lkX2_principalFor_21 rfl rfl dX2_principalFor_31 ?_
      refine V_rVi (pc := 34) o (cX4_today_met _ _ _ cI ht (fun k => ad (14 + k)) L0 L1 L2 dy ) 14 7 gX2_principalFor_X4_today rfl hdX4_today ⟨by omega, by decide⟩ rfl rfl rfl (Nat.le_of_ble_eq_true rfl) dX2_principalFor_34 rfl ?_
      refine V_rVi (pc := 37) o (cX5_hasApproval_met _ _ _ cI ht (fun k => ad (21 + k)) Q0 Q1 Q2 Q3 Q4 Q5 Q6 nm q p dy) 21 15 gX2_principalFor_X5_hasApproval rfl hdX5_hasApproval ⟨by omega, by decide⟩ rfl rfl rfl (Nat.le_of_ble_eq_true rfl) dX2_principalFor_37 rfl ?_
      refine V_ite (fun b37 => ?_) (fun b37 => ?_)
      · refine V_if_ne (pc := 40) o 47 dX2_principalFor_40 (by decide) (fun _ => ?_) (fun c40 => absurd c40 (by decide))
        refine V_iconst (pc := 47) o 0 dX2_principalFor_47 (by decide) ?_
        refine V_istore_n (pc := 48) o dX2_principalFor_48 (by rw [hn]; decide) ?_
        refine V_iload_n (pc := 49) o dX2_principalFor_49 rfl ?_
        refine V_if_eq (pc := 50) o 72 dX2_principalFor_50 (by decide) (fun _ => ?_) (fun c50 => absurd c50 (by decide))
        refine V_iconst (pc := 72) o (-1) dX2_principalFor_72 (by decide) ?_
        exact fin 73 _ _ () dX2_principalFor_73 rfl (by unfold pfF; first | (rw [if_pos (Decidable.not_not.mp (by assumption)), if_neg (by assumption), if_neg (by assumption)]; done) | (rw [if_pos (by assumption), if_neg (by assumption), if_neg (by assumption)]; done) | (rw [if_pos (by assumption), if_neg (by assumption), if_pos (by assumption)]; done) | (rw [if_pos (by assumption), if_pos (by assumption)]; done) | (rw [if_neg (by assumption)]; done))
      · refine V_if_ne (pc := 40) o 47 dX2_principalFor_40 (by decide) (fun c40 => absurd c40 (by decide)) (fun _ => ?_)
        refine V_iconst (pc := 43) o 1 dX2_principalFor_43 (by decide) ?_
        refine V_goto (pc := 44) o 48 dX2_principalFor_44 (by decide) ?_
        refine V_istore_n (pc := 48) o dX2_principalFor_48 (by rw [hn]; decide) ?_
        refine V_iload_n (pc := 49) o dX2_principalFor_49 rfl ?_
        refine V_if_eq (pc := 50) o 72 dX2_principalFor_50 (by decide) (fun c50 => absurd c50 (by decide)) (fun _ => ?_)
        refine V_aload_n (pc := 53) o dX2_principalFor_53 rfl ?_
        refine V_get (pc := 54) o 0 1 hiX2_principalFor_X2 rfl rfl (by decide) lkX2_principalFor_21 rfl rfl dX2_principalFor_54 ?_
        refine V_iload_n (pc := 57) o dX2_principalFor_57 rfl ?_
        refine V_aload_n (pc := 58) o dX2_principalFor_58 rfl ?_
        refine V_get (pc := 59) o 0 2 hiX2_principalFor_X2 rfl rfl (by decide) lkX2_principalFor_28 rfl rfl dX2_principalFor_59 ?_
        refine V_iload_n (pc := 62) o dX2_principalFor_62 rfl ?_
        refine V_rVi (pc := 63) o (cX5_costOf_met _ _ _ cI ht (fun k => ad (21 + k)) Q0 Q1 Q2 Q3 Q4 Q5 Q6 nm q) 21 15 gX2_principalFor_X5_costOf rfl hdX5_costOf ⟨by omega, by decide⟩ rfl rfl rfl (Nat.le_of_ble_eq_true rfl) dX2_principalFor_63 rfl ?_
        refine V_rVi (pc := 66) o (cX4_principalOf_met _ _ _ cI ht (fun k => ad (14 + k)) L0 L1 L2 dy p (rat 30 Q5 q)) 14 7 gX2_principalFor_X4_principalOf rfl hdX4_principalOf ⟨by omega, by decide⟩ rfl rfl rfl (Nat.le_of_ble_eq_true rfl) dX2_principalFor_66 rfl ?_
        refine V_goto (pc := 69) o 73 dX2_principalFor_69 (by decide) ?_
        exact fin 73 _ _ () dX2_principalFor_73 rfl (by unfold pfF; first | (rw [if_pos (Decidable.not_not.mp (by assumption)), if_neg (by assumption), if_neg (by assumption)]; done) | (rw [if_pos (by assumption), if_neg (by assumption), if_neg (by assumption)]; done) | (rw [if_pos (by assumption), if_neg (by assumption), if_pos (by assumption)]; done) | (rw [if_pos (by assumption), if_pos (by assumption)]; done) | (rw [if_neg (by assumption)]; done))
theorem ldcX2_take : Cond.constant RX2 107 2147483647 ∈ wsX2_takeApproval := by decide +kernel
theorem hdX2_takeApproval : yX2_takeApproval.cls = RX2 ∧ yX2_takeApproval.cls ≠ "java/lang/invoke/MethodHandle" ∧ yX2_takeApproval.cls ≠ "java/lang/invoke/VarHandle" ∧ (parseMethodDescriptor yX2_takeApproval.desc).map (fun d => d.parameters.length) = some 2 := by decide +kernel
theorem hiX2_takeApproval_X2 : ∀ w ∈ wsX20, w ∈ wsX2_takeApproval := by decide +kernel
theorem lkX2_takeApproval_21 : Cond.fieldLink RX2 21 RX2 "people" "LApprovalyard$People;" ∈ wsX2_takeApproval := by decide +kernel
theorem lkX2_takeApproval_28 : Cond.fieldLink RX2 28 RX2 "requests" "LApprovalyard$Requests;" ∈ wsX2_takeApproval := by decide +kernel
set_option maxHeartbeats 4000000 in
set_option maxRecDepth 100000 in
/-- X2.takeApproval -/
theorem cX2_takeApproval_met (l : Launch) (D : va_G) (tys : List (ClassId × FieldType)) (cI : ClassId) (ht : tys[0]? = some (cI, .int)) (ad : Nat → Nat) (P0 P1 P2 P3 P4 P5 : Nat → Int32) (L0 L1 L2 : Nat → Int32) (dy : Int32) (Q0 Q1 Q2 Q3 Q4 Q5 Q6 : Nat → Int32) (nm : Int32) (q p : Int32) : CId l yX2_takeApproval wsX2_takeApproval 3 D tys [.ref (ad 0), .int q, .int p] (wDesk cI ad P0 P1 P2 P3 P4 P5 L0 L1 L2 dy Q0 Q1 Q2 Q3 Q4 Q5 Q6 nm) (prF L0 L1 L2 dy p (rat 30 Q5 q)) (wDesk cI ad P0 P1 P2 P3 P4 P5 L0 L1 L2 dy Q0 Q1 Q2 Q3 Q4 Q5 (rup 240 Q6 (q * 8 + p) (tkE L0 L1 L2 dy p (rat 30 Q5 q))) nm) := by
  refine CI_of (maxL := 5) (cc := cX2_takeApproval) (y := yX2_takeApproval) rfl rfl (Nat.le_of_ble_eq_true rfl) (fun X hl hD hk hn hcz hsz o fin => ?_)
  subst hl; subst hD; subst hk
  refine V_aload_n (pc := 0) o dX2_takeApproval_0 rfl ?_
  refine V_get (pc := 1) o 0 1 hiX2_takeApproval_X2 rfl rfl (by decide) lkX2_takeApproval_21 rfl rfl dX2_takeApproval_1 ?_
  refine V_iload_n (pc := 4) o dX2_takeApproval_4 rfl ?_
  refine V_aload_n (pc := 5) o dX2_takeApproval_5 rfl ?_
  refine V_get (pc := 6) o 0 2 hiX2_takeApproval_X2 rfl rfl (by decide) lkX2_takeApproval_28 rfl rfl dX2_takeApproval_6 ?_
  refine V_iload_n (pc := 9) o dX2_takeApproval_9 rfl ?_
  refine V_rVi (pc := 10) o (cX5_costOf_met _ _ _ cI ht (fun k => ad (21 + k)) Q0 Q1 Q2 Q3 Q4 Q5 Q6 nm q) 21 15 gX2_takeApproval_X5_costOf rfl hdX5_costOf ⟨by omega, by decide⟩ rfl rfl rfl (Nat.le_of_ble_eq_true rfl) dX2_takeApproval_10 rfl ?_
  refine V_rVi (pc := 13) o (cX4_principalOf_met _ _ _ cI ht (fun k => ad (14 + k)) L0 L1 L2 dy p (rat 30 Q5 q)) 14 7 gX2_takeApproval_X4_principalOf rfl hdX4_principalOf ⟨by omega, by decide⟩ rfl rfl rfl (Nat.le_of_ble_eq_true rfl) dX2_takeApproval_13 rfl ?_
  refine V_istore_n (pc := 16) o dX2_takeApproval_16 (by rw [hn]; decide) ?_
  refine V_iload_n (pc := 17) o dX2_takeApproval_17 rfl ?_
  refine V_iload_n (pc := 18) o dX2_takeApproval_18 rfl ?_
  refine V_icmp_ne (pc := 19) o 27 dX2_takeApproval_19 (by decide) (fun c19 => ?_) (fun c19 => ?_)
  · refine V_aload_n (pc := 27) o dX2_takeApproval_27 rfl ?_
    refine V_get (pc := 28) o 0 1 hiX2_takeApproval_X2 rfl rfl (by decide) lkX2_takeApproval_21 rfl rfl dX2_takeApproval_28 ?_
    refine V_iload_n (pc := 31) o dX2_takeApproval_31 rfl ?_
    refine V_rVi (pc := 32) o (cX4_backOf_met _ _ _ cI ht (fun k => ad (14 + k)) L0 L1 L2 dy (prF L0 L1 L2 dy p (rat 30 Q5 q))) 14 7 gX2_takeApproval_X4_backOf rfl hdX4_backOf ⟨by omega, by decide⟩ rfl rfl rfl (Nat.le_of_ble_eq_true rfl) dX2_takeApproval_32 rfl ?_
    refine V_istore (pc := 35) o dX2_takeApproval_35 (by rw [hn]; decide) ?_
    refine V_aload_n (pc := 37) o dX2_takeApproval_37 rfl ?_
    refine V_get (pc := 38) o 0 2 hiX2_takeApproval_X2 rfl rfl (by decide) lkX2_takeApproval_28 rfl rfl dX2_takeApproval_38 ?_
    refine V_iload_n (pc := 41) o dX2_takeApproval_41 rfl ?_
    refine V_iload_n (pc := 42) o dX2_takeApproval_42 rfl ?_
    refine V_iload (pc := 43) o dX2_takeApproval_43 rfl ?_
    refine V_wVv (pc := 45) o (cX5_addApproval_met _ _ _ cI ht (fun k => ad (21 + k)) Q0 Q1 Q2 Q3 Q4 Q5 Q6 nm q p (rat 8 L2 (prF L0 L1 L2 dy p (rat 30 Q5 q)))) 21 15 (wDesk cI ad P0 P1 P2 P3 P4 P5 L0 L1 L2 dy Q0 Q1 Q2 Q3 Q4 Q5 (rup 240 Q6 (q * 8 + p) (rat 8 L2 (prF L0 L1 L2 dy p (rat 30 Q5 q)))) nm) gX2_takeApproval_X5_addApproval rfl hdX5_addApproval ⟨by omega, by decide⟩ rfl rfl rfl (Nat.le_of_ble_eq_true rfl) dX2_takeApproval_45 rfl rfl ?_
    refine V_iload_n (pc := 48) o dX2_takeApproval_48 rfl ?_
    exact V_eq (by unfold tkE; first | rw [if_pos (by first | assumption | exact Decidable.not_not.mp (by assumption))] | rw [if_neg (by assumption)]) rfl (fin 49 _ _ () dX2_takeApproval_49 rfl rfl)
  · refine V_ldc (pc := 22) o ldcX2_take dX2_takeApproval_22 ?_
    refine V_goto (pc := 24) o 35 dX2_takeApproval_24 (by decide) ?_
    refine V_istore (pc := 35) o dX2_takeApproval_35 (by rw [hn]; decide) ?_
    refine V_aload_n (pc := 37) o dX2_takeApproval_37 rfl ?_
    refine V_get (pc := 38) o 0 2 hiX2_takeApproval_X2 rfl rfl (by decide) lkX2_takeApproval_28 rfl rfl dX2_takeApproval_38 ?_
    refine V_iload_n (pc := 41) o dX2_takeApproval_41 rfl ?_
    refine V_iload_n (pc := 42) o dX2_takeApproval_42 rfl ?_
    refine V_iload (pc := 43) o dX2_takeApproval_43 rfl ?_
    refine V_wVv (pc := 45) o (cX5_addApproval_met _ _ _ cI ht (fun k => ad (21 + k)) Q0 Q1 Q2 Q3 Q4 Q5 Q6 nm q p 2147483647) 21 15 (wDesk cI ad P0 P1 P2 P3 P4 P5 L0 L1 L2 dy Q0 Q1 Q2 Q3 Q4 Q5 (rup 240 Q6 (q * 8 + p) 2147483647) nm) gX2_takeApproval_X5_addApproval rfl hdX5_addApproval ⟨by omega, by decide⟩ rfl rfl rfl (Nat.le_of_ble_eq_true rfl) dX2_takeApproval_45 rfl rfl ?_
    refine V_iload_n (pc := 48) o dX2_takeApproval_48 rfl ?_
    exact V_eq (by unfold tkE; first | rw [if_pos (by first | assumption | exact Decidable.not_not.mp (by assumption))] | rw [if_neg (by assumption)]) rfl (fin 49 _ _ () dX2_takeApproval_49 rfl rfl)
def wDB (cI : ClassId) (ad ad2 : Nat → Nat) (P0 P1 P2 P3 P4 P5 : Nat → Int32) (L0 L1 L2 : Nat → Int32) (dy : Int32) (Q0 Q1 Q2 Q3 Q4 Q5 Q6 : Nat → Int32) (nm : Int32) (B0 : Nat → Int32) (bn : Int32) : va_W := wDesk cI ad P0 P1 P2 P3 P4 P5 L0 L1 L2 dy Q0 Q1 Q2 Q3 Q4 Q5 Q6 nm ++ wBook cI ad2 B0 bn
def bw (B0 : Nat → Int32) (e i : Int32) : Int32 := rat 3072 B0 (e * 6 + i)
theorem hdX2_apply : yX2_apply.cls = RX2 ∧ yX2_apply.cls ≠ "java/lang/invoke/MethodHandle" ∧ yX2_apply.cls ≠ "java/lang/invoke/VarHandle" ∧ (parseMethodDescriptor yX2_apply.desc).map (fun d => d.parameters.length) = some 2 := by decide +kernel
theorem hiX2_apply_X2 : ∀ w ∈ wsX20, w ∈ wsX2_apply := by decide +kernel
theorem lkX2_apply_12 : Cond.fieldLink RX2 12 RX2 "parts" "LApprovalyard$Parts;" ∈ wsX2_apply := by decide +kernel
set_option maxHeartbeats 4000000 in
set_option maxRecDepth 100000 in
/-- Desk.apply, VERSION -/
theorem cX2_apply_met1 (l : Launch) (D : va_G) (tys : List (ClassId × FieldType)) (cI : ClassId) (ht : tys[0]? = some (cI, .int)) (ad ad2 : Nat → Nat) (P0 P1 P2 P3 P4 P5 L0 L1 L2 : Nat → Int32) (dy : Int32) (Q0 Q1 Q2 Q3 Q4 Q5 Q6 : Nat → Int32) (nm : Int32) (B0 : Nat → Int32) (bn e : Int32) (he : ¬ e = -1) (hk9 : rat 3072 B0 ((e * 6) + 0) = 1) : CId l yX2_apply wsX2_apply 5 D tys [.ref (ad 0), .ref (ad2 0), .int e] (wDB cI ad ad2 P0 P1 P2 P3 P4 P5 L0 L1 L2 dy Q0 Q1 Q2 Q3 Q4 Q5 Q6 nm B0 bn) (rat 8 P0 (rat 3072 B0 ((e * 6) + 1)) + 1) (wDB cI ad ad2 (rup 8 P0 (rat 3072 B0 ((e * 6) + 1)) (rat 8 P0 (rat 3072 B0 ((e * 6) + 1)) + 1)) (rup 24 P1 (plc (rat 3072 B0 ((e * 6) + 1)) (rat 8 P0 (rat 3072 B0 ((e * 6) + 1)) + 1)) (rat 3072 B0 ((e * 6) + 2))) (rup 24 P2 (plc (rat 3072 B0 ((e * 6) + 1)) (rat 8 P0 (rat 3072 B0 ((e * 6) + 1)) + 1)) 0) (rup 24 P3 (plc (rat 3072 B0 ((e * 6) + 1)) (rat 8 P0 (rat 3072 B0 ((e * 6) + 1)) + 1)) 0) P4 P5 L0 L1 L2 dy Q0 Q1 Q2 Q3 Q4 Q5 Q6 nm B0 bn) := by
  refine CI_of (maxL := 6) (cc := cX2_apply) (y := yX2_apply) rfl rfl (Nat.le_of_ble_eq_true rfl) (fun X hl hD hk hn hcz hsz o fin => ?_)
  subst hl; subst hD; subst hk
  refine V_iload_n (pc := 0) o dX2_apply_0 rfl ?_
  refine V_iconst (pc := 1) o (-1) dX2_apply_1 (by decide) ?_
  refine V_icmp_ne (pc := 2) o 7 dX2_apply_2 (by decide) (fun c2 => ?_) (fun c2 => ?_)
  · refine V_aload_n (pc := 7) o dX2_apply_7 rfl ?_
    refine V_iload_n (pc := 8) o dX2_apply_8 rfl ?_
    refine V_iconst (pc := 9) o 1 dX2_apply_9 (by decide) ?_
    refine V_rVi (pc := 10) o (cX0_wordOf_met _ _ _ cI ht ad2 B0 bn e 1) 36 3 gX2_apply_X0_wordOf rfl hdX0_wordOf ⟨by omega, by decide⟩ rfl rfl rfl (Nat.le_of_ble_eq_true rfl) dX2_apply_10 rfl ?_
    refine V_istore_n (pc := 13) o dX2_apply_13 (by rw [hn]; decide) ?_
    refine V_aload_n (pc := 14) o dX2_apply_14 rfl ?_
    refine V_iload_n (pc := 15) o dX2_apply_15 rfl ?_
    refine V_iconst (pc := 16) o 2 dX2_apply_16 (by decide) ?_
    refine V_rVi (pc := 17) o (cX0_wordOf_met _ _ _ cI ht ad2 B0 bn e 2) 36 3 gX2_apply_X0_wordOf rfl hdX0_wordOf ⟨by omega, by decide⟩ rfl rfl rfl (Nat.le_of_ble_eq_true rfl) dX2_apply_17 rfl ?_
    refine V_istore (pc := 20) o dX2_apply_20 (by rw [hn]; decide) ?_
    refine V_aload_n (pc := 22) o dX2_apply_22 rfl ?_
    refine V_iload_n (pc := 23) o dX2_apply_23 rfl ?_
    refine V_iconst (pc := 24) o 3 dX2_apply_24 (by decide) ?_
    refine V_rVi (pc := 25) o (cX0_wordOf_met _ _ _ cI ht ad2 B0 bn e 3) 36 3 gX2_apply_X0_wordOf rfl hdX0_wordOf ⟨by omega, by decide⟩ rfl rfl rfl (Nat.le_of_ble_eq_true rfl) dX2_apply_25 rfl ?_
    refine V_istore (pc := 28) o dX2_apply_28 (by rw [hn]; decide) ?_
    refine V_aload_n (pc := 30) o dX2_apply_30 rfl ?_
    refine V_iload_n (pc := 31) o dX2_apply_31 rfl ?_
    refine V_iconst (pc := 32) o 0 dX2_apply_32 (by decide) ?_
    refine V_rVi (pc := 33) o (cX0_wordOf_met _ _ _ cI ht ad2 B0 bn e 0) 36 3 gX2_apply_X0_wordOf rfl hdX0_wordOf ⟨by omega, by decide⟩ rfl rfl rfl (Nat.le_of_ble_eq_true rfl) dX2_apply_33 rfl ?_
    refine V_eq (st2 := [.int 1]) rfl (congrArg (fun v => [Value.int v]) hk9) ?_
    refine V_tableIn (pc := 36) o 92 dX2_apply_36 (by decide) (by decide) (by first | rfl | decide) (by decide) ?_
    refine V_aload_n (pc := 92) o dX2_apply_92 rfl ?_
    refine V_get (pc := 93) o 0 0 hiX2_apply_X2 rfl rfl (by decide) lkX2_apply_12 rfl rfl dX2_apply_93 ?_
    refine V_iload_n (pc := 96) o dX2_apply_96 rfl ?_
    refine V_iload (pc := 97) o dX2_apply_97 rfl ?_
    refine V_wVi (pc := 99) o (cX3_addVersion_met _ _ _ cI ht (fun k => ad (1 + k)) P0 P1 P2 P3 P4 P5 (rat 3072 B0 (e * 6 + 1)) (rat 3072 B0 (e * 6 + 2))) 1 13 (wDB cI ad ad2 (rup 8 P0 (rat 3072 B0 (e * 6 + 1)) (rat 8 P0 (rat 3072 B0 (e * 6 + 1)) + 1)) (rup 24 P1 (plc (rat 3072 B0 (e * 6 + 1)) (rat 8 P0 (rat 3072 B0 (e * 6 + 1)) + 1)) (rat 3072 B0 (e * 6 + 2))) (rup 24 P2 (plc (rat 3072 B0 (e * 6 + 1)) (rat 8 P0 (rat 3072 B0 (e * 6 + 1)) + 1)) 0) (rup 24 P3 (plc (rat 3072 B0 (e * 6 + 1)) (rat 8 P0 (rat 3072 B0 (e * 6 + 1)) + 1)) 0) P4 P5 L0 L1 L2 dy Q0 Q1 Q2 Q3 Q4 Q5 Q6 nm B0 bn) gX2_apply_X3_addVersion rfl hdX3_addVersion ⟨by omega, by decide⟩ rfl rfl rfl (Nat.le_of_ble_eq_true rfl) dX2_apply_99 rfl rfl ?_
    exact fin 102 _ _ () dX2_apply_102 rfl rfl
  · exact absurd c2 he
set_option maxHeartbeats 4000000 in
set_option maxRecDepth 100000 in
/-- Desk.apply, NEED -/
theorem cX2_apply_met2 (l : Launch) (D : va_G) (tys : List (ClassId × FieldType)) (cI : ClassId) (ht : tys[0]? = some (cI, .int)) (ad ad2 : Nat → Nat) (P0 P1 P2 P3 P4 P5 L0 L1 L2 : Nat → Int32) (dy : Int32) (Q0 Q1 Q2 Q3 Q4 Q5 Q6 : Nat → Int32) (nm : Int32) (B0 : Nat → Int32) (bn e : Int32) (he : ¬ e = -1) (hk9 : rat 3072 B0 ((e * 6) + 0) = 2) : CId l yX2_apply wsX2_apply 5 D tys [.ref (ad 0), .ref (ad2 0), .int e] (wDB cI ad ad2 P0 P1 P2 P3 P4 P5 L0 L1 L2 dy Q0 Q1 Q2 Q3 Q4 Q5 Q6 nm B0 bn) ((rat 24 P3 (plc (rat 3072 B0 ((e * 6) + 1)) (rat 3072 B0 ((e * 6) + 2)))) + 1) (wDB cI ad ad2 P0 P1 P2 (rup 24 P3 (plc (rat 3072 B0 ((e * 6) + 1)) (rat 3072 B0 ((e * 6) + 2))) ((rat 24 P3 (plc (rat 3072 B0 ((e * 6) + 1)) (rat 3072 B0 ((e * 6) + 2)))) + 1)) (rup 96 P4 (plc (rat 3072 B0 ((e * 6) + 1)) (rat 3072 B0 ((e * 6) + 2)) * 4 + (rat 24 P3 (plc (rat 3072 B0 ((e * 6) + 1)) (rat 3072 B0 ((e * 6) + 2))))) (rat 3072 B0 ((e * 6) + 3))) (rup 96 P5 (plc (rat 3072 B0 ((e * 6) + 1)) (rat 3072 B0 ((e * 6) + 2)) * 4 + (rat 24 P3 (plc (rat 3072 B0 ((e * 6) + 1)) (rat 3072 B0 ((e * 6) + 2))))) (vset (rat 3072 B0 ((e * 6) + 4)) (rat 3072 B0 ((e * 6) + 5)))) L0 L1 L2 dy Q0 Q1 Q2 Q3 Q4 Q5 Q6 nm B0 bn) := by
  refine CI_of (maxL := 6) (cc := cX2_apply) (y := yX2_apply) rfl rfl (Nat.le_of_ble_eq_true rfl) (fun X hl hD hk hn hcz hsz o fin => ?_)
  subst hl; subst hD; subst hk
  refine V_iload_n (pc := 0) o dX2_apply_0 rfl ?_
  refine V_iconst (pc := 1) o (-1) dX2_apply_1 (by decide) ?_
  refine V_icmp_ne (pc := 2) o 7 dX2_apply_2 (by decide) (fun c2 => ?_) (fun c2 => ?_)
  · refine V_aload_n (pc := 7) o dX2_apply_7 rfl ?_
    refine V_iload_n (pc := 8) o dX2_apply_8 rfl ?_
    refine V_iconst (pc := 9) o 1 dX2_apply_9 (by decide) ?_
    refine V_rVi (pc := 10) o (cX0_wordOf_met _ _ _ cI ht ad2 B0 bn e 1) 36 3 gX2_apply_X0_wordOf rfl hdX0_wordOf ⟨by omega, by decide⟩ rfl rfl rfl (Nat.le_of_ble_eq_true rfl) dX2_apply_10 rfl ?_
    refine V_istore_n (pc := 13) o dX2_apply_13 (by rw [hn]; decide) ?_
    refine V_aload_n (pc := 14) o dX2_apply_14 rfl ?_
    refine V_iload_n (pc := 15) o dX2_apply_15 rfl ?_
    refine V_iconst (pc := 16) o 2 dX2_apply_16 (by decide) ?_
    refine V_rVi (pc := 17) o (cX0_wordOf_met _ _ _ cI ht ad2 B0 bn e 2) 36 3 gX2_apply_X0_wordOf rfl hdX0_wordOf ⟨by omega, by decide⟩ rfl rfl rfl (Nat.le_of_ble_eq_true rfl) dX2_apply_17 rfl ?_
    refine V_istore (pc := 20) o dX2_apply_20 (by rw [hn]; decide) ?_
    refine V_aload_n (pc := 22) o dX2_apply_22 rfl ?_
    refine V_iload_n (pc := 23) o dX2_apply_23 rfl ?_
    refine V_iconst (pc := 24) o 3 dX2_apply_24 (by decide) ?_
    refine V_rVi (pc := 25) o (cX0_wordOf_met _ _ _ cI ht ad2 B0 bn e 3) 36 3 gX2_apply_X0_wordOf rfl hdX0_wordOf ⟨by omega, by decide⟩ rfl rfl rfl (Nat.le_of_ble_eq_true rfl) dX2_apply_25 rfl ?_
    refine V_istore (pc := 28) o dX2_apply_28 (by rw [hn]; decide) ?_
    refine V_aload_n (pc := 30) o dX2_apply_30 rfl ?_
    refine V_iload_n (pc := 31) o dX2_apply_31 rfl ?_
    refine V_iconst (pc := 32) o 0 dX2_apply_32 (by decide) ?_
    refine V_rVi (pc := 33) o (cX0_wordOf_met _ _ _ cI ht ad2 B0 bn e 0) 36 3 gX2_apply_X0_wordOf rfl hdX0_wordOf ⟨by omega, by decide⟩ rfl rfl rfl (Nat.le_of_ble_eq_true rfl) dX2_apply_33 rfl ?_
    refine V_eq (st2 := [.int 2]) rfl (congrArg (fun v => [Value.int v]) hk9) ?_
    refine V_tableIn (pc := 36) o 103 dX2_apply_36 (by decide) (by decide) (by first | rfl | decide) (by decide) ?_
    refine V_aload_n (pc := 103) o dX2_apply_103 rfl ?_
    refine V_get (pc := 104) o 0 0 hiX2_apply_X2 rfl rfl (by decide) lkX2_apply_12 rfl rfl dX2_apply_104 ?_
    refine V_iload_n (pc := 107) o dX2_apply_107 rfl ?_
    refine V_iload (pc := 108) o dX2_apply_108 rfl ?_
    refine V_iload (pc := 110) o dX2_apply_110 rfl ?_
    refine V_aload_n (pc := 112) o dX2_apply_112 rfl ?_
    refine V_iload_n (pc := 113) o dX2_apply_113 rfl ?_
    refine V_iconst (pc := 114) o 4 dX2_apply_114 (by decide) ?_
    refine V_rVi (pc := 115) o (cX0_wordOf_met _ _ _ cI ht ad2 B0 bn e 4) 36 3 gX2_apply_X0_wordOf rfl hdX0_wordOf ⟨by omega, by decide⟩ rfl rfl rfl (Nat.le_of_ble_eq_true rfl) dX2_apply_115 rfl ?_
    refine V_aload_n (pc := 118) o dX2_apply_118 rfl ?_
    refine V_iload_n (pc := 119) o dX2_apply_119 rfl ?_
    refine V_iconst (pc := 120) o 5 dX2_apply_120 (by decide) ?_
    refine V_rVi (pc := 121) o (cX0_wordOf_met _ _ _ cI ht ad2 B0 bn e 5) 36 3 gX2_apply_X0_wordOf rfl hdX0_wordOf ⟨by omega, by decide⟩ rfl rfl rfl (Nat.le_of_ble_eq_true rfl) dX2_apply_121 rfl ?_
    refine V_wVi (pc := 124) o (cX3_addNeed_met _ _ _ cI ht (fun k => ad (1 + k)) P0 P1 P2 P3 P4 P5 (rat 3072 B0 (e * 6 + 1)) (rat 3072 B0 (e * 6 + 2)) (rat 3072 B0 (e * 6 + 3)) (rat 3072 B0 (e * 6 + 4)) (rat 3072 B0 (e * 6 + 5))) 1 13 (wDB cI ad ad2 P0 P1 P2 (rup 24 P3 (plc (rat 3072 B0 (e * 6 + 1)) (rat 3072 B0 (e * 6 + 2))) ((rat 24 P3 (plc (rat 3072 B0 (e * 6 + 1)) (rat 3072 B0 (e * 6 + 2)))) + 1)) (rup 96 P4 (plc (rat 3072 B0 (e * 6 + 1)) (rat 3072 B0 (e * 6 + 2)) * 4 + (rat 24 P3 (plc (rat 3072 B0 (e * 6 + 1)) (rat 3072 B0 (e * 6 + 2))))) (rat 3072 B0 (e * 6 + 3))) (rup 96 P5 (plc (rat 3072 B0 (e * 6 + 1)) (rat 3072 B0 (e * 6 + 2)) * 4 + (rat 24 P3 (plc (rat 3072 B0 (e * 6 + 1)) (rat 3072 B0 (e * 6 + 2))))) (vset (rat 3072 B0 (e * 6 + 4)) (rat 3072 B0 (e * 6 + 5)))) L0 L1 L2 dy Q0 Q1 Q2 Q3 Q4 Q5 Q6 nm B0 bn) gX2_apply_X3_addNeed rfl hdX3_addNeed ⟨by omega, by decide⟩ rfl rfl rfl (Nat.le_of_ble_eq_true rfl) dX2_apply_124 rfl rfl ?_
    exact fin 127 _ _ () dX2_apply_127 rfl rfl
  · exact absurd c2 he
theorem lkX2_apply_28 : Cond.fieldLink RX2 28 RX2 "requests" "LApprovalyard$Requests;" ∈ wsX2_apply := by decide +kernel
theorem lkX2_apply_21 : Cond.fieldLink RX2 21 RX2 "people" "LApprovalyard$People;" ∈ wsX2_apply := by decide +kernel
set_option maxHeartbeats 4000000 in
set_option maxRecDepth 100000 in
/-- Desk.apply, REPLACE -/
theorem cX2_apply_met3 (l : Launch) (D : va_G) (tys : List (ClassId × FieldType)) (cI : ClassId) (ht : tys[0]? = some (cI, .int)) (ad ad2 : Nat → Nat) (P0 P1 P2 P3 P4 P5 L0 L1 L2 : Nat → Int32) (dy : Int32) (Q0 Q1 Q2 Q3 Q4 Q5 Q6 : Nat → Int32) (nm : Int32) (B0 : Nat → Int32) (bn e : Int32) (he : ¬ e = -1) (hk9 : rat 3072 B0 ((e * 6) + 0) = 3) : CId l yX2_apply wsX2_apply 5 D tys [.ref (ad 0), .ref (ad2 0), .int e] (wDB cI ad ad2 P0 P1 P2 P3 P4 P5 L0 L1 L2 dy Q0 Q1 Q2 Q3 Q4 Q5 Q6 nm B0 bn) (lvE (Q3, Q4, Q5, Q6) (rat 3072 B0 ((e * 6) + 1)) (rat 3072 B0 ((e * 6) + 2)) dy nm.toNatClampNeg) (wDB cI ad ad2 P0 P1 (rup 24 P2 (plc (rat 3072 B0 ((e * 6) + 1)) (rat 3072 B0 ((e * 6) + 2))) 1) P3 P4 P5 L0 L1 L2 dy Q0 Q1 Q2 ((lvT (Q3, Q4, Q5, Q6) (rat 3072 B0 ((e * 6) + 1)) (rat 3072 B0 ((e * 6) + 2)) nm.toNatClampNeg).1) ((lvT (Q3, Q4, Q5, Q6) (rat 3072 B0 ((e * 6) + 1)) (rat 3072 B0 ((e * 6) + 2)) nm.toNatClampNeg).2.1) ((lvT (Q3, Q4, Q5, Q6) (rat 3072 B0 ((e * 6) + 1)) (rat 3072 B0 ((e * 6) + 2)) nm.toNatClampNeg).2.2.1) ((lvT (Q3, Q4, Q5, Q6) (rat 3072 B0 ((e * 6) + 1)) (rat 3072 B0 ((e * 6) + 2)) nm.toNatClampNeg).2.2.2) nm B0 bn) := by
  refine CI_of (maxL := 6) (cc := cX2_apply) (y := yX2_apply) rfl rfl (Nat.le_of_ble_eq_true rfl) (fun X hl hD hk hn hcz hsz o fin => ?_)
  subst hl; subst hD; subst hk
  refine V_iload_n (pc := 0) o dX2_apply_0 rfl ?_
  refine V_iconst (pc := 1) o (-1) dX2_apply_1 (by decide) ?_
  refine V_icmp_ne (pc := 2) o 7 dX2_apply_2 (by decide) (fun c2 => ?_) (fun c2 => ?_)
  · refine V_aload_n (pc := 7) o dX2_apply_7 rfl ?_
    refine V_iload_n (pc := 8) o dX2_apply_8 rfl ?_
    refine V_iconst (pc := 9) o 1 dX2_apply_9 (by decide) ?_
    refine V_rVi (pc := 10) o (cX0_wordOf_met _ _ _ cI ht ad2 B0 bn e 1) 36 3 gX2_apply_X0_wordOf rfl hdX0_wordOf ⟨by omega, by decide⟩ rfl rfl rfl (Nat.le_of_ble_eq_true rfl) dX2_apply_10 rfl ?_
    refine V_istore_n (pc := 13) o dX2_apply_13 (by rw [hn]; decide) ?_
    refine V_aload_n (pc := 14) o dX2_apply_14 rfl ?_
    refine V_iload_n (pc := 15) o dX2_apply_15 rfl ?_
    refine V_iconst (pc := 16) o 2 dX2_apply_16 (by decide) ?_
    refine V_rVi (pc := 17) o (cX0_wordOf_met _ _ _ cI ht ad2 B0 bn e 2) 36 3 gX2_apply_X0_wordOf rfl hdX0_wordOf ⟨by omega, by decide⟩ rfl rfl rfl (Nat.le_of_ble_eq_true rfl) dX2_apply_17 rfl ?_
    refine V_istore (pc := 20) o dX2_apply_20 (by rw [hn]; decide) ?_
    refine V_aload_n (pc := 22) o dX2_apply_22 rfl ?_
    refine V_iload_n (pc := 23) o dX2_apply_23 rfl ?_
    refine V_iconst (pc := 24) o 3 dX2_apply_24 (by decide) ?_
    refine V_rVi (pc := 25) o (cX0_wordOf_met _ _ _ cI ht ad2 B0 bn e 3) 36 3 gX2_apply_X0_wordOf rfl hdX0_wordOf ⟨by omega, by decide⟩ rfl rfl rfl (Nat.le_of_ble_eq_true rfl) dX2_apply_25 rfl ?_
    refine V_istore (pc := 28) o dX2_apply_28 (by rw [hn]; decide) ?_
    refine V_aload_n (pc := 30) o dX2_apply_30 rfl ?_
    refine V_iload_n (pc := 31) o dX2_apply_31 rfl ?_
    refine V_iconst (pc := 32) o 0 dX2_apply_32 (by decide) ?_
    refine V_rVi (pc := 33) o (cX0_wordOf_met _ _ _ cI ht ad2 B0 bn e 0) 36 3 gX2_apply_X0_wordOf rfl hdX0_wordOf ⟨by omega, by decide⟩ rfl rfl rfl (Nat.le_of_ble_eq_true rfl) dX2_apply_33 rfl ?_
    refine V_eq (st2 := [.int 3]) rfl (congrArg (fun v => [Value.int v]) hk9) ?_
    refine V_tableIn (pc := 36) o 128 dX2_apply_36 (by decide) (by decide) (by first | rfl | decide) (by decide) ?_
    refine V_aload_n (pc := 128) o dX2_apply_128 rfl ?_
    refine V_get (pc := 129) o 0 0 hiX2_apply_X2 rfl rfl (by decide) lkX2_apply_12 rfl rfl dX2_apply_129 ?_
    refine V_iload_n (pc := 132) o dX2_apply_132 rfl ?_
    refine V_iload (pc := 133) o dX2_apply_133 rfl ?_
    refine V_wVv (pc := 135) o (cX3_markReplaced_met _ _ _ cI ht (fun k => ad (1 + k)) P0 P1 P2 P3 P4 P5 (rat 3072 B0 (e * 6 + 1)) (rat 3072 B0 (e * 6 + 2))) 1 13 (wDB cI ad ad2 P0 P1 (rup 24 P2 (plc (rat 3072 B0 (e * 6 + 1)) (rat 3072 B0 (e * 6 + 2))) 1) P3 P4 P5 L0 L1 L2 dy Q0 Q1 Q2 Q3 Q4 Q5 Q6 nm B0 bn) gX2_apply_X3_markReplaced rfl hdX3_markReplaced ⟨by omega, by decide⟩ rfl rfl rfl (Nat.le_of_ble_eq_true rfl) dX2_apply_135 rfl rfl ?_
    refine V_aload_n (pc := 138) o dX2_apply_138 rfl ?_
    refine V_get (pc := 139) o 0 2 hiX2_apply_X2 rfl rfl (by decide) lkX2_apply_28 rfl rfl dX2_apply_139 ?_
    refine V_iload_n (pc := 142) o dX2_apply_142 rfl ?_
    refine V_iload (pc := 143) o dX2_apply_143 rfl ?_
    refine V_aload_n (pc := 145) o dX2_apply_145 rfl ?_
    refine V_get (pc := 146) o 0 1 hiX2_apply_X2 rfl rfl (by decide) lkX2_apply_21 rfl rfl dX2_apply_146 ?_
    refine V_rVi (pc := 149) o (cX4_today_met _ _ _ cI ht (fun k => ad (14 + k)) L0 L1 L2 dy ) 14 7 gX2_apply_X4_today rfl hdX4_today ⟨by omega, by decide⟩ rfl rfl rfl (Nat.le_of_ble_eq_true rfl) dX2_apply_149 rfl ?_
    refine V_wVi (pc := 152) o (cX5_loseVersion_met _ _ _ cI ht (fun k => ad (21 + k)) Q0 Q1 Q2 Q3 Q4 Q5 Q6 nm (rat 3072 B0 (e * 6 + 1)) (rat 3072 B0 (e * 6 + 2)) dy) 21 15 (wDB cI ad ad2 P0 P1 (rup 24 P2 (plc (rat 3072 B0 (e * 6 + 1)) (rat 3072 B0 (e * 6 + 2))) 1) P3 P4 P5 L0 L1 L2 dy Q0 Q1 Q2 ((lvT (Q3, Q4, Q5, Q6) (rat 3072 B0 (e * 6 + 1)) (rat 3072 B0 (e * 6 + 2)) nm.toNatClampNeg).1) ((lvT (Q3, Q4, Q5, Q6) (rat 3072 B0 (e * 6 + 1)) (rat 3072 B0 (e * 6 + 2)) nm.toNatClampNeg).2.1) ((lvT (Q3, Q4, Q5, Q6) (rat 3072 B0 (e * 6 + 1)) (rat 3072 B0 (e * 6 + 2)) nm.toNatClampNeg).2.2.1) ((lvT (Q3, Q4, Q5, Q6) (rat 3072 B0 (e * 6 + 1)) (rat 3072 B0 (e * 6 + 2)) nm.toNatClampNeg).2.2.2) nm B0 bn) gX2_apply_X5_loseVersion rfl hdX5_loseVersion ⟨by omega, by decide⟩ rfl rfl rfl (Nat.le_of_ble_eq_true rfl) dX2_apply_152 rfl rfl ?_
    exact fin 155 _ _ () dX2_apply_155 rfl rfl
  · exact absurd c2 he
set_option maxHeartbeats 4000000 in
set_option maxRecDepth 100000 in
/-- Desk.apply, REQUEST -/
theorem cX2_apply_met4 (l : Launch) (D : va_G) (tys : List (ClassId × FieldType)) (cI : ClassId) (ht : tys[0]? = some (cI, .int)) (ad ad2 : Nat → Nat) (P0 P1 P2 P3 P4 P5 L0 L1 L2 : Nat → Int32) (dy : Int32) (Q0 Q1 Q2 Q3 Q4 Q5 Q6 : Nat → Int32) (nm : Int32) (B0 : Nat → Int32) (bn e : Int32) (he : ¬ e = -1) (hk9 : rat 3072 B0 ((e * 6) + 0) = 4) : CId l yX2_apply wsX2_apply 5 D tys [.ref (ad 0), .ref (ad2 0), .int e] (wDB cI ad ad2 P0 P1 P2 P3 P4 P5 L0 L1 L2 dy Q0 Q1 Q2 Q3 Q4 Q5 Q6 nm B0 bn) (nm) (wDB cI ad ad2 P0 P1 P2 P3 P4 P5 L0 L1 L2 dy (rup 30 Q0 nm (rat 3072 B0 ((e * 6) + 1))) (rup 30 Q1 nm (rat 3072 B0 ((e * 6) + 2))) (rup 30 Q2 nm (rat 3072 B0 ((e * 6) + 3))) (rup 30 Q3 nm 0) (rup 30 Q4 nm 0) (rup 30 Q5 nm 0) (erN Q6 nm 8) (nm + 1) B0 bn) := by
  refine CI_of (maxL := 6) (cc := cX2_apply) (y := yX2_apply) rfl rfl (Nat.le_of_ble_eq_true rfl) (fun X hl hD hk hn hcz hsz o fin => ?_)
  subst hl; subst hD; subst hk
  refine V_iload_n (pc := 0) o dX2_apply_0 rfl ?_
  refine V_iconst (pc := 1) o (-1) dX2_apply_1 (by decide) ?_
  refine V_icmp_ne (pc := 2) o 7 dX2_apply_2 (by decide) (fun c2 => ?_) (fun c2 => ?_)
  · refine V_aload_n (pc := 7) o dX2_apply_7 rfl ?_
    refine V_iload_n (pc := 8) o dX2_apply_8 rfl ?_
    refine V_iconst (pc := 9) o 1 dX2_apply_9 (by decide) ?_
    refine V_rVi (pc := 10) o (cX0_wordOf_met _ _ _ cI ht ad2 B0 bn e 1) 36 3 gX2_apply_X0_wordOf rfl hdX0_wordOf ⟨by omega, by decide⟩ rfl rfl rfl (Nat.le_of_ble_eq_true rfl) dX2_apply_10 rfl ?_
    refine V_istore_n (pc := 13) o dX2_apply_13 (by rw [hn]; decide) ?_
    refine V_aload_n (pc := 14) o dX2_apply_14 rfl ?_
    refine V_iload_n (pc := 15) o dX2_apply_15 rfl ?_
    refine V_iconst (pc := 16) o 2 dX2_apply_16 (by decide) ?_
    refine V_rVi (pc := 17) o (cX0_wordOf_met _ _ _ cI ht ad2 B0 bn e 2) 36 3 gX2_apply_X0_wordOf rfl hdX0_wordOf ⟨by omega, by decide⟩ rfl rfl rfl (Nat.le_of_ble_eq_true rfl) dX2_apply_17 rfl ?_
    refine V_istore (pc := 20) o dX2_apply_20 (by rw [hn]; decide) ?_
    refine V_aload_n (pc := 22) o dX2_apply_22 rfl ?_
    refine V_iload_n (pc := 23) o dX2_apply_23 rfl ?_
    refine V_iconst (pc := 24) o 3 dX2_apply_24 (by decide) ?_
    refine V_rVi (pc := 25) o (cX0_wordOf_met _ _ _ cI ht ad2 B0 bn e 3) 36 3 gX2_apply_X0_wordOf rfl hdX0_wordOf ⟨by omega, by decide⟩ rfl rfl rfl (Nat.le_of_ble_eq_true rfl) dX2_apply_25 rfl ?_
    refine V_istore (pc := 28) o dX2_apply_28 (by rw [hn]; decide) ?_
    refine V_aload_n (pc := 30) o dX2_apply_30 rfl ?_
    refine V_iload_n (pc := 31) o dX2_apply_31 rfl ?_
    refine V_iconst (pc := 32) o 0 dX2_apply_32 (by decide) ?_
    refine V_rVi (pc := 33) o (cX0_wordOf_met _ _ _ cI ht ad2 B0 bn e 0) 36 3 gX2_apply_X0_wordOf rfl hdX0_wordOf ⟨by omega, by decide⟩ rfl rfl rfl (Nat.le_of_ble_eq_true rfl) dX2_apply_33 rfl ?_
    refine V_eq (st2 := [.int 4]) rfl (congrArg (fun v => [Value.int v]) hk9) ?_
    refine V_tableIn (pc := 36) o 156 dX2_apply_36 (by decide) (by decide) (by first | rfl | decide) (by decide) ?_
    refine V_aload_n (pc := 156) o dX2_apply_156 rfl ?_
    refine V_get (pc := 157) o 0 2 hiX2_apply_X2 rfl rfl (by decide) lkX2_apply_28 rfl rfl dX2_apply_157 ?_
    refine V_iload_n (pc := 160) o dX2_apply_160 rfl ?_
    refine V_iload (pc := 161) o dX2_apply_161 rfl ?_
    refine V_iload (pc := 163) o dX2_apply_163 rfl ?_
    refine V_wVi (pc := 165) o (cX5_add_met _ _ _ cI ht (fun k => ad (21 + k)) Q0 Q1 Q2 Q3 Q4 Q5 Q6 nm (rat 3072 B0 (e * 6 + 1)) (rat 3072 B0 (e * 6 + 2)) (rat 3072 B0 (e * 6 + 3))) 21 15 (wDB cI ad ad2 P0 P1 P2 P3 P4 P5 L0 L1 L2 dy (rup 30 Q0 nm (rat 3072 B0 (e * 6 + 1))) (rup 30 Q1 nm (rat 3072 B0 (e * 6 + 2))) (rup 30 Q2 nm (rat 3072 B0 (e * 6 + 3))) (rup 30 Q3 nm 0) (rup 30 Q4 nm 0) (rup 30 Q5 nm 0) (erN Q6 nm 8) (nm + 1) B0 bn) gX2_apply_X5_add rfl hdX5_add ⟨by omega, by decide⟩ rfl rfl rfl (Nat.le_of_ble_eq_true rfl) dX2_apply_165 rfl rfl ?_
    exact fin 168 _ _ () dX2_apply_168 rfl rfl
  · exact absurd c2 he
set_option maxHeartbeats 4000000 in
set_option maxRecDepth 100000 in
/-- Desk.apply, RESOLVE -/
theorem cX2_apply_met5 (l : Launch) (D : va_G) (tys : List (ClassId × FieldType)) (cI : ClassId) (ht : tys[0]? = some (cI, .int)) (ad ad2 : Nat → Nat) (P0 P1 P2 P3 P4 P5 L0 L1 L2 : Nat → Int32) (dy : Int32) (Q0 Q1 Q2 Q3 Q4 Q5 Q6 : Nat → Int32) (nm : Int32) (B0 : Nat → Int32) (bn e : Int32) (he : ¬ e = -1) (hk9 : rat 3072 B0 ((e * 6) + 0) = 5) : CId l yX2_apply wsX2_apply 5 D tys [.ref (ad 0), .ref (ad2 0), .int e] (wDB cI ad ad2 P0 P1 P2 P3 P4 P5 L0 L1 L2 dy Q0 Q1 Q2 Q3 Q4 Q5 Q6 nm B0 bn) (pcostN P1 (rat 3072 B0 ((e * 6) + 2)) 8) (wDB cI ad ad2 P0 P1 P2 P3 P4 P5 L0 L1 L2 dy Q0 Q1 Q2 (rup 30 Q3 (rat 3072 B0 ((e * 6) + 1)) 1) (rup 30 Q4 (rat 3072 B0 ((e * 6) + 1)) (rat 3072 B0 ((e * 6) + 2))) (rup 30 Q5 (rat 3072 B0 ((e * 6) + 1)) (pcostN P1 (rat 3072 B0 ((e * 6) + 2)) 8)) (erN Q6 (rat 3072 B0 ((e * 6) + 1)) 8) nm B0 bn) := by
  refine CI_of (maxL := 6) (cc := cX2_apply) (y := yX2_apply) rfl rfl (Nat.le_of_ble_eq_true rfl) (fun X hl hD hk hn hcz hsz o fin => ?_)
  subst hl; subst hD; subst hk
  refine V_iload_n (pc := 0) o dX2_apply_0 rfl ?_
  refine V_iconst (pc := 1) o (-1) dX2_apply_1 (by decide) ?_
  refine V_icmp_ne (pc := 2) o 7 dX2_apply_2 (by decide) (fun c2 => ?_) (fun c2 => ?_)
  · refine V_aload_n (pc := 7) o dX2_apply_7 rfl ?_
    refine V_iload_n (pc := 8) o dX2_apply_8 rfl ?_
    refine V_iconst (pc := 9) o 1 dX2_apply_9 (by decide) ?_
    refine V_rVi (pc := 10) o (cX0_wordOf_met _ _ _ cI ht ad2 B0 bn e 1) 36 3 gX2_apply_X0_wordOf rfl hdX0_wordOf ⟨by omega, by decide⟩ rfl rfl rfl (Nat.le_of_ble_eq_true rfl) dX2_apply_10 rfl ?_
    refine V_istore_n (pc := 13) o dX2_apply_13 (by rw [hn]; decide) ?_
    refine V_aload_n (pc := 14) o dX2_apply_14 rfl ?_
    refine V_iload_n (pc := 15) o dX2_apply_15 rfl ?_
    refine V_iconst (pc := 16) o 2 dX2_apply_16 (by decide) ?_
    refine V_rVi (pc := 17) o (cX0_wordOf_met _ _ _ cI ht ad2 B0 bn e 2) 36 3 gX2_apply_X0_wordOf rfl hdX0_wordOf ⟨by omega, by decide⟩ rfl rfl rfl (Nat.le_of_ble_eq_true rfl) dX2_apply_17 rfl ?_
    refine V_istore (pc := 20) o dX2_apply_20 (by rw [hn]; decide) ?_
    refine V_aload_n (pc := 22) o dX2_apply_22 rfl ?_
    refine V_iload_n (pc := 23) o dX2_apply_23 rfl ?_
    refine V_iconst (pc := 24) o 3 dX2_apply_24 (by decide) ?_
    refine V_rVi (pc := 25) o (cX0_wordOf_met _ _ _ cI ht ad2 B0 bn e 3) 36 3 gX2_apply_X0_wordOf rfl hdX0_wordOf ⟨by omega, by decide⟩ rfl rfl rfl (Nat.le_of_ble_eq_true rfl) dX2_apply_25 rfl ?_
    refine V_istore (pc := 28) o dX2_apply_28 (by rw [hn]; decide) ?_
    refine V_aload_n (pc := 30) o dX2_apply_30 rfl ?_
    refine V_iload_n (pc := 31) o dX2_apply_31 rfl ?_
    refine V_iconst (pc := 32) o 0 dX2_apply_32 (by decide) ?_
    refine V_rVi (pc := 33) o (cX0_wordOf_met _ _ _ cI ht ad2 B0 bn e 0) 36 3 gX2_apply_X0_wordOf rfl hdX0_wordOf ⟨by omega, by decide⟩ rfl rfl rfl (Nat.le_of_ble_eq_true rfl) dX2_apply_33 rfl ?_
    refine V_eq (st2 := [.int 5]) rfl (congrArg (fun v => [Value.int v]) hk9) ?_
    refine V_tableIn (pc := 36) o 169 dX2_apply_36 (by decide) (by decide) (by first | rfl | decide) (by decide) ?_
    refine V_aload_n (pc := 169) o dX2_apply_169 rfl ?_
    refine V_get (pc := 170) o 0 2 hiX2_apply_X2 rfl rfl (by decide) lkX2_apply_28 rfl rfl dX2_apply_170 ?_
    refine V_iload_n (pc := 173) o dX2_apply_173 rfl ?_
    refine V_iload (pc := 174) o dX2_apply_174 rfl ?_
    refine V_aload_n (pc := 176) o dX2_apply_176 rfl ?_
    refine V_get (pc := 177) o 0 0 hiX2_apply_X2 rfl rfl (by decide) lkX2_apply_12 rfl rfl dX2_apply_177 ?_
    refine V_iload (pc := 180) o dX2_apply_180 rfl ?_
    refine V_rVi (pc := 182) o (cX3_costOf_met _ _ _ cI ht (fun k => ad (1 + k)) P0 P1 P2 P3 P4 P5 (rat 3072 B0 (e * 6 + 2))) 1 13 gX2_apply_X3_costOf rfl hdX3_costOf ⟨by omega, by decide⟩ rfl rfl rfl (Nat.le_of_ble_eq_true rfl) dX2_apply_182 rfl ?_
    refine V_wVi (pc := 185) o (cX5_settle_met _ _ _ cI ht (fun k => ad (21 + k)) Q0 Q1 Q2 Q3 Q4 Q5 Q6 nm (rat 3072 B0 (e * 6 + 1)) (rat 3072 B0 (e * 6 + 2)) (pcostN P1 (rat 3072 B0 (e * 6 + 2)) 8)) 21 15 (wDB cI ad ad2 P0 P1 P2 P3 P4 P5 L0 L1 L2 dy Q0 Q1 Q2 (rup 30 Q3 (rat 3072 B0 (e * 6 + 1)) 1) (rup 30 Q4 (rat 3072 B0 (e * 6 + 1)) (rat 3072 B0 (e * 6 + 2))) (rup 30 Q5 (rat 3072 B0 (e * 6 + 1)) (pcostN P1 (rat 3072 B0 (e * 6 + 2)) 8)) (erN Q6 (rat 3072 B0 (e * 6 + 1)) 8) nm B0 bn) gX2_apply_X5_settle rfl hdX5_settle ⟨by omega, by decide⟩ rfl rfl rfl (Nat.le_of_ble_eq_true rfl) dX2_apply_185 rfl rfl ?_
    exact fin 188 _ _ () dX2_apply_188 rfl rfl
  · exact absurd c2 he
set_option maxHeartbeats 4000000 in
set_option maxRecDepth 100000 in
/-- Desk.apply, LIMIT -/
theorem cX2_apply_met6 (l : Launch) (D : va_G) (tys : List (ClassId × FieldType)) (cI : ClassId) (ht : tys[0]? = some (cI, .int)) (ad ad2 : Nat → Nat) (P0 P1 P2 P3 P4 P5 L0 L1 L2 : Nat → Int32) (dy : Int32) (Q0 Q1 Q2 Q3 Q4 Q5 Q6 : Nat → Int32) (nm : Int32) (B0 : Nat → Int32) (bn e : Int32) (he : ¬ e = -1) (hk9 : rat 3072 B0 ((e * 6) + 0) = 6) : CId l yX2_apply wsX2_apply 5 D tys [.ref (ad 0), .ref (ad2 0), .int e] (wDB cI ad ad2 P0 P1 P2 P3 P4 P5 L0 L1 L2 dy Q0 Q1 Q2 Q3 Q4 Q5 Q6 nm B0 bn) (rat 8 L0 (rat 3072 B0 ((e * 6) + 1))) (wDB cI ad ad2 P0 P1 P2 P3 P4 P5 (rup 8 L0 (rat 3072 B0 ((e * 6) + 1)) (rat 3072 B0 ((e * 6) + 2))) L1 L2 dy Q0 Q1 Q2 Q3 Q4 Q5 Q6 nm B0 bn) := by
  refine CI_of (maxL := 6) (cc := cX2_apply) (y := yX2_apply) rfl rfl (Nat.le_of_ble_eq_true rfl) (fun X hl hD hk hn hcz hsz o fin => ?_)
  subst hl; subst hD; subst hk
  refine V_iload_n (pc := 0) o dX2_apply_0 rfl ?_
  refine V_iconst (pc := 1) o (-1) dX2_apply_1 (by decide) ?_
  refine V_icmp_ne (pc := 2) o 7 dX2_apply_2 (by decide) (fun c2 => ?_) (fun c2 => ?_)
  · refine V_aload_n (pc := 7) o dX2_apply_7 rfl ?_
    refine V_iload_n (pc := 8) o dX2_apply_8 rfl ?_
    refine V_iconst (pc := 9) o 1 dX2_apply_9 (by decide) ?_
    refine V_rVi (pc := 10) o (cX0_wordOf_met _ _ _ cI ht ad2 B0 bn e 1) 36 3 gX2_apply_X0_wordOf rfl hdX0_wordOf ⟨by omega, by decide⟩ rfl rfl rfl (Nat.le_of_ble_eq_true rfl) dX2_apply_10 rfl ?_
    refine V_istore_n (pc := 13) o dX2_apply_13 (by rw [hn]; decide) ?_
    refine V_aload_n (pc := 14) o dX2_apply_14 rfl ?_
    refine V_iload_n (pc := 15) o dX2_apply_15 rfl ?_
    refine V_iconst (pc := 16) o 2 dX2_apply_16 (by decide) ?_
    refine V_rVi (pc := 17) o (cX0_wordOf_met _ _ _ cI ht ad2 B0 bn e 2) 36 3 gX2_apply_X0_wordOf rfl hdX0_wordOf ⟨by omega, by decide⟩ rfl rfl rfl (Nat.le_of_ble_eq_true rfl) dX2_apply_17 rfl ?_
    refine V_istore (pc := 20) o dX2_apply_20 (by rw [hn]; decide) ?_
    refine V_aload_n (pc := 22) o dX2_apply_22 rfl ?_
    refine V_iload_n (pc := 23) o dX2_apply_23 rfl ?_
    refine V_iconst (pc := 24) o 3 dX2_apply_24 (by decide) ?_
    refine V_rVi (pc := 25) o (cX0_wordOf_met _ _ _ cI ht ad2 B0 bn e 3) 36 3 gX2_apply_X0_wordOf rfl hdX0_wordOf ⟨by omega, by decide⟩ rfl rfl rfl (Nat.le_of_ble_eq_true rfl) dX2_apply_25 rfl ?_
    refine V_istore (pc := 28) o dX2_apply_28 (by rw [hn]; decide) ?_
    refine V_aload_n (pc := 30) o dX2_apply_30 rfl ?_
    refine V_iload_n (pc := 31) o dX2_apply_31 rfl ?_
    refine V_iconst (pc := 32) o 0 dX2_apply_32 (by decide) ?_
    refine V_rVi (pc := 33) o (cX0_wordOf_met _ _ _ cI ht ad2 B0 bn e 0) 36 3 gX2_apply_X0_wordOf rfl hdX0_wordOf ⟨by omega, by decide⟩ rfl rfl rfl (Nat.le_of_ble_eq_true rfl) dX2_apply_33 rfl ?_
    refine V_eq (st2 := [.int 6]) rfl (congrArg (fun v => [Value.int v]) hk9) ?_
    refine V_tableIn (pc := 36) o 189 dX2_apply_36 (by decide) (by decide) (by first | rfl | decide) (by decide) ?_
    refine V_aload_n (pc := 189) o dX2_apply_189 rfl ?_
    refine V_get (pc := 190) o 0 1 hiX2_apply_X2 rfl rfl (by decide) lkX2_apply_21 rfl rfl dX2_apply_190 ?_
    refine V_iload_n (pc := 193) o dX2_apply_193 rfl ?_
    refine V_iload (pc := 194) o dX2_apply_194 rfl ?_
    refine V_wVi (pc := 196) o (cX4_changeLimit_met _ _ _ cI ht (fun k => ad (14 + k)) L0 L1 L2 dy (rat 3072 B0 (e * 6 + 1)) (rat 3072 B0 (e * 6 + 2))) 14 7 (wDB cI ad ad2 P0 P1 P2 P3 P4 P5 (rup 8 L0 (rat 3072 B0 (e * 6 + 1)) (rat 3072 B0 (e * 6 + 2))) L1 L2 dy Q0 Q1 Q2 Q3 Q4 Q5 Q6 nm B0 bn) gX2_apply_X4_changeLimit rfl hdX4_changeLimit ⟨by omega, by decide⟩ rfl rfl rfl (Nat.le_of_ble_eq_true rfl) dX2_apply_196 rfl rfl ?_
    exact fin 199 _ _ () dX2_apply_199 rfl rfl
  · exact absurd c2 he
set_option maxHeartbeats 4000000 in
set_option maxRecDepth 100000 in
/-- Desk.apply, LEAVE -/
theorem cX2_apply_met7 (l : Launch) (D : va_G) (tys : List (ClassId × FieldType)) (cI : ClassId) (ht : tys[0]? = some (cI, .int)) (ad ad2 : Nat → Nat) (P0 P1 P2 P3 P4 P5 L0 L1 L2 : Nat → Int32) (dy : Int32) (Q0 Q1 Q2 Q3 Q4 Q5 Q6 : Nat → Int32) (nm : Int32) (B0 : Nat → Int32) (bn e : Int32) (he : ¬ e = -1) (hk9 : rat 3072 B0 ((e * 6) + 0) = 7) : CId l yX2_apply wsX2_apply 5 D tys [.ref (ad 0), .ref (ad2 0), .int e] (wDB cI ad ad2 P0 P1 P2 P3 P4 P5 L0 L1 L2 dy Q0 Q1 Q2 Q3 Q4 Q5 Q6 nm B0 bn) (rat 8 (rup 8 L2 (rat 3072 B0 ((e * 6) + 1)) (dy + (rat 3072 B0 ((e * 6) + 3)))) (rat 3072 B0 ((e * 6) + 1))) (wDB cI ad ad2 P0 P1 P2 P3 P4 P5 L0 (rup 8 L1 (rat 3072 B0 ((e * 6) + 1)) (rat 3072 B0 ((e * 6) + 2))) (rup 8 L2 (rat 3072 B0 ((e * 6) + 1)) (dy + (rat 3072 B0 ((e * 6) + 3)))) dy Q0 Q1 Q2 Q3 Q4 Q5 Q6 nm B0 bn) := by
  refine CI_of (maxL := 6) (cc := cX2_apply) (y := yX2_apply) rfl rfl (Nat.le_of_ble_eq_true rfl) (fun X hl hD hk hn hcz hsz o fin => ?_)
  subst hl; subst hD; subst hk
  refine V_iload_n (pc := 0) o dX2_apply_0 rfl ?_
  refine V_iconst (pc := 1) o (-1) dX2_apply_1 (by decide) ?_
  refine V_icmp_ne (pc := 2) o 7 dX2_apply_2 (by decide) (fun c2 => ?_) (fun c2 => ?_)
  · refine V_aload_n (pc := 7) o dX2_apply_7 rfl ?_
    refine V_iload_n (pc := 8) o dX2_apply_8 rfl ?_
    refine V_iconst (pc := 9) o 1 dX2_apply_9 (by decide) ?_
    refine V_rVi (pc := 10) o (cX0_wordOf_met _ _ _ cI ht ad2 B0 bn e 1) 36 3 gX2_apply_X0_wordOf rfl hdX0_wordOf ⟨by omega, by decide⟩ rfl rfl rfl (Nat.le_of_ble_eq_true rfl) dX2_apply_10 rfl ?_
    refine V_istore_n (pc := 13) o dX2_apply_13 (by rw [hn]; decide) ?_
    refine V_aload_n (pc := 14) o dX2_apply_14 rfl ?_
    refine V_iload_n (pc := 15) o dX2_apply_15 rfl ?_
    refine V_iconst (pc := 16) o 2 dX2_apply_16 (by decide) ?_
    refine V_rVi (pc := 17) o (cX0_wordOf_met _ _ _ cI ht ad2 B0 bn e 2) 36 3 gX2_apply_X0_wordOf rfl hdX0_wordOf ⟨by omega, by decide⟩ rfl rfl rfl (Nat.le_of_ble_eq_true rfl) dX2_apply_17 rfl ?_
    refine V_istore (pc := 20) o dX2_apply_20 (by rw [hn]; decide) ?_
    refine V_aload_n (pc := 22) o dX2_apply_22 rfl ?_
    refine V_iload_n (pc := 23) o dX2_apply_23 rfl ?_
    refine V_iconst (pc := 24) o 3 dX2_apply_24 (by decide) ?_
    refine V_rVi (pc := 25) o (cX0_wordOf_met _ _ _ cI ht ad2 B0 bn e 3) 36 3 gX2_apply_X0_wordOf rfl hdX0_wordOf ⟨by omega, by decide⟩ rfl rfl rfl (Nat.le_of_ble_eq_true rfl) dX2_apply_25 rfl ?_
    refine V_istore (pc := 28) o dX2_apply_28 (by rw [hn]; decide) ?_
    refine V_aload_n (pc := 30) o dX2_apply_30 rfl ?_
    refine V_iload_n (pc := 31) o dX2_apply_31 rfl ?_
    refine V_iconst (pc := 32) o 0 dX2_apply_32 (by decide) ?_
    refine V_rVi (pc := 33) o (cX0_wordOf_met _ _ _ cI ht ad2 B0 bn e 0) 36 3 gX2_apply_X0_wordOf rfl hdX0_wordOf ⟨by omega, by decide⟩ rfl rfl rfl (Nat.le_of_ble_eq_true rfl) dX2_apply_33 rfl ?_
    refine V_eq (st2 := [.int 7]) rfl (congrArg (fun v => [Value.int v]) hk9) ?_
    refine V_tableIn (pc := 36) o 200 dX2_apply_36 (by decide) (by decide) (by first | rfl | decide) (by decide) ?_
    refine V_aload_n (pc := 200) o dX2_apply_200 rfl ?_
    refine V_get (pc := 201) o 0 1 hiX2_apply_X2 rfl rfl (by decide) lkX2_apply_21 rfl rfl dX2_apply_201 ?_
    refine V_iload_n (pc := 204) o dX2_apply_204 rfl ?_
    refine V_iload (pc := 205) o dX2_apply_205 rfl ?_
    refine V_iload (pc := 207) o dX2_apply_207 rfl ?_
    refine V_wVi (pc := 209) o (cX4_sendOnLeave_met _ _ _ cI ht (fun k => ad (14 + k)) L0 L1 L2 dy (rat 3072 B0 (e * 6 + 1)) (rat 3072 B0 (e * 6 + 2)) (rat 3072 B0 (e * 6 + 3))) 14 7 (wDB cI ad ad2 P0 P1 P2 P3 P4 P5 L0 (rup 8 L1 (rat 3072 B0 (e * 6 + 1)) (rat 3072 B0 (e * 6 + 2))) (rup 8 L2 (rat 3072 B0 (e * 6 + 1)) (dy + (rat 3072 B0 (e * 6 + 3)))) dy Q0 Q1 Q2 Q3 Q4 Q5 Q6 nm B0 bn) gX2_apply_X4_sendOnLeave rfl hdX4_sendOnLeave ⟨by omega, by decide⟩ rfl rfl rfl (Nat.le_of_ble_eq_true rfl) dX2_apply_209 rfl rfl ?_
    exact fin 212 _ _ () dX2_apply_212 rfl rfl
  · exact absurd c2 he
set_option maxHeartbeats 4000000 in
set_option maxRecDepth 100000 in
/-- Desk.apply, APPROVE -/
theorem cX2_apply_met8 (l : Launch) (D : va_G) (tys : List (ClassId × FieldType)) (cI : ClassId) (ht : tys[0]? = some (cI, .int)) (ad ad2 : Nat → Nat) (P0 P1 P2 P3 P4 P5 L0 L1 L2 : Nat → Int32) (dy : Int32) (Q0 Q1 Q2 Q3 Q4 Q5 Q6 : Nat → Int32) (nm : Int32) (B0 : Nat → Int32) (bn e : Int32) (he : ¬ e = -1) (hk9 : rat 3072 B0 ((e * 6) + 0) = 8) : CId l yX2_apply wsX2_apply 5 D tys [.ref (ad 0), .ref (ad2 0), .int e] (wDB cI ad ad2 P0 P1 P2 P3 P4 P5 L0 L1 L2 dy Q0 Q1 Q2 Q3 Q4 Q5 Q6 nm B0 bn) (prF L0 L1 L2 dy (rat 3072 B0 ((e * 6) + 2)) (rat 30 Q5 (rat 3072 B0 ((e * 6) + 1)))) (wDB cI ad ad2 P0 P1 P2 P3 P4 P5 L0 L1 L2 dy Q0 Q1 Q2 Q3 Q4 Q5 (rup 240 Q6 ((rat 3072 B0 ((e * 6) + 1)) * 8 + (rat 3072 B0 ((e * 6) + 2))) (tkE L0 L1 L2 dy (rat 3072 B0 ((e * 6) + 2)) (rat 30 Q5 (rat 3072 B0 ((e * 6) + 1))))) nm B0 bn) := by
  refine CI_of (maxL := 6) (cc := cX2_apply) (y := yX2_apply) rfl rfl (Nat.le_of_ble_eq_true rfl) (fun X hl hD hk hn hcz hsz o fin => ?_)
  subst hl; subst hD; subst hk
  refine V_iload_n (pc := 0) o dX2_apply_0 rfl ?_
  refine V_iconst (pc := 1) o (-1) dX2_apply_1 (by decide) ?_
  refine V_icmp_ne (pc := 2) o 7 dX2_apply_2 (by decide) (fun c2 => ?_) (fun c2 => ?_)
  · refine V_aload_n (pc := 7) o dX2_apply_7 rfl ?_
    refine V_iload_n (pc := 8) o dX2_apply_8 rfl ?_
    refine V_iconst (pc := 9) o 1 dX2_apply_9 (by decide) ?_
    refine V_rVi (pc := 10) o (cX0_wordOf_met _ _ _ cI ht ad2 B0 bn e 1) 36 3 gX2_apply_X0_wordOf rfl hdX0_wordOf ⟨by omega, by decide⟩ rfl rfl rfl (Nat.le_of_ble_eq_true rfl) dX2_apply_10 rfl ?_
    refine V_istore_n (pc := 13) o dX2_apply_13 (by rw [hn]; decide) ?_
    refine V_aload_n (pc := 14) o dX2_apply_14 rfl ?_
    refine V_iload_n (pc := 15) o dX2_apply_15 rfl ?_
    refine V_iconst (pc := 16) o 2 dX2_apply_16 (by decide) ?_
    refine V_rVi (pc := 17) o (cX0_wordOf_met _ _ _ cI ht ad2 B0 bn e 2) 36 3 gX2_apply_X0_wordOf rfl hdX0_wordOf ⟨by omega, by decide⟩ rfl rfl rfl (Nat.le_of_ble_eq_true rfl) dX2_apply_17 rfl ?_
    refine V_istore (pc := 20) o dX2_apply_20 (by rw [hn]; decide) ?_
    refine V_aload_n (pc := 22) o dX2_apply_22 rfl ?_
    refine V_iload_n (pc := 23) o dX2_apply_23 rfl ?_
    refine V_iconst (pc := 24) o 3 dX2_apply_24 (by decide) ?_
    refine V_rVi (pc := 25) o (cX0_wordOf_met _ _ _ cI ht ad2 B0 bn e 3) 36 3 gX2_apply_X0_wordOf rfl hdX0_wordOf ⟨by omega, by decide⟩ rfl rfl rfl (Nat.le_of_ble_eq_true rfl) dX2_apply_25 rfl ?_
    refine V_istore (pc := 28) o dX2_apply_28 (by rw [hn]; decide) ?_
    refine V_aload_n (pc := 30) o dX2_apply_30 rfl ?_
    refine V_iload_n (pc := 31) o dX2_apply_31 rfl ?_
    refine V_iconst (pc := 32) o 0 dX2_apply_32 (by decide) ?_
    refine V_rVi (pc := 33) o (cX0_wordOf_met _ _ _ cI ht ad2 B0 bn e 0) 36 3 gX2_apply_X0_wordOf rfl hdX0_wordOf ⟨by omega, by decide⟩ rfl rfl rfl (Nat.le_of_ble_eq_true rfl) dX2_apply_33 rfl ?_
    refine V_eq (st2 := [.int 8]) rfl (congrArg (fun v => [Value.int v]) hk9) ?_
    refine V_tableIn (pc := 36) o 213 dX2_apply_36 (by decide) (by decide) (by first | rfl | decide) (by decide) ?_
    refine V_aload_n (pc := 213) o dX2_apply_213 rfl ?_
    refine V_iload_n (pc := 214) o dX2_apply_214 rfl ?_
    refine V_iload (pc := 215) o dX2_apply_215 rfl ?_
    refine V_wVi (pc := 217) o (cX2_takeApproval_met _ _ _ cI ht ad P0 P1 P2 P3 P4 P5 L0 L1 L2 dy Q0 Q1 Q2 Q3 Q4 Q5 Q6 nm (rat 3072 B0 (e * 6 + 1)) (rat 3072 B0 (e * 6 + 2))) 0 36 (wDB cI ad ad2 P0 P1 P2 P3 P4 P5 L0 L1 L2 dy Q0 Q1 Q2 Q3 Q4 Q5 (rup 240 Q6 ((rat 3072 B0 (e * 6 + 1)) * 8 + (rat 3072 B0 (e * 6 + 2))) (tkE L0 L1 L2 dy (rat 3072 B0 (e * 6 + 2)) (rat 30 Q5 (rat 3072 B0 (e * 6 + 1))))) nm B0 bn) gX2_apply_X2_takeApproval rfl hdX2_takeApproval ⟨by omega, by decide⟩ rfl rfl rfl (Nat.le_of_ble_eq_true rfl) dX2_apply_217 rfl rfl ?_
    exact fin 220 _ _ () dX2_apply_220 rfl rfl
  · exact absurd c2 he
set_option maxHeartbeats 4000000 in
set_option maxRecDepth 100000 in
/-- Desk.apply, RELEASE -/
theorem cX2_apply_met9 (l : Launch) (D : va_G) (tys : List (ClassId × FieldType)) (cI : ClassId) (ht : tys[0]? = some (cI, .int)) (ad ad2 : Nat → Nat) (P0 P1 P2 P3 P4 P5 L0 L1 L2 : Nat → Int32) (dy : Int32) (Q0 Q1 Q2 Q3 Q4 Q5 Q6 : Nat → Int32) (nm : Int32) (B0 : Nat → Int32) (bn e : Int32) (he : ¬ e = -1) (hk9 : rat 3072 B0 ((e * 6) + 0) = 9) : CId l yX2_apply wsX2_apply 5 D tys [.ref (ad 0), .ref (ad2 0), .int e] (wDB cI ad ad2 P0 P1 P2 P3 P4 P5 L0 L1 L2 dy Q0 Q1 Q2 Q3 Q4 Q5 Q6 nm B0 bn) (2) (wDB cI ad ad2 P0 P1 P2 P3 P4 P5 L0 L1 L2 dy Q0 Q1 Q2 (rup 30 Q3 (rat 3072 B0 ((e * 6) + 1)) 2) Q4 Q5 Q6 nm B0 bn) := by
  refine CI_of (maxL := 6) (cc := cX2_apply) (y := yX2_apply) rfl rfl (Nat.le_of_ble_eq_true rfl) (fun X hl hD hk hn hcz hsz o fin => ?_)
  subst hl; subst hD; subst hk
  refine V_iload_n (pc := 0) o dX2_apply_0 rfl ?_
  refine V_iconst (pc := 1) o (-1) dX2_apply_1 (by decide) ?_
  refine V_icmp_ne (pc := 2) o 7 dX2_apply_2 (by decide) (fun c2 => ?_) (fun c2 => ?_)
  · refine V_aload_n (pc := 7) o dX2_apply_7 rfl ?_
    refine V_iload_n (pc := 8) o dX2_apply_8 rfl ?_
    refine V_iconst (pc := 9) o 1 dX2_apply_9 (by decide) ?_
    refine V_rVi (pc := 10) o (cX0_wordOf_met _ _ _ cI ht ad2 B0 bn e 1) 36 3 gX2_apply_X0_wordOf rfl hdX0_wordOf ⟨by omega, by decide⟩ rfl rfl rfl (Nat.le_of_ble_eq_true rfl) dX2_apply_10 rfl ?_
    refine V_istore_n (pc := 13) o dX2_apply_13 (by rw [hn]; decide) ?_
    refine V_aload_n (pc := 14) o dX2_apply_14 rfl ?_
    refine V_iload_n (pc := 15) o dX2_apply_15 rfl ?_
    refine V_iconst (pc := 16) o 2 dX2_apply_16 (by decide) ?_
    refine V_rVi (pc := 17) o (cX0_wordOf_met _ _ _ cI ht ad2 B0 bn e 2) 36 3 gX2_apply_X0_wordOf rfl hdX0_wordOf ⟨by omega, by decide⟩ rfl rfl rfl (Nat.le_of_ble_eq_true rfl) dX2_apply_17 rfl ?_
    refine V_istore (pc := 20) o dX2_apply_20 (by rw [hn]; decide) ?_
    refine V_aload_n (pc := 22) o dX2_apply_22 rfl ?_
    refine V_iload_n (pc := 23) o dX2_apply_23 rfl ?_
    refine V_iconst (pc := 24) o 3 dX2_apply_24 (by decide) ?_
    refine V_rVi (pc := 25) o (cX0_wordOf_met _ _ _ cI ht ad2 B0 bn e 3) 36 3 gX2_apply_X0_wordOf rfl hdX0_wordOf ⟨by omega, by decide⟩ rfl rfl rfl (Nat.le_of_ble_eq_true rfl) dX2_apply_25 rfl ?_
    refine V_istore (pc := 28) o dX2_apply_28 (by rw [hn]; decide) ?_
    refine V_aload_n (pc := 30) o dX2_apply_30 rfl ?_
    refine V_iload_n (pc := 31) o dX2_apply_31 rfl ?_
    refine V_iconst (pc := 32) o 0 dX2_apply_32 (by decide) ?_
    refine V_rVi (pc := 33) o (cX0_wordOf_met _ _ _ cI ht ad2 B0 bn e 0) 36 3 gX2_apply_X0_wordOf rfl hdX0_wordOf ⟨by omega, by decide⟩ rfl rfl rfl (Nat.le_of_ble_eq_true rfl) dX2_apply_33 rfl ?_
    refine V_eq (st2 := [.int 9]) rfl (congrArg (fun v => [Value.int v]) hk9) ?_
    refine V_tableIn (pc := 36) o 221 dX2_apply_36 (by decide) (by decide) (by first | rfl | decide) (by decide) ?_
    refine V_aload_n (pc := 221) o dX2_apply_221 rfl ?_
    refine V_get (pc := 222) o 0 2 hiX2_apply_X2 rfl rfl (by decide) lkX2_apply_28 rfl rfl dX2_apply_222 ?_
    refine V_iload_n (pc := 225) o dX2_apply_225 rfl ?_
    refine V_wVi (pc := 226) o (cX5_markReleased_met _ _ _ cI ht (fun k => ad (21 + k)) Q0 Q1 Q2 Q3 Q4 Q5 Q6 nm (rat 3072 B0 (e * 6 + 1))) 21 15 (wDB cI ad ad2 P0 P1 P2 P3 P4 P5 L0 L1 L2 dy Q0 Q1 Q2 (rup 30 Q3 (rat 3072 B0 (e * 6 + 1)) 2) Q4 Q5 Q6 nm B0 bn) gX2_apply_X5_markReleased rfl hdX5_markReleased ⟨by omega, by decide⟩ rfl rfl rfl (Nat.le_of_ble_eq_true rfl) dX2_apply_226 rfl rfl ?_
    exact fin 229 _ _ () dX2_apply_229 rfl rfl
  · exact absurd c2 he
set_option maxHeartbeats 4000000 in
set_option maxRecDepth 100000 in
/-- Desk.apply, PASS -/
theorem cX2_apply_met10 (l : Launch) (D : va_G) (tys : List (ClassId × FieldType)) (cI : ClassId) (ht : tys[0]? = some (cI, .int)) (ad ad2 : Nat → Nat) (P0 P1 P2 P3 P4 P5 L0 L1 L2 : Nat → Int32) (dy : Int32) (Q0 Q1 Q2 Q3 Q4 Q5 Q6 : Nat → Int32) (nm : Int32) (B0 : Nat → Int32) (bn e : Int32) (he : ¬ e = -1) (hk9 : rat 3072 B0 ((e * 6) + 0) = 10) : CId l yX2_apply wsX2_apply 5 D tys [.ref (ad 0), .ref (ad2 0), .int e] (wDB cI ad ad2 P0 P1 P2 P3 P4 P5 L0 L1 L2 dy Q0 Q1 Q2 Q3 Q4 Q5 Q6 nm B0 bn) (dy + (rat 3072 B0 ((e * 6) + 1))) (wDB cI ad ad2 P0 P1 P2 P3 P4 P5 L0 L1 L2 (dy + (rat 3072 B0 ((e * 6) + 1))) Q0 Q1 Q2 Q3 Q4 Q5 Q6 nm B0 bn) := by
  refine CI_of (maxL := 6) (cc := cX2_apply) (y := yX2_apply) rfl rfl (Nat.le_of_ble_eq_true rfl) (fun X hl hD hk hn hcz hsz o fin => ?_)
  subst hl; subst hD; subst hk
  refine V_iload_n (pc := 0) o dX2_apply_0 rfl ?_
  refine V_iconst (pc := 1) o (-1) dX2_apply_1 (by decide) ?_
  refine V_icmp_ne (pc := 2) o 7 dX2_apply_2 (by decide) (fun c2 => ?_) (fun c2 => ?_)
  · refine V_aload_n (pc := 7) o dX2_apply_7 rfl ?_
    refine V_iload_n (pc := 8) o dX2_apply_8 rfl ?_
    refine V_iconst (pc := 9) o 1 dX2_apply_9 (by decide) ?_
    refine V_rVi (pc := 10) o (cX0_wordOf_met _ _ _ cI ht ad2 B0 bn e 1) 36 3 gX2_apply_X0_wordOf rfl hdX0_wordOf ⟨by omega, by decide⟩ rfl rfl rfl (Nat.le_of_ble_eq_true rfl) dX2_apply_10 rfl ?_
    refine V_istore_n (pc := 13) o dX2_apply_13 (by rw [hn]; decide) ?_
    refine V_aload_n (pc := 14) o dX2_apply_14 rfl ?_
    refine V_iload_n (pc := 15) o dX2_apply_15 rfl ?_
    refine V_iconst (pc := 16) o 2 dX2_apply_16 (by decide) ?_
    refine V_rVi (pc := 17) o (cX0_wordOf_met _ _ _ cI ht ad2 B0 bn e 2) 36 3 gX2_apply_X0_wordOf rfl hdX0_wordOf ⟨by omega, by decide⟩ rfl rfl rfl (Nat.le_of_ble_eq_true rfl) dX2_apply_17 rfl ?_
    refine V_istore (pc := 20) o dX2_apply_20 (by rw [hn]; decide) ?_
    refine V_aload_n (pc := 22) o dX2_apply_22 rfl ?_
    refine V_iload_n (pc := 23) o dX2_apply_23 rfl ?_
    refine V_iconst (pc := 24) o 3 dX2_apply_24 (by decide) ?_
    refine V_rVi (pc := 25) o (cX0_wordOf_met _ _ _ cI ht ad2 B0 bn e 3) 36 3 gX2_apply_X0_wordOf rfl hdX0_wordOf ⟨by omega, by decide⟩ rfl rfl rfl (Nat.le_of_ble_eq_true rfl) dX2_apply_25 rfl ?_
    refine V_istore (pc := 28) o dX2_apply_28 (by rw [hn]; decide) ?_
    refine V_aload_n (pc := 30) o dX2_apply_30 rfl ?_
    refine V_iload_n (pc := 31) o dX2_apply_31 rfl ?_
    refine V_iconst (pc := 32) o 0 dX2_apply_32 (by decide) ?_
    refine V_rVi (pc := 33) o (cX0_wordOf_met _ _ _ cI ht ad2 B0 bn e 0) 36 3 gX2_apply_X0_wordOf rfl hdX0_wordOf ⟨by omega, by decide⟩ rfl rfl rfl (Nat.le_of_ble_eq_true rfl) dX2_apply_33 rfl ?_
    refine V_eq (st2 := [.int 10]) rfl (congrArg (fun v => [Value.int v]) hk9) ?_
    refine V_tableIn (pc := 36) o 230 dX2_apply_36 (by decide) (by decide) (by first | rfl | decide) (by decide) ?_
    refine V_aload_n (pc := 230) o dX2_apply_230 rfl ?_
    refine V_get (pc := 231) o 0 1 hiX2_apply_X2 rfl rfl (by decide) lkX2_apply_21 rfl rfl dX2_apply_231 ?_
    refine V_iload_n (pc := 234) o dX2_apply_234 rfl ?_
    refine V_wVi (pc := 235) o (cX4_addDays_met _ _ _ cI ht (fun k => ad (14 + k)) L0 L1 L2 dy (rat 3072 B0 (e * 6 + 1))) 14 7 (wDB cI ad ad2 P0 P1 P2 P3 P4 P5 L0 L1 L2 (dy + (rat 3072 B0 (e * 6 + 1))) Q0 Q1 Q2 Q3 Q4 Q5 Q6 nm B0 bn) gX2_apply_X4_addDays rfl hdX4_addDays ⟨by omega, by decide⟩ rfl rfl rfl (Nat.le_of_ble_eq_true rfl) dX2_apply_235 rfl rfl ?_
    exact fin 238 _ _ () dX2_apply_238 rfl rfl
  · exact absurd c2 he
