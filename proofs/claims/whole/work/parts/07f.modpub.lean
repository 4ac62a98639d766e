theorem hdX9_leave : yX9_leave.cls = RX9 ∧ yX9_leave.cls ≠ "java/lang/invoke/MethodHandle" ∧ yX9_leave.cls ≠ "java/lang/invoke/VarHandle" ∧ (parseMethodDescriptor yX9_leave.desc).map (fun d => d.parameters.length) = some 3 := by decide +kernel
set_option maxHeartbeats 4000000 in
set_option maxRecDepth 100000 in
/-- reference: leave1a -/
theorem k9_leave1a (l : Launch) (D : va_G) (tys : List (ClassId × FieldType)) (cI : ClassId) (ht : tys[0]? = some (cI, .int)) (ad : Nat → Nat) (vc : Nat → Nat) (vr : Nat → Nat) (vn : Nat → Nat) (ne : Nat → Nat) (vs : Nat → Nat) (li : Nat → Nat) (ba : Nat → Nat) (de : Nat → Nat) (qp : Nat → Nat) (qt : Nat → Nat) (ql : Nat → Nat) (qs : Nat → Nat) (qc : Nat → Nat) (ch : Nat → Nat) (ap : Nat → Nat) (un : Nat → Int32) (ro : Nat → Nat) (pi : Nat → Nat) (si : Nat → Nat) (pl : Nat → Int32) (rq : Nat) (dy : Nat) (en : Nat) (th : Int32) (p q m : Int32) (h : ¬ ((0 : Int32) ≤ p ∧ p ≤ 7)) : CId l yX9_leave wsX9_leave 2 D tys [.ref (ad 0), .int p, .int q, .int m] (wMod cI ad vc vr vn ne vs li ba de qp qt ql qs qc ch ap un ro pi si pl rq dy en th) (-1) (wMod cI ad vc vr vn ne vs li ba de qp qt ql qs qc ch ap un ro pi si pl rq dy en 1) := by
  refine CI_of (maxL := 4) (cc := cX9_leave) (y := yX9_leave) rfl rfl (Nat.le_of_ble_eq_true rfl) (fun X hl hD hk hn hcz hsz o fin => ?_)
  subst hl; subst hD; subst hk
  refine V_aload_n (pc := 0) o dX9_leave_0 rfl ?_
  refine V_aload_n (pc := 1) o dX9_leave_1 rfl ?_
  refine V_iload_n (pc := 2) o dX9_leave_2 rfl ?_
  refine V_rVi (pc := 3) o (k9_eightF _ _ _ cI ht ad vc vr vn ne vs li ba de qp qt ql qs qc ch ap un ro pi si pl rq dy en th p h) 0 21 gX9_leave_X9_isEight rfl hdX9_isEight ⟨by omega, by decide⟩ rfl rfl rfl (Nat.le_of_ble_eq_true rfl) dX9_leave_3 rfl ?_
  refine V_if_eq (pc := 6) o 17 dX9_leave_6 (by decide) (fun _ => ?_) (fun c6 => absurd c6 (by decide))
  refine V_iconst (pc := 17) o 1 dX9_leave_17 (by decide) ?_
  refine V_goto (pc := 18) o 42 dX9_leave_18 (by decide) ?_
  refine V_wVi (pc := 42) o (k9_holds _ _ _ cI ht ad vc vr vn ne vs li ba de qp qt ql qs qc ch ap un ro pi si pl rq dy en th 1) 0 21 (wMod cI ad vc vr vn ne vs li ba de qp qt ql qs qc ch ap un ro pi si pl rq dy en 1) gX9_leave_X9_holds rfl hdX9_holds ⟨by omega, by decide⟩ rfl rfl rfl (Nat.le_of_ble_eq_true rfl) dX9_leave_42 rfl rfl ?_
  refine V_ifT (by decide) ?_
  refine V_if_eq (pc := 45) o 50 dX9_leave_45 (by decide) (fun c45 => absurd c45 (by decide)) (fun _ => ?_)
  refine V_iconst (pc := 48) o (-1) dX9_leave_48 (by decide) ?_
  exact fin 49 _ _ () dX9_leave_49 rfl rfl
set_option maxHeartbeats 4000000 in
set_option maxRecDepth 100000 in
/-- reference: leave1b -/
theorem k9_leave1b (l : Launch) (D : va_G) (tys : List (ClassId × FieldType)) (cI : ClassId) (ht : tys[0]? = some (cI, .int)) (ad : Nat → Nat) (vc : Nat → Nat) (vr : Nat → Nat) (vn : Nat → Nat) (ne : Nat → Nat) (vs : Nat → Nat) (li : Nat → Nat) (ba : Nat → Nat) (de : Nat → Nat) (qp : Nat → Nat) (qt : Nat → Nat) (ql : Nat → Nat) (qs : Nat → Nat) (qc : Nat → Nat) (ch : Nat → Nat) (ap : Nat → Nat) (un : Nat → Int32) (ro : Nat → Nat) (pi : Nat → Nat) (si : Nat → Nat) (pl : Nat → Int32) (rq : Nat) (dy : Nat) (en : Nat) (th : Int32) (p : Nat) (hp : p < 8) (q m : Int32) (h : ¬ ((0 : Int32) ≤ q ∧ q ≤ 7)) : CId l yX9_leave wsX9_leave 2 D tys [.ref (ad 0), .int (nI p), .int q, .int m] (wMod cI ad vc vr vn ne vs li ba de qp qt ql qs qc ch ap un ro pi si pl rq dy en th) (-1) (wMod cI ad vc vr vn ne vs li ba de qp qt ql qs qc ch ap un ro pi si pl rq dy en 1) := by
  refine CI_of (maxL := 4) (cc := cX9_leave) (y := yX9_leave) rfl rfl (Nat.le_of_ble_eq_true rfl) (fun X hl hD hk hn hcz hsz o fin => ?_)
  subst hl; subst hD; subst hk
  refine V_aload_n (pc := 0) o dX9_leave_0 rfl ?_
  refine V_aload_n (pc := 1) o dX9_leave_1 rfl ?_
  refine V_iload_n (pc := 2) o dX9_leave_2 rfl ?_
  refine V_rVi (pc := 3) o (k9_eightT _ _ _ cI ht ad vc vr vn ne vs li ba de qp qt ql qs qc ch ap un ro pi si pl rq dy en th p (by omega)) 0 21 gX9_leave_X9_isEight rfl hdX9_isEight ⟨by omega, by decide⟩ rfl rfl rfl (Nat.le_of_ble_eq_true rfl) dX9_leave_3 rfl ?_
  refine V_if_eq (pc := 6) o 17 dX9_leave_6 (by decide) (fun c6 => absurd c6 (by decide)) (fun _ => ?_)
  refine V_aload_n (pc := 9) o dX9_leave_9 rfl ?_
  refine V_iload_n (pc := 10) o dX9_leave_10 rfl ?_
  refine V_rVi (pc := 11) o (k9_eightF _ _ _ cI ht ad vc vr vn ne vs li ba de qp qt ql qs qc ch ap un ro pi si pl rq dy en th q h) 0 21 gX9_leave_X9_isEight rfl hdX9_isEight ⟨by omega, by decide⟩ rfl rfl rfl (Nat.le_of_ble_eq_true rfl) dX9_leave_11 rfl ?_
  refine V_if_ne (pc := 14) o 21 dX9_leave_14 (by decide) (fun c14 => absurd c14 (by decide)) (fun _ => ?_)
  refine V_iconst (pc := 17) o 1 dX9_leave_17 (by decide) ?_
  refine V_goto (pc := 18) o 42 dX9_leave_18 (by decide) ?_
  refine V_wVi (pc := 42) o (k9_holds _ _ _ cI ht ad vc vr vn ne vs li ba de qp qt ql qs qc ch ap un ro pi si pl rq dy en th 1) 0 21 (wMod cI ad vc vr vn ne vs li ba de qp qt ql qs qc ch ap un ro pi si pl rq dy en 1) gX9_leave_X9_holds rfl hdX9_holds ⟨by omega, by decide⟩ rfl rfl rfl (Nat.le_of_ble_eq_true rfl) dX9_leave_42 rfl rfl ?_
  refine V_ifT (by decide) ?_
  refine V_if_eq (pc := 45) o 50 dX9_leave_45 (by decide) (fun c45 => absurd c45 (by decide)) (fun _ => ?_)
  refine V_iconst (pc := 48) o (-1) dX9_leave_48 (by decide) ?_
  exact fin 49 _ _ () dX9_leave_49 rfl rfl
set_option maxHeartbeats 4000000 in
set_option maxRecDepth 100000 in
/-- reference: leave2a -/
theorem k9_leave2a (l : Launch) (D : va_G) (tys : List (ClassId × FieldType)) (cI : ClassId) (ht : tys[0]? = some (cI, .int)) (ad : Nat → Nat) (vc : Nat → Nat) (vr : Nat → Nat) (vn : Nat → Nat) (ne : Nat → Nat) (vs : Nat → Nat) (li : Nat → Nat) (ba : Nat → Nat) (de : Nat → Nat) (qp : Nat → Nat) (qt : Nat → Nat) (ql : Nat → Nat) (qs : Nat → Nat) (qc : Nat → Nat) (ch : Nat → Nat) (ap : Nat → Nat) (un : Nat → Int32) (ro : Nat → Nat) (pi : Nat → Nat) (si : Nat → Nat) (pl : Nat → Int32) (rq : Nat) (dy : Nat) (en : Nat) (th : Int32) (p q : Nat) (hp : p < 8) (hq : q < 8) (m : Int32) (h : p = q) : CId l yX9_leave wsX9_leave 2 D tys [.ref (ad 0), .int (nI p), .int (nI q), .int m] (wMod cI ad vc vr vn ne vs li ba de qp qt ql qs qc ch ap un ro pi si pl rq dy en th) (-1) (wMod cI ad vc vr vn ne vs li ba de qp qt ql qs qc ch ap un ro pi si pl rq dy en 2) := by
  refine CI_of (maxL := 4) (cc := cX9_leave) (y := yX9_leave) rfl rfl (Nat.le_of_ble_eq_true rfl) (fun X hl hD hk hn hcz hsz o fin => ?_)
  subst hl; subst hD; subst hk
  refine V_aload_n (pc := 0) o dX9_leave_0 rfl ?_
  refine V_aload_n (pc := 1) o dX9_leave_1 rfl ?_
  refine V_iload_n (pc := 2) o dX9_leave_2 rfl ?_
  refine V_rVi (pc := 3) o (k9_eightT _ _ _ cI ht ad vc vr vn ne vs li ba de qp qt ql qs qc ch ap un ro pi si pl rq dy en th p (by omega)) 0 21 gX9_leave_X9_isEight rfl hdX9_isEight ⟨by omega, by decide⟩ rfl rfl rfl (Nat.le_of_ble_eq_true rfl) dX9_leave_3 rfl ?_
  refine V_if_eq (pc := 6) o 17 dX9_leave_6 (by decide) (fun c6 => absurd c6 (by decide)) (fun _ => ?_)
  refine V_aload_n (pc := 9) o dX9_leave_9 rfl ?_
  refine V_iload_n (pc := 10) o dX9_leave_10 rfl ?_
  refine V_rVi (pc := 11) o (k9_eightT _ _ _ cI ht ad vc vr vn ne vs li ba de qp qt ql qs qc ch ap un ro pi si pl rq dy en th q (by omega)) 0 21 gX9_leave_X9_isEight rfl hdX9_isEight ⟨by omega, by decide⟩ rfl rfl rfl (Nat.le_of_ble_eq_true rfl) dX9_leave_11 rfl ?_
  refine V_if_ne (pc := 14) o 21 dX9_leave_14 (by decide) (fun _ => ?_) (fun c14 => absurd c14 (by decide))
  refine V_iload_n (pc := 21) o dX9_leave_21 rfl ?_
  refine V_iload_n (pc := 22) o dX9_leave_22 rfl ?_
  refine V_icmp_eqN (pc := 23) o 37 p q rfl rfl (by omega) (by omega) dX9_leave_23 (by decide) (fun c23 => ?_) (fun c23 => absurd c23 (by omega))
  refine V_iconst (pc := 37) o 2 dX9_leave_37 (by decide) ?_
  refine V_goto (pc := 38) o 42 dX9_leave_38 (by decide) ?_
  refine V_wVi (pc := 42) o (k9_holds _ _ _ cI ht ad vc vr vn ne vs li ba de qp qt ql qs qc ch ap un ro pi si pl rq dy en th 2) 0 21 (wMod cI ad vc vr vn ne vs li ba de qp qt ql qs qc ch ap un ro pi si pl rq dy en 2) gX9_leave_X9_holds rfl hdX9_holds ⟨by omega, by decide⟩ rfl rfl rfl (Nat.le_of_ble_eq_true rfl) dX9_leave_42 rfl rfl ?_
  refine V_ifT (by decide) ?_
  refine V_if_eq (pc := 45) o 50 dX9_leave_45 (by decide) (fun c45 => absurd c45 (by decide)) (fun _ => ?_)
  refine V_iconst (pc := 48) o (-1) dX9_leave_48 (by decide) ?_
  exact fin 49 _ _ () dX9_leave_49 rfl rfl
set_option maxHeartbeats 4000000 in
set_option maxRecDepth 100000 in
/-- reference: leave2b -/
theorem k9_leave2b (l : Launch) (D : va_G) (tys : List (ClassId × FieldType)) (cI : ClassId) (ht : tys[0]? = some (cI, .int)) (ad : Nat → Nat) (vc : Nat → Nat) (vr : Nat → Nat) (vn : Nat → Nat) (ne : Nat → Nat) (vs : Nat → Nat) (li : Nat → Nat) (ba : Nat → Nat) (de : Nat → Nat) (qp : Nat → Nat) (qt : Nat → Nat) (ql : Nat → Nat) (qs : Nat → Nat) (qc : Nat → Nat) (ch : Nat → Nat) (ap : Nat → Nat) (un : Nat → Int32) (ro : Nat → Nat) (pi : Nat → Nat) (si : Nat → Nat) (pl : Nat → Int32) (rq : Nat) (dy : Nat) (en : Nat) (th : Int32) (p q : Nat) (hp : p < 8) (hq : q < 8) (m : Int32) (h2 : ¬ p = q) (h : ¬ ((1 : Int32) ≤ m ∧ m ≤ 60)) : CId l yX9_leave wsX9_leave 2 D tys [.ref (ad 0), .int (nI p), .int (nI q), .int m] (wMod cI ad vc vr vn ne vs li ba de qp qt ql qs qc ch ap un ro pi si pl rq dy en th) (-1) (wMod cI ad vc vr vn ne vs li ba de qp qt ql qs qc ch ap un ro pi si pl rq dy en 2) := by
  refine CI_of (maxL := 4) (cc := cX9_leave) (y := yX9_leave) rfl rfl (Nat.le_of_ble_eq_true rfl) (fun X hl hD hk hn hcz hsz o fin => ?_)
  subst hl; subst hD; subst hk
  refine V_aload_n (pc := 0) o dX9_leave_0 rfl ?_
  refine V_aload_n (pc := 1) o dX9_leave_1 rfl ?_
  refine V_iload_n (pc := 2) o dX9_leave_2 rfl ?_
  refine V_rVi (pc := 3) o (k9_eightT _ _ _ cI ht ad vc vr vn ne vs li ba de qp qt ql qs qc ch ap un ro pi si pl rq dy en th p (by omega)) 0 21 gX9_leave_X9_isEight rfl hdX9_isEight ⟨by omega, by decide⟩ rfl rfl rfl (Nat.le_of_ble_eq_true rfl) dX9_leave_3 rfl ?_
  refine V_if_eq (pc := 6) o 17 dX9_leave_6 (by decide) (fun c6 => absurd c6 (by decide)) (fun _ => ?_)
  refine V_aload_n (pc := 9) o dX9_leave_9 rfl ?_
  refine V_iload_n (pc := 10) o dX9_leave_10 rfl ?_
  refine V_rVi (pc := 11) o (k9_eightT _ _ _ cI ht ad vc vr vn ne vs li ba de qp qt ql qs qc ch ap un ro pi si pl rq dy en th q (by omega)) 0 21 gX9_leave_X9_isEight rfl hdX9_isEight ⟨by omega, by decide⟩ rfl rfl rfl (Nat.le_of_ble_eq_true rfl) dX9_leave_11 rfl ?_
  refine V_if_ne (pc := 14) o 21 dX9_leave_14 (by decide) (fun _ => ?_) (fun c14 => absurd c14 (by decide))
  refine V_iload_n (pc := 21) o dX9_leave_21 rfl ?_
  refine V_iload_n (pc := 22) o dX9_leave_22 rfl ?_
  refine V_icmp_eqN (pc := 23) o 37 p q rfl rfl (by omega) (by omega) dX9_leave_23 (by decide) (fun c23 => absurd c23 (by omega)) (fun c23 => ?_)
  refine V_aload_n (pc := 26) o dX9_leave_26 rfl ?_
  refine V_iload_n (pc := 27) o dX9_leave_27 rfl ?_
  refine V_iconst (pc := 28) o 1 dX9_leave_28 (by decide) ?_
  refine V_bipush (pc := 29) o 60 dX9_leave_29 (by decide) ?_
  refine V_rVi (pc := 31) o (k9_in _ _ _ cI ht ad vc vr vn ne vs li ba de qp qt ql qs qc ch ap un ro pi si pl rq dy en th m 1 60) 0 21 gX9_leave_X9_in rfl hdX9_in ⟨by omega, by decide⟩ rfl rfl rfl (Nat.le_of_ble_eq_true rfl) dX9_leave_31 rfl ?_
  refine V_ifF (h) ?_
  refine V_if_ne (pc := 34) o 41 dX9_leave_34 (by decide) (fun c34 => absurd c34 (by decide)) (fun _ => ?_)
  refine V_iconst (pc := 37) o 2 dX9_leave_37 (by decide) ?_
  refine V_goto (pc := 38) o 42 dX9_leave_38 (by decide) ?_
  refine V_wVi (pc := 42) o (k9_holds _ _ _ cI ht ad vc vr vn ne vs li ba de qp qt ql qs qc ch ap un ro pi si pl rq dy en th 2) 0 21 (wMod cI ad vc vr vn ne vs li ba de qp qt ql qs qc ch ap un ro pi si pl rq dy en 2) gX9_leave_X9_holds rfl hdX9_holds ⟨by omega, by decide⟩ rfl rfl rfl (Nat.le_of_ble_eq_true rfl) dX9_leave_42 rfl rfl ?_
  refine V_ifT (by decide) ?_
  refine V_if_eq (pc := 45) o 50 dX9_leave_45 (by decide) (fun c45 => absurd c45 (by decide)) (fun _ => ?_)
  refine V_iconst (pc := 48) o (-1) dX9_leave_48 (by decide) ?_
  exact fin 49 _ _ () dX9_leave_49 rfl rfl
theorem hiX9_leave : ∀ w ∈ wsX90, w ∈ wsX9_leave := by decide +kernel
theorem lkX9_leave_28 : Cond.fieldLink RX9 28 RX9 "back" "[I" ∈ wsX9_leave := by decide +kernel
theorem lkX9_leave_119 : Cond.fieldLink RX9 119 RX9 "day" "I" ∈ wsX9_leave := by decide +kernel
theorem lkX9_leave_31 : Cond.fieldLink RX9 31 RX9 "deputy" "[I" ∈ wsX9_leave := by decide +kernel
theorem lkX9_leave_88 : Cond.fieldLink RX9 88 RX9 "entries" "I" ∈ wsX9_leave := by decide +kernel
set_option maxHeartbeats 4000000 in
set_option maxRecDepth 100000 in
/-- reference: leaveK -/
theorem k9_leaveK (l : Launch) (D : va_G) (tys : List (ClassId × FieldType)) (cI : ClassId) (ht : tys[0]? = some (cI, .int)) (ad : Nat → Nat) (vc : Nat → Nat) (vr : Nat → Nat) (vn : Nat → Nat) (ne : Nat → Nat) (vs : Nat → Nat) (li : Nat → Nat) (ba : Nat → Nat) (de : Nat → Nat) (qp : Nat → Nat) (qt : Nat → Nat) (ql : Nat → Nat) (qs : Nat → Nat) (qc : Nat → Nat) (ch : Nat → Nat) (ap : Nat → Nat) (un : Nat → Int32) (ro : Nat → Nat) (pi : Nat → Nat) (si : Nat → Nat) (pl : Nat → Int32) (rq : Nat) (dy : Nat) (en : Nat) (th : Int32) (p q m : Nat) (hp : p < 8) (hq : q < 8) (h2 : ¬ p = q) (hm : 1 ≤ m ∧ m ≤ 60) : CId l yX9_leave wsX9_leave 2 D tys [.ref (ad 0), .int (nI p), .int (nI q), .int (nI m)] (wMod cI ad vc vr vn ne vs li ba de qp qt ql qs qc ch ap un ro pi si pl rq dy en th) (nI (dy + m)) (wMod cI ad vc vr vn ne vs li (va_up ba p (dy + m)) (va_up de p q) qp qt ql qs qc ch ap un ro pi si pl rq dy (en + 1) 0) := by
  refine CI_of (maxL := 4) (cc := cX9_leave) (y := yX9_leave) rfl rfl (Nat.le_of_ble_eq_true rfl) (fun X hl hD hk hn hcz hsz o fin => ?_)
  subst hl; subst hD; subst hk
  refine V_aload_n (pc := 0) o dX9_leave_0 rfl ?_
  refine V_aload_n (pc := 1) o dX9_leave_1 rfl ?_
  refine V_iload_n (pc := 2) o dX9_leave_2 rfl ?_
  refine V_rVi (pc := 3) o (k9_eightT _ _ _ cI ht ad vc vr vn ne vs li ba de qp qt ql qs qc ch ap un ro pi si pl rq dy en th p (by omega)) 0 21 gX9_leave_X9_isEight rfl hdX9_isEight ⟨by omega, by decide⟩ rfl rfl rfl (Nat.le_of_ble_eq_true rfl) dX9_leave_3 rfl ?_
  refine V_if_eq (pc := 6) o 17 dX9_leave_6 (by decide) (fun c6 => absurd c6 (by decide)) (fun _ => ?_)
  refine V_aload_n (pc := 9) o dX9_leave_9 rfl ?_
  refine V_iload_n (pc := 10) o dX9_leave_10 rfl ?_
  refine V_rVi (pc := 11) o (k9_eightT _ _ _ cI ht ad vc vr vn ne vs li ba de qp qt ql qs qc ch ap un ro pi si pl rq dy en th q (by omega)) 0 21 gX9_leave_X9_isEight rfl hdX9_isEight ⟨by omega, by decide⟩ rfl rfl rfl (Nat.le_of_ble_eq_true rfl) dX9_leave_11 rfl ?_
  refine V_if_ne (pc := 14) o 21 dX9_leave_14 (by decide) (fun _ => ?_) (fun c14 => absurd c14 (by decide))
  refine V_iload_n (pc := 21) o dX9_leave_21 rfl ?_
  refine V_iload_n (pc := 22) o dX9_leave_22 rfl ?_
  refine V_icmp_eqN (pc := 23) o 37 p q rfl rfl (by omega) (by omega) dX9_leave_23 (by decide) (fun c23 => absurd c23 (by omega)) (fun c23 => ?_)
  refine V_aload_n (pc := 26) o dX9_leave_26 rfl ?_
  refine V_iload_n (pc := 27) o dX9_leave_27 rfl ?_
  refine V_iconst (pc := 28) o 1 dX9_leave_28 (by decide) ?_
  refine V_bipush (pc := 29) o 60 dX9_leave_29 (by decide) ?_
  refine V_rVi (pc := 31) o (k9_in _ _ _ cI ht ad vc vr vn ne vs li ba de qp qt ql qs qc ch ap un ro pi si pl rq dy en th (nI m) 1 60) 0 21 gX9_leave_X9_in rfl hdX9_in ⟨by omega, by decide⟩ rfl rfl rfl (Nat.le_of_ble_eq_true rfl) dX9_leave_31 rfl ?_
  refine V_ifT (⟨nI_le (a := 1) (by omega) (by omega), nI_le (b := 60) (by omega) (by omega)⟩) ?_
  refine V_if_ne (pc := 34) o 41 dX9_leave_34 (by decide) (fun _ => ?_) (fun c34 => absurd c34 (by decide))
  refine V_iconst (pc := 41) o 0 dX9_leave_41 (by decide) ?_
  refine V_wVi (pc := 42) o (k9_holds _ _ _ cI ht ad vc vr vn ne vs li ba de qp qt ql qs qc ch ap un ro pi si pl rq dy en th 0) 0 21 (wMod cI ad vc vr vn ne vs li ba de qp qt ql qs qc ch ap un ro pi si pl rq dy en 0) gX9_leave_X9_holds rfl hdX9_holds ⟨by omega, by decide⟩ rfl rfl rfl (Nat.le_of_ble_eq_true rfl) dX9_leave_42 rfl rfl ?_
  refine V_ifF (by decide) ?_
  refine V_if_eq (pc := 45) o 50 dX9_leave_45 (by decide) (fun _ => ?_) (fun c45 => absurd c45 (by decide))
  refine V_aload_n (pc := 50) o dX9_leave_50 rfl ?_
  refine V_get (pc := 51) o 0 6 hiX9_leave rfl rfl (by decide) lkX9_leave_28 rfl rfl dX9_leave_51 ?_
  refine V_iload_n (pc := 54) o dX9_leave_54 rfl ?_
  refine V_aload_n (pc := 55) o dX9_leave_55 rfl ?_
  refine V_get (pc := 56) o 0 17 hiX9_leave rfl rfl (by decide) lkX9_leave_119 rfl rfl dX9_leave_56 ?_
  refine V_iload_n (pc := 59) o dX9_leave_59 rfl ?_
  refine V_iaddN (pc := 60) o dy m rfl rfl dX9_leave_60 ?_
  refine V_iastN (pc := 61) o 7 ba p (dy + m) rfl ht rfl rfl (by omega) (by decide) dX9_leave_61 ?_
  refine V_eq (ws2 := wMod cI ad vc vr vn ne vs li (va_up ba p (dy + m)) de qp qt ql qs qc ch ap un ro pi si pl rq dy en 0) rfl rfl ?_
  refine V_aload_n (pc := 62) o dX9_leave_62 rfl ?_
  refine V_get (pc := 63) o 0 7 hiX9_leave rfl rfl (by decide) lkX9_leave_31 rfl rfl dX9_leave_63 ?_
  refine V_iload_n (pc := 66) o dX9_leave_66 rfl ?_
  refine V_iload_n (pc := 67) o dX9_leave_67 rfl ?_
  refine V_iastN (pc := 68) o 8 de p q rfl ht rfl rfl (by omega) (by decide) dX9_leave_68 ?_
  refine V_eq (ws2 := wMod cI ad vc vr vn ne vs li (va_up ba p (dy + m)) (va_up de p q) qp qt ql qs qc ch ap un ro pi si pl rq dy en 0) rfl rfl ?_
  refine V_aload_n (pc := 69) o dX9_leave_69 rfl ?_
  refine V_dup (pc := 70) o rfl dX9_leave_70 ?_
  refine V_get (pc := 71) o 0 18 hiX9_leave rfl rfl (by decide) lkX9_leave_88 rfl rfl dX9_leave_71 ?_
  refine V_iconst (pc := 74) o 1 dX9_leave_74 (by decide) ?_
  refine V_iaddN (pc := 75) o en 1 rfl rfl dX9_leave_75 ?_
  refine V_put (pc := 76) o 0 18 hiX9_leave tyX9 tyX9_ok nmX9 rfl rfl (by decide) lkX9_leave_88 rfl rfl rfl rfl rfl (Nat.le_of_ble_eq_true rfl) dX9_leave_76 ?_
  refine V_eq (ws2 := wMod cI ad vc vr vn ne vs li (va_up ba p (dy + m)) (va_up de p q) qp qt ql qs qc ch ap un ro pi si pl rq dy (en + 1) 0) rfl rfl ?_
  refine V_aload_n (pc := 79) o dX9_leave_79 rfl ?_
  refine V_get (pc := 80) o 0 6 hiX9_leave rfl rfl (by decide) lkX9_leave_28 rfl rfl dX9_leave_80 ?_
  refine V_iload_n (pc := 83) o dX9_leave_83 rfl ?_
  refine V_ialdN (pc := 84) o 7 (va_up ba p (dy + m)) p rfl ht rfl (by omega) (by decide) dX9_leave_84 ?_
  exact fin 85 _ _ () dX9_leave_85 rfl (by first | rfl | simp [va_up])
theorem hdX9_request : yX9_request.cls = RX9 ∧ yX9_request.cls ≠ "java/lang/invoke/MethodHandle" ∧ yX9_request.cls ≠ "java/lang/invoke/VarHandle" ∧ (parseMethodDescriptor yX9_request.desc).map (fun d => d.parameters.length) = some 3 := by decide +kernel
set_option maxHeartbeats 4000000 in
set_option maxRecDepth 100000 in
/-- reference: request1a -/
theorem k9_request1a (l : Launch) (D : va_G) (tys : List (ClassId × FieldType)) (cI : ClassId) (ht : tys[0]? = some (cI, .int)) (ad : Nat → Nat) (vc : Nat → Nat) (vr : Nat → Nat) (vn : Nat → Nat) (ne : Nat → Nat) (vs : Nat → Nat) (li : Nat → Nat) (ba : Nat → Nat) (de : Nat → Nat) (qp : Nat → Nat) (qt : Nat → Nat) (ql : Nat → Nat) (qs : Nat → Nat) (qc : Nat → Nat) (ch : Nat → Nat) (ap : Nat → Nat) (un : Nat → Int32) (ro : Nat → Nat) (pi : Nat → Nat) (si : Nat → Nat) (pl : Nat → Int32) (rq : Nat) (dy : Nat) (en : Nat) (th : Int32) (p q a : Int32) (h : ¬ ((0 : Int32) ≤ p ∧ p ≤ 7)) : CId l yX9_request wsX9_request 2 D tys [.ref (ad 0), .int p, .int q, .int a] (wMod cI ad vc vr vn ne vs li ba de qp qt ql qs qc ch ap un ro pi si pl rq dy en th) (-1) (wMod cI ad vc vr vn ne vs li ba de qp qt ql qs qc ch ap un ro pi si pl rq dy en 1) := by
  refine CI_of (maxL := 4) (cc := cX9_request) (y := yX9_request) rfl rfl (Nat.le_of_ble_eq_true rfl) (fun X hl hD hk hn hcz hsz o fin => ?_)
  subst hl; subst hD; subst hk
  refine V_aload_n (pc := 0) o dX9_request_0 rfl ?_
  refine V_aload_n (pc := 1) o dX9_request_1 rfl ?_
  refine V_iload_n (pc := 2) o dX9_request_2 rfl ?_
  refine V_rVi (pc := 3) o (k9_eightF _ _ _ cI ht ad vc vr vn ne vs li ba de qp qt ql qs qc ch ap un ro pi si pl rq dy en th p h) 0 21 gX9_request_X9_isEight rfl hdX9_isEight ⟨by omega, by decide⟩ rfl rfl rfl (Nat.le_of_ble_eq_true rfl) dX9_request_3 rfl ?_
  refine V_if_eq (pc := 6) o 17 dX9_request_6 (by decide) (fun _ => ?_) (fun c6 => absurd c6 (by decide))
  refine V_iconst (pc := 17) o 1 dX9_request_17 (by decide) ?_
  refine V_goto (pc := 18) o 49 dX9_request_18 (by decide) ?_
  refine V_wVi (pc := 49) o (k9_holds _ _ _ cI ht ad vc vr vn ne vs li ba de qp qt ql qs qc ch ap un ro pi si pl rq dy en th 1) 0 21 (wMod cI ad vc vr vn ne vs li ba de qp qt ql qs qc ch ap un ro pi si pl rq dy en 1) gX9_request_X9_holds rfl hdX9_holds ⟨by omega, by decide⟩ rfl rfl rfl (Nat.le_of_ble_eq_true rfl) dX9_request_49 rfl rfl ?_
  refine V_ifT (by decide) ?_
  refine V_if_eq (pc := 52) o 57 dX9_request_52 (by decide) (fun c52 => absurd c52 (by decide)) (fun _ => ?_)
  refine V_iconst (pc := 55) o (-1) dX9_request_55 (by decide) ?_
  exact fin 56 _ _ () dX9_request_56 rfl rfl
set_option maxHeartbeats 4000000 in
set_option maxRecDepth 100000 in
/-- reference: request1b -/
theorem k9_request1b (l : Launch) (D : va_G) (tys : List (ClassId × FieldType)) (cI : ClassId) (ht : tys[0]? = some (cI, .int)) (ad : Nat → Nat) (vc : Nat → Nat) (vr : Nat → Nat) (vn : Nat → Nat) (ne : Nat → Nat) (vs : Nat → Nat) (li : Nat → Nat) (ba : Nat → Nat) (de : Nat → Nat) (qp : Nat → Nat) (qt : Nat → Nat) (ql : Nat → Nat) (qs : Nat → Nat) (qc : Nat → Nat) (ch : Nat → Nat) (ap : Nat → Nat) (un : Nat → Int32) (ro : Nat → Nat) (pi : Nat → Nat) (si : Nat → Nat) (pl : Nat → Int32) (rq : Nat) (dy : Nat) (en : Nat) (th : Int32) (p : Nat) (hp : p < 8) (q a : Int32) (h : ¬ ((0 : Int32) ≤ q ∧ q ≤ 7)) : CId l yX9_request wsX9_request 2 D tys [.ref (ad 0), .int (nI p), .int q, .int a] (wMod cI ad vc vr vn ne vs li ba de qp qt ql qs qc ch ap un ro pi si pl rq dy en th) (-1) (wMod cI ad vc vr vn ne vs li ba de qp qt ql qs qc ch ap un ro pi si pl rq dy en 1) := by
  refine CI_of (maxL := 4) (cc := cX9_request) (y := yX9_request) rfl rfl (Nat.le_of_ble_eq_true rfl) (fun X hl hD hk hn hcz hsz o fin => ?_)
  subst hl; subst hD; subst hk
  refine V_aload_n (pc := 0) o dX9_request_0 rfl ?_
  refine V_aload_n (pc := 1) o dX9_request_1 rfl ?_
  refine V_iload_n (pc := 2) o dX9_request_2 rfl ?_
  refine V_rVi (pc := 3) o (k9_eightT _ _ _ cI ht ad vc vr vn ne vs li ba de qp qt ql qs qc ch ap un ro pi si pl rq dy en th p (by omega)) 0 21 gX9_request_X9_isEight rfl hdX9_isEight ⟨by omega, by decide⟩ rfl rfl rfl (Nat.le_of_ble_eq_true rfl) dX9_request_3 rfl ?_
  refine V_if_eq (pc := 6) o 17 dX9_request_6 (by decide) (fun c6 => absurd c6 (by decide)) (fun _ => ?_)
  refine V_aload_n (pc := 9) o dX9_request_9 rfl ?_
  refine V_iload_n (pc := 10) o dX9_request_10 rfl ?_
  refine V_rVi (pc := 11) o (k9_eightF _ _ _ cI ht ad vc vr vn ne vs li ba de qp qt ql qs qc ch ap un ro pi si pl rq dy en th q h) 0 21 gX9_request_X9_isEight rfl hdX9_isEight ⟨by omega, by decide⟩ rfl rfl rfl (Nat.le_of_ble_eq_true rfl) dX9_request_11 rfl ?_
  refine V_if_ne (pc := 14) o 21 dX9_request_14 (by decide) (fun c14 => absurd c14 (by decide)) (fun _ => ?_)
  refine V_iconst (pc := 17) o 1 dX9_request_17 (by decide) ?_
  refine V_goto (pc := 18) o 49 dX9_request_18 (by decide) ?_
  refine V_wVi (pc := 49) o (k9_holds _ _ _ cI ht ad vc vr vn ne vs li ba de qp qt ql qs qc ch ap un ro pi si pl rq dy en th 1) 0 21 (wMod cI ad vc vr vn ne vs li ba de qp qt ql qs qc ch ap un ro pi si pl rq dy en 1) gX9_request_X9_holds rfl hdX9_holds ⟨by omega, by decide⟩ rfl rfl rfl (Nat.le_of_ble_eq_true rfl) dX9_request_49 rfl rfl ?_
  refine V_ifT (by decide) ?_
  refine V_if_eq (pc := 52) o 57 dX9_request_52 (by decide) (fun c52 => absurd c52 (by decide)) (fun _ => ?_)
  refine V_iconst (pc := 55) o (-1) dX9_request_55 (by decide) ?_
  exact fin 56 _ _ () dX9_request_56 rfl rfl
set_option maxHeartbeats 4000000 in
set_option maxRecDepth 100000 in
/-- reference: request2 -/
theorem k9_request2 (l : Launch) (D : va_G) (tys : List (ClassId × FieldType)) (cI : ClassId) (ht : tys[0]? = some (cI, .int)) (ad : Nat → Nat) (vc : Nat → Nat) (vr : Nat → Nat) (vn : Nat → Nat) (ne : Nat → Nat) (vs : Nat → Nat) (li : Nat → Nat) (ba : Nat → Nat) (de : Nat → Nat) (qp : Nat → Nat) (qt : Nat → Nat) (ql : Nat → Nat) (qs : Nat → Nat) (qc : Nat → Nat) (ch : Nat → Nat) (ap : Nat → Nat) (un : Nat → Int32) (ro : Nat → Nat) (pi : Nat → Nat) (si : Nat → Nat) (pl : Nat → Int32) (rq : Nat) (dy : Nat) (en : Nat) (th : Int32) (p q : Nat) (hp : p < 8) (hq : q < 8) (a : Int32) (h : ¬ ((1 : Int32) ≤ a ∧ a ≤ 3)) : CId l yX9_request wsX9_request 2 D tys [.ref (ad 0), .int (nI p), .int (nI q), .int a] (wMod cI ad vc vr vn ne vs li ba de qp qt ql qs qc ch ap un ro pi si pl rq dy en th) (-1) (wMod cI ad vc vr vn ne vs li ba de qp qt ql qs qc ch ap un ro pi si pl rq dy en 2) := by
  refine CI_of (maxL := 4) (cc := cX9_request) (y := yX9_request) rfl rfl (Nat.le_of_ble_eq_true rfl) (fun X hl hD hk hn hcz hsz o fin => ?_)
  subst hl; subst hD; subst hk
  refine V_aload_n (pc := 0) o dX9_request_0 rfl ?_
  refine V_aload_n (pc := 1) o dX9_request_1 rfl ?_
  refine V_iload_n (pc := 2) o dX9_request_2 rfl ?_
  refine V_rVi (pc := 3) o (k9_eightT _ _ _ cI ht ad vc vr vn ne vs li ba de qp qt ql qs qc ch ap un ro pi si pl rq dy en th p (by omega)) 0 21 gX9_request_X9_isEight rfl hdX9_isEight ⟨by omega, by decide⟩ rfl rfl rfl (Nat.le_of_ble_eq_true rfl) dX9_request_3 rfl ?_
  refine V_if_eq (pc := 6) o 17 dX9_request_6 (by decide) (fun c6 => absurd c6 (by decide)) (fun _ => ?_)
  refine V_aload_n (pc := 9) o dX9_request_9 rfl ?_
  refine V_iload_n (pc := 10) o dX9_request_10 rfl ?_
  refine V_rVi (pc := 11) o (k9_eightT _ _ _ cI ht ad vc vr vn ne vs li ba de qp qt ql qs qc ch ap un ro pi si pl rq dy en th q (by omega)) 0 21 gX9_request_X9_isEight rfl hdX9_isEight ⟨by omega, by decide⟩ rfl rfl rfl (Nat.le_of_ble_eq_true rfl) dX9_request_11 rfl ?_
  refine V_if_ne (pc := 14) o 21 dX9_request_14 (by decide) (fun _ => ?_) (fun c14 => absurd c14 (by decide))
  refine V_aload_n (pc := 21) o dX9_request_21 rfl ?_
  refine V_iload_n (pc := 22) o dX9_request_22 rfl ?_
  refine V_iconst (pc := 23) o 1 dX9_request_23 (by decide) ?_
  refine V_iconst (pc := 24) o 3 dX9_request_24 (by decide) ?_
  refine V_rVi (pc := 25) o (k9_in _ _ _ cI ht ad vc vr vn ne vs li ba de qp qt ql qs qc ch ap un ro pi si pl rq dy en th a 1 3) 0 21 gX9_request_X9_in rfl hdX9_in ⟨by omega, by decide⟩ rfl rfl rfl (Nat.le_of_ble_eq_true rfl) dX9_request_25 rfl ?_
  refine V_ifF (h) ?_
  refine V_if_ne (pc := 28) o 35 dX9_request_28 (by decide) (fun c28 => absurd c28 (by decide)) (fun _ => ?_)
  refine V_iconst (pc := 31) o 2 dX9_request_31 (by decide) ?_
  refine V_goto (pc := 32) o 49 dX9_request_32 (by decide) ?_
  refine V_wVi (pc := 49) o (k9_holds _ _ _ cI ht ad vc vr vn ne vs li ba de qp qt ql qs qc ch ap un ro pi si pl rq dy en th 2) 0 21 (wMod cI ad vc vr vn ne vs li ba de qp qt ql qs qc ch ap un ro pi si pl rq dy en 2) gX9_request_X9_holds rfl hdX9_holds ⟨by omega, by decide⟩ rfl rfl rfl (Nat.le_of_ble_eq_true rfl) dX9_request_49 rfl rfl ?_
  refine V_ifT (by decide) ?_
  refine V_if_eq (pc := 52) o 57 dX9_request_52 (by decide) (fun c52 => absurd c52 (by decide)) (fun _ => ?_)
  refine V_iconst (pc := 55) o (-1) dX9_request_55 (by decide) ?_
  exact fin 56 _ _ () dX9_request_56 rfl rfl
theorem hiX9_request : ∀ w ∈ wsX90, w ∈ wsX9_request := by decide +kernel
theorem lkX9_request_82 : Cond.fieldLink RX9 82 RX9 "requests" "I" ∈ wsX9_request := by decide +kernel
set_option maxHeartbeats 4000000 in
set_option maxRecDepth 100000 in
/-- reference: request3 -/
theorem k9_request3 (l : Launch) (D : va_G) (tys : List (ClassId × FieldType)) (cI : ClassId) (ht : tys[0]? = some (cI, .int)) (ad : Nat → Nat) (vc : Nat → Nat) (vr : Nat → Nat) (vn : Nat → Nat) (ne : Nat → Nat) (vs : Nat → Nat) (li : Nat → Nat) (ba : Nat → Nat) (de : Nat → Nat) (qp : Nat → Nat) (qt : Nat → Nat) (ql : Nat → Nat) (qs : Nat → Nat) (qc : Nat → Nat) (ch : Nat → Nat) (ap : Nat → Nat) (un : Nat → Int32) (ro : Nat → Nat) (pi : Nat → Nat) (si : Nat → Nat) (pl : Nat → Int32) (rq : Nat) (dy : Nat) (en : Nat) (th : Int32) (p q a : Nat) (hp : p < 8) (hq : q < 8) (ha : 1 ≤ a ∧ a ≤ 3) (h : rq = 30) : CId l yX9_request wsX9_request 2 D tys [.ref (ad 0), .int (nI p), .int (nI q), .int (nI a)] (wMod cI ad vc vr vn ne vs li ba de qp qt ql qs qc ch ap un ro pi si pl rq dy en th) (-1) (wMod cI ad vc vr vn ne vs li ba de qp qt ql qs qc ch ap un ro pi si pl rq dy en 3) := by
  refine CI_of (maxL := 4) (cc := cX9_request) (y := yX9_request) rfl rfl (Nat.le_of_ble_eq_true rfl) (fun X hl hD hk hn hcz hsz o fin => ?_)
  subst hl; subst hD; subst hk
  refine V_aload_n (pc := 0) o dX9_request_0 rfl ?_
  refine V_aload_n (pc := 1) o dX9_request_1 rfl ?_
  refine V_iload_n (pc := 2) o dX9_request_2 rfl ?_
  refine V_rVi (pc := 3) o (k9_eightT _ _ _ cI ht ad vc vr vn ne vs li ba de qp qt ql qs qc ch ap un ro pi si pl rq dy en th p (by omega)) 0 21 gX9_request_X9_isEight rfl hdX9_isEight ⟨by omega, by decide⟩ rfl rfl rfl (Nat.le_of_ble_eq_true rfl) dX9_request_3 rfl ?_
  refine V_if_eq (pc := 6) o 17 dX9_request_6 (by decide) (fun c6 => absurd c6 (by decide)) (fun _ => ?_)
  refine V_aload_n (pc := 9) o dX9_request_9 rfl ?_
  refine V_iload_n (pc := 10) o dX9_request_10 rfl ?_
  refine V_rVi (pc := 11) o (k9_eightT _ _ _ cI ht ad vc vr vn ne vs li ba de qp qt ql qs qc ch ap un ro pi si pl rq dy en th q (by omega)) 0 21 gX9_request_X9_isEight rfl hdX9_isEight ⟨by omega, by decide⟩ rfl rfl rfl (Nat.le_of_ble_eq_true rfl) dX9_request_11 rfl ?_
  refine V_if_ne (pc := 14) o 21 dX9_request_14 (by decide) (fun _ => ?_) (fun c14 => absurd c14 (by decide))
  refine V_aload_n (pc := 21) o dX9_request_21 rfl ?_
  refine V_iload_n (pc := 22) o dX9_request_22 rfl ?_
  refine V_iconst (pc := 23) o 1 dX9_request_23 (by decide) ?_
  refine V_iconst (pc := 24) o 3 dX9_request_24 (by decide) ?_
  refine V_rVi (pc := 25) o (k9_in _ _ _ cI ht ad vc vr vn ne vs li ba de qp qt ql qs qc ch ap un ro pi si pl rq dy en th (nI a) 1 3) 0 21 gX9_request_X9_in rfl hdX9_in ⟨by omega, by decide⟩ rfl rfl rfl (Nat.le_of_ble_eq_true rfl) dX9_request_25 rfl ?_
  refine V_ifT (⟨nI_le (a := 1) (by omega) (by omega), nI_le (b := 3) (by omega) (by omega)⟩) ?_
  refine V_if_ne (pc := 28) o 35 dX9_request_28 (by decide) (fun _ => ?_) (fun c28 => absurd c28 (by decide))
  refine V_aload_n (pc := 35) o dX9_request_35 rfl ?_
  refine V_get (pc := 36) o 0 16 hiX9_request rfl rfl (by decide) lkX9_request_82 rfl rfl dX9_request_36 ?_
  refine V_bipush (pc := 39) o 30 dX9_request_39 (by decide) ?_
  refine V_icmp_neN (pc := 41) o 48 rq 30 rfl rfl (by omega) (by omega) dX9_request_41 (by decide) (fun c41 => absurd c41 (by omega)) (fun c41 => ?_)
  refine V_iconst (pc := 44) o 3 dX9_request_44 (by decide) ?_
  refine V_goto (pc := 45) o 49 dX9_request_45 (by decide) ?_
  refine V_wVi (pc := 49) o (k9_holds _ _ _ cI ht ad vc vr vn ne vs li ba de qp qt ql qs qc ch ap un ro pi si pl rq dy en th 3) 0 21 (wMod cI ad vc vr vn ne vs li ba de qp qt ql qs qc ch ap un ro pi si pl rq dy en 3) gX9_request_X9_holds rfl hdX9_holds ⟨by omega, by decide⟩ rfl rfl rfl (Nat.le_of_ble_eq_true rfl) dX9_request_49 rfl rfl ?_
  refine V_ifT (by decide) ?_
  refine V_if_eq (pc := 52) o 57 dX9_request_52 (by decide) (fun c52 => absurd c52 (by decide)) (fun _ => ?_)
  refine V_iconst (pc := 55) o (-1) dX9_request_55 (by decide) ?_
  exact fin 56 _ _ () dX9_request_56 rfl rfl
theorem lkX9_request_34 : Cond.fieldLink RX9 34 RX9 "qp" "[I" ∈ wsX9_request := by decide +kernel
theorem lkX9_request_37 : Cond.fieldLink RX9 37 RX9 "qt" "[I" ∈ wsX9_request := by decide +kernel
theorem lkX9_request_40 : Cond.fieldLink RX9 40 RX9 "ql" "[I" ∈ wsX9_request := by decide +kernel
theorem lkX9_request_88 : Cond.fieldLink RX9 88 RX9 "entries" "I" ∈ wsX9_request := by decide +kernel
set_option maxHeartbeats 4000000 in
set_option maxRecDepth 100000 in
/-- reference: requestK -/
theorem k9_requestK (l : Launch) (D : va_G) (tys : List (ClassId × FieldType)) (cI : ClassId) (ht : tys[0]? = some (cI, .int)) (ad : Nat → Nat) (vc : Nat → Nat) (vr : Nat → Nat) (vn : Nat → Nat) (ne : Nat → Nat) (vs : Nat → Nat) (li : Nat → Nat) (ba : Nat → Nat) (de : Nat → Nat) (qp : Nat → Nat) (qt : Nat → Nat) (ql : Nat → Nat) (qs : Nat → Nat) (qc : Nat → Nat) (ch : Nat → Nat) (ap : Nat → Nat) (un : Nat → Int32) (ro : Nat → Nat) (pi : Nat → Nat) (si : Nat → Nat) (pl : Nat → Int32) (rq : Nat) (dy : Nat) (en : Nat) (th : Int32) (p q a : Nat) (hp : p < 8) (hq : q < 8) (ha : 1 ≤ a ∧ a ≤ 3) (h : rq < 30) : CId l yX9_request wsX9_request 2 D tys [.ref (ad 0), .int (nI p), .int (nI q), .int (nI a)] (wMod cI ad vc vr vn ne vs li ba de qp qt ql qs qc ch ap un ro pi si pl rq dy en th) (nI rq) (wMod cI ad vc vr vn ne vs li ba de (va_up qp rq p) (va_up qt rq q) (va_up ql rq a) qs qc ch ap un ro pi si pl (rq + 1) dy (en + 1) 0) := by
  refine CI_of (maxL := 4) (cc := cX9_request) (y := yX9_request) rfl rfl (Nat.le_of_ble_eq_true rfl) (fun X hl hD hk hn hcz hsz o fin => ?_)
  subst hl; subst hD; subst hk
  refine V_aload_n (pc := 0) o dX9_request_0 rfl ?_
  refine V_aload_n (pc := 1) o dX9_request_1 rfl ?_
  refine V_iload_n (pc := 2) o dX9_request_2 rfl ?_
  refine V_rVi (pc := 3) o (k9_eightT _ _ _ cI ht ad vc vr vn ne vs li ba de qp qt ql qs qc ch ap un ro pi si pl rq dy en th p (by omega)) 0 21 gX9_request_X9_isEight rfl hdX9_isEight ⟨by omega, by decide⟩ rfl rfl rfl (Nat.le_of_ble_eq_true rfl) dX9_request_3 rfl ?_
  refine V_if_eq (pc := 6) o 17 dX9_request_6 (by decide) (fun c6 => absurd c6 (by decide)) (fun _ => ?_)
  refine V_aload_n (pc := 9) o dX9_request_9 rfl ?_
  refine V_iload_n (pc := 10) o dX9_request_10 rfl ?_
  refine V_rVi (pc := 11) o (k9_eightT _ _ _ cI ht ad vc vr vn ne vs li ba de qp qt ql qs qc ch ap un ro pi si pl rq dy en th q (by omega)) 0 21 gX9_request_X9_isEight rfl hdX9_isEight ⟨by omega, by decide⟩ rfl rfl rfl (Nat.le_of_ble_eq_true rfl) dX9_request_11 rfl ?_
  refine V_if_ne (pc := 14) o 21 dX9_request_14 (by decide) (fun _ => ?_) (fun c14 => absurd c14 (by decide))
  refine V_aload_n (pc := 21) o dX9_request_21 rfl ?_
  refine V_iload_n (pc := 22) o dX9_request_22 rfl ?_
  refine V_iconst (pc := 23) o 1 dX9_request_23 (by decide) ?_
  refine V_iconst (pc := 24) o 3 dX9_request_24 (by decide) ?_
  refine V_rVi (pc := 25) o (k9_in _ _ _ cI ht ad vc vr vn ne vs li ba de qp qt ql qs qc ch ap un ro pi si pl rq dy en th (nI a) 1 3) 0 21 gX9_request_X9_in rfl hdX9_in ⟨by omega, by decide⟩ rfl rfl rfl (Nat.le_of_ble_eq_true rfl) dX9_request_25 rfl ?_
  refine V_ifT (⟨nI_le (a := 1) (by omega) (by omega), nI_le (b := 3) (by omega) (by omega)⟩) ?_
  refine V_if_ne (pc := 28) o 35 dX9_request_28 (by decide) (fun _ => ?_) (fun c28 => absurd c28 (by decide))
  refine V_aload_n (pc := 35) o dX9_request_35 rfl ?_
  refine V_get (pc := 36) o 0 16 hiX9_request rfl rfl (by decide) lkX9_request_82 rfl rfl dX9_request_36 ?_
  refine V_bipush (pc := 39) o 30 dX9_request_39 (by decide) ?_
  refine V_icmp_neN (pc := 41) o 48 rq 30 rfl rfl (by omega) (by omega) dX9_request_41 (by decide) (fun c41 => ?_) (fun c41 => absurd c41 (by omega))
  refine V_iconst (pc := 48) o 0 dX9_request_48 (by decide) ?_
  refine V_wVi (pc := 49) o (k9_holds _ _ _ cI ht ad vc vr vn ne vs li ba de qp qt ql qs qc ch ap un ro pi si pl rq dy en th 0) 0 21 (wMod cI ad vc vr vn ne vs li ba de qp qt ql qs qc ch ap un ro pi si pl rq dy en 0) gX9_request_X9_holds rfl hdX9_holds ⟨by omega, by decide⟩ rfl rfl rfl (Nat.le_of_ble_eq_true rfl) dX9_request_49 rfl rfl ?_
  refine V_ifF (by decide) ?_
  refine V_if_eq (pc := 52) o 57 dX9_request_52 (by decide) (fun _ => ?_) (fun c52 => absurd c52 (by decide))
  refine V_aload_n (pc := 57) o dX9_request_57 rfl ?_
  refine V_get (pc := 58) o 0 8 hiX9_request rfl rfl (by decide) lkX9_request_34 rfl rfl dX9_request_58 ?_
  refine V_aload_n (pc := 61) o dX9_request_61 rfl ?_
  refine V_get (pc := 62) o 0 16 hiX9_request rfl rfl (by decide) lkX9_request_82 rfl rfl dX9_request_62 ?_
  refine V_iload_n (pc := 65) o dX9_request_65 rfl ?_
  refine V_iastN (pc := 66) o 9 qp rq p rfl ht rfl rfl (by omega) (by decide) dX9_request_66 ?_
  refine V_eq (ws2 := wMod cI ad vc vr vn ne vs li ba de (va_up qp rq p) qt ql qs qc ch ap un ro pi si pl rq dy en 0) rfl rfl ?_
  refine V_aload_n (pc := 67) o dX9_request_67 rfl ?_
  refine V_get (pc := 68) o 0 9 hiX9_request rfl rfl (by decide) lkX9_request_37 rfl rfl dX9_request_68 ?_
  refine V_aload_n (pc := 71) o dX9_request_71 rfl ?_
  refine V_get (pc := 72) o 0 16 hiX9_request rfl rfl (by decide) lkX9_request_82 rfl rfl dX9_request_72 ?_
  refine V_iload_n (pc := 75) o dX9_request_75 rfl ?_
  refine V_iastN (pc := 76) o 10 qt rq q rfl ht rfl rfl (by omega) (by decide) dX9_request_76 ?_
  refine V_eq (ws2 := wMod cI ad vc vr vn ne vs li ba de (va_up qp rq p) (va_up qt rq q) ql qs qc ch ap un ro pi si pl rq dy en 0) rfl rfl ?_
  refine V_aload_n (pc := 77) o dX9_request_77 rfl ?_
  refine V_get (pc := 78) o 0 10 hiX9_request rfl rfl (by decide) lkX9_request_40 rfl rfl dX9_request_78 ?_
  refine V_aload_n (pc := 81) o dX9_request_81 rfl ?_
  refine V_get (pc := 82) o 0 16 hiX9_request rfl rfl (by decide) lkX9_request_82 rfl rfl dX9_request_82 ?_
  refine V_iload_n (pc := 85) o dX9_request_85 rfl ?_
  refine V_iastN (pc := 86) o 11 ql rq a rfl ht rfl rfl (by omega) (by decide) dX9_request_86 ?_
  refine V_eq (ws2 := wMod cI ad vc vr vn ne vs li ba de (va_up qp rq p) (va_up qt rq q) (va_up ql rq a) qs qc ch ap un ro pi si pl rq dy en 0) rfl rfl ?_
  refine V_aload_n (pc := 87) o dX9_request_87 rfl ?_
  refine V_dup (pc := 88) o rfl dX9_request_88 ?_
  refine V_get (pc := 89) o 0 16 hiX9_request rfl rfl (by decide) lkX9_request_82 rfl rfl dX9_request_89 ?_
  refine V_iconst (pc := 92) o 1 dX9_request_92 (by decide) ?_
  refine V_iaddN (pc := 93) o rq 1 rfl rfl dX9_request_93 ?_
  refine V_put (pc := 94) o 0 16 hiX9_request tyX9 tyX9_ok nmX9 rfl rfl (by decide) lkX9_request_82 rfl rfl rfl rfl rfl (Nat.le_of_ble_eq_true rfl) dX9_request_94 ?_
  refine V_eq (ws2 := wMod cI ad vc vr vn ne vs li ba de (va_up qp rq p) (va_up qt rq q) (va_up ql rq a) qs qc ch ap un ro pi si pl (rq + 1) dy en 0) rfl rfl ?_
  refine V_aload_n (pc := 97) o dX9_request_97 rfl ?_
  refine V_dup (pc := 98) o rfl dX9_request_98 ?_
  refine V_get (pc := 99) o 0 18 hiX9_request rfl rfl (by decide) lkX9_request_88 rfl rfl dX9_request_99 ?_
  refine V_iconst (pc := 102) o 1 dX9_request_102 (by decide) ?_
  refine V_iaddN (pc := 103) o en 1 rfl rfl dX9_request_103 ?_
  refine V_put (pc := 104) o 0 18 hiX9_request tyX9 tyX9_ok nmX9 rfl rfl (by decide) lkX9_request_88 rfl rfl rfl rfl rfl (Nat.le_of_ble_eq_true rfl) dX9_request_104 ?_
  refine V_eq (ws2 := wMod cI ad vc vr vn ne vs li ba de (va_up qp rq p) (va_up qt rq q) (va_up ql rq a) qs qc ch ap un ro pi si pl (rq + 1) dy (en + 1) 0) rfl rfl ?_
  refine V_aload_n (pc := 107) o dX9_request_107 rfl ?_
  refine V_get (pc := 108) o 0 16 hiX9_request rfl rfl (by decide) lkX9_request_82 rfl rfl dX9_request_108 ?_
  refine V_iconst (pc := 111) o 1 dX9_request_111 (by decide) ?_
  refine V_isubN (pc := 112) o (rq + 1) 1 rfl rfl (by omega) dX9_request_112 ?_
  exact fin 113 _ _ () dX9_request_113 rfl (by first | rfl | simp [va_up])
theorem hdX9_chosen : yX9_chosen.cls = RX9 ∧ yX9_chosen.cls ≠ "java/lang/invoke/MethodHandle" ∧ yX9_chosen.cls ≠ "java/lang/invoke/VarHandle" ∧ (parseMethodDescriptor yX9_chosen.desc).map (fun d => d.parameters.length) = some 2 := by decide +kernel
set_option maxHeartbeats 4000000 in
set_option maxRecDepth 100000 in
/-- reference: chosen1a -/
theorem k9_chosen1a (l : Launch) (D : va_G) (tys : List (ClassId × FieldType)) (cI : ClassId) (ht : tys[0]? = some (cI, .int)) (ad : Nat → Nat) (vc : Nat → Nat) (vr : Nat → Nat) (vn : Nat → Nat) (ne : Nat → Nat) (vs : Nat → Nat) (li : Nat → Nat) (ba : Nat → Nat) (de : Nat → Nat) (qp : Nat → Nat) (qt : Nat → Nat) (ql : Nat → Nat) (qs : Nat → Nat) (qc : Nat → Nat) (ch : Nat → Nat) (ap : Nat → Nat) (un : Nat → Int32) (ro : Nat → Nat) (pi : Nat → Nat) (si : Nat → Nat) (pl : Nat → Int32) (rq : Nat) (dy : Nat) (en : Nat) (th : Int32) (q p : Int32) (h : q < 0 ∨ nI rq ≤ q) (hrq : rq ≤ 30) : CId l yX9_chosen wsX9_chosen 2 D tys [.ref (ad 0), .int q, .int p] (wMod cI ad vc vr vn ne vs li ba de qp qt ql qs qc ch ap un ro pi si pl rq dy en th) (-1) (wMod cI ad vc vr vn ne vs li ba de qp qt ql qs qc ch ap un ro pi si pl rq dy en 1) := by
  refine CI_of (maxL := 3) (cc := cX9_chosen) (y := yX9_chosen) rfl rfl (Nat.le_of_ble_eq_true rfl) (fun X hl hD hk hn hcz hsz o fin => ?_)
  subst hl; subst hD; subst hk
  refine V_aload_n (pc := 0) o dX9_chosen_0 rfl ?_
  refine V_aload_n (pc := 1) o dX9_chosen_1 rfl ?_
  refine V_iload_n (pc := 2) o dX9_chosen_2 rfl ?_
  refine V_rVi (pc := 3) o (k9_reqF _ _ _ cI ht ad vc vr vn ne vs li ba de qp qt ql qs qc ch ap un ro pi si pl rq dy en th q h hrq) 0 21 gX9_chosen_X9_isRequest rfl hdX9_isRequest ⟨by omega, by decide⟩ rfl rfl rfl (Nat.le_of_ble_eq_true rfl) dX9_chosen_3 rfl ?_
  refine V_if_eq (pc := 6) o 21 dX9_chosen_6 (by decide) (fun _ => ?_) (fun c6 => absurd c6 (by decide))
  refine V_iconst (pc := 21) o 1 dX9_chosen_21 (by decide) ?_
  refine V_wVi (pc := 22) o (k9_holds _ _ _ cI ht ad vc vr vn ne vs li ba de qp qt ql qs qc ch ap un ro pi si pl rq dy en th 1) 0 21 (wMod cI ad vc vr vn ne vs li ba de qp qt ql qs qc ch ap un ro pi si pl rq dy en 1) gX9_chosen_X9_holds rfl hdX9_holds ⟨by omega, by decide⟩ rfl rfl rfl (Nat.le_of_ble_eq_true rfl) dX9_chosen_22 rfl rfl ?_
  refine V_ifT (by decide) ?_
  refine V_if_eq (pc := 25) o 30 dX9_chosen_25 (by decide) (fun c25 => absurd c25 (by decide)) (fun _ => ?_)
  refine V_iconst (pc := 28) o (-1) dX9_chosen_28 (by decide) ?_
  exact fin 29 _ _ () dX9_chosen_29 rfl rfl
set_option maxHeartbeats 4000000 in
set_option maxRecDepth 100000 in
/-- reference: chosen1b -/
theorem k9_chosen1b (l : Launch) (D : va_G) (tys : List (ClassId × FieldType)) (cI : ClassId) (ht : tys[0]? = some (cI, .int)) (ad : Nat → Nat) (vc : Nat → Nat) (vr : Nat → Nat) (vn : Nat → Nat) (ne : Nat → Nat) (vs : Nat → Nat) (li : Nat → Nat) (ba : Nat → Nat) (de : Nat → Nat) (qp : Nat → Nat) (qt : Nat → Nat) (ql : Nat → Nat) (qs : Nat → Nat) (qc : Nat → Nat) (ch : Nat → Nat) (ap : Nat → Nat) (un : Nat → Int32) (ro : Nat → Nat) (pi : Nat → Nat) (si : Nat → Nat) (pl : Nat → Int32) (rq : Nat) (dy : Nat) (en : Nat) (th : Int32) (q : Nat) (hq : q < rq) (hrq : rq ≤ 30) (p : Int32) (h : ¬ ((0 : Int32) ≤ p ∧ p ≤ 7)) : CId l yX9_chosen wsX9_chosen 2 D tys [.ref (ad 0), .int (nI q), .int p] (wMod cI ad vc vr vn ne vs li ba de qp qt ql qs qc ch ap un ro pi si pl rq dy en th) (-1) (wMod cI ad vc vr vn ne vs li ba de qp qt ql qs qc ch ap un ro pi si pl rq dy en 1) := by
  refine CI_of (maxL := 3) (cc := cX9_chosen) (y := yX9_chosen) rfl rfl (Nat.le_of_ble_eq_true rfl) (fun X hl hD hk hn hcz hsz o fin => ?_)
  subst hl; subst hD; subst hk
  refine V_aload_n (pc := 0) o dX9_chosen_0 rfl ?_
  refine V_aload_n (pc := 1) o dX9_chosen_1 rfl ?_
  refine V_iload_n (pc := 2) o dX9_chosen_2 rfl ?_
  refine V_rVi (pc := 3) o (k9_reqT _ _ _ cI ht ad vc vr vn ne vs li ba de qp qt ql qs qc ch ap un ro pi si pl rq dy en th q (by omega) hrq) 0 21 gX9_chosen_X9_isRequest rfl hdX9_isRequest ⟨by omega, by decide⟩ rfl rfl rfl (Nat.le_of_ble_eq_true rfl) dX9_chosen_3 rfl ?_
  refine V_if_eq (pc := 6) o 21 dX9_chosen_6 (by decide) (fun c6 => absurd c6 (by decide)) (fun _ => ?_)
  refine V_aload_n (pc := 9) o dX9_chosen_9 rfl ?_
  refine V_iload_n (pc := 10) o dX9_chosen_10 rfl ?_
  refine V_rVi (pc := 11) o (k9_eightF _ _ _ cI ht ad vc vr vn ne vs li ba de qp qt ql qs qc ch ap un ro pi si pl rq dy en th p h) 0 21 gX9_chosen_X9_isEight rfl hdX9_isEight ⟨by omega, by decide⟩ rfl rfl rfl (Nat.le_of_ble_eq_true rfl) dX9_chosen_11 rfl ?_
  refine V_if_eq (pc := 14) o 21 dX9_chosen_14 (by decide) (fun _ => ?_) (fun c14 => absurd c14 (by decide))
  refine V_iconst (pc := 21) o 1 dX9_chosen_21 (by decide) ?_
  refine V_wVi (pc := 22) o (k9_holds _ _ _ cI ht ad vc vr vn ne vs li ba de qp qt ql qs qc ch ap un ro pi si pl rq dy en th 1) 0 21 (wMod cI ad vc vr vn ne vs li ba de qp qt ql qs qc ch ap un ro pi si pl rq dy en 1) gX9_chosen_X9_holds rfl hdX9_holds ⟨by omega, by decide⟩ rfl rfl rfl (Nat.le_of_ble_eq_true rfl) dX9_chosen_22 rfl rfl ?_
  refine V_ifT (by decide) ?_
  refine V_if_eq (pc := 25) o 30 dX9_chosen_25 (by decide) (fun c25 => absurd c25 (by decide)) (fun _ => ?_)
  refine V_iconst (pc := 28) o (-1) dX9_chosen_28 (by decide) ?_
  exact fin 29 _ _ () dX9_chosen_29 rfl rfl
theorem hiX9_chosen : ∀ w ∈ wsX90, w ∈ wsX9_chosen := by decide +kernel
theorem lkX9_chosen_49 : Cond.fieldLink RX9 49 RX9 "chosen" "[I" ∈ wsX9_chosen := by decide +kernel
set_option maxHeartbeats 4000000 in
set_option maxRecDepth 100000 in
/-- reference: chosenK -/
theorem k9_chosenK (l : Launch) (D : va_G) (tys : List (ClassId × FieldType)) (cI : ClassId) (ht : tys[0]? = some (cI, .int)) (ad : Nat → Nat) (vc : Nat → Nat) (vr : Nat → Nat) (vn : Nat → Nat) (ne : Nat → Nat) (vs : Nat → Nat) (li : Nat → Nat) (ba : Nat → Nat) (de : Nat → Nat) (qp : Nat → Nat) (qt : Nat → Nat) (ql : Nat → Nat) (qs : Nat → Nat) (qc : Nat → Nat) (ch : Nat → Nat) (ap : Nat → Nat) (un : Nat → Int32) (ro : Nat → Nat) (pi : Nat → Nat) (si : Nat → Nat) (pl : Nat → Int32) (rq : Nat) (dy : Nat) (en : Nat) (th : Int32) (q p : Nat) (hq : q < rq) (hrq : rq ≤ 30) (hp : p < 8) (hch : ∀ k, ch k ≤ 3) : CId l yX9_chosen wsX9_chosen 2 D tys [.ref (ad 0), .int (nI q), .int (nI p)] (wMod cI ad vc vr vn ne vs li ba de qp qt ql qs qc ch ap un ro pi si pl rq dy en th) (if ch (8 * q + p) = 0 then -1 else nI (ch (8 * q + p))) (wMod cI ad vc vr vn ne vs li ba de qp qt ql qs qc ch ap un ro pi si pl rq dy en 0) := by
  refine CI_of (maxL := 3) (cc := cX9_chosen) (y := yX9_chosen) rfl rfl (Nat.le_of_ble_eq_true rfl) (fun X hl hD hk hn hcz hsz o fin => ?_)
  subst hl; subst hD; subst hk
  refine V_aload_n (pc := 0) o dX9_chosen_0 rfl ?_
  refine V_aload_n (pc := 1) o dX9_chosen_1 rfl ?_
  refine V_iload_n (pc := 2) o dX9_chosen_2 rfl ?_
  refine V_rVi (pc := 3) o (k9_reqT _ _ _ cI ht ad vc vr vn ne vs li ba de qp qt ql qs qc ch ap un ro pi si pl rq dy en th q (by omega) hrq) 0 21 gX9_chosen_X9_isRequest rfl hdX9_isRequest ⟨by omega, by decide⟩ rfl rfl rfl (Nat.le_of_ble_eq_true rfl) dX9_chosen_3 rfl ?_
  refine V_if_eq (pc := 6) o 21 dX9_chosen_6 (by decide) (fun c6 => absurd c6 (by decide)) (fun _ => ?_)
  refine V_aload_n (pc := 9) o dX9_chosen_9 rfl ?_
  refine V_iload_n (pc := 10) o dX9_chosen_10 rfl ?_
  refine V_rVi (pc := 11) o (k9_eightT _ _ _ cI ht ad vc vr vn ne vs li ba de qp qt ql qs qc ch ap un ro pi si pl rq dy en th p (by omega)) 0 21 gX9_chosen_X9_isEight rfl hdX9_isEight ⟨by omega, by decide⟩ rfl rfl rfl (Nat.le_of_ble_eq_true rfl) dX9_chosen_11 rfl ?_
  refine V_if_eq (pc := 14) o 21 dX9_chosen_14 (by decide) (fun c14 => absurd c14 (by decide)) (fun _ => ?_)
  refine V_iconst (pc := 17) o 0 dX9_chosen_17 (by decide) ?_
  refine V_goto (pc := 18) o 22 dX9_chosen_18 (by decide) ?_
  refine V_wVi (pc := 22) o (k9_holds _ _ _ cI ht ad vc vr vn ne vs li ba de qp qt ql qs qc ch ap un ro pi si pl rq dy en th 0) 0 21 (wMod cI ad vc vr vn ne vs li ba de qp qt ql qs qc ch ap un ro pi si pl rq dy en 0) gX9_chosen_X9_holds rfl hdX9_holds ⟨by omega, by decide⟩ rfl rfl rfl (Nat.le_of_ble_eq_true rfl) dX9_chosen_22 rfl rfl ?_
  refine V_ifF (by decide) ?_
  refine V_if_eq (pc := 25) o 30 dX9_chosen_25 (by decide) (fun _ => ?_) (fun c25 => absurd c25 (by decide))
  refine V_aload_n (pc := 30) o dX9_chosen_30 rfl ?_
  refine V_get (pc := 31) o 0 13 hiX9_chosen rfl rfl (by decide) lkX9_chosen_49 rfl rfl dX9_chosen_31 ?_
  refine V_bipush (pc := 34) o 8 dX9_chosen_34 (by decide) ?_
  refine V_iload_n (pc := 36) o dX9_chosen_36 rfl ?_
  refine V_imulN (pc := 37) o 8 q rfl rfl dX9_chosen_37 ?_
  refine V_iload_n (pc := 38) o dX9_chosen_38 rfl ?_
  refine V_iaddN (pc := 39) o (8 * q) p rfl rfl dX9_chosen_39 ?_
  refine V_ialdN (pc := 40) o 14 ch ((8 * q) + p) rfl ht rfl (by omega) (by decide) dX9_chosen_40 ?_
  refine V_if_neN (pc := 41) o 48 (ch ((8 * q) + p)) rfl (by have := hch (8 * q + p); omega) dX9_chosen_41 (by decide) (fun c41 => ?_) (fun c41 => ?_)
  · refine V_aload_n (pc := 48) o dX9_chosen_48 rfl ?_
    refine V_get (pc := 49) o 0 13 hiX9_chosen rfl rfl (by decide) lkX9_chosen_49 rfl rfl dX9_chosen_49 ?_
    refine V_bipush (pc := 52) o 8 dX9_chosen_52 (by decide) ?_
    refine V_iload_n (pc := 54) o dX9_chosen_54 rfl ?_
    refine V_imulN (pc := 55) o 8 q rfl rfl dX9_chosen_55 ?_
    refine V_iload_n (pc := 56) o dX9_chosen_56 rfl ?_
    refine V_iaddN (pc := 57) o (8 * q) p rfl rfl dX9_chosen_57 ?_
    refine V_ialdN (pc := 58) o 14 ch ((8 * q) + p) rfl ht rfl (by omega) (by decide) dX9_chosen_58 ?_
    exact fin 59 _ _ () dX9_chosen_59 rfl (by first | (rw [if_pos (by omega)]; done) | (rw [if_neg (by omega)]; done))
  · refine V_iconst (pc := 44) o (-1) dX9_chosen_44 (by decide) ?_
    refine V_goto (pc := 45) o 59 dX9_chosen_45 (by decide) ?_
    exact fin 59 _ _ () dX9_chosen_59 rfl (by first | (rw [if_pos (by omega)]; done) | (rw [if_neg (by omega)]; done))
theorem hdX9_release : yX9_release.cls = RX9 ∧ yX9_release.cls ≠ "java/lang/invoke/MethodHandle" ∧ yX9_release.cls ≠ "java/lang/invoke/VarHandle" ∧ (parseMethodDescriptor yX9_release.desc).map (fun d => d.parameters.length) = some 1 := by decide +kernel
set_option maxHeartbeats 4000000 in
set_option maxRecDepth 100000 in
/-- reference: release1 -/
theorem k9_release1 (l : Launch) (D : va_G) (tys : List (ClassId × FieldType)) (cI : ClassId) (ht : tys[0]? = some (cI, .int)) (ad : Nat → Nat) (vc : Nat → Nat) (vr : Nat → Nat) (vn : Nat → Nat) (ne : Nat → Nat) (vs : Nat → Nat) (li : Nat → Nat) (ba : Nat → Nat) (de : Nat → Nat) (qp : Nat → Nat) (qt : Nat → Nat) (ql : Nat → Nat) (qs : Nat → Nat) (qc : Nat → Nat) (ch : Nat → Nat) (ap : Nat → Nat) (un : Nat → Int32) (ro : Nat → Nat) (pi : Nat → Nat) (si : Nat → Nat) (pl : Nat → Int32) (rq : Nat) (dy : Nat) (en : Nat) (th : Int32) (q : Int32) (h : q < 0 ∨ nI rq ≤ q) (hrq : rq ≤ 30) : CVd l yX9_release wsX9_release 2 D tys [.ref (ad 0), .int q] (wMod cI ad vc vr vn ne vs li ba de qp qt ql qs qc ch ap un ro pi si pl rq dy en th) (wMod cI ad vc vr vn ne vs li ba de qp qt ql qs qc ch ap un ro pi si pl rq dy en 1) := by
  refine CV_of (maxL := 2) (cc := cX9_release) (y := yX9_release) rfl rfl (Nat.le_of_ble_eq_true rfl) (fun X hl hD hk hn hcz hsz o fin => ?_)
  subst hl; subst hD; subst hk
  refine V_aload_n (pc := 0) o dX9_release_0 rfl ?_
  refine V_aload_n (pc := 1) o dX9_release_1 rfl ?_
  refine V_iload_n (pc := 2) o dX9_release_2 rfl ?_
  refine V_rVi (pc := 3) o (k9_reqF _ _ _ cI ht ad vc vr vn ne vs li ba de qp qt ql qs qc ch ap un ro pi si pl rq dy en th q h hrq) 0 21 gX9_release_X9_isRequest rfl hdX9_isRequest ⟨by omega, by decide⟩ rfl rfl rfl (Nat.le_of_ble_eq_true rfl) dX9_release_3 rfl ?_
  refine V_if_ne (pc := 6) o 13 dX9_release_6 (by decide) (fun c6 => absurd c6 (by decide)) (fun _ => ?_)
  refine V_iconst (pc := 9) o 1 dX9_release_9 (by decide) ?_
  refine V_goto (pc := 10) o 36 dX9_release_10 (by decide) ?_
  refine V_wVi (pc := 36) o (k9_holds _ _ _ cI ht ad vc vr vn ne vs li ba de qp qt ql qs qc ch ap un ro pi si pl rq dy en th 1) 0 21 (wMod cI ad vc vr vn ne vs li ba de qp qt ql qs qc ch ap un ro pi si pl rq dy en 1) gX9_release_X9_holds rfl hdX9_holds ⟨by omega, by decide⟩ rfl rfl rfl (Nat.le_of_ble_eq_true rfl) dX9_release_36 rfl rfl ?_
  refine V_ifT (by decide) ?_
  refine V_if_ne (pc := 39) o 59 dX9_release_39 (by decide) (fun _ => ?_) (fun c39 => absurd c39 (by decide))
  exact fin 59 _ () dX9_release_59 trivial
theorem hiX9_release : ∀ w ∈ wsX90, w ∈ wsX9_release := by decide +kernel
theorem lkX9_release_43 : Cond.fieldLink RX9 43 RX9 "qs" "[I" ∈ wsX9_release := by decide +kernel
set_option maxHeartbeats 4000000 in
set_option maxRecDepth 100000 in
/-- reference: release2a -/
theorem k9_release2a (l : Launch) (D : va_G) (tys : List (ClassId × FieldType)) (cI : ClassId) (ht : tys[0]? = some (cI, .int)) (ad : Nat → Nat) (vc : Nat → Nat) (vr : Nat → Nat) (vn : Nat → Nat) (ne : Nat → Nat) (vs : Nat → Nat) (li : Nat → Nat) (ba : Nat → Nat) (de : Nat → Nat) (qp : Nat → Nat) (qt : Nat → Nat) (ql : Nat → Nat) (qs : Nat → Nat) (qc : Nat → Nat) (ch : Nat → Nat) (ap : Nat → Nat) (un : Nat → Int32) (ro : Nat → Nat) (pi : Nat → Nat) (si : Nat → Nat) (pl : Nat → Int32) (rq : Nat) (dy : Nat) (en : Nat) (th : Int32) (q : Nat) (hq : q < rq) (hrq : rq ≤ 30) (hqs : ∀ k, qs k ≤ 2) (hap : ∀ k, ap k ≤ 8) (hqc : ∀ k, qc k ≤ 8000) (h : ¬ qs q = 1) : CVd l yX9_release wsX9_release 2 D tys [.ref (ad 0), .int (nI q)] (wMod cI ad vc vr vn ne vs li ba de qp qt ql qs qc ch ap un ro pi si pl rq dy en th) (wMod cI ad vc vr vn ne vs li ba de qp qt ql qs qc ch ap un ro pi si pl rq dy en 2) := by
  refine CV_of (maxL := 2) (cc := cX9_release) (y := yX9_release) rfl rfl (Nat.le_of_ble_eq_true rfl) (fun X hl hD hk hn hcz hsz o fin => ?_)
  subst hl; subst hD; subst hk
  refine V_aload_n (pc := 0) o dX9_release_0 rfl ?_
  refine V_aload_n (pc := 1) o dX9_release_1 rfl ?_
  refine V_iload_n (pc := 2) o dX9_release_2 rfl ?_
  refine V_rVi (pc := 3) o (k9_reqT _ _ _ cI ht ad vc vr vn ne vs li ba de qp qt ql qs qc ch ap un ro pi si pl rq dy en th q (by omega) hrq) 0 21 gX9_release_X9_isRequest rfl hdX9_isRequest ⟨by omega, by decide⟩ rfl rfl rfl (Nat.le_of_ble_eq_true rfl) dX9_release_3 rfl ?_
  refine V_if_ne (pc := 6) o 13 dX9_release_6 (by decide) (fun _ => ?_) (fun c6 => absurd c6 (by decide))
  refine V_aload_n (pc := 13) o dX9_release_13 rfl ?_
  refine V_get (pc := 14) o 0 11 hiX9_release rfl rfl (by decide) lkX9_release_43 rfl rfl dX9_release_14 ?_
  refine V_iload_n (pc := 17) o dX9_release_17 rfl ?_
  refine V_ialdN (pc := 18) o 12 qs q rfl ht rfl (by omega) (by decide) dX9_release_18 ?_
  refine V_iconst (pc := 19) o 1 dX9_release_19 (by decide) ?_
  refine V_icmp_neN (pc := 20) o 31 (qs q) 1 rfl rfl (by have := hqs q; omega) (by have := hqs q; omega) dX9_release_20 (by decide) (fun c20 => ?_) (fun c20 => absurd c20 (by omega))
  refine V_iconst (pc := 31) o 2 dX9_release_31 (by decide) ?_
  refine V_goto (pc := 32) o 36 dX9_release_32 (by decide) ?_
  refine V_wVi (pc := 36) o (k9_holds _ _ _ cI ht ad vc vr vn ne vs li ba de qp qt ql qs qc ch ap un ro pi si pl rq dy en th 2) 0 21 (wMod cI ad vc vr vn ne vs li ba de qp qt ql qs qc ch ap un ro pi si pl rq dy en 2) gX9_release_X9_holds rfl hdX9_holds ⟨by omega, by decide⟩ rfl rfl rfl (Nat.le_of_ble_eq_true rfl) dX9_release_36 rfl rfl ?_
  refine V_ifT (by decide) ?_
  refine V_if_ne (pc := 39) o 59 dX9_release_39 (by decide) (fun _ => ?_) (fun c39 => absurd c39 (by decide))
  exact fin 59 _ () dX9_release_59 trivial
set_option maxHeartbeats 4000000 in
set_option maxRecDepth 100000 in
/-- reference: release2b -/
theorem k9_release2b (l : Launch) (D : va_G) (tys : List (ClassId × FieldType)) (cI : ClassId) (ht : tys[0]? = some (cI, .int)) (ad : Nat → Nat) (vc : Nat → Nat) (vr : Nat → Nat) (vn : Nat → Nat) (ne : Nat → Nat) (vs : Nat → Nat) (li : Nat → Nat) (ba : Nat → Nat) (de : Nat → Nat) (qp : Nat → Nat) (qt : Nat → Nat) (ql : Nat → Nat) (qs : Nat → Nat) (qc : Nat → Nat) (ch : Nat → Nat) (ap : Nat → Nat) (un : Nat → Int32) (ro : Nat → Nat) (pi : Nat → Nat) (si : Nat → Nat) (pl : Nat → Int32) (rq : Nat) (dy : Nat) (en : Nat) (th : Int32) (q : Nat) (hq : q < rq) (hrq : rq ≤ 30) (hqs : ∀ k, qs k ≤ 2) (hap : ∀ k, ap k ≤ 8) (hqc : ∀ k, qc k ≤ 8000) (h1 : qs q = 1) (h : ¬ cov9 (qc q) (apS ap q 8)) : CVd l yX9_release wsX9_release 2 D tys [.ref (ad 0), .int (nI q)] (wMod cI ad vc vr vn ne vs li ba de qp qt ql qs qc ch ap un ro pi si pl rq dy en th) (wMod cI ad vc vr vn ne vs li ba de qp qt ql qs qc ch ap un ro pi si pl rq dy en 2) := by
  refine CV_of (maxL := 2) (cc := cX9_release) (y := yX9_release) rfl rfl (Nat.le_of_ble_eq_true rfl) (fun X hl hD hk hn hcz hsz o fin => ?_)
  subst hl; subst hD; subst hk
  refine V_aload_n (pc := 0) o dX9_release_0 rfl ?_
  refine V_aload_n (pc := 1) o dX9_release_1 rfl ?_
  refine V_iload_n (pc := 2) o dX9_release_2 rfl ?_
  refine V_rVi (pc := 3) o (k9_reqT _ _ _ cI ht ad vc vr vn ne vs li ba de qp qt ql qs qc ch ap un ro pi si pl rq dy en th q (by omega) hrq) 0 21 gX9_release_X9_isRequest rfl hdX9_isRequest ⟨by omega, by decide⟩ rfl rfl rfl (Nat.le_of_ble_eq_true rfl) dX9_release_3 rfl ?_
  refine V_if_ne (pc := 6) o 13 dX9_release_6 (by decide) (fun _ => ?_) (fun c6 => absurd c6 (by decide))
  refine V_aload_n (pc := 13) o dX9_release_13 rfl ?_
  refine V_get (pc := 14) o 0 11 hiX9_release rfl rfl (by decide) lkX9_release_43 rfl rfl dX9_release_14 ?_
  refine V_iload_n (pc := 17) o dX9_release_17 rfl ?_
  refine V_ialdN (pc := 18) o 12 qs q rfl ht rfl (by omega) (by decide) dX9_release_18 ?_
  refine V_iconst (pc := 19) o 1 dX9_release_19 (by decide) ?_
  refine V_icmp_neN (pc := 20) o 31 (qs q) 1 rfl rfl (by have := hqs q; omega) (by have := hqs q; omega) dX9_release_20 (by decide) (fun c20 => absurd c20 (by omega)) (fun c20 => ?_)
  refine V_aload_n (pc := 23) o dX9_release_23 rfl ?_
  refine V_iload_n (pc := 24) o dX9_release_24 rfl ?_
  refine V_rVi (pc := 25) o (k9_covF _ _ _ cI ht ad vc vr vn ne vs li ba de qp qt ql qs qc ch ap un ro pi si pl rq dy en th q (by omega) hap hqc h) 0 21 gX9_release_X9_covered rfl hdX9_covered ⟨by omega, by decide⟩ rfl rfl rfl (Nat.le_of_ble_eq_true rfl) dX9_release_25 rfl ?_
  refine V_if_ne (pc := 28) o 35 dX9_release_28 (by decide) (fun c28 => absurd c28 (by decide)) (fun _ => ?_)
  refine V_iconst (pc := 31) o 2 dX9_release_31 (by decide) ?_
  refine V_goto (pc := 32) o 36 dX9_release_32 (by decide) ?_
  refine V_wVi (pc := 36) o (k9_holds _ _ _ cI ht ad vc vr vn ne vs li ba de qp qt ql qs qc ch ap un ro pi si pl rq dy en th 2) 0 21 (wMod cI ad vc vr vn ne vs li ba de qp qt ql qs qc ch ap un ro pi si pl rq dy en 2) gX9_release_X9_holds rfl hdX9_holds ⟨by omega, by decide⟩ rfl rfl rfl (Nat.le_of_ble_eq_true rfl) dX9_release_36 rfl rfl ?_
  refine V_ifT (by decide) ?_
  refine V_if_ne (pc := 39) o 59 dX9_release_39 (by decide) (fun _ => ?_) (fun c39 => absurd c39 (by decide))
  exact fin 59 _ () dX9_release_59 trivial
theorem lkX9_release_88 : Cond.fieldLink RX9 88 RX9 "entries" "I" ∈ wsX9_release := by decide +kernel
set_option maxHeartbeats 4000000 in
set_option maxRecDepth 100000 in
/-- reference: releaseK -/
theorem k9_releaseK (l : Launch) (D : va_G) (tys : List (ClassId × FieldType)) (cI : ClassId) (ht : tys[0]? = some (cI, .int)) (ad : Nat → Nat) (vc : Nat → Nat) (vr : Nat → Nat) (vn : Nat → Nat) (ne : Nat → Nat) (vs : Nat → Nat) (li : Nat → Nat) (ba : Nat → Nat) (de : Nat → Nat) (qp : Nat → Nat) (qt : Nat → Nat) (ql : Nat → Nat) (qs : Nat → Nat) (qc : Nat → Nat) (ch : Nat → Nat) (ap : Nat → Nat) (un : Nat → Int32) (ro : Nat → Nat) (pi : Nat → Nat) (si : Nat → Nat) (pl : Nat → Int32) (rq : Nat) (dy : Nat) (en : Nat) (th : Int32) (q : Nat) (hq : q < rq) (hrq : rq ≤ 30) (hqs : ∀ k, qs k ≤ 2) (hap : ∀ k, ap k ≤ 8) (hqc : ∀ k, qc k ≤ 8000) (h1 : qs q = 1) (h : cov9 (qc q) (apS ap q 8)) : CVd l yX9_release wsX9_release 2 D tys [.ref (ad 0), .int (nI q)] (wMod cI ad vc vr vn ne vs li ba de qp qt ql qs qc ch ap un ro pi si pl rq dy en th) (wMod cI ad vc vr vn ne vs li ba de qp qt ql (va_up qs q 2) qc ch ap un ro pi si pl rq dy (en + 1) 0) := by
  refine CV_of (maxL := 2) (cc := cX9_release) (y := yX9_release) rfl rfl (Nat.le_of_ble_eq_true rfl) (fun X hl hD hk hn hcz hsz o fin => ?_)
  subst hl; subst hD; subst hk
  refine V_aload_n (pc := 0) o dX9_release_0 rfl ?_
  refine V_aload_n (pc := 1) o dX9_release_1 rfl ?_
  refine V_iload_n (pc := 2) o dX9_release_2 rfl ?_
  refine V_rVi (pc := 3) o (k9_reqT _ _ _ cI ht ad vc vr vn ne vs li ba de qp qt ql qs qc ch ap un ro pi si pl rq dy en th q (by omega) hrq) 0 21 gX9_release_X9_isRequest rfl hdX9_isRequest ⟨by omega, by decide⟩ rfl rfl rfl (Nat.le_of_ble_eq_true rfl) dX9_release_3 rfl ?_
  refine V_if_ne (pc := 6) o 13 dX9_release_6 (by decide) (fun _ => ?_) (fun c6 => absurd c6 (by decide))
  refine V_aload_n (pc := 13) o dX9_release_13 rfl ?_
  refine V_get (pc := 14) o 0 11 hiX9_release rfl rfl (by decide) lkX9_release_43 rfl rfl dX9_release_14 ?_
  refine V_iload_n (pc := 17) o dX9_release_17 rfl ?_
  refine V_ialdN (pc := 18) o 12 qs q rfl ht rfl (by omega) (by decide) dX9_release_18 ?_
  refine V_iconst (pc := 19) o 1 dX9_release_19 (by decide) ?_
  refine V_icmp_neN (pc := 20) o 31 (qs q) 1 rfl rfl (by have := hqs q; omega) (by have := hqs q; omega) dX9_release_20 (by decide) (fun c20 => absurd c20 (by omega)) (fun c20 => ?_)
  refine V_aload_n (pc := 23) o dX9_release_23 rfl ?_
  refine V_iload_n (pc := 24) o dX9_release_24 rfl ?_
  refine V_rVi (pc := 25) o (k9_covT _ _ _ cI ht ad vc vr vn ne vs li ba de qp qt ql qs qc ch ap un ro pi si pl rq dy en th q (by omega) hap hqc h) 0 21 gX9_release_X9_covered rfl hdX9_covered ⟨by omega, by decide⟩ rfl rfl rfl (Nat.le_of_ble_eq_true rfl) dX9_release_25 rfl ?_
  refine V_if_ne (pc := 28) o 35 dX9_release_28 (by decide) (fun _ => ?_) (fun c28 => absurd c28 (by decide))
  refine V_iconst (pc := 35) o 0 dX9_release_35 (by decide) ?_
  refine V_wVi (pc := 36) o (k9_holds _ _ _ cI ht ad vc vr vn ne vs li ba de qp qt ql qs qc ch ap un ro pi si pl rq dy en th 0) 0 21 (wMod cI ad vc vr vn ne vs li ba de qp qt ql qs qc ch ap un ro pi si pl rq dy en 0) gX9_release_X9_holds rfl hdX9_holds ⟨by omega, by decide⟩ rfl rfl rfl (Nat.le_of_ble_eq_true rfl) dX9_release_36 rfl rfl ?_
  refine V_ifF (by decide) ?_
  refine V_if_ne (pc := 39) o 59 dX9_release_39 (by decide) (fun c39 => absurd c39 (by decide)) (fun _ => ?_)
  refine V_aload_n (pc := 42) o dX9_release_42 rfl ?_
  refine V_get (pc := 43) o 0 11 hiX9_release rfl rfl (by decide) lkX9_release_43 rfl rfl dX9_release_43 ?_
  refine V_iload_n (pc := 46) o dX9_release_46 rfl ?_
  refine V_iconst (pc := 47) o 2 dX9_release_47 (by decide) ?_
  refine V_iastN (pc := 48) o 12 qs q 2 rfl ht rfl rfl (by omega) (by decide) dX9_release_48 ?_
  refine V_eq (ws2 := wMod cI ad vc vr vn ne vs li ba de qp qt ql (va_up qs q 2) qc ch ap un ro pi si pl rq dy en 0) rfl rfl ?_
  refine V_aload_n (pc := 49) o dX9_release_49 rfl ?_
  refine V_dup (pc := 50) o rfl dX9_release_50 ?_
  refine V_get (pc := 51) o 0 18 hiX9_release rfl rfl (by decide) lkX9_release_88 rfl rfl dX9_release_51 ?_
  refine V_iconst (pc := 54) o 1 dX9_release_54 (by decide) ?_
  refine V_iaddN (pc := 55) o en 1 rfl rfl dX9_release_55 ?_
  refine V_put (pc := 56) o 0 18 hiX9_release tyX9 tyX9_ok nmX9 rfl rfl (by decide) lkX9_release_88 rfl rfl rfl rfl rfl (Nat.le_of_ble_eq_true rfl) dX9_release_56 ?_
  refine V_eq (ws2 := wMod cI ad vc vr vn ne vs li ba de qp qt ql (va_up qs q 2) qc ch ap un ro pi si pl rq dy (en + 1) 0) rfl rfl ?_
  exact fin 59 _ () dX9_release_59 trivial
theorem hdX9_isCoveredAnew : yX9_isCoveredAnew.cls = RX9 ∧ yX9_isCoveredAnew.cls ≠ "java/lang/invoke/MethodHandle" ∧ yX9_isCoveredAnew.cls ≠ "java/lang/invoke/VarHandle" ∧ (parseMethodDescriptor yX9_isCoveredAnew.desc).map (fun d => d.parameters.length) = some 1 := by decide +kernel
set_option maxHeartbeats 4000000 in
set_option maxRecDepth 100000 in
/-- reference: isCoveredAnew1 -/
theorem k9_isCoveredAnew1 (l : Launch) (D : va_G) (tys : List (ClassId × FieldType)) (cI : ClassId) (ht : tys[0]? = some (cI, .int)) (ad : Nat → Nat) (vc : Nat → Nat) (vr : Nat → Nat) (vn : Nat → Nat) (ne : Nat → Nat) (vs : Nat → Nat) (li : Nat → Nat) (ba : Nat → Nat) (de : Nat → Nat) (qp : Nat → Nat) (qt : Nat → Nat) (ql : Nat → Nat) (qs : Nat → Nat) (qc : Nat → Nat) (ch : Nat → Nat) (ap : Nat → Nat) (un : Nat → Int32) (ro : Nat → Nat) (pi : Nat → Nat) (si : Nat → Nat) (pl : Nat → Int32) (rq : Nat) (dy : Nat) (en : Nat) (th : Int32) (q : Int32) (h : q < 0 ∨ nI rq ≤ q) (hrq : rq ≤ 30) : CId l yX9_isCoveredAnew wsX9_isCoveredAnew 2 D tys [.ref (ad 0), .int q] (wMod cI ad vc vr vn ne vs li ba de qp qt ql qs qc ch ap un ro pi si pl rq dy en th) 0 (wMod cI ad vc vr vn ne vs li ba de qp qt ql qs qc ch ap un ro pi si pl rq dy en 1) := by
  refine CI_of (maxL := 2) (cc := cX9_isCoveredAnew) (y := yX9_isCoveredAnew) rfl rfl (Nat.le_of_ble_eq_true rfl) (fun X hl hD hk hn hcz hsz o fin => ?_)
  subst hl; subst hD; subst hk
  refine V_aload_n (pc := 0) o dX9_isCoveredAnew_0 rfl ?_
  refine V_aload_n (pc := 1) o dX9_isCoveredAnew_1 rfl ?_
  refine V_iload_n (pc := 2) o dX9_isCoveredAnew_2 rfl ?_
  refine V_rVi (pc := 3) o (k9_reqF _ _ _ cI ht ad vc vr vn ne vs li ba de qp qt ql qs qc ch ap un ro pi si pl rq dy en th q h hrq) 0 21 gX9_isCoveredAnew_X9_isRequest rfl hdX9_isRequest ⟨by omega, by decide⟩ rfl rfl rfl (Nat.le_of_ble_eq_true rfl) dX9_isCoveredAnew_3 rfl ?_
  refine V_if_eq (pc := 6) o 13 dX9_isCoveredAnew_6 (by decide) (fun _ => ?_) (fun c6 => absurd c6 (by decide))
  refine V_iconst (pc := 13) o 1 dX9_isCoveredAnew_13 (by decide) ?_
  refine V_wVi (pc := 14) o (k9_holds _ _ _ cI ht ad vc vr vn ne vs li ba de qp qt ql qs qc ch ap un ro pi si pl rq dy en th 1) 0 21 (wMod cI ad vc vr vn ne vs li ba de qp qt ql qs qc ch ap un ro pi si pl rq dy en 1) gX9_isCoveredAnew_X9_holds rfl hdX9_holds ⟨by omega, by decide⟩ rfl rfl rfl (Nat.le_of_ble_eq_true rfl) dX9_isCoveredAnew_14 rfl rfl ?_
  refine V_ifT (by decide) ?_
  refine V_if_ne (pc := 17) o 32 dX9_isCoveredAnew_17 (by decide) (fun _ => ?_) (fun c17 => absurd c17 (by decide))
  refine V_iconst (pc := 32) o 0 dX9_isCoveredAnew_32 (by decide) ?_
  exact fin 33 _ _ () dX9_isCoveredAnew_33 rfl rfl
set_option maxHeartbeats 4000000 in
set_option maxRecDepth 100000 in
/-- reference: isCoveredAnewT -/
theorem k9_isCoveredAnewT (l : Launch) (D : va_G) (tys : List (ClassId × FieldType)) (cI : ClassId) (ht : tys[0]? = some (cI, .int)) (ad : Nat → Nat) (vc : Nat → Nat) (vr : Nat → Nat) (vn : Nat → Nat) (ne : Nat → Nat) (vs : Nat → Nat) (li : Nat → Nat) (ba : Nat → Nat) (de : Nat → Nat) (qp : Nat → Nat) (qt : Nat → Nat) (ql : Nat → Nat) (qs : Nat → Nat) (qc : Nat → Nat) (ch : Nat → Nat) (ap : Nat → Nat) (un : Nat → Int32) (ro : Nat → Nat) (pi : Nat → Nat) (si : Nat → Nat) (pl : Nat → Int32) (rq : Nat) (dy : Nat) (en : Nat) (th : Int32) (q : Nat) (hq : q < rq) (hrq : rq ≤ 30) (hqs : ∀ k, qs k ≤ 2) (hap : ∀ k, ap k ≤ 8) (hqc : ∀ k, qc k ≤ 8000) (h : cov9 (qc q) (apS ap q 8)) : CId l yX9_isCoveredAnew wsX9_isCoveredAnew 2 D tys [.ref (ad 0), .int (nI q)] (wMod cI ad vc vr vn ne vs li ba de qp qt ql qs qc ch ap un ro pi si pl rq dy en th) 1 (wMod cI ad vc vr vn ne vs li ba de qp qt ql qs qc ch ap un ro pi si pl rq dy en 0) := by
  refine CI_of (maxL := 2) (cc := cX9_isCoveredAnew) (y := yX9_isCoveredAnew) rfl rfl (Nat.le_of_ble_eq_true rfl) (fun X hl hD hk hn hcz hsz o fin => ?_)
  subst hl; subst hD; subst hk
  refine V_aload_n (pc := 0) o dX9_isCoveredAnew_0 rfl ?_
  refine V_aload_n (pc := 1) o dX9_isCoveredAnew_1 rfl ?_
  refine V_iload_n (pc := 2) o dX9_isCoveredAnew_2 rfl ?_
  refine V_rVi (pc := 3) o (k9_reqT _ _ _ cI ht ad vc vr vn ne vs li ba de qp qt ql qs qc ch ap un ro pi si pl rq dy en th q (by omega) hrq) 0 21 gX9_isCoveredAnew_X9_isRequest rfl hdX9_isRequest ⟨by omega, by decide⟩ rfl rfl rfl (Nat.le_of_ble_eq_true rfl) dX9_isCoveredAnew_3 rfl ?_
  refine V_if_eq (pc := 6) o 13 dX9_isCoveredAnew_6 (by decide) (fun c6 => absurd c6 (by decide)) (fun _ => ?_)
  refine V_iconst (pc := 9) o 0 dX9_isCoveredAnew_9 (by decide) ?_
  refine V_goto (pc := 10) o 14 dX9_isCoveredAnew_10 (by decide) ?_
  refine V_wVi (pc := 14) o (k9_holds _ _ _ cI ht ad vc vr vn ne vs li ba de qp qt ql qs qc ch ap un ro pi si pl rq dy en th 0) 0 21 (wMod cI ad vc vr vn ne vs li ba de qp qt ql qs qc ch ap un ro pi si pl rq dy en 0) gX9_isCoveredAnew_X9_holds rfl hdX9_holds ⟨by omega, by decide⟩ rfl rfl rfl (Nat.le_of_ble_eq_true rfl) dX9_isCoveredAnew_14 rfl rfl ?_
  refine V_ifF (by decide) ?_
  refine V_if_ne (pc := 17) o 32 dX9_isCoveredAnew_17 (by decide) (fun c17 => absurd c17 (by decide)) (fun _ => ?_)
  refine V_aload_n (pc := 20) o dX9_isCoveredAnew_20 rfl ?_
  refine V_iload_n (pc := 21) o dX9_isCoveredAnew_21 rfl ?_
  refine V_rVi (pc := 22) o (k9_covT _ _ _ cI ht ad vc vr vn ne vs li ba de qp qt ql qs qc ch ap un ro pi si pl rq dy en 0 q (by omega) hap hqc h) 0 21 gX9_isCoveredAnew_X9_covered rfl hdX9_covered ⟨by omega, by decide⟩ rfl rfl rfl (Nat.le_of_ble_eq_true rfl) dX9_isCoveredAnew_22 rfl ?_
  refine V_if_eq (pc := 25) o 32 dX9_isCoveredAnew_25 (by decide) (fun c25 => absurd c25 (by decide)) (fun _ => ?_)
  refine V_iconst (pc := 28) o 1 dX9_isCoveredAnew_28 (by decide) ?_
  refine V_goto (pc := 29) o 33 dX9_isCoveredAnew_29 (by decide) ?_
  exact fin 33 _ _ () dX9_isCoveredAnew_33 rfl rfl
set_option maxHeartbeats 4000000 in
set_option maxRecDepth 100000 in
/-- reference: isCoveredAnewF -/
theorem k9_isCoveredAnewF (l : Launch) (D : va_G) (tys : List (ClassId × FieldType)) (cI : ClassId) (ht : tys[0]? = some (cI, .int)) (ad : Nat → Nat) (vc : Nat → Nat) (vr : Nat → Nat) (vn : Nat → Nat) (ne : Nat → Nat) (vs : Nat → Nat) (li : Nat → Nat) (ba : Nat → Nat) (de : Nat → Nat) (qp : Nat → Nat) (qt : Nat → Nat) (ql : Nat → Nat) (qs : Nat → Nat) (qc : Nat → Nat) (ch : Nat → Nat) (ap : Nat → Nat) (un : Nat → Int32) (ro : Nat → Nat) (pi : Nat → Nat) (si : Nat → Nat) (pl : Nat → Int32) (rq : Nat) (dy : Nat) (en : Nat) (th : Int32) (q : Nat) (hq : q < rq) (hrq : rq ≤ 30) (hqs : ∀ k, qs k ≤ 2) (hap : ∀ k, ap k ≤ 8) (hqc : ∀ k, qc k ≤ 8000) (h : ¬ cov9 (qc q) (apS ap q 8)) : CId l yX9_isCoveredAnew wsX9_isCoveredAnew 2 D tys [.ref (ad 0), .int (nI q)] (wMod cI ad vc vr vn ne vs li ba de qp qt ql qs qc ch ap un ro pi si pl rq dy en th) 0 (wMod cI ad vc vr vn ne vs li ba de qp qt ql qs qc ch ap un ro pi si pl rq dy en 0) := by
  refine CI_of (maxL := 2) (cc := cX9_isCoveredAnew) (y := yX9_isCoveredAnew) rfl rfl (Nat.le_of_ble_eq_true rfl) (fun X hl hD hk hn hcz hsz o fin => ?_)
  subst hl; subst hD; subst hk
  refine V_aload_n (pc := 0) o dX9_isCoveredAnew_0 rfl ?_
  refine V_aload_n (pc := 1) o dX9_isCoveredAnew_1 rfl ?_
  refine V_iload_n (pc := 2) o dX9_isCoveredAnew_2 rfl ?_
  refine V_rVi (pc := 3) o (k9_reqT _ _ _ cI ht ad vc vr vn ne vs li ba de qp qt ql qs qc ch ap un ro pi si pl rq dy en th q (by omega) hrq) 0 21 gX9_isCoveredAnew_X9_isRequest rfl hdX9_isRequest ⟨by omega, by decide⟩ rfl rfl rfl (Nat.le_of_ble_eq_true rfl) dX9_isCoveredAnew_3 rfl ?_
  refine V_if_eq (pc := 6) o 13 dX9_isCoveredAnew_6 (by decide) (fun c6 => absurd c6 (by decide)) (fun _ => ?_)
  refine V_iconst (pc := 9) o 0 dX9_isCoveredAnew_9 (by decide) ?_
  refine V_goto (pc := 10) o 14 dX9_isCoveredAnew_10 (by decide) ?_
  refine V_wVi (pc := 14) o (k9_holds _ _ _ cI ht ad vc vr vn ne vs li ba de qp qt ql qs qc ch ap un ro pi si pl rq dy en th 0) 0 21 (wMod cI ad vc vr vn ne vs li ba de qp qt ql qs qc ch ap un ro pi si pl rq dy en 0) gX9_isCoveredAnew_X9_holds rfl hdX9_holds ⟨by omega, by decide⟩ rfl rfl rfl (Nat.le_of_ble_eq_true rfl) dX9_isCoveredAnew_14 rfl rfl ?_
  refine V_ifF (by decide) ?_
  refine V_if_ne (pc := 17) o 32 dX9_isCoveredAnew_17 (by decide) (fun c17 => absurd c17 (by decide)) (fun _ => ?_)
  refine V_aload_n (pc := 20) o dX9_isCoveredAnew_20 rfl ?_
  refine V_iload_n (pc := 21) o dX9_isCoveredAnew_21 rfl ?_
  refine V_rVi (pc := 22) o (k9_covF _ _ _ cI ht ad vc vr vn ne vs li ba de qp qt ql qs qc ch ap un ro pi si pl rq dy en 0 q (by omega) hap hqc h) 0 21 gX9_isCoveredAnew_X9_covered rfl hdX9_covered ⟨by omega, by decide⟩ rfl rfl rfl (Nat.le_of_ble_eq_true rfl) dX9_isCoveredAnew_22 rfl ?_
  refine V_if_eq (pc := 25) o 32 dX9_isCoveredAnew_25 (by decide) (fun _ => ?_) (fun c25 => absurd c25 (by decide))
  refine V_iconst (pc := 32) o 0 dX9_isCoveredAnew_32 (by decide) ?_
  exact fin 33 _ _ () dX9_isCoveredAnew_33 rfl rfl
theorem hdX9_entries : yX9_entries.cls = RX9 ∧ yX9_entries.cls ≠ "java/lang/invoke/MethodHandle" ∧ yX9_entries.cls ≠ "java/lang/invoke/VarHandle" ∧ (parseMethodDescriptor yX9_entries.desc).map (fun d => d.parameters.length) = some 0 := by decide +kernel
theorem hiX9_entries : ∀ w ∈ wsX90, w ∈ wsX9_entries := by decide +kernel
theorem lkX9_entries_88 : Cond.fieldLink RX9 88 RX9 "entries" "I" ∈ wsX9_entries := by decide +kernel
set_option maxHeartbeats 4000000 in
set_option maxRecDepth 100000 in
/-- reference: entries -/
theorem k9_entries (l : Launch) (D : va_G) (tys : List (ClassId × FieldType)) (cI : ClassId) (ht : tys[0]? = some (cI, .int)) (ad : Nat → Nat) (vc : Nat → Nat) (vr : Nat → Nat) (vn : Nat → Nat) (ne : Nat → Nat) (vs : Nat → Nat) (li : Nat → Nat) (ba : Nat → Nat) (de : Nat → Nat) (qp : Nat → Nat) (qt : Nat → Nat) (ql : Nat → Nat) (qs : Nat → Nat) (qc : Nat → Nat) (ch : Nat → Nat) (ap : Nat → Nat) (un : Nat → Int32) (ro : Nat → Nat) (pi : Nat → Nat) (si : Nat → Nat) (pl : Nat → Int32) (rq : Nat) (dy : Nat) (en : Nat) (th : Int32)  : CId l yX9_entries wsX9_entries 1 D tys [.ref (ad 0)] (wMod cI ad vc vr vn ne vs li ba de qp qt ql qs qc ch ap un ro pi si pl rq dy en th) (nI en) (wMod cI ad vc vr vn ne vs li ba de qp qt ql qs qc ch ap un ro pi si pl rq dy en 0) := by
  refine CI_of (maxL := 1) (cc := cX9_entries) (y := yX9_entries) rfl rfl (Nat.le_of_ble_eq_true rfl) (fun X hl hD hk hn hcz hsz o fin => ?_)
  subst hl; subst hD; subst hk
  refine V_aload_n (pc := 0) o dX9_entries_0 rfl ?_
  refine V_iconst (pc := 1) o 0 dX9_entries_1 (by decide) ?_
  refine V_wVi (pc := 2) o (k9_holds _ _ _ cI ht ad vc vr vn ne vs li ba de qp qt ql qs qc ch ap un ro pi si pl rq dy en th 0) 0 21 (wMod cI ad vc vr vn ne vs li ba de qp qt ql qs qc ch ap un ro pi si pl rq dy en 0) gX9_entries_X9_holds rfl hdX9_holds ⟨by omega, by decide⟩ rfl rfl rfl (Nat.le_of_ble_eq_true rfl) dX9_entries_2 rfl rfl ?_
  refine V_ifF (by decide) ?_
  refine V_pop (pc := 5) o rfl dX9_entries_5 ?_
  refine V_aload_n (pc := 6) o dX9_entries_6 rfl ?_
  refine V_get (pc := 7) o 0 18 hiX9_entries rfl rfl (by decide) lkX9_entries_88 rfl rfl dX9_entries_7 ?_
  exact fin 10 _ _ () dX9_entries_10 rfl rfl
theorem hdX9_ofRequest : yX9_ofRequest.cls = RX9 ∧ yX9_ofRequest.cls ≠ "java/lang/invoke/MethodHandle" ∧ yX9_ofRequest.cls ≠ "java/lang/invoke/VarHandle" ∧ (parseMethodDescriptor yX9_ofRequest.desc).map (fun d => d.parameters.length) = some 2 := by decide +kernel
set_option maxHeartbeats 4000000 in
set_option maxRecDepth 100000 in
/-- reference: ofRequest1 -/
theorem k9_ofRequest1 (l : Launch) (D : va_G) (tys : List (ClassId × FieldType)) (cI : ClassId) (ht : tys[0]? = some (cI, .int)) (ad : Nat → Nat) (vc : Nat → Nat) (vr : Nat → Nat) (vn : Nat → Nat) (ne : Nat → Nat) (vs : Nat → Nat) (li : Nat → Nat) (ba : Nat → Nat) (de : Nat → Nat) (qp : Nat → Nat) (qt : Nat → Nat) (ql : Nat → Nat) (qs : Nat → Nat) (qc : Nat → Nat) (ch : Nat → Nat) (ap : Nat → Nat) (un : Nat → Int32) (ro : Nat → Nat) (pi : Nat → Nat) (si : Nat → Nat) (pl : Nat → Int32) (rq : Nat) (dy : Nat) (en : Nat) (th : Int32) (q w : Int32) (h : q < 0 ∨ nI rq ≤ q) (hrq : rq ≤ 30) : CId l yX9_ofRequest wsX9_ofRequest 2 D tys [.ref (ad 0), .int q, .int w] (wMod cI ad vc vr vn ne vs li ba de qp qt ql qs qc ch ap un ro pi si pl rq dy en th) (-1) (wMod cI ad vc vr vn ne vs li ba de qp qt ql qs qc ch ap un ro pi si pl rq dy en 1) := by
  refine CI_of (maxL := 3) (cc := cX9_ofRequest) (y := yX9_ofRequest) rfl rfl (Nat.le_of_ble_eq_true rfl) (fun X hl hD hk hn hcz hsz o fin => ?_)
  subst hl; subst hD; subst hk
  refine V_aload_n (pc := 0) o dX9_ofRequest_0 rfl ?_
  refine V_aload_n (pc := 1) o dX9_ofRequest_1 rfl ?_
  refine V_iload_n (pc := 2) o dX9_ofRequest_2 rfl ?_
  refine V_rVi (pc := 3) o (k9_reqF _ _ _ cI ht ad vc vr vn ne vs li ba de qp qt ql qs qc ch ap un ro pi si pl rq dy en th q h hrq) 0 21 gX9_ofRequest_X9_isRequest rfl hdX9_isRequest ⟨by omega, by decide⟩ rfl rfl rfl (Nat.le_of_ble_eq_true rfl) dX9_ofRequest_3 rfl ?_
  refine V_if_ne (pc := 6) o 13 dX9_ofRequest_6 (by decide) (fun c6 => absurd c6 (by decide)) (fun _ => ?_)
  refine V_iconst (pc := 9) o 1 dX9_ofRequest_9 (by decide) ?_
  refine V_goto (pc := 10) o 28 dX9_ofRequest_10 (by decide) ?_
  refine V_wVi (pc := 28) o (k9_holds _ _ _ cI ht ad vc vr vn ne vs li ba de qp qt ql qs qc ch ap un ro pi si pl rq dy en th 1) 0 21 (wMod cI ad vc vr vn ne vs li ba de qp qt ql qs qc ch ap un ro pi si pl rq dy en 1) gX9_ofRequest_X9_holds rfl hdX9_holds ⟨by omega, by decide⟩ rfl rfl rfl (Nat.le_of_ble_eq_true rfl) dX9_ofRequest_28 rfl rfl ?_
  refine V_ifT (by decide) ?_
  refine V_if_eq (pc := 31) o 36 dX9_ofRequest_31 (by decide) (fun c31 => absurd c31 (by decide)) (fun _ => ?_)
  refine V_iconst (pc := 34) o (-1) dX9_ofRequest_34 (by decide) ?_
  exact fin 35 _ _ () dX9_ofRequest_35 rfl rfl
set_option maxHeartbeats 4000000 in
set_option maxRecDepth 100000 in
/-- reference: ofRequest2 -/
theorem k9_ofRequest2 (l : Launch) (D : va_G) (tys : List (ClassId × FieldType)) (cI : ClassId) (ht : tys[0]? = some (cI, .int)) (ad : Nat → Nat) (vc : Nat → Nat) (vr : Nat → Nat) (vn : Nat → Nat) (ne : Nat → Nat) (vs : Nat → Nat) (li : Nat → Nat) (ba : Nat → Nat) (de : Nat → Nat) (qp : Nat → Nat) (qt : Nat → Nat) (ql : Nat → Nat) (qs : Nat → Nat) (qc : Nat → Nat) (ch : Nat → Nat) (ap : Nat → Nat) (un : Nat → Int32) (ro : Nat → Nat) (pi : Nat → Nat) (si : Nat → Nat) (pl : Nat → Int32) (rq : Nat) (dy : Nat) (en : Nat) (th : Int32) (q : Nat) (hq : q < rq) (hrq : rq ≤ 30) (w : Int32) (h : ¬ ((0 : Int32) ≤ w ∧ w ≤ 3)) : CId l yX9_ofRequest wsX9_ofRequest 2 D tys [.ref (ad 0), .int (nI q), .int w] (wMod cI ad vc vr vn ne vs li ba de qp qt ql qs qc ch ap un ro pi si pl rq dy en th) (-1) (wMod cI ad vc vr vn ne vs li ba de qp qt ql qs qc ch ap un ro pi si pl rq dy en 2) := by
  refine CI_of (maxL := 3) (cc := cX9_ofRequest) (y := yX9_ofRequest) rfl rfl (Nat.le_of_ble_eq_true rfl) (fun X hl hD hk hn hcz hsz o fin => ?_)
  subst hl; subst hD; subst hk
  refine V_aload_n (pc := 0) o dX9_ofRequest_0 rfl ?_
  refine V_aload_n (pc := 1) o dX9_ofRequest_1 rfl ?_
  refine V_iload_n (pc := 2) o dX9_ofRequest_2 rfl ?_
  refine V_rVi (pc := 3) o (k9_reqT _ _ _ cI ht ad vc vr vn ne vs li ba de qp qt ql qs qc ch ap un ro pi si pl rq dy en th q (by omega) hrq) 0 21 gX9_ofRequest_X9_isRequest rfl hdX9_isRequest ⟨by omega, by decide⟩ rfl rfl rfl (Nat.le_of_ble_eq_true rfl) dX9_ofRequest_3 rfl ?_
  refine V_if_ne (pc := 6) o 13 dX9_ofRequest_6 (by decide) (fun _ => ?_) (fun c6 => absurd c6 (by decide))
  refine V_aload_n (pc := 13) o dX9_ofRequest_13 rfl ?_
  refine V_iload_n (pc := 14) o dX9_ofRequest_14 rfl ?_
  refine V_iconst (pc := 15) o 0 dX9_ofRequest_15 (by decide) ?_
  refine V_iconst (pc := 16) o 3 dX9_ofRequest_16 (by decide) ?_
  refine V_rVi (pc := 17) o (k9_in _ _ _ cI ht ad vc vr vn ne vs li ba de qp qt ql qs qc ch ap un ro pi si pl rq dy en th w 0 3) 0 21 gX9_ofRequest_X9_in rfl hdX9_in ⟨by omega, by decide⟩ rfl rfl rfl (Nat.le_of_ble_eq_true rfl) dX9_ofRequest_17 rfl ?_
  refine V_ifF (h) ?_
  refine V_if_eq (pc := 20) o 27 dX9_ofRequest_20 (by decide) (fun _ => ?_) (fun c20 => absurd c20 (by decide))
  refine V_iconst (pc := 27) o 2 dX9_ofRequest_27 (by decide) ?_
  refine V_wVi (pc := 28) o (k9_holds _ _ _ cI ht ad vc vr vn ne vs li ba de qp qt ql qs qc ch ap un ro pi si pl rq dy en th 2) 0 21 (wMod cI ad vc vr vn ne vs li ba de qp qt ql qs qc ch ap un ro pi si pl rq dy en 2) gX9_ofRequest_X9_holds rfl hdX9_holds ⟨by omega, by decide⟩ rfl rfl rfl (Nat.le_of_ble_eq_true rfl) dX9_ofRequest_28 rfl rfl ?_
  refine V_ifT (by decide) ?_
  refine V_if_eq (pc := 31) o 36 dX9_ofRequest_31 (by decide) (fun c31 => absurd c31 (by decide)) (fun _ => ?_)
  refine V_iconst (pc := 34) o (-1) dX9_ofRequest_34 (by decide) ?_
  exact fin 35 _ _ () dX9_ofRequest_35 rfl rfl
theorem hiX9_ofRequest : ∀ w ∈ wsX90, w ∈ wsX9_ofRequest := by decide +kernel
theorem lkX9_ofRequest_43 : Cond.fieldLink RX9 43 RX9 "qs" "[I" ∈ wsX9_ofRequest := by decide +kernel
set_option maxHeartbeats 4000000 in
set_option maxRecDepth 100000 in
/-- reference: ofRequestK0 -/
theorem k9_ofRequestK0 (l : Launch) (D : va_G) (tys : List (ClassId × FieldType)) (cI : ClassId) (ht : tys[0]? = some (cI, .int)) (ad : Nat → Nat) (vc : Nat → Nat) (vr : Nat → Nat) (vn : Nat → Nat) (ne : Nat → Nat) (vs : Nat → Nat) (li : Nat → Nat) (ba : Nat → Nat) (de : Nat → Nat) (qp : Nat → Nat) (qt : Nat → Nat) (ql : Nat → Nat) (qs : Nat → Nat) (qc : Nat → Nat) (ch : Nat → Nat) (ap : Nat → Nat) (un : Nat → Int32) (ro : Nat → Nat) (pi : Nat → Nat) (si : Nat → Nat) (pl : Nat → Int32) (rq : Nat) (dy : Nat) (en : Nat) (th : Int32) (q : Nat) (hq : q < rq) (hrq : rq ≤ 30) (hqs : ∀ k, qs k ≤ 2) (hap : ∀ k, ap k ≤ 8) (hqc : ∀ k, qc k ≤ 8000) : CId l yX9_ofRequest wsX9_ofRequest 2 D tys [.ref (ad 0), .int (nI q), .int (nI 0)] (wMod cI ad vc vr vn ne vs li ba de qp qt ql qs qc ch ap un ro pi si pl rq dy en th) (nI (qs q)) (wMod cI ad vc vr vn ne vs li ba de qp qt ql qs qc ch ap un ro pi si pl rq dy en 0) := by
  refine CI_of (maxL := 3) (cc := cX9_ofRequest) (y := yX9_ofRequest) rfl rfl (Nat.le_of_ble_eq_true rfl) (fun X hl hD hk hn hcz hsz o fin => ?_)
  subst hl; subst hD; subst hk
  refine V_aload_n (pc := 0) o dX9_ofRequest_0 rfl ?_
  refine V_aload_n (pc := 1) o dX9_ofRequest_1 rfl ?_
  refine V_iload_n (pc := 2) o dX9_ofRequest_2 rfl ?_
  refine V_rVi (pc := 3) o (k9_reqT _ _ _ cI ht ad vc vr vn ne vs li ba de qp qt ql qs qc ch ap un ro pi si pl rq dy en th q (by omega) hrq) 0 21 gX9_ofRequest_X9_isRequest rfl hdX9_isRequest ⟨by omega, by decide⟩ rfl rfl rfl (Nat.le_of_ble_eq_true rfl) dX9_ofRequest_3 rfl ?_
  refine V_if_ne (pc := 6) o 13 dX9_ofRequest_6 (by decide) (fun _ => ?_) (fun c6 => absurd c6 (by decide))
  refine V_aload_n (pc := 13) o dX9_ofRequest_13 rfl ?_
  refine V_iload_n (pc := 14) o dX9_ofRequest_14 rfl ?_
  refine V_iconst (pc := 15) o 0 dX9_ofRequest_15 (by decide) ?_
  refine V_iconst (pc := 16) o 3 dX9_ofRequest_16 (by decide) ?_
  refine V_rVi (pc := 17) o (k9_in _ _ _ cI ht ad vc vr vn ne vs li ba de qp qt ql qs qc ch ap un ro pi si pl rq dy en th 0 0 3) 0 21 gX9_ofRequest_X9_in rfl hdX9_in ⟨by omega, by decide⟩ rfl rfl rfl (Nat.le_of_ble_eq_true rfl) dX9_ofRequest_17 rfl ?_
  refine V_ifT (by decide) ?_
  refine V_if_eq (pc := 20) o 27 dX9_ofRequest_20 (by decide) (fun c20 => absurd c20 (by decide)) (fun _ => ?_)
  refine V_iconst (pc := 23) o 0 dX9_ofRequest_23 (by decide) ?_
  refine V_goto (pc := 24) o 28 dX9_ofRequest_24 (by decide) ?_
  refine V_wVi (pc := 28) o (k9_holds _ _ _ cI ht ad vc vr vn ne vs li ba de qp qt ql qs qc ch ap un ro pi si pl rq dy en th 0) 0 21 (wMod cI ad vc vr vn ne vs li ba de qp qt ql qs qc ch ap un ro pi si pl rq dy en 0) gX9_ofRequest_X9_holds rfl hdX9_holds ⟨by omega, by decide⟩ rfl rfl rfl (Nat.le_of_ble_eq_true rfl) dX9_ofRequest_28 rfl rfl ?_
  refine V_ifF (by decide) ?_
  refine V_if_eq (pc := 31) o 36 dX9_ofRequest_31 (by decide) (fun _ => ?_) (fun c31 => absurd c31 (by decide))
  refine V_iload_n (pc := 36) o dX9_ofRequest_36 rfl ?_
  refine V_if_ne (pc := 37) o 49 dX9_ofRequest_37 (by decide) (fun c37 => absurd c37 (by decide)) (fun _ => ?_)
  refine V_aload_n (pc := 40) o dX9_ofRequest_40 rfl ?_
  refine V_get (pc := 41) o 0 11 hiX9_ofRequest rfl rfl (by decide) lkX9_ofRequest_43 rfl rfl dX9_ofRequest_41 ?_
  refine V_iload_n (pc := 44) o dX9_ofRequest_44 rfl ?_
  refine V_ialdN (pc := 45) o 12 qs q rfl ht rfl (by omega) (by decide) dX9_ofRequest_45 ?_
  refine V_goto (pc := 46) o 102 dX9_ofRequest_46 (by decide) ?_
  exact fin 102 _ _ () dX9_ofRequest_102 rfl rfl
theorem lkX9_ofRequest_46 : Cond.fieldLink RX9 46 RX9 "qc" "[I" ∈ wsX9_ofRequest := by decide +kernel
set_option maxHeartbeats 4000000 in
set_option maxRecDepth 100000 in
/-- reference: ofRequestK1 -/
theorem k9_ofRequestK1 (l : Launch) (D : va_G) (tys : List (ClassId × FieldType)) (cI : ClassId) (ht : tys[0]? = some (cI, .int)) (ad : Nat → Nat) (vc : Nat → Nat) (vr : Nat → Nat) (vn : Nat → Nat) (ne : Nat → Nat) (vs : Nat → Nat) (li : Nat → Nat) (ba : Nat → Nat) (de : Nat → Nat) (qp : Nat → Nat) (qt : Nat → Nat) (ql : Nat → Nat) (qs : Nat → Nat) (qc : Nat → Nat) (ch : Nat → Nat) (ap : Nat → Nat) (un : Nat → Int32) (ro : Nat → Nat) (pi : Nat → Nat) (si : Nat → Nat) (pl : Nat → Int32) (rq : Nat) (dy : Nat) (en : Nat) (th : Int32) (q : Nat) (hq : q < rq) (hrq : rq ≤ 30) (hqs : ∀ k, qs k ≤ 2) (hap : ∀ k, ap k ≤ 8) (hqc : ∀ k, qc k ≤ 8000) : CId l yX9_ofRequest wsX9_ofRequest 2 D tys [.ref (ad 0), .int (nI q), .int (nI 1)] (wMod cI ad vc vr vn ne vs li ba de qp qt ql qs qc ch ap un ro pi si pl rq dy en th) (if qs q = 0 then -1 else nI (qc q)) (wMod cI ad vc vr vn ne vs li ba de qp qt ql qs qc ch ap un ro pi si pl rq dy en 0) := by
  refine CI_of (maxL := 3) (cc := cX9_ofRequest) (y := yX9_ofRequest) rfl rfl (Nat.le_of_ble_eq_true rfl) (fun X hl hD hk hn hcz hsz o fin => ?_)
  subst hl; subst hD; subst hk
  refine V_aload_n (pc := 0) o dX9_ofRequest_0 rfl ?_
  refine V_aload_n (pc := 1) o dX9_ofRequest_1 rfl ?_
  refine V_iload_n (pc := 2) o dX9_ofRequest_2 rfl ?_
  refine V_rVi (pc := 3) o (k9_reqT _ _ _ cI ht ad vc vr vn ne vs li ba de qp qt ql qs qc ch ap un ro pi si pl rq dy en th q (by omega) hrq) 0 21 gX9_ofRequest_X9_isRequest rfl hdX9_isRequest ⟨by omega, by decide⟩ rfl rfl rfl (Nat.le_of_ble_eq_true rfl) dX9_ofRequest_3 rfl ?_
  refine V_if_ne (pc := 6) o 13 dX9_ofRequest_6 (by decide) (fun _ => ?_) (fun c6 => absurd c6 (by decide))
  refine V_aload_n (pc := 13) o dX9_ofRequest_13 rfl ?_
  refine V_iload_n (pc := 14) o dX9_ofRequest_14 rfl ?_
  refine V_iconst (pc := 15) o 0 dX9_ofRequest_15 (by decide) ?_
  refine V_iconst (pc := 16) o 3 dX9_ofRequest_16 (by decide) ?_
  refine V_rVi (pc := 17) o (k9_in _ _ _ cI ht ad vc vr vn ne vs li ba de qp qt ql qs qc ch ap un ro pi si pl rq dy en th 1 0 3) 0 21 gX9_ofRequest_X9_in rfl hdX9_in ⟨by omega, by decide⟩ rfl rfl rfl (Nat.le_of_ble_eq_true rfl) dX9_ofRequest_17 rfl ?_
  refine V_ifT (by decide) ?_
  refine V_if_eq (pc := 20) o 27 dX9_ofRequest_20 (by decide) (fun c20 => absurd c20 (by decide)) (fun _ => ?_)
  refine V_iconst (pc := 23) o 0 dX9_ofRequest_23 (by decide) ?_
  refine V_goto (pc := 24) o 28 dX9_ofRequest_24 (by decide) ?_
  refine V_wVi (pc := 28) o (k9_holds _ _ _ cI ht ad vc vr vn ne vs li ba de qp qt ql qs qc ch ap un ro pi si pl rq dy en th 0) 0 21 (wMod cI ad vc vr vn ne vs li ba de qp qt ql qs qc ch ap un ro pi si pl rq dy en 0) gX9_ofRequest_X9_holds rfl hdX9_holds ⟨by omega, by decide⟩ rfl rfl rfl (Nat.le_of_ble_eq_true rfl) dX9_ofRequest_28 rfl rfl ?_
  refine V_ifF (by decide) ?_
  refine V_if_eq (pc := 31) o 36 dX9_ofRequest_31 (by decide) (fun _ => ?_) (fun c31 => absurd c31 (by decide))
  refine V_iload_n (pc := 36) o dX9_ofRequest_36 rfl ?_
  refine V_if_ne (pc := 37) o 49 dX9_ofRequest_37 (by decide) (fun _ => ?_) (fun c37 => absurd c37 (by decide))
  refine V_iload_n (pc := 49) o dX9_ofRequest_49 rfl ?_
  refine V_iconst (pc := 50) o 1 dX9_ofRequest_50 (by decide) ?_
  refine V_icmp_ne (pc := 51) o 76 dX9_ofRequest_51 (by decide) (fun c51 => absurd c51 (by decide)) (fun _ => ?_)
  refine V_aload_n (pc := 54) o dX9_ofRequest_54 rfl ?_
  refine V_get (pc := 55) o 0 11 hiX9_ofRequest rfl rfl (by decide) lkX9_ofRequest_43 rfl rfl dX9_ofRequest_55 ?_
  refine V_iload_n (pc := 58) o dX9_ofRequest_58 rfl ?_
  refine V_ialdN (pc := 59) o 12 qs q rfl ht rfl (by omega) (by decide) dX9_ofRequest_59 ?_
  refine V_if_neN (pc := 60) o 67 (qs q) rfl (by have := hqs q; omega) dX9_ofRequest_60 (by decide) (fun c60 => ?_) (fun c60 => ?_)
  · refine V_aload_n (pc := 67) o dX9_ofRequest_67 rfl ?_
    refine V_get (pc := 68) o 0 12 hiX9_ofRequest rfl rfl (by decide) lkX9_ofRequest_46 rfl rfl dX9_ofRequest_68 ?_
    refine V_iload_n (pc := 71) o dX9_ofRequest_71 rfl ?_
    refine V_ialdN (pc := 72) o 13 qc q rfl ht rfl (by omega) (by decide) dX9_ofRequest_72 ?_
    refine V_goto (pc := 73) o 102 dX9_ofRequest_73 (by decide) ?_
    exact fin 102 _ _ () dX9_ofRequest_102 rfl (by first | (rw [if_pos (by omega)]; done) | (rw [if_neg (by omega)]; done))
  · refine V_iconst (pc := 63) o (-1) dX9_ofRequest_63 (by decide) ?_
    refine V_goto (pc := 64) o 102 dX9_ofRequest_64 (by decide) ?_
    exact fin 102 _ _ () dX9_ofRequest_102 rfl (by first | (rw [if_pos (by omega)]; done) | (rw [if_neg (by omega)]; done))
set_option maxHeartbeats 4000000 in
set_option maxRecDepth 100000 in
/-- reference: ofRequestK2 -/
theorem k9_ofRequestK2 (l : Launch) (D : va_G) (tys : List (ClassId × FieldType)) (cI : ClassId) (ht : tys[0]? = some (cI, .int)) (ad : Nat → Nat) (vc : Nat → Nat) (vr : Nat → Nat) (vn : Nat → Nat) (ne : Nat → Nat) (vs : Nat → Nat) (li : Nat → Nat) (ba : Nat → Nat) (de : Nat → Nat) (qp : Nat → Nat) (qt : Nat → Nat) (ql : Nat → Nat) (qs : Nat → Nat) (qc : Nat → Nat) (ch : Nat → Nat) (ap : Nat → Nat) (un : Nat → Int32) (ro : Nat → Nat) (pi : Nat → Nat) (si : Nat → Nat) (pl : Nat → Int32) (rq : Nat) (dy : Nat) (en : Nat) (th : Int32) (q : Nat) (hq : q < rq) (hrq : rq ≤ 30) (hqs : ∀ k, qs k ≤ 2) (hap : ∀ k, ap k ≤ 8) (hqc : ∀ k, qc k ≤ 8000) : CId l yX9_ofRequest wsX9_ofRequest 2 D tys [.ref (ad 0), .int (nI q), .int (nI 2)] (wMod cI ad vc vr vn ne vs li ba de qp qt ql qs qc ch ap un ro pi si pl rq dy en th) (nI (apS ap q 8)) (wMod cI ad vc vr vn ne vs li ba de qp qt ql qs qc ch ap un ro pi si pl rq dy en 0) := by
  refine CI_of (maxL := 3) (cc := cX9_ofRequest) (y := yX9_ofRequest) rfl rfl (Nat.le_of_ble_eq_true rfl) (fun X hl hD hk hn hcz hsz o fin => ?_)
  subst hl; subst hD; subst hk
  refine V_aload_n (pc := 0) o dX9_ofRequest_0 rfl ?_
  refine V_aload_n (pc := 1) o dX9_ofRequest_1 rfl ?_
  refine V_iload_n (pc := 2) o dX9_ofRequest_2 rfl ?_
  refine V_rVi (pc := 3) o (k9_reqT _ _ _ cI ht ad vc vr vn ne vs li ba de qp qt ql qs qc ch ap un ro pi si pl rq dy en th q (by omega) hrq) 0 21 gX9_ofRequest_X9_isRequest rfl hdX9_isRequest ⟨by omega, by decide⟩ rfl rfl rfl (Nat.le_of_ble_eq_true rfl) dX9_ofRequest_3 rfl ?_
  refine V_if_ne (pc := 6) o 13 dX9_ofRequest_6 (by decide) (fun _ => ?_) (fun c6 => absurd c6 (by decide))
  refine V_aload_n (pc := 13) o dX9_ofRequest_13 rfl ?_
  refine V_iload_n (pc := 14) o dX9_ofRequest_14 rfl ?_
  refine V_iconst (pc := 15) o 0 dX9_ofRequest_15 (by decide) ?_
  refine V_iconst (pc := 16) o 3 dX9_ofRequest_16 (by decide) ?_
  refine V_rVi (pc := 17) o (k9_in _ _ _ cI ht ad vc vr vn ne vs li ba de qp qt ql qs qc ch ap un ro pi si pl rq dy en th 2 0 3) 0 21 gX9_ofRequest_X9_in rfl hdX9_in ⟨by omega, by decide⟩ rfl rfl rfl (Nat.le_of_ble_eq_true rfl) dX9_ofRequest_17 rfl ?_
  refine V_ifT (by decide) ?_
  refine V_if_eq (pc := 20) o 27 dX9_ofRequest_20 (by decide) (fun c20 => absurd c20 (by decide)) (fun _ => ?_)
  refine V_iconst (pc := 23) o 0 dX9_ofRequest_23 (by decide) ?_
  refine V_goto (pc := 24) o 28 dX9_ofRequest_24 (by decide) ?_
  refine V_wVi (pc := 28) o (k9_holds _ _ _ cI ht ad vc vr vn ne vs li ba de qp qt ql qs qc ch ap un ro pi si pl rq dy en th 0) 0 21 (wMod cI ad vc vr vn ne vs li ba de qp qt ql qs qc ch ap un ro pi si pl rq dy en 0) gX9_ofRequest_X9_holds rfl hdX9_holds ⟨by omega, by decide⟩ rfl rfl rfl (Nat.le_of_ble_eq_true rfl) dX9_ofRequest_28 rfl rfl ?_
  refine V_ifF (by decide) ?_
  refine V_if_eq (pc := 31) o 36 dX9_ofRequest_31 (by decide) (fun _ => ?_) (fun c31 => absurd c31 (by decide))
  refine V_iload_n (pc := 36) o dX9_ofRequest_36 rfl ?_
  refine V_if_ne (pc := 37) o 49 dX9_ofRequest_37 (by decide) (fun _ => ?_) (fun c37 => absurd c37 (by decide))
  refine V_iload_n (pc := 49) o dX9_ofRequest_49 rfl ?_
  refine V_iconst (pc := 50) o 1 dX9_ofRequest_50 (by decide) ?_
  refine V_icmp_ne (pc := 51) o 76 dX9_ofRequest_51 (by decide) (fun _ => ?_) (fun c51 => absurd c51 (by decide))
  refine V_iload_n (pc := 76) o dX9_ofRequest_76 rfl ?_
  refine V_iconst (pc := 77) o 2 dX9_ofRequest_77 (by decide) ?_
  refine V_icmp_ne (pc := 78) o 89 dX9_ofRequest_78 (by decide) (fun c78 => absurd c78 (by decide)) (fun _ => ?_)
  refine V_aload_n (pc := 81) o dX9_ofRequest_81 rfl ?_
  refine V_iload_n (pc := 82) o dX9_ofRequest_82 rfl ?_
  refine V_rVi (pc := 83) o (k9_approvals _ _ _ cI ht ad vc vr vn ne vs li ba de qp qt ql qs qc ch ap un ro pi si pl rq dy en 0 q (by omega) hap) 0 21 gX9_ofRequest_X9_approvals rfl hdX9_approvals ⟨by omega, by decide⟩ rfl rfl rfl (Nat.le_of_ble_eq_true rfl) dX9_ofRequest_83 rfl ?_
  refine V_goto (pc := 86) o 102 dX9_ofRequest_86 (by decide) ?_
  exact fin 102 _ _ () dX9_ofRequest_102 rfl rfl
set_option maxHeartbeats 4000000 in
set_option maxRecDepth 100000 in
/-- reference: ofRequestK3T -/
theorem k9_ofRequestK3T (l : Launch) (D : va_G) (tys : List (ClassId × FieldType)) (cI : ClassId) (ht : tys[0]? = some (cI, .int)) (ad : Nat → Nat) (vc : Nat → Nat) (vr : Nat → Nat) (vn : Nat → Nat) (ne : Nat → Nat) (vs : Nat → Nat) (li : Nat → Nat) (ba : Nat → Nat) (de : Nat → Nat) (qp : Nat → Nat) (qt : Nat → Nat) (ql : Nat → Nat) (qs : Nat → Nat) (qc : Nat → Nat) (ch : Nat → Nat) (ap : Nat → Nat) (un : Nat → Int32) (ro : Nat → Nat) (pi : Nat → Nat) (si : Nat → Nat) (pl : Nat → Int32) (rq : Nat) (dy : Nat) (en : Nat) (th : Int32) (q : Nat) (hq : q < rq) (hrq : rq ≤ 30) (hqs : ∀ k, qs k ≤ 2) (hap : ∀ k, ap k ≤ 8) (hqc : ∀ k, qc k ≤ 8000) (h : cov9 (qc q) (apS ap q 8)) : CId l yX9_ofRequest wsX9_ofRequest 2 D tys [.ref (ad 0), .int (nI q), .int (nI 3)] (wMod cI ad vc vr vn ne vs li ba de qp qt ql qs qc ch ap un ro pi si pl rq dy en th) 1 (wMod cI ad vc vr vn ne vs li ba de qp qt ql qs qc ch ap un ro pi si pl rq dy en 0) := by
  refine CI_of (maxL := 3) (cc := cX9_ofRequest) (y := yX9_ofRequest) rfl rfl (Nat.le_of_ble_eq_true rfl) (fun X hl hD hk hn hcz hsz o fin => ?_)
  subst hl; subst hD; subst hk
  refine V_aload_n (pc := 0) o dX9_ofRequest_0 rfl ?_
  refine V_aload_n (pc := 1) o dX9_ofRequest_1 rfl ?_
  refine V_iload_n (pc := 2) o dX9_ofRequest_2 rfl ?_
  refine V_rVi (pc := 3) o (k9_reqT _ _ _ cI ht ad vc vr vn ne vs li ba de qp qt ql qs qc ch ap un ro pi si pl rq dy en th q (by omega) hrq) 0 21 gX9_ofRequest_X9_isRequest rfl hdX9_isRequest ⟨by omega, by decide⟩ rfl rfl rfl (Nat.le_of_ble_eq_true rfl) dX9_ofRequest_3 rfl ?_
  refine V_if_ne (pc := 6) o 13 dX9_ofRequest_6 (by decide) (fun _ => ?_) (fun c6 => absurd c6 (by decide))
  refine V_aload_n (pc := 13) o dX9_ofRequest_13 rfl ?_
  refine V_iload_n (pc := 14) o dX9_ofRequest_14 rfl ?_
  refine V_iconst (pc := 15) o 0 dX9_ofRequest_15 (by decide) ?_
  refine V_iconst (pc := 16) o 3 dX9_ofRequest_16 (by decide) ?_
  refine V_rVi (pc := 17) o (k9_in _ _ _ cI ht ad vc vr vn ne vs li ba de qp qt ql qs qc ch ap un ro pi si pl rq dy en th 3 0 3) 0 21 gX9_ofRequest_X9_in rfl hdX9_in ⟨by omega, by decide⟩ rfl rfl rfl (Nat.le_of_ble_eq_true rfl) dX9_ofRequest_17 rfl ?_
  refine V_ifT (by decide) ?_
  refine V_if_eq (pc := 20) o 27 dX9_ofRequest_20 (by decide) (fun c20 => absurd c20 (by decide)) (fun _ => ?_)
  refine V_iconst (pc := 23) o 0 dX9_ofRequest_23 (by decide) ?_
  refine V_goto (pc := 24) o 28 dX9_ofRequest_24 (by decide) ?_
  refine V_wVi (pc := 28) o (k9_holds _ _ _ cI ht ad vc vr vn ne vs li ba de qp qt ql qs qc ch ap un ro pi si pl rq dy en th 0) 0 21 (wMod cI ad vc vr vn ne vs li ba de qp qt ql qs qc ch ap un ro pi si pl rq dy en 0) gX9_ofRequest_X9_holds rfl hdX9_holds ⟨by omega, by decide⟩ rfl rfl rfl (Nat.le_of_ble_eq_true rfl) dX9_ofRequest_28 rfl rfl ?_
  refine V_ifF (by decide) ?_
  refine V_if_eq (pc := 31) o 36 dX9_ofRequest_31 (by decide) (fun _ => ?_) (fun c31 => absurd c31 (by decide))
  refine V_iload_n (pc := 36) o dX9_ofRequest_36 rfl ?_
  refine V_if_ne (pc := 37) o 49 dX9_ofRequest_37 (by decide) (fun _ => ?_) (fun c37 => absurd c37 (by decide))
  refine V_iload_n (pc := 49) o dX9_ofRequest_49 rfl ?_
  refine V_iconst (pc := 50) o 1 dX9_ofRequest_50 (by decide) ?_
  refine V_icmp_ne (pc := 51) o 76 dX9_ofRequest_51 (by decide) (fun _ => ?_) (fun c51 => absurd c51 (by decide))
  refine V_iload_n (pc := 76) o dX9_ofRequest_76 rfl ?_
  refine V_iconst (pc := 77) o 2 dX9_ofRequest_77 (by decide) ?_
  refine V_icmp_ne (pc := 78) o 89 dX9_ofRequest_78 (by decide) (fun _ => ?_) (fun c78 => absurd c78 (by decide))
  refine V_aload_n (pc := 89) o dX9_ofRequest_89 rfl ?_
  refine V_iload_n (pc := 90) o dX9_ofRequest_90 rfl ?_
  refine V_rVi (pc := 91) o (k9_covT _ _ _ cI ht ad vc vr vn ne vs li ba de qp qt ql qs qc ch ap un ro pi si pl rq dy en 0 q (by omega) hap hqc h) 0 21 gX9_ofRequest_X9_covered rfl hdX9_covered ⟨by omega, by decide⟩ rfl rfl rfl (Nat.le_of_ble_eq_true rfl) dX9_ofRequest_91 rfl ?_
  refine V_if_eq (pc := 94) o 101 dX9_ofRequest_94 (by decide) (fun c94 => absurd c94 (by decide)) (fun _ => ?_)
  refine V_iconst (pc := 97) o 1 dX9_ofRequest_97 (by decide) ?_
  refine V_goto (pc := 98) o 102 dX9_ofRequest_98 (by decide) ?_
  exact fin 102 _ _ () dX9_ofRequest_102 rfl rfl
set_option maxHeartbeats 4000000 in
set_option maxRecDepth 100000 in
/-- reference: ofRequestK3F -/
theorem k9_ofRequestK3F (l : Launch) (D : va_G) (tys : List (ClassId × FieldType)) (cI : ClassId) (ht : tys[0]? = some (cI, .int)) (ad : Nat → Nat) (vc : Nat → Nat) (vr : Nat → Nat) (vn : Nat → Nat) (ne : Nat → Nat) (vs : Nat → Nat) (li : Nat → Nat) (ba : Nat → Nat) (de : Nat → Nat) (qp : Nat → Nat) (qt : Nat → Nat) (ql : Nat → Nat) (qs : Nat → Nat) (qc : Nat → Nat) (ch : Nat → Nat) (ap : Nat → Nat) (un : Nat → Int32) (ro : Nat → Nat) (pi : Nat → Nat) (si : Nat → Nat) (pl : Nat → Int32) (rq : Nat) (dy : Nat) (en : Nat) (th : Int32) (q : Nat) (hq : q < rq) (hrq : rq ≤ 30) (hqs : ∀ k, qs k ≤ 2) (hap : ∀ k, ap k ≤ 8) (hqc : ∀ k, qc k ≤ 8000) (h : ¬ cov9 (qc q) (apS ap q 8)) : CId l yX9_ofRequest wsX9_ofRequest 2 D tys [.ref (ad 0), .int (nI q), .int (nI 3)] (wMod cI ad vc vr vn ne vs li ba de qp qt ql qs qc ch ap un ro pi si pl rq dy en th) 0 (wMod cI ad vc vr vn ne vs li ba de qp qt ql qs qc ch ap un ro pi si pl rq dy en 0) := by
  refine CI_of (maxL := 3) (cc := cX9_ofRequest) (y := yX9_ofRequest) rfl rfl (Nat.le_of_ble_eq_true rfl) (fun X hl hD hk hn hcz hsz o fin => ?_)
  subst hl; subst hD; subst hk
  refine V_aload_n (pc := 0) o dX9_ofRequest_0 rfl ?_
  refine V_aload_n (pc := 1) o dX9_ofRequest_1 rfl ?_
  refine V_iload_n (pc := 2) o dX9_ofRequest_2 rfl ?_
  refine V_rVi (pc := 3) o (k9_reqT _ _ _ cI ht ad vc vr vn ne vs li ba de qp qt ql qs qc ch ap un ro pi si pl rq dy en th q (by omega) hrq) 0 21 gX9_ofRequest_X9_isRequest rfl hdX9_isRequest ⟨by omega, by decide⟩ rfl rfl rfl (Nat.le_of_ble_eq_true rfl) dX9_ofRequest_3 rfl ?_
  refine V_if_ne (pc := 6) o 13 dX9_ofRequest_6 (by decide) (fun _ => ?_) (fun c6 => absurd c6 (by decide))
  refine V_aload_n (pc := 13) o dX9_ofRequest_13 rfl ?_
  refine V_iload_n (pc := 14) o dX9_ofRequest_14 rfl ?_
  refine V_iconst (pc := 15) o 0 dX9_ofRequest_15 (by decide) ?_
  refine V_iconst (pc := 16) o 3 dX9_ofRequest_16 (by decide) ?_
  refine V_rVi (pc := 17) o (k9_in _ _ _ cI ht ad vc vr vn ne vs li ba de qp qt ql qs qc ch ap un ro pi si pl rq dy en th 3 0 3) 0 21 gX9_ofRequest_X9_in rfl hdX9_in ⟨by omega, by decide⟩ rfl rfl rfl (Nat.le_of_ble_eq_true rfl) dX9_ofRequest_17 rfl ?_
  refine V_ifT (by decide) ?_
  refine V_if_eq (pc := 20) o 27 dX9_ofRequest_20 (by decide) (fun c20 => absurd c20 (by decide)) (fun _ => ?_)
  refine V_iconst (pc := 23) o 0 dX9_ofRequest_23 (by decide) ?_
  refine V_goto (pc := 24) o 28 dX9_ofRequest_24 (by decide) ?_
  refine V_wVi (pc := 28) o (k9_holds _ _ _ cI ht ad vc vr vn ne vs li ba de qp qt ql qs qc ch ap un ro pi si pl rq dy en th 0) 0 21 (wMod cI ad vc vr vn ne vs li ba de qp qt ql qs qc ch ap un ro pi si pl rq dy en 0) gX9_ofRequest_X9_holds rfl hdX9_holds ⟨by omega, by decide⟩ rfl rfl rfl (Nat.le_of_ble_eq_true rfl) dX9_ofRequest_28 rfl rfl ?_
  refine V_ifF (by decide) ?_
  refine V_if_eq (pc := 31) o 36 dX9_ofRequest_31 (by decide) (fun _ => ?_) (fun c31 => absurd c31 (by decide))
  refine V_iload_n (pc := 36) o dX9_ofRequest_36 rfl ?_
  refine V_if_ne (pc := 37) o 49 dX9_ofRequest_37 (by decide) (fun _ => ?_) (fun c37 => absurd c37 (by decide))
  refine V_iload_n (pc := 49) o dX9_ofRequest_49 rfl ?_
  refine V_iconst (pc := 50) o 1 dX9_ofRequest_50 (by decide) ?_
  refine V_icmp_ne (pc := 51) o 76 dX9_ofRequest_51 (by decide) (fun _ => ?_) (fun c51 => absurd c51 (by decide))
  refine V_iload_n (pc := 76) o dX9_ofRequest_76 rfl ?_
  refine V_iconst (pc := 77) o 2 dX9_ofRequest_77 (by decide) ?_
  refine V_icmp_ne (pc := 78) o 89 dX9_ofRequest_78 (by decide) (fun _ => ?_) (fun c78 => absurd c78 (by decide))
  refine V_aload_n (pc := 89) o dX9_ofRequest_89 rfl ?_
  refine V_iload_n (pc := 90) o dX9_ofRequest_90 rfl ?_
  refine V_rVi (pc := 91) o (k9_covF _ _ _ cI ht ad vc vr vn ne vs li ba de qp qt ql qs qc ch ap un ro pi si pl rq dy en 0 q (by omega) hap hqc h) 0 21 gX9_ofRequest_X9_covered rfl hdX9_covered ⟨by omega, by decide⟩ rfl rfl rfl (Nat.le_of_ble_eq_true rfl) dX9_ofRequest_91 rfl ?_
  refine V_if_eq (pc := 94) o 101 dX9_ofRequest_94 (by decide) (fun _ => ?_) (fun c94 => absurd c94 (by decide))
  refine V_iconst (pc := 101) o 0 dX9_ofRequest_101 (by decide) ?_
  exact fin 102 _ _ () dX9_ofRequest_102 rfl rfl
