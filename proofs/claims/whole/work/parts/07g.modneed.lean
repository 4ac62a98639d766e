/-! The reference: need, replace, forWhom, approve, pass, strain. -/
theorem hdX9_need : yX9_need.cls = RX9 ∧ yX9_need.cls ≠ "java/lang/invoke/MethodHandle" ∧ yX9_need.cls ≠ "java/lang/invoke/VarHandle" ∧ (parseMethodDescriptor yX9_need.desc).map (fun d => d.parameters.length) = some 5 := by decide +kernel
set_option maxHeartbeats 4000000 in
set_option maxRecDepth 100000 in
/-- reference: need1a -/
theorem k9_need1a (l : Launch) (D : va_G) (tys : List (ClassId × FieldType)) (cI : ClassId) (ht : tys[0]? = some (cI, .int)) (ad : Nat → Nat) (vc : Nat → Nat) (vr : Nat → Nat) (vn : Nat → Nat) (ne : Nat → Nat) (vs : Nat → Nat) (li : Nat → Nat) (ba : Nat → Nat) (de : Nat → Nat) (qp : Nat → Nat) (qt : Nat → Nat) (ql : Nat → Nat) (qs : Nat → Nat) (qc : Nat → Nat) (ch : Nat → Nat) (ap : Nat → Nat) (un : Nat → Int32) (ro : Nat → Nat) (pi : Nat → Nat) (si : Nat → Nat) (pl : Nat → Int32) (rq : Nat) (dy : Nat) (en : Nat) (th : Int32) (p : Int32) (v q a b : Int32) (h : ¬ ((0 : Int32) ≤ p ∧ p ≤ 7)) : CId l yX9_need wsX9_need 3 D tys [.ref (ad 0), .int p, .int v, .int q, .int a, .int b] (wMod cI ad vc vr vn ne vs li ba de qp qt ql qs qc ch ap un ro pi si pl rq dy en th) (-1) (wMod cI ad vc vr vn ne vs li ba de qp qt ql qs qc ch ap un ro pi si pl rq dy en 1) := by
  refine CI_of (maxL := 10) (cc := cX9_need) (y := yX9_need) rfl rfl (Nat.le_of_ble_eq_true rfl) (fun X hl hD hk hn hcz hsz o fin => ?_)
  subst hl; subst hD; subst hk
  refine V_aload_n (pc := 0) o dX9_need_0 rfl ?_
  refine V_iload_n (pc := 1) o dX9_need_1 rfl ?_
  refine V_iload_n (pc := 2) o dX9_need_2 rfl ?_
  refine V_rVi (pc := 3) o (k9_verF1 _ _ _ cI ht ad vc vr vn ne vs li ba de qp qt ql qs qc ch ap un ro pi si pl rq dy en th p v h) 0 21 gX9_need_X9_isVersion rfl hdX9_isVersion ⟨by omega, by decide⟩ rfl rfl rfl (Nat.le_of_ble_eq_true rfl) dX9_need_3 rfl ?_
  refine V_if_eq (pc := 6) o 21 dX9_need_6 (by decide) (fun _ => ?_) (fun c6 => absurd c6 (by decide))
  refine V_iconst (pc := 21) o 0 dX9_need_21 (by decide) ?_
  refine V_istore (pc := 22) o dX9_need_22 (by rw [hn]; decide) ?_
  refine V_iload_n (pc := 24) o dX9_need_24 rfl ?_
  refine V_iload_n (pc := 25) o dX9_need_25 rfl ?_
  refine V_icmp_eq (pc := 26) o 56 dX9_need_26 (by decide) (fun c26 => ?_) (fun c26 => ?_)
  · refine V_iconst (pc := 56) o 0 dX9_need_56 (by decide) ?_
    refine V_istore (pc := 57) o dX9_need_57 (by rw [hn]; decide) ?_
    refine V_iload (pc := 59) o dX9_need_59 rfl ?_
    refine V_if_eq (pc := 61) o 74 dX9_need_61 (by decide) (fun _ => ?_) (fun c61 => absurd c61 (by decide))
    refine V_iconst (pc := 74) o 0 dX9_need_74 (by decide) ?_
    refine V_istore (pc := 75) o dX9_need_75 (by rw [hn]; decide) ?_
    refine V_aload_n (pc := 77) o dX9_need_77 rfl ?_
    refine V_iload (pc := 78) o dX9_need_78 rfl ?_
    refine V_if_ne (pc := 80) o 87 dX9_need_80 (by decide) (fun c80 => absurd c80 (by decide)) (fun _ => ?_)
    refine V_iconst (pc := 83) o 1 dX9_need_83 (by decide) ?_
    refine V_goto (pc := 84) o 112 dX9_need_84 (by decide) ?_
    refine V_wVi (pc := 112) o (k9_holds _ _ _ cI ht ad vc vr vn ne vs li ba de qp qt ql qs qc ch ap un ro pi si pl rq dy en th 1) 0 21 (wMod cI ad vc vr vn ne vs li ba de qp qt ql qs qc ch ap un ro pi si pl rq dy en 1) gX9_need_X9_holds rfl hdX9_holds ⟨by omega, by decide⟩ rfl rfl rfl (Nat.le_of_ble_eq_true rfl) dX9_need_112 rfl rfl ?_
    refine V_ifT (by decide) ?_
    refine V_if_eq (pc := 115) o 120 dX9_need_115 (by decide) (fun c115 => absurd c115 (by decide)) (fun _ => ?_)
    refine V_iconst (pc := 118) o (-1) dX9_need_118 (by decide) ?_
    exact fin 119 _ _ () dX9_need_119 rfl rfl
  · refine V_aload_n (pc := 29) o dX9_need_29 rfl ?_
    refine V_iload (pc := 30) o dX9_need_30 rfl ?_
    refine V_iconst (pc := 32) o 1 dX9_need_32 (by decide) ?_
    refine V_iconst (pc := 33) o 3 dX9_need_33 (by decide) ?_
    refine V_rVi (pc := 34) o (k9_in _ _ _ cI ht ad vc vr vn ne vs li ba de qp qt ql qs qc ch ap un ro pi si pl rq dy en th a (nI 1) (nI 3)) 0 21 gX9_need_X9_in rfl hdX9_in ⟨by omega, by decide⟩ rfl rfl rfl (Nat.le_of_ble_eq_true rfl) dX9_need_34 rfl ?_
    refine V_ite (fun b34 => ?_) (fun b34 => ?_)
    · refine V_if_eq (pc := 37) o 56 dX9_need_37 (by decide) (fun c37 => absurd c37 (by decide)) (fun _ => ?_)
      refine V_aload_n (pc := 40) o dX9_need_40 rfl ?_
      refine V_iload (pc := 41) o dX9_need_41 rfl ?_
      refine V_iload (pc := 43) o dX9_need_43 rfl ?_
      refine V_iconst (pc := 45) o 3 dX9_need_45 (by decide) ?_
      refine V_rVi (pc := 46) o (k9_in _ _ _ cI ht ad vc vr vn ne vs li ba de qp qt ql qs qc ch ap un ro pi si pl rq dy en th b a (nI 3)) 0 21 gX9_need_X9_in rfl hdX9_in ⟨by omega, by decide⟩ rfl rfl rfl (Nat.le_of_ble_eq_true rfl) dX9_need_46 rfl ?_
      refine V_ite (fun b46 => ?_) (fun b46 => ?_)
      · refine V_if_eq (pc := 49) o 56 dX9_need_49 (by decide) (fun c49 => absurd c49 (by decide)) (fun _ => ?_)
        refine V_iconst (pc := 52) o 1 dX9_need_52 (by decide) ?_
        refine V_goto (pc := 53) o 57 dX9_need_53 (by decide) ?_
        refine V_istore (pc := 57) o dX9_need_57 (by rw [hn]; decide) ?_
        refine V_iload (pc := 59) o dX9_need_59 rfl ?_
        refine V_if_eq (pc := 61) o 74 dX9_need_61 (by decide) (fun _ => ?_) (fun c61 => absurd c61 (by decide))
        refine V_iconst (pc := 74) o 0 dX9_need_74 (by decide) ?_
        refine V_istore (pc := 75) o dX9_need_75 (by rw [hn]; decide) ?_
        refine V_aload_n (pc := 77) o dX9_need_77 rfl ?_
        refine V_iload (pc := 78) o dX9_need_78 rfl ?_
        refine V_if_ne (pc := 80) o 87 dX9_need_80 (by decide) (fun c80 => absurd c80 (by decide)) (fun _ => ?_)
        refine V_iconst (pc := 83) o 1 dX9_need_83 (by decide) ?_
        refine V_goto (pc := 84) o 112 dX9_need_84 (by decide) ?_
        refine V_wVi (pc := 112) o (k9_holds _ _ _ cI ht ad vc vr vn ne vs li ba de qp qt ql qs qc ch ap un ro pi si pl rq dy en th 1) 0 21 (wMod cI ad vc vr vn ne vs li ba de qp qt ql qs qc ch ap un ro pi si pl rq dy en 1) gX9_need_X9_holds rfl hdX9_holds ⟨by omega, by decide⟩ rfl rfl rfl (Nat.le_of_ble_eq_true rfl) dX9_need_112 rfl rfl ?_
        refine V_ifT (by decide) ?_
        refine V_if_eq (pc := 115) o 120 dX9_need_115 (by decide) (fun c115 => absurd c115 (by decide)) (fun _ => ?_)
        refine V_iconst (pc := 118) o (-1) dX9_need_118 (by decide) ?_
        exact fin 119 _ _ () dX9_need_119 rfl rfl
      · refine V_if_eq (pc := 49) o 56 dX9_need_49 (by decide) (fun _ => ?_) (fun c49 => absurd c49 (by decide))
        refine V_iconst (pc := 56) o 0 dX9_need_56 (by decide) ?_
        refine V_istore (pc := 57) o dX9_need_57 (by rw [hn]; decide) ?_
        refine V_iload (pc := 59) o dX9_need_59 rfl ?_
        refine V_if_eq (pc := 61) o 74 dX9_need_61 (by decide) (fun _ => ?_) (fun c61 => absurd c61 (by decide))
        refine V_iconst (pc := 74) o 0 dX9_need_74 (by decide) ?_
        refine V_istore (pc := 75) o dX9_need_75 (by rw [hn]; decide) ?_
        refine V_aload_n (pc := 77) o dX9_need_77 rfl ?_
        refine V_iload (pc := 78) o dX9_need_78 rfl ?_
        refine V_if_ne (pc := 80) o 87 dX9_need_80 (by decide) (fun c80 => absurd c80 (by decide)) (fun _ => ?_)
        refine V_iconst (pc := 83) o 1 dX9_need_83 (by decide) ?_
        refine V_goto (pc := 84) o 112 dX9_need_84 (by decide) ?_
        refine V_wVi (pc := 112) o (k9_holds _ _ _ cI ht ad vc vr vn ne vs li ba de qp qt ql qs qc ch ap un ro pi si pl rq dy en th 1) 0 21 (wMod cI ad vc vr vn ne vs li ba de qp qt ql qs qc ch ap un ro pi si pl rq dy en 1) gX9_need_X9_holds rfl hdX9_holds ⟨by omega, by decide⟩ rfl rfl rfl (Nat.le_of_ble_eq_true rfl) dX9_need_112 rfl rfl ?_
        refine V_ifT (by decide) ?_
        refine V_if_eq (pc := 115) o 120 dX9_need_115 (by decide) (fun c115 => absurd c115 (by decide)) (fun _ => ?_)
        refine V_iconst (pc := 118) o (-1) dX9_need_118 (by decide) ?_
        exact fin 119 _ _ () dX9_need_119 rfl rfl
    · refine V_if_eq (pc := 37) o 56 dX9_need_37 (by decide) (fun _ => ?_) (fun c37 => absurd c37 (by decide))
      refine V_iconst (pc := 56) o 0 dX9_need_56 (by decide) ?_
      refine V_istore (pc := 57) o dX9_need_57 (by rw [hn]; decide) ?_
      refine V_iload (pc := 59) o dX9_need_59 rfl ?_
      refine V_if_eq (pc := 61) o 74 dX9_need_61 (by decide) (fun _ => ?_) (fun c61 => absurd c61 (by decide))
      refine V_iconst (pc := 74) o 0 dX9_need_74 (by decide) ?_
      refine V_istore (pc := 75) o dX9_need_75 (by rw [hn]; decide) ?_
      refine V_aload_n (pc := 77) o dX9_need_77 rfl ?_
      refine V_iload (pc := 78) o dX9_need_78 rfl ?_
      refine V_if_ne (pc := 80) o 87 dX9_need_80 (by decide) (fun c80 => absurd c80 (by decide)) (fun _ => ?_)
      refine V_iconst (pc := 83) o 1 dX9_need_83 (by decide) ?_
      refine V_goto (pc := 84) o 112 dX9_need_84 (by decide) ?_
      refine V_wVi (pc := 112) o (k9_holds _ _ _ cI ht ad vc vr vn ne vs li ba de qp qt ql qs qc ch ap un ro pi si pl rq dy en th 1) 0 21 (wMod cI ad vc vr vn ne vs li ba de qp qt ql qs qc ch ap un ro pi si pl rq dy en 1) gX9_need_X9_holds rfl hdX9_holds ⟨by omega, by decide⟩ rfl rfl rfl (Nat.le_of_ble_eq_true rfl) dX9_need_112 rfl rfl ?_
      refine V_ifT (by decide) ?_
      refine V_if_eq (pc := 115) o 120 dX9_need_115 (by decide) (fun c115 => absurd c115 (by decide)) (fun _ => ?_)
      refine V_iconst (pc := 118) o (-1) dX9_need_118 (by decide) ?_
      exact fin 119 _ _ () dX9_need_119 rfl rfl
set_option maxHeartbeats 4000000 in
set_option maxRecDepth 100000 in
/-- reference: need1b -/
theorem k9_need1b (l : Launch) (D : va_G) (tys : List (ClassId × FieldType)) (cI : ClassId) (ht : tys[0]? = some (cI, .int)) (ad : Nat → Nat) (vc : Nat → Nat) (vr : Nat → Nat) (vn : Nat → Nat) (ne : Nat → Nat) (vs : Nat → Nat) (li : Nat → Nat) (ba : Nat → Nat) (de : Nat → Nat) (qp : Nat → Nat) (qt : Nat → Nat) (ql : Nat → Nat) (qs : Nat → Nat) (qc : Nat → Nat) (ch : Nat → Nat) (ap : Nat → Nat) (un : Nat → Int32) (ro : Nat → Nat) (pi : Nat → Nat) (si : Nat → Nat) (pl : Nat → Int32) (rq : Nat) (dy : Nat) (en : Nat) (th : Int32) (p : Nat) (hp : p < 8) (v q a b : Int32) (h : ¬ (1 ≤ v ∧ v ≤ nI (vs p))) : CId l yX9_need wsX9_need 3 D tys [.ref (ad 0), .int (nI p), .int v, .int q, .int a, .int b] (wMod cI ad vc vr vn ne vs li ba de qp qt ql qs qc ch ap un ro pi si pl rq dy en th) (-1) (wMod cI ad vc vr vn ne vs li ba de qp qt ql qs qc ch ap un ro pi si pl rq dy en 1) := by
  refine CI_of (maxL := 10) (cc := cX9_need) (y := yX9_need) rfl rfl (Nat.le_of_ble_eq_true rfl) (fun X hl hD hk hn hcz hsz o fin => ?_)
  subst hl; subst hD; subst hk
  refine V_aload_n (pc := 0) o dX9_need_0 rfl ?_
  refine V_iload_n (pc := 1) o dX9_need_1 rfl ?_
  refine V_iload_n (pc := 2) o dX9_need_2 rfl ?_
  refine V_rVi (pc := 3) o (k9_verF2 _ _ _ cI ht ad vc vr vn ne vs li ba de qp qt ql qs qc ch ap un ro pi si pl rq dy en th p v (by omega) h) 0 21 gX9_need_X9_isVersion rfl hdX9_isVersion ⟨by omega, by decide⟩ rfl rfl rfl (Nat.le_of_ble_eq_true rfl) dX9_need_3 rfl ?_
  refine V_if_eq (pc := 6) o 21 dX9_need_6 (by decide) (fun _ => ?_) (fun c6 => absurd c6 (by decide))
  refine V_iconst (pc := 21) o 0 dX9_need_21 (by decide) ?_
  refine V_istore (pc := 22) o dX9_need_22 (by rw [hn]; decide) ?_
  refine V_iload_n (pc := 24) o dX9_need_24 rfl ?_
  refine V_iload_n (pc := 25) o dX9_need_25 rfl ?_
  refine V_icmp_eq (pc := 26) o 56 dX9_need_26 (by decide) (fun c26 => ?_) (fun c26 => ?_)
  · refine V_iconst (pc := 56) o 0 dX9_need_56 (by decide) ?_
    refine V_istore (pc := 57) o dX9_need_57 (by rw [hn]; decide) ?_
    refine V_iload (pc := 59) o dX9_need_59 rfl ?_
    refine V_if_eq (pc := 61) o 74 dX9_need_61 (by decide) (fun _ => ?_) (fun c61 => absurd c61 (by decide))
    refine V_iconst (pc := 74) o 0 dX9_need_74 (by decide) ?_
    refine V_istore (pc := 75) o dX9_need_75 (by rw [hn]; decide) ?_
    refine V_aload_n (pc := 77) o dX9_need_77 rfl ?_
    refine V_iload (pc := 78) o dX9_need_78 rfl ?_
    refine V_if_ne (pc := 80) o 87 dX9_need_80 (by decide) (fun c80 => absurd c80 (by decide)) (fun _ => ?_)
    refine V_iconst (pc := 83) o 1 dX9_need_83 (by decide) ?_
    refine V_goto (pc := 84) o 112 dX9_need_84 (by decide) ?_
    refine V_wVi (pc := 112) o (k9_holds _ _ _ cI ht ad vc vr vn ne vs li ba de qp qt ql qs qc ch ap un ro pi si pl rq dy en th 1) 0 21 (wMod cI ad vc vr vn ne vs li ba de qp qt ql qs qc ch ap un ro pi si pl rq dy en 1) gX9_need_X9_holds rfl hdX9_holds ⟨by omega, by decide⟩ rfl rfl rfl (Nat.le_of_ble_eq_true rfl) dX9_need_112 rfl rfl ?_
    refine V_ifT (by decide) ?_
    refine V_if_eq (pc := 115) o 120 dX9_need_115 (by decide) (fun c115 => absurd c115 (by decide)) (fun _ => ?_)
    refine V_iconst (pc := 118) o (-1) dX9_need_118 (by decide) ?_
    exact fin 119 _ _ () dX9_need_119 rfl rfl
  · refine V_aload_n (pc := 29) o dX9_need_29 rfl ?_
    refine V_iload (pc := 30) o dX9_need_30 rfl ?_
    refine V_iconst (pc := 32) o 1 dX9_need_32 (by decide) ?_
    refine V_iconst (pc := 33) o 3 dX9_need_33 (by decide) ?_
    refine V_rVi (pc := 34) o (k9_in _ _ _ cI ht ad vc vr vn ne vs li ba de qp qt ql qs qc ch ap un ro pi si pl rq dy en th a (nI 1) (nI 3)) 0 21 gX9_need_X9_in rfl hdX9_in ⟨by omega, by decide⟩ rfl rfl rfl (Nat.le_of_ble_eq_true rfl) dX9_need_34 rfl ?_
    refine V_ite (fun b34 => ?_) (fun b34 => ?_)
    · refine V_if_eq (pc := 37) o 56 dX9_need_37 (by decide) (fun c37 => absurd c37 (by decide)) (fun _ => ?_)
      refine V_aload_n (pc := 40) o dX9_need_40 rfl ?_
      refine V_iload (pc := 41) o dX9_need_41 rfl ?_
      refine V_iload (pc := 43) o dX9_need_43 rfl ?_
      refine V_iconst (pc := 45) o 3 dX9_need_45 (by decide) ?_
      refine V_rVi (pc := 46) o (k9_in _ _ _ cI ht ad vc vr vn ne vs li ba de qp qt ql qs qc ch ap un ro pi si pl rq dy en th b a (nI 3)) 0 21 gX9_need_X9_in rfl hdX9_in ⟨by omega, by decide⟩ rfl rfl rfl (Nat.le_of_ble_eq_true rfl) dX9_need_46 rfl ?_
      refine V_ite (fun b46 => ?_) (fun b46 => ?_)
      · refine V_if_eq (pc := 49) o 56 dX9_need_49 (by decide) (fun c49 => absurd c49 (by decide)) (fun _ => ?_)
        refine V_iconst (pc := 52) o 1 dX9_need_52 (by decide) ?_
        refine V_goto (pc := 53) o 57 dX9_need_53 (by decide) ?_
        refine V_istore (pc := 57) o dX9_need_57 (by rw [hn]; decide) ?_
        refine V_iload (pc := 59) o dX9_need_59 rfl ?_
        refine V_if_eq (pc := 61) o 74 dX9_need_61 (by decide) (fun _ => ?_) (fun c61 => absurd c61 (by decide))
        refine V_iconst (pc := 74) o 0 dX9_need_74 (by decide) ?_
        refine V_istore (pc := 75) o dX9_need_75 (by rw [hn]; decide) ?_
        refine V_aload_n (pc := 77) o dX9_need_77 rfl ?_
        refine V_iload (pc := 78) o dX9_need_78 rfl ?_
        refine V_if_ne (pc := 80) o 87 dX9_need_80 (by decide) (fun c80 => absurd c80 (by decide)) (fun _ => ?_)
        refine V_iconst (pc := 83) o 1 dX9_need_83 (by decide) ?_
        refine V_goto (pc := 84) o 112 dX9_need_84 (by decide) ?_
        refine V_wVi (pc := 112) o (k9_holds _ _ _ cI ht ad vc vr vn ne vs li ba de qp qt ql qs qc ch ap un ro pi si pl rq dy en th 1) 0 21 (wMod cI ad vc vr vn ne vs li ba de qp qt ql qs qc ch ap un ro pi si pl rq dy en 1) gX9_need_X9_holds rfl hdX9_holds ⟨by omega, by decide⟩ rfl rfl rfl (Nat.le_of_ble_eq_true rfl) dX9_need_112 rfl rfl ?_
        refine V_ifT (by decide) ?_
        refine V_if_eq (pc := 115) o 120 dX9_need_115 (by decide) (fun c115 => absurd c115 (by decide)) (fun _ => ?_)
        refine V_iconst (pc := 118) o (-1) dX9_need_118 (by decide) ?_
        exact fin 119 _ _ () dX9_need_119 rfl rfl
      · refine V_if_eq (pc := 49) o 56 dX9_need_49 (by decide) (fun _ => ?_) (fun c49 => absurd c49 (by decide))
        refine V_iconst (pc := 56) o 0 dX9_need_56 (by decide) ?_
        refine V_istore (pc := 57) o dX9_need_57 (by rw [hn]; decide) ?_
        refine V_iload (pc := 59) o dX9_need_59 rfl ?_
        refine V_if_eq (pc := 61) o 74 dX9_need_61 (by decide) (fun _ => ?_) (fun c61 => absurd c61 (by decide))
        refine V_iconst (pc := 74) o 0 dX9_need_74 (by decide) ?_
        refine V_istore (pc := 75) o dX9_need_75 (by rw [hn]; decide) ?_
        refine V_aload_n (pc := 77) o dX9_need_77 rfl ?_
        refine V_iload (pc := 78) o dX9_need_78 rfl ?_
        refine V_if_ne (pc := 80) o 87 dX9_need_80 (by decide) (fun c80 => absurd c80 (by decide)) (fun _ => ?_)
        refine V_iconst (pc := 83) o 1 dX9_need_83 (by decide) ?_
        refine V_goto (pc := 84) o 112 dX9_need_84 (by decide) ?_
        refine V_wVi (pc := 112) o (k9_holds _ _ _ cI ht ad vc vr vn ne vs li ba de qp qt ql qs qc ch ap un ro pi si pl rq dy en th 1) 0 21 (wMod cI ad vc vr vn ne vs li ba de qp qt ql qs qc ch ap un ro pi si pl rq dy en 1) gX9_need_X9_holds rfl hdX9_holds ⟨by omega, by decide⟩ rfl rfl rfl (Nat.le_of_ble_eq_true rfl) dX9_need_112 rfl rfl ?_
        refine V_ifT (by decide) ?_
        refine V_if_eq (pc := 115) o 120 dX9_need_115 (by decide) (fun c115 => absurd c115 (by decide)) (fun _ => ?_)
        refine V_iconst (pc := 118) o (-1) dX9_need_118 (by decide) ?_
        exact fin 119 _ _ () dX9_need_119 rfl rfl
    · refine V_if_eq (pc := 37) o 56 dX9_need_37 (by decide) (fun _ => ?_) (fun c37 => absurd c37 (by decide))
      refine V_iconst (pc := 56) o 0 dX9_need_56 (by decide) ?_
      refine V_istore (pc := 57) o dX9_need_57 (by rw [hn]; decide) ?_
      refine V_iload (pc := 59) o dX9_need_59 rfl ?_
      refine V_if_eq (pc := 61) o 74 dX9_need_61 (by decide) (fun _ => ?_) (fun c61 => absurd c61 (by decide))
      refine V_iconst (pc := 74) o 0 dX9_need_74 (by decide) ?_
      refine V_istore (pc := 75) o dX9_need_75 (by rw [hn]; decide) ?_
      refine V_aload_n (pc := 77) o dX9_need_77 rfl ?_
      refine V_iload (pc := 78) o dX9_need_78 rfl ?_
      refine V_if_ne (pc := 80) o 87 dX9_need_80 (by decide) (fun c80 => absurd c80 (by decide)) (fun _ => ?_)
      refine V_iconst (pc := 83) o 1 dX9_need_83 (by decide) ?_
      refine V_goto (pc := 84) o 112 dX9_need_84 (by decide) ?_
      refine V_wVi (pc := 112) o (k9_holds _ _ _ cI ht ad vc vr vn ne vs li ba de qp qt ql qs qc ch ap un ro pi si pl rq dy en th 1) 0 21 (wMod cI ad vc vr vn ne vs li ba de qp qt ql qs qc ch ap un ro pi si pl rq dy en 1) gX9_need_X9_holds rfl hdX9_holds ⟨by omega, by decide⟩ rfl rfl rfl (Nat.le_of_ble_eq_true rfl) dX9_need_112 rfl rfl ?_
      refine V_ifT (by decide) ?_
      refine V_if_eq (pc := 115) o 120 dX9_need_115 (by decide) (fun c115 => absurd c115 (by decide)) (fun _ => ?_)
      refine V_iconst (pc := 118) o (-1) dX9_need_118 (by decide) ?_
      exact fin 119 _ _ () dX9_need_119 rfl rfl
set_option maxHeartbeats 4000000 in
set_option maxRecDepth 100000 in
/-- reference: need1c -/
theorem k9_need1c (l : Launch) (D : va_G) (tys : List (ClassId × FieldType)) (cI : ClassId) (ht : tys[0]? = some (cI, .int)) (ad : Nat → Nat) (vc : Nat → Nat) (vr : Nat → Nat) (vn : Nat → Nat) (ne : Nat → Nat) (vs : Nat → Nat) (li : Nat → Nat) (ba : Nat → Nat) (de : Nat → Nat) (qp : Nat → Nat) (qt : Nat → Nat) (ql : Nat → Nat) (qs : Nat → Nat) (qc : Nat → Nat) (ch : Nat → Nat) (ap : Nat → Nat) (un : Nat → Int32) (ro : Nat → Nat) (pi : Nat → Nat) (si : Nat → Nat) (pl : Nat → Int32) (rq : Nat) (dy : Nat) (en : Nat) (th : Int32) (p v : Nat) (hp : p < 8) (hv : 1 ≤ v ∧ v ≤ vs p) (hvs : ∀ k, vs k ≤ 3) (q a b : Int32) (h : ¬ ((0 : Int32) ≤ q ∧ q ≤ 7)) : CId l yX9_need wsX9_need 3 D tys [.ref (ad 0), .int (nI p), .int (nI v), .int q, .int a, .int b] (wMod cI ad vc vr vn ne vs li ba de qp qt ql qs qc ch ap un ro pi si pl rq dy en th) (-1) (wMod cI ad vc vr vn ne vs li ba de qp qt ql qs qc ch ap un ro pi si pl rq dy en 1) := by
  refine CI_of (maxL := 10) (cc := cX9_need) (y := yX9_need) rfl rfl (Nat.le_of_ble_eq_true rfl) (fun X hl hD hk hn hcz hsz o fin => ?_)
  subst hl; subst hD; subst hk
  refine V_aload_n (pc := 0) o dX9_need_0 rfl ?_
  refine V_iload_n (pc := 1) o dX9_need_1 rfl ?_
  refine V_iload_n (pc := 2) o dX9_need_2 rfl ?_
  refine V_rVi (pc := 3) o (k9_verT _ _ _ cI ht ad vc vr vn ne vs li ba de qp qt ql qs qc ch ap un ro pi si pl rq dy en th p v (by omega) (by omega) hvs) 0 21 gX9_need_X9_isVersion rfl hdX9_isVersion ⟨by omega, by decide⟩ rfl rfl rfl (Nat.le_of_ble_eq_true rfl) dX9_need_3 rfl ?_
  refine V_if_eq (pc := 6) o 21 dX9_need_6 (by decide) (fun c6 => absurd c6 (by decide)) (fun _ => ?_)
  refine V_aload_n (pc := 9) o dX9_need_9 rfl ?_
  refine V_iload_n (pc := 10) o dX9_need_10 rfl ?_
  refine V_rVi (pc := 11) o (k9_eightF _ _ _ cI ht ad vc vr vn ne vs li ba de qp qt ql qs qc ch ap un ro pi si pl rq dy en th q h) 0 21 gX9_need_X9_isEight rfl hdX9_isEight ⟨by omega, by decide⟩ rfl rfl rfl (Nat.le_of_ble_eq_true rfl) dX9_need_11 rfl ?_
  refine V_if_eq (pc := 14) o 21 dX9_need_14 (by decide) (fun _ => ?_) (fun c14 => absurd c14 (by decide))
  refine V_iconst (pc := 21) o 0 dX9_need_21 (by decide) ?_
  refine V_istore (pc := 22) o dX9_need_22 (by rw [hn]; decide) ?_
  refine V_iload_n (pc := 24) o dX9_need_24 rfl ?_
  refine V_iload_n (pc := 25) o dX9_need_25 rfl ?_
  refine V_icmp_eq (pc := 26) o 56 dX9_need_26 (by decide) (fun c26 => ?_) (fun c26 => ?_)
  · refine V_iconst (pc := 56) o 0 dX9_need_56 (by decide) ?_
    refine V_istore (pc := 57) o dX9_need_57 (by rw [hn]; decide) ?_
    refine V_iload (pc := 59) o dX9_need_59 rfl ?_
    refine V_if_eq (pc := 61) o 74 dX9_need_61 (by decide) (fun _ => ?_) (fun c61 => absurd c61 (by decide))
    refine V_iconst (pc := 74) o 0 dX9_need_74 (by decide) ?_
    refine V_istore (pc := 75) o dX9_need_75 (by rw [hn]; decide) ?_
    refine V_aload_n (pc := 77) o dX9_need_77 rfl ?_
    refine V_iload (pc := 78) o dX9_need_78 rfl ?_
    refine V_if_ne (pc := 80) o 87 dX9_need_80 (by decide) (fun c80 => absurd c80 (by decide)) (fun _ => ?_)
    refine V_iconst (pc := 83) o 1 dX9_need_83 (by decide) ?_
    refine V_goto (pc := 84) o 112 dX9_need_84 (by decide) ?_
    refine V_wVi (pc := 112) o (k9_holds _ _ _ cI ht ad vc vr vn ne vs li ba de qp qt ql qs qc ch ap un ro pi si pl rq dy en th 1) 0 21 (wMod cI ad vc vr vn ne vs li ba de qp qt ql qs qc ch ap un ro pi si pl rq dy en 1) gX9_need_X9_holds rfl hdX9_holds ⟨by omega, by decide⟩ rfl rfl rfl (Nat.le_of_ble_eq_true rfl) dX9_need_112 rfl rfl ?_
    refine V_ifT (by decide) ?_
    refine V_if_eq (pc := 115) o 120 dX9_need_115 (by decide) (fun c115 => absurd c115 (by decide)) (fun _ => ?_)
    refine V_iconst (pc := 118) o (-1) dX9_need_118 (by decide) ?_
    exact fin 119 _ _ () dX9_need_119 rfl rfl
  · refine V_aload_n (pc := 29) o dX9_need_29 rfl ?_
    refine V_iload (pc := 30) o dX9_need_30 rfl ?_
    refine V_iconst (pc := 32) o 1 dX9_need_32 (by decide) ?_
    refine V_iconst (pc := 33) o 3 dX9_need_33 (by decide) ?_
    refine V_rVi (pc := 34) o (k9_in _ _ _ cI ht ad vc vr vn ne vs li ba de qp qt ql qs qc ch ap un ro pi si pl rq dy en th a (nI 1) (nI 3)) 0 21 gX9_need_X9_in rfl hdX9_in ⟨by omega, by decide⟩ rfl rfl rfl (Nat.le_of_ble_eq_true rfl) dX9_need_34 rfl ?_
    refine V_ite (fun b34 => ?_) (fun b34 => ?_)
    · refine V_if_eq (pc := 37) o 56 dX9_need_37 (by decide) (fun c37 => absurd c37 (by decide)) (fun _ => ?_)
      refine V_aload_n (pc := 40) o dX9_need_40 rfl ?_
      refine V_iload (pc := 41) o dX9_need_41 rfl ?_
      refine V_iload (pc := 43) o dX9_need_43 rfl ?_
      refine V_iconst (pc := 45) o 3 dX9_need_45 (by decide) ?_
      refine V_rVi (pc := 46) o (k9_in _ _ _ cI ht ad vc vr vn ne vs li ba de qp qt ql qs qc ch ap un ro pi si pl rq dy en th b a (nI 3)) 0 21 gX9_need_X9_in rfl hdX9_in ⟨by omega, by decide⟩ rfl rfl rfl (Nat.le_of_ble_eq_true rfl) dX9_need_46 rfl ?_
      refine V_ite (fun b46 => ?_) (fun b46 => ?_)
      · refine V_if_eq (pc := 49) o 56 dX9_need_49 (by decide) (fun c49 => absurd c49 (by decide)) (fun _ => ?_)
        refine V_iconst (pc := 52) o 1 dX9_need_52 (by decide) ?_
        refine V_goto (pc := 53) o 57 dX9_need_53 (by decide) ?_
        refine V_istore (pc := 57) o dX9_need_57 (by rw [hn]; decide) ?_
        refine V_iload (pc := 59) o dX9_need_59 rfl ?_
        refine V_if_eq (pc := 61) o 74 dX9_need_61 (by decide) (fun _ => ?_) (fun c61 => absurd c61 (by decide))
        refine V_iconst (pc := 74) o 0 dX9_need_74 (by decide) ?_
        refine V_istore (pc := 75) o dX9_need_75 (by rw [hn]; decide) ?_
        refine V_aload_n (pc := 77) o dX9_need_77 rfl ?_
        refine V_iload (pc := 78) o dX9_need_78 rfl ?_
        refine V_if_ne (pc := 80) o 87 dX9_need_80 (by decide) (fun c80 => absurd c80 (by decide)) (fun _ => ?_)
        refine V_iconst (pc := 83) o 1 dX9_need_83 (by decide) ?_
        refine V_goto (pc := 84) o 112 dX9_need_84 (by decide) ?_
        refine V_wVi (pc := 112) o (k9_holds _ _ _ cI ht ad vc vr vn ne vs li ba de qp qt ql qs qc ch ap un ro pi si pl rq dy en th 1) 0 21 (wMod cI ad vc vr vn ne vs li ba de qp qt ql qs qc ch ap un ro pi si pl rq dy en 1) gX9_need_X9_holds rfl hdX9_holds ⟨by omega, by decide⟩ rfl rfl rfl (Nat.le_of_ble_eq_true rfl) dX9_need_112 rfl rfl ?_
        refine V_ifT (by decide) ?_
        refine V_if_eq (pc := 115) o 120 dX9_need_115 (by decide) (fun c115 => absurd c115 (by decide)) (fun _ => ?_)
        refine V_iconst (pc := 118) o (-1) dX9_need_118 (by decide) ?_
        exact fin 119 _ _ () dX9_need_119 rfl rfl
      · refine V_if_eq (pc := 49) o 56 dX9_need_49 (by decide) (fun _ => ?_) (fun c49 => absurd c49 (by decide))
        refine V_iconst (pc := 56) o 0 dX9_need_56 (by decide) ?_
        refine V_istore (pc := 57) o dX9_need_57 (by rw [hn]; decide) ?_
        refine V_iload (pc := 59) o dX9_need_59 rfl ?_
        refine V_if_eq (pc := 61) o 74 dX9_need_61 (by decide) (fun _ => ?_) (fun c61 => absurd c61 (by decide))
        refine V_iconst (pc := 74) o 0 dX9_need_74 (by decide) ?_
        refine V_istore (pc := 75) o dX9_need_75 (by rw [hn]; decide) ?_
        refine V_aload_n (pc := 77) o dX9_need_77 rfl ?_
        refine V_iload (pc := 78) o dX9_need_78 rfl ?_
        refine V_if_ne (pc := 80) o 87 dX9_need_80 (by decide) (fun c80 => absurd c80 (by decide)) (fun _ => ?_)
        refine V_iconst (pc := 83) o 1 dX9_need_83 (by decide) ?_
        refine V_goto (pc := 84) o 112 dX9_need_84 (by decide) ?_
        refine V_wVi (pc := 112) o (k9_holds _ _ _ cI ht ad vc vr vn ne vs li ba de qp qt ql qs qc ch ap un ro pi si pl rq dy en th 1) 0 21 (wMod cI ad vc vr vn ne vs li ba de qp qt ql qs qc ch ap un ro pi si pl rq dy en 1) gX9_need_X9_holds rfl hdX9_holds ⟨by omega, by decide⟩ rfl rfl rfl (Nat.le_of_ble_eq_true rfl) dX9_need_112 rfl rfl ?_
        refine V_ifT (by decide) ?_
        refine V_if_eq (pc := 115) o 120 dX9_need_115 (by decide) (fun c115 => absurd c115 (by decide)) (fun _ => ?_)
        refine V_iconst (pc := 118) o (-1) dX9_need_118 (by decide) ?_
        exact fin 119 _ _ () dX9_need_119 rfl rfl
    · refine V_if_eq (pc := 37) o 56 dX9_need_37 (by decide) (fun _ => ?_) (fun c37 => absurd c37 (by decide))
      refine V_iconst (pc := 56) o 0 dX9_need_56 (by decide) ?_
      refine V_istore (pc := 57) o dX9_need_57 (by rw [hn]; decide) ?_
      refine V_iload (pc := 59) o dX9_need_59 rfl ?_
      refine V_if_eq (pc := 61) o 74 dX9_need_61 (by decide) (fun _ => ?_) (fun c61 => absurd c61 (by decide))
      refine V_iconst (pc := 74) o 0 dX9_need_74 (by decide) ?_
      refine V_istore (pc := 75) o dX9_need_75 (by rw [hn]; decide) ?_
      refine V_aload_n (pc := 77) o dX9_need_77 rfl ?_
      refine V_iload (pc := 78) o dX9_need_78 rfl ?_
      refine V_if_ne (pc := 80) o 87 dX9_need_80 (by decide) (fun c80 => absurd c80 (by decide)) (fun _ => ?_)
      refine V_iconst (pc := 83) o 1 dX9_need_83 (by decide) ?_
      refine V_goto (pc := 84) o 112 dX9_need_84 (by decide) ?_
      refine V_wVi (pc := 112) o (k9_holds _ _ _ cI ht ad vc vr vn ne vs li ba de qp qt ql qs qc ch ap un ro pi si pl rq dy en th 1) 0 21 (wMod cI ad vc vr vn ne vs li ba de qp qt ql qs qc ch ap un ro pi si pl rq dy en 1) gX9_need_X9_holds rfl hdX9_holds ⟨by omega, by decide⟩ rfl rfl rfl (Nat.le_of_ble_eq_true rfl) dX9_need_112 rfl rfl ?_
      refine V_ifT (by decide) ?_
      refine V_if_eq (pc := 115) o 120 dX9_need_115 (by decide) (fun c115 => absurd c115 (by decide)) (fun _ => ?_)
      refine V_iconst (pc := 118) o (-1) dX9_need_118 (by decide) ?_
      exact fin 119 _ _ () dX9_need_119 rfl rfl
set_option maxHeartbeats 4000000 in
set_option maxRecDepth 100000 in
/-- reference: need2a -/
theorem k9_need2a (l : Launch) (D : va_G) (tys : List (ClassId × FieldType)) (cI : ClassId) (ht : tys[0]? = some (cI, .int)) (ad : Nat → Nat) (vc : Nat → Nat) (vr : Nat → Nat) (vn : Nat → Nat) (ne : Nat → Nat) (vs : Nat → Nat) (li : Nat → Nat) (ba : Nat → Nat) (de : Nat → Nat) (qp : Nat → Nat) (qt : Nat → Nat) (ql : Nat → Nat) (qs : Nat → Nat) (qc : Nat → Nat) (ch : Nat → Nat) (ap : Nat → Nat) (un : Nat → Int32) (ro : Nat → Nat) (pi : Nat → Nat) (si : Nat → Nat) (pl : Nat → Int32) (rq : Nat) (dy : Nat) (en : Nat) (th : Int32) (p v : Nat) (hp : p < 8) (hv : 1 ≤ v ∧ v ≤ vs p) (hvs : ∀ k, vs k ≤ 3) (q : Nat) (hq : q < 8) (a b : Int32) (h : p = q) : CId l yX9_need wsX9_need 3 D tys [.ref (ad 0), .int (nI p), .int (nI v), .int (nI q), .int a, .int b] (wMod cI ad vc vr vn ne vs li ba de qp qt ql qs qc ch ap un ro pi si pl rq dy en th) (-1) (wMod cI ad vc vr vn ne vs li ba de qp qt ql qs qc ch ap un ro pi si pl rq dy en 2) := by
  refine CI_of (maxL := 10) (cc := cX9_need) (y := yX9_need) rfl rfl (Nat.le_of_ble_eq_true rfl) (fun X hl hD hk hn hcz hsz o fin => ?_)
  subst hl; subst hD; subst hk
  refine V_aload_n (pc := 0) o dX9_need_0 rfl ?_
  refine V_iload_n (pc := 1) o dX9_need_1 rfl ?_
  refine V_iload_n (pc := 2) o dX9_need_2 rfl ?_
  refine V_rVi (pc := 3) o (k9_verT _ _ _ cI ht ad vc vr vn ne vs li ba de qp qt ql qs qc ch ap un ro pi si pl rq dy en th p v (by omega) (by omega) hvs) 0 21 gX9_need_X9_isVersion rfl hdX9_isVersion ⟨by omega, by decide⟩ rfl rfl rfl (Nat.le_of_ble_eq_true rfl) dX9_need_3 rfl ?_
  refine V_if_eq (pc := 6) o 21 dX9_need_6 (by decide) (fun c6 => absurd c6 (by decide)) (fun _ => ?_)
  refine V_aload_n (pc := 9) o dX9_need_9 rfl ?_
  refine V_iload_n (pc := 10) o dX9_need_10 rfl ?_
  refine V_rVi (pc := 11) o (k9_eightT _ _ _ cI ht ad vc vr vn ne vs li ba de qp qt ql qs qc ch ap un ro pi si pl rq dy en th q (by omega)) 0 21 gX9_need_X9_isEight rfl hdX9_isEight ⟨by omega, by decide⟩ rfl rfl rfl (Nat.le_of_ble_eq_true rfl) dX9_need_11 rfl ?_
  refine V_if_eq (pc := 14) o 21 dX9_need_14 (by decide) (fun c14 => absurd c14 (by decide)) (fun _ => ?_)
  refine V_iconst (pc := 17) o 1 dX9_need_17 (by decide) ?_
  refine V_goto (pc := 18) o 22 dX9_need_18 (by decide) ?_
  refine V_istore (pc := 22) o dX9_need_22 (by rw [hn]; decide) ?_
  refine V_iload_n (pc := 24) o dX9_need_24 rfl ?_
  refine V_iload_n (pc := 25) o dX9_need_25 rfl ?_
  refine V_icmp_eqN (pc := 26) o 56 p q rfl rfl (by have := hvs p; omega) (by have := hvs p; omega) dX9_need_26 (by decide) (fun c26 => ?_) (fun c26 => absurd c26 (by omega))
  refine V_iconst (pc := 56) o 0 dX9_need_56 (by decide) ?_
  refine V_istore (pc := 57) o dX9_need_57 (by rw [hn]; decide) ?_
  refine V_iload (pc := 59) o dX9_need_59 rfl ?_
  refine V_if_eq (pc := 61) o 74 dX9_need_61 (by decide) (fun c61 => absurd c61 (by decide)) (fun _ => ?_)
  refine V_iconst (pc := 64) o 3 dX9_need_64 (by decide) ?_
  refine V_iload_n (pc := 65) o dX9_need_65 rfl ?_
  refine V_imulN (pc := 66) o 3 p rfl rfl dX9_need_66 ?_
  refine V_iload_n (pc := 67) o dX9_need_67 rfl ?_
  refine V_iaddN (pc := 68) o (3 * p) v rfl rfl dX9_need_68 ?_
  refine V_iconst (pc := 69) o 1 dX9_need_69 (by decide) ?_
  refine V_isubN (pc := 70) o ((3 * p) + v) 1 rfl rfl (by have := hvs p; omega) dX9_need_70 ?_
  refine V_goto (pc := 71) o 75 dX9_need_71 (by decide) ?_
  refine V_istore (pc := 75) o dX9_need_75 (by rw [hn]; decide) ?_
  refine V_aload_n (pc := 77) o dX9_need_77 rfl ?_
  refine V_iload (pc := 78) o dX9_need_78 rfl ?_
  refine V_if_ne (pc := 80) o 87 dX9_need_80 (by decide) (fun _ => ?_) (fun c80 => absurd c80 (by decide))
  refine V_iload (pc := 87) o dX9_need_87 rfl ?_
  refine V_if_ne (pc := 89) o 96 dX9_need_89 (by decide) (fun c89 => absurd c89 (by decide)) (fun _ => ?_)
  refine V_iconst (pc := 92) o 2 dX9_need_92 (by decide) ?_
  refine V_goto (pc := 93) o 112 dX9_need_93 (by decide) ?_
  refine V_wVi (pc := 112) o (k9_holds _ _ _ cI ht ad vc vr vn ne vs li ba de qp qt ql qs qc ch ap un ro pi si pl rq dy en th 2) 0 21 (wMod cI ad vc vr vn ne vs li ba de qp qt ql qs qc ch ap un ro pi si pl rq dy en 2) gX9_need_X9_holds rfl hdX9_holds ⟨by omega, by decide⟩ rfl rfl rfl (Nat.le_of_ble_eq_true rfl) dX9_need_112 rfl rfl ?_
  refine V_ifT (by decide) ?_
  refine V_if_eq (pc := 115) o 120 dX9_need_115 (by decide) (fun c115 => absurd c115 (by decide)) (fun _ => ?_)
  refine V_iconst (pc := 118) o (-1) dX9_need_118 (by decide) ?_
  exact fin 119 _ _ () dX9_need_119 rfl rfl
set_option maxHeartbeats 4000000 in
set_option maxRecDepth 100000 in
/-- reference: need2b -/
theorem k9_need2b (l : Launch) (D : va_G) (tys : List (ClassId × FieldType)) (cI : ClassId) (ht : tys[0]? = some (cI, .int)) (ad : Nat → Nat) (vc : Nat → Nat) (vr : Nat → Nat) (vn : Nat → Nat) (ne : Nat → Nat) (vs : Nat → Nat) (li : Nat → Nat) (ba : Nat → Nat) (de : Nat → Nat) (qp : Nat → Nat) (qt : Nat → Nat) (ql : Nat → Nat) (qs : Nat → Nat) (qc : Nat → Nat) (ch : Nat → Nat) (ap : Nat → Nat) (un : Nat → Int32) (ro : Nat → Nat) (pi : Nat → Nat) (si : Nat → Nat) (pl : Nat → Int32) (rq : Nat) (dy : Nat) (en : Nat) (th : Int32) (p v : Nat) (hp : p < 8) (hv : 1 ≤ v ∧ v ≤ vs p) (hvs : ∀ k, vs k ≤ 3) (q : Nat) (hq : q < 8) (a b : Int32) (h2 : ¬ p = q) (h : ¬ ((1 : Int32) ≤ a ∧ a ≤ 3)) : CId l yX9_need wsX9_need 3 D tys [.ref (ad 0), .int (nI p), .int (nI v), .int (nI q), .int a, .int b] (wMod cI ad vc vr vn ne vs li ba de qp qt ql qs qc ch ap un ro pi si pl rq dy en th) (-1) (wMod cI ad vc vr vn ne vs li ba de qp qt ql qs qc ch ap un ro pi si pl rq dy en 2) := by
  refine CI_of (maxL := 10) (cc := cX9_need) (y := yX9_need) rfl rfl (Nat.le_of_ble_eq_true rfl) (fun X hl hD hk hn hcz hsz o fin => ?_)
  subst hl; subst hD; subst hk
  refine V_aload_n (pc := 0) o dX9_need_0 rfl ?_
  refine V_iload_n (pc := 1) o dX9_need_1 rfl ?_
  refine V_iload_n (pc := 2) o dX9_need_2 rfl ?_
  refine V_rVi (pc := 3) o (k9_verT _ _ _ cI ht ad vc vr vn ne vs li ba de qp qt ql qs qc ch ap un ro pi si pl rq dy en th p v (by omega) (by omega) hvs) 0 21 gX9_need_X9_isVersion rfl hdX9_isVersion ⟨by omega, by decide⟩ rfl rfl rfl (Nat.le_of_ble_eq_true rfl) dX9_need_3 rfl ?_
  refine V_if_eq (pc := 6) o 21 dX9_need_6 (by decide) (fun c6 => absurd c6 (by decide)) (fun _ => ?_)
  refine V_aload_n (pc := 9) o dX9_need_9 rfl ?_
  refine V_iload_n (pc := 10) o dX9_need_10 rfl ?_
  refine V_rVi (pc := 11) o (k9_eightT _ _ _ cI ht ad vc vr vn ne vs li ba de qp qt ql qs qc ch ap un ro pi si pl rq dy en th q (by omega)) 0 21 gX9_need_X9_isEight rfl hdX9_isEight ⟨by omega, by decide⟩ rfl rfl rfl (Nat.le_of_ble_eq_true rfl) dX9_need_11 rfl ?_
  refine V_if_eq (pc := 14) o 21 dX9_need_14 (by decide) (fun c14 => absurd c14 (by decide)) (fun _ => ?_)
  refine V_iconst (pc := 17) o 1 dX9_need_17 (by decide) ?_
  refine V_goto (pc := 18) o 22 dX9_need_18 (by decide) ?_
  refine V_istore (pc := 22) o dX9_need_22 (by rw [hn]; decide) ?_
  refine V_iload_n (pc := 24) o dX9_need_24 rfl ?_
  refine V_iload_n (pc := 25) o dX9_need_25 rfl ?_
  refine V_icmp_eqN (pc := 26) o 56 p q rfl rfl (by have := hvs p; omega) (by have := hvs p; omega) dX9_need_26 (by decide) (fun c26 => absurd c26 (by omega)) (fun c26 => ?_)
  refine V_aload_n (pc := 29) o dX9_need_29 rfl ?_
  refine V_iload (pc := 30) o dX9_need_30 rfl ?_
  refine V_iconst (pc := 32) o 1 dX9_need_32 (by decide) ?_
  refine V_iconst (pc := 33) o 3 dX9_need_33 (by decide) ?_
  refine V_rVi (pc := 34) o (k9_in _ _ _ cI ht ad vc vr vn ne vs li ba de qp qt ql qs qc ch ap un ro pi si pl rq dy en th a 1 3) 0 21 gX9_need_X9_in rfl hdX9_in ⟨by omega, by decide⟩ rfl rfl rfl (Nat.le_of_ble_eq_true rfl) dX9_need_34 rfl ?_
  refine V_ifF (h) ?_
  refine V_if_eq (pc := 37) o 56 dX9_need_37 (by decide) (fun _ => ?_) (fun c37 => absurd c37 (by decide))
  refine V_iconst (pc := 56) o 0 dX9_need_56 (by decide) ?_
  refine V_istore (pc := 57) o dX9_need_57 (by rw [hn]; decide) ?_
  refine V_iload (pc := 59) o dX9_need_59 rfl ?_
  refine V_if_eq (pc := 61) o 74 dX9_need_61 (by decide) (fun c61 => absurd c61 (by decide)) (fun _ => ?_)
  refine V_iconst (pc := 64) o 3 dX9_need_64 (by decide) ?_
  refine V_iload_n (pc := 65) o dX9_need_65 rfl ?_
  refine V_imulN (pc := 66) o 3 p rfl rfl dX9_need_66 ?_
  refine V_iload_n (pc := 67) o dX9_need_67 rfl ?_
  refine V_iaddN (pc := 68) o (3 * p) v rfl rfl dX9_need_68 ?_
  refine V_iconst (pc := 69) o 1 dX9_need_69 (by decide) ?_
  refine V_isubN (pc := 70) o ((3 * p) + v) 1 rfl rfl (by have := hvs p; omega) dX9_need_70 ?_
  refine V_goto (pc := 71) o 75 dX9_need_71 (by decide) ?_
  refine V_istore (pc := 75) o dX9_need_75 (by rw [hn]; decide) ?_
  refine V_aload_n (pc := 77) o dX9_need_77 rfl ?_
  refine V_iload (pc := 78) o dX9_need_78 rfl ?_
  refine V_if_ne (pc := 80) o 87 dX9_need_80 (by decide) (fun _ => ?_) (fun c80 => absurd c80 (by decide))
  refine V_iload (pc := 87) o dX9_need_87 rfl ?_
  refine V_if_ne (pc := 89) o 96 dX9_need_89 (by decide) (fun c89 => absurd c89 (by decide)) (fun _ => ?_)
  refine V_iconst (pc := 92) o 2 dX9_need_92 (by decide) ?_
  refine V_goto (pc := 93) o 112 dX9_need_93 (by decide) ?_
  refine V_wVi (pc := 112) o (k9_holds _ _ _ cI ht ad vc vr vn ne vs li ba de qp qt ql qs qc ch ap un ro pi si pl rq dy en th 2) 0 21 (wMod cI ad vc vr vn ne vs li ba de qp qt ql qs qc ch ap un ro pi si pl rq dy en 2) gX9_need_X9_holds rfl hdX9_holds ⟨by omega, by decide⟩ rfl rfl rfl (Nat.le_of_ble_eq_true rfl) dX9_need_112 rfl rfl ?_
  refine V_ifT (by decide) ?_
  refine V_if_eq (pc := 115) o 120 dX9_need_115 (by decide) (fun c115 => absurd c115 (by decide)) (fun _ => ?_)
  refine V_iconst (pc := 118) o (-1) dX9_need_118 (by decide) ?_
  exact fin 119 _ _ () dX9_need_119 rfl rfl
set_option maxHeartbeats 4000000 in
set_option maxRecDepth 100000 in
/-- reference: need2c -/
theorem k9_need2c (l : Launch) (D : va_G) (tys : List (ClassId × FieldType)) (cI : ClassId) (ht : tys[0]? = some (cI, .int)) (ad : Nat → Nat) (vc : Nat → Nat) (vr : Nat → Nat) (vn : Nat → Nat) (ne : Nat → Nat) (vs : Nat → Nat) (li : Nat → Nat) (ba : Nat → Nat) (de : Nat → Nat) (qp : Nat → Nat) (qt : Nat → Nat) (ql : Nat → Nat) (qs : Nat → Nat) (qc : Nat → Nat) (ch : Nat → Nat) (ap : Nat → Nat) (un : Nat → Int32) (ro : Nat → Nat) (pi : Nat → Nat) (si : Nat → Nat) (pl : Nat → Int32) (rq : Nat) (dy : Nat) (en : Nat) (th : Int32) (p v : Nat) (hp : p < 8) (hv : 1 ≤ v ∧ v ≤ vs p) (hvs : ∀ k, vs k ≤ 3) (q a : Nat) (hq : q < 8) (b : Int32) (h2 : ¬ p = q) (ha : 1 ≤ a ∧ a ≤ 3) (h : ¬ (nI a ≤ b ∧ b ≤ 3)) : CId l yX9_need wsX9_need 3 D tys [.ref (ad 0), .int (nI p), .int (nI v), .int (nI q), .int (nI a), .int b] (wMod cI ad vc vr vn ne vs li ba de qp qt ql qs qc ch ap un ro pi si pl rq dy en th) (-1) (wMod cI ad vc vr vn ne vs li ba de qp qt ql qs qc ch ap un ro pi si pl rq dy en 2) := by
  refine CI_of (maxL := 10) (cc := cX9_need) (y := yX9_need) rfl rfl (Nat.le_of_ble_eq_true rfl) (fun X hl hD hk hn hcz hsz o fin => ?_)
  subst hl; subst hD; subst hk
  refine V_aload_n (pc := 0) o dX9_need_0 rfl ?_
  refine V_iload_n (pc := 1) o dX9_need_1 rfl ?_
  refine V_iload_n (pc := 2) o dX9_need_2 rfl ?_
  refine V_rVi (pc := 3) o (k9_verT _ _ _ cI ht ad vc vr vn ne vs li ba de qp qt ql qs qc ch ap un ro pi si pl rq dy en th p v (by omega) (by omega) hvs) 0 21 gX9_need_X9_isVersion rfl hdX9_isVersion ⟨by omega, by decide⟩ rfl rfl rfl (Nat.le_of_ble_eq_true rfl) dX9_need_3 rfl ?_
  refine V_if_eq (pc := 6) o 21 dX9_need_6 (by decide) (fun c6 => absurd c6 (by decide)) (fun _ => ?_)
  refine V_aload_n (pc := 9) o dX9_need_9 rfl ?_
  refine V_iload_n (pc := 10) o dX9_need_10 rfl ?_
  refine V_rVi (pc := 11) o (k9_eightT _ _ _ cI ht ad vc vr vn ne vs li ba de qp qt ql qs qc ch ap un ro pi si pl rq dy en th q (by omega)) 0 21 gX9_need_X9_isEight rfl hdX9_isEight ⟨by omega, by decide⟩ rfl rfl rfl (Nat.le_of_ble_eq_true rfl) dX9_need_11 rfl ?_
  refine V_if_eq (pc := 14) o 21 dX9_need_14 (by decide) (fun c14 => absurd c14 (by decide)) (fun _ => ?_)
  refine V_iconst (pc := 17) o 1 dX9_need_17 (by decide) ?_
  refine V_goto (pc := 18) o 22 dX9_need_18 (by decide) ?_
  refine V_istore (pc := 22) o dX9_need_22 (by rw [hn]; decide) ?_
  refine V_iload_n (pc := 24) o dX9_need_24 rfl ?_
  refine V_iload_n (pc := 25) o dX9_need_25 rfl ?_
  refine V_icmp_eqN (pc := 26) o 56 p q rfl rfl (by have := hvs p; omega) (by have := hvs p; omega) dX9_need_26 (by decide) (fun c26 => absurd c26 (by omega)) (fun c26 => ?_)
  refine V_aload_n (pc := 29) o dX9_need_29 rfl ?_
  refine V_iload (pc := 30) o dX9_need_30 rfl ?_
  refine V_iconst (pc := 32) o 1 dX9_need_32 (by decide) ?_
  refine V_iconst (pc := 33) o 3 dX9_need_33 (by decide) ?_
  refine V_rVi (pc := 34) o (k9_in _ _ _ cI ht ad vc vr vn ne vs li ba de qp qt ql qs qc ch ap un ro pi si pl rq dy en th (nI a) 1 3) 0 21 gX9_need_X9_in rfl hdX9_in ⟨by omega, by decide⟩ rfl rfl rfl (Nat.le_of_ble_eq_true rfl) dX9_need_34 rfl ?_
  refine V_ifT (⟨nI_le (a := 1) (by omega) (by omega), nI_le (b := 3) (by omega) (by omega)⟩) ?_
  refine V_if_eq (pc := 37) o 56 dX9_need_37 (by decide) (fun c37 => absurd c37 (by decide)) (fun _ => ?_)
  refine V_aload_n (pc := 40) o dX9_need_40 rfl ?_
  refine V_iload (pc := 41) o dX9_need_41 rfl ?_
  refine V_iload (pc := 43) o dX9_need_43 rfl ?_
  refine V_iconst (pc := 45) o 3 dX9_need_45 (by decide) ?_
  refine V_rVi (pc := 46) o (k9_in _ _ _ cI ht ad vc vr vn ne vs li ba de qp qt ql qs qc ch ap un ro pi si pl rq dy en th b (nI a) 3) 0 21 gX9_need_X9_in rfl hdX9_in ⟨by omega, by decide⟩ rfl rfl rfl (Nat.le_of_ble_eq_true rfl) dX9_need_46 rfl ?_
  refine V_ifF (h) ?_
  refine V_if_eq (pc := 49) o 56 dX9_need_49 (by decide) (fun _ => ?_) (fun c49 => absurd c49 (by decide))
  refine V_iconst (pc := 56) o 0 dX9_need_56 (by decide) ?_
  refine V_istore (pc := 57) o dX9_need_57 (by rw [hn]; decide) ?_
  refine V_iload (pc := 59) o dX9_need_59 rfl ?_
  refine V_if_eq (pc := 61) o 74 dX9_need_61 (by decide) (fun c61 => absurd c61 (by decide)) (fun _ => ?_)
  refine V_iconst (pc := 64) o 3 dX9_need_64 (by decide) ?_
  refine V_iload_n (pc := 65) o dX9_need_65 rfl ?_
  refine V_imulN (pc := 66) o 3 p rfl rfl dX9_need_66 ?_
  refine V_iload_n (pc := 67) o dX9_need_67 rfl ?_
  refine V_iaddN (pc := 68) o (3 * p) v rfl rfl dX9_need_68 ?_
  refine V_iconst (pc := 69) o 1 dX9_need_69 (by decide) ?_
  refine V_isubN (pc := 70) o ((3 * p) + v) 1 rfl rfl (by have := hvs p; omega) dX9_need_70 ?_
  refine V_goto (pc := 71) o 75 dX9_need_71 (by decide) ?_
  refine V_istore (pc := 75) o dX9_need_75 (by rw [hn]; decide) ?_
  refine V_aload_n (pc := 77) o dX9_need_77 rfl ?_
  refine V_iload (pc := 78) o dX9_need_78 rfl ?_
  refine V_if_ne (pc := 80) o 87 dX9_need_80 (by decide) (fun _ => ?_) (fun c80 => absurd c80 (by decide))
  refine V_iload (pc := 87) o dX9_need_87 rfl ?_
  refine V_if_ne (pc := 89) o 96 dX9_need_89 (by decide) (fun c89 => absurd c89 (by decide)) (fun _ => ?_)
  refine V_iconst (pc := 92) o 2 dX9_need_92 (by decide) ?_
  refine V_goto (pc := 93) o 112 dX9_need_93 (by decide) ?_
  refine V_wVi (pc := 112) o (k9_holds _ _ _ cI ht ad vc vr vn ne vs li ba de qp qt ql qs qc ch ap un ro pi si pl rq dy en th 2) 0 21 (wMod cI ad vc vr vn ne vs li ba de qp qt ql qs qc ch ap un ro pi si pl rq dy en 2) gX9_need_X9_holds rfl hdX9_holds ⟨by omega, by decide⟩ rfl rfl rfl (Nat.le_of_ble_eq_true rfl) dX9_need_112 rfl rfl ?_
  refine V_ifT (by decide) ?_
  refine V_if_eq (pc := 115) o 120 dX9_need_115 (by decide) (fun c115 => absurd c115 (by decide)) (fun _ => ?_)
  refine V_iconst (pc := 118) o (-1) dX9_need_118 (by decide) ?_
  exact fin 119 _ _ () dX9_need_119 rfl rfl
theorem hiX9_need : ∀ w ∈ wsX90, w ∈ wsX9_need := by decide +kernel
theorem lkX9_need_16 : Cond.fieldLink RX9 16 RX9 "vn" "[I" ∈ wsX9_need := by decide +kernel
set_option maxHeartbeats 4000000 in
set_option maxRecDepth 100000 in
/-- reference: need3 -/
theorem k9_need3 (l : Launch) (D : va_G) (tys : List (ClassId × FieldType)) (cI : ClassId) (ht : tys[0]? = some (cI, .int)) (ad : Nat → Nat) (vc : Nat → Nat) (vr : Nat → Nat) (vn : Nat → Nat) (ne : Nat → Nat) (vs : Nat → Nat) (li : Nat → Nat) (ba : Nat → Nat) (de : Nat → Nat) (qp : Nat → Nat) (qt : Nat → Nat) (ql : Nat → Nat) (qs : Nat → Nat) (qc : Nat → Nat) (ch : Nat → Nat) (ap : Nat → Nat) (un : Nat → Int32) (ro : Nat → Nat) (pi : Nat → Nat) (si : Nat → Nat) (pl : Nat → Int32) (rq : Nat) (dy : Nat) (en : Nat) (th : Int32) (p v : Nat) (hp : p < 8) (hv : 1 ≤ v ∧ v ≤ vs p) (hvs : ∀ k, vs k ≤ 3) (q a b : Nat) (hq : q < 8) (h2 : ¬ p = q) (ha : 1 ≤ a ∧ a ≤ 3) (hb : a ≤ b ∧ b ≤ 3) (h : vn (3 * p + v - 1) = 4) : CId l yX9_need wsX9_need 3 D tys [.ref (ad 0), .int (nI p), .int (nI v), .int (nI q), .int (nI a), .int (nI b)] (wMod cI ad vc vr vn ne vs li ba de qp qt ql qs qc ch ap un ro pi si pl rq dy en th) (-1) (wMod cI ad vc vr vn ne vs li ba de qp qt ql qs qc ch ap un ro pi si pl rq dy en 3) := by
  refine CI_of (maxL := 10) (cc := cX9_need) (y := yX9_need) rfl rfl (Nat.le_of_ble_eq_true rfl) (fun X hl hD hk hn hcz hsz o fin => ?_)
  subst hl; subst hD; subst hk
  refine V_aload_n (pc := 0) o dX9_need_0 rfl ?_
  refine V_iload_n (pc := 1) o dX9_need_1 rfl ?_
  refine V_iload_n (pc := 2) o dX9_need_2 rfl ?_
  refine V_rVi (pc := 3) o (k9_verT _ _ _ cI ht ad vc vr vn ne vs li ba de qp qt ql qs qc ch ap un ro pi si pl rq dy en th p v (by omega) (by omega) hvs) 0 21 gX9_need_X9_isVersion rfl hdX9_isVersion ⟨by omega, by decide⟩ rfl rfl rfl (Nat.le_of_ble_eq_true rfl) dX9_need_3 rfl ?_
  refine V_if_eq (pc := 6) o 21 dX9_need_6 (by decide) (fun c6 => absurd c6 (by decide)) (fun _ => ?_)
  refine V_aload_n (pc := 9) o dX9_need_9 rfl ?_
  refine V_iload_n (pc := 10) o dX9_need_10 rfl ?_
  refine V_rVi (pc := 11) o (k9_eightT _ _ _ cI ht ad vc vr vn ne vs li ba de qp qt ql qs qc ch ap un ro pi si pl rq dy en th q (by omega)) 0 21 gX9_need_X9_isEight rfl hdX9_isEight ⟨by omega, by decide⟩ rfl rfl rfl (Nat.le_of_ble_eq_true rfl) dX9_need_11 rfl ?_
  refine V_if_eq (pc := 14) o 21 dX9_need_14 (by decide) (fun c14 => absurd c14 (by decide)) (fun _ => ?_)
  refine V_iconst (pc := 17) o 1 dX9_need_17 (by decide) ?_
  refine V_goto (pc := 18) o 22 dX9_need_18 (by decide) ?_
  refine V_istore (pc := 22) o dX9_need_22 (by rw [hn]; decide) ?_
  refine V_iload_n (pc := 24) o dX9_need_24 rfl ?_
  refine V_iload_n (pc := 25) o dX9_need_25 rfl ?_
  refine V_icmp_eqN (pc := 26) o 56 p q rfl rfl (by have := hvs p; omega) (by have := hvs p; omega) dX9_need_26 (by decide) (fun c26 => absurd c26 (by omega)) (fun c26 => ?_)
  refine V_aload_n (pc := 29) o dX9_need_29 rfl ?_
  refine V_iload (pc := 30) o dX9_need_30 rfl ?_
  refine V_iconst (pc := 32) o 1 dX9_need_32 (by decide) ?_
  refine V_iconst (pc := 33) o 3 dX9_need_33 (by decide) ?_
  refine V_rVi (pc := 34) o (k9_in _ _ _ cI ht ad vc vr vn ne vs li ba de qp qt ql qs qc ch ap un ro pi si pl rq dy en th (nI a) 1 3) 0 21 gX9_need_X9_in rfl hdX9_in ⟨by omega, by decide⟩ rfl rfl rfl (Nat.le_of_ble_eq_true rfl) dX9_need_34 rfl ?_
  refine V_ifT (⟨nI_le (a := 1) (by omega) (by omega), nI_le (b := 3) (by omega) (by omega)⟩) ?_
  refine V_if_eq (pc := 37) o 56 dX9_need_37 (by decide) (fun c37 => absurd c37 (by decide)) (fun _ => ?_)
  refine V_aload_n (pc := 40) o dX9_need_40 rfl ?_
  refine V_iload (pc := 41) o dX9_need_41 rfl ?_
  refine V_iload (pc := 43) o dX9_need_43 rfl ?_
  refine V_iconst (pc := 45) o 3 dX9_need_45 (by decide) ?_
  refine V_rVi (pc := 46) o (k9_in _ _ _ cI ht ad vc vr vn ne vs li ba de qp qt ql qs qc ch ap un ro pi si pl rq dy en th (nI b) (nI a) 3) 0 21 gX9_need_X9_in rfl hdX9_in ⟨by omega, by decide⟩ rfl rfl rfl (Nat.le_of_ble_eq_true rfl) dX9_need_46 rfl ?_
  refine V_ifT (⟨nI_le (by omega) (by omega), nI_le (b := 3) (by omega) (by omega)⟩) ?_
  refine V_if_eq (pc := 49) o 56 dX9_need_49 (by decide) (fun c49 => absurd c49 (by decide)) (fun _ => ?_)
  refine V_iconst (pc := 52) o 1 dX9_need_52 (by decide) ?_
  refine V_goto (pc := 53) o 57 dX9_need_53 (by decide) ?_
  refine V_istore (pc := 57) o dX9_need_57 (by rw [hn]; decide) ?_
  refine V_iload (pc := 59) o dX9_need_59 rfl ?_
  refine V_if_eq (pc := 61) o 74 dX9_need_61 (by decide) (fun c61 => absurd c61 (by decide)) (fun _ => ?_)
  refine V_iconst (pc := 64) o 3 dX9_need_64 (by decide) ?_
  refine V_iload_n (pc := 65) o dX9_need_65 rfl ?_
  refine V_imulN (pc := 66) o 3 p rfl rfl dX9_need_66 ?_
  refine V_iload_n (pc := 67) o dX9_need_67 rfl ?_
  refine V_iaddN (pc := 68) o (3 * p) v rfl rfl dX9_need_68 ?_
  refine V_iconst (pc := 69) o 1 dX9_need_69 (by decide) ?_
  refine V_isubN (pc := 70) o ((3 * p) + v) 1 rfl rfl (by have := hvs p; omega) dX9_need_70 ?_
  refine V_goto (pc := 71) o 75 dX9_need_71 (by decide) ?_
  refine V_istore (pc := 75) o dX9_need_75 (by rw [hn]; decide) ?_
  refine V_aload_n (pc := 77) o dX9_need_77 rfl ?_
  refine V_iload (pc := 78) o dX9_need_78 rfl ?_
  refine V_if_ne (pc := 80) o 87 dX9_need_80 (by decide) (fun _ => ?_) (fun c80 => absurd c80 (by decide))
  refine V_iload (pc := 87) o dX9_need_87 rfl ?_
  refine V_if_ne (pc := 89) o 96 dX9_need_89 (by decide) (fun _ => ?_) (fun c89 => absurd c89 (by decide))
  refine V_aload_n (pc := 96) o dX9_need_96 rfl ?_
  refine V_get (pc := 97) o 0 2 hiX9_need rfl rfl (by decide) lkX9_need_16 rfl rfl dX9_need_97 ?_
  refine V_iload (pc := 100) o dX9_need_100 rfl ?_
  refine V_ialdN (pc := 102) o 3 vn (((3 * p) + v) - 1) rfl ht rfl (by have := hvs p; omega) (by decide) dX9_need_102 ?_
  refine V_iconst (pc := 103) o 4 dX9_need_103 (by decide) ?_
  refine V_icmp_neN (pc := 104) o 111 (vn (((3 * p) + v) - 1)) 4 rfl rfl (by have := hvs p; omega) (by have := hvs p; omega) dX9_need_104 (by decide) (fun c104 => absurd c104 (by omega)) (fun c104 => ?_)
  refine V_iconst (pc := 107) o 3 dX9_need_107 (by decide) ?_
  refine V_goto (pc := 108) o 112 dX9_need_108 (by decide) ?_
  refine V_wVi (pc := 112) o (k9_holds _ _ _ cI ht ad vc vr vn ne vs li ba de qp qt ql qs qc ch ap un ro pi si pl rq dy en th 3) 0 21 (wMod cI ad vc vr vn ne vs li ba de qp qt ql qs qc ch ap un ro pi si pl rq dy en 3) gX9_need_X9_holds rfl hdX9_holds ⟨by omega, by decide⟩ rfl rfl rfl (Nat.le_of_ble_eq_true rfl) dX9_need_112 rfl rfl ?_
  refine V_ifT (by decide) ?_
  refine V_if_eq (pc := 115) o 120 dX9_need_115 (by decide) (fun c115 => absurd c115 (by decide)) (fun _ => ?_)
  refine V_iconst (pc := 118) o (-1) dX9_need_118 (by decide) ?_
  exact fin 119 _ _ () dX9_need_119 rfl rfl
theorem lkX9_need_19 : Cond.fieldLink RX9 19 RX9 "needs" "[I" ∈ wsX9_need := by decide +kernel
theorem lkX9_need_88 : Cond.fieldLink RX9 88 RX9 "entries" "I" ∈ wsX9_need := by decide +kernel
set_option maxHeartbeats 4000000 in
set_option maxRecDepth 100000 in
/-- reference: needK -/
theorem k9_needK (l : Launch) (D : va_G) (tys : List (ClassId × FieldType)) (cI : ClassId) (ht : tys[0]? = some (cI, .int)) (ad : Nat → Nat) (vc : Nat → Nat) (vr : Nat → Nat) (vn : Nat → Nat) (ne : Nat → Nat) (vs : Nat → Nat) (li : Nat → Nat) (ba : Nat → Nat) (de : Nat → Nat) (qp : Nat → Nat) (qt : Nat → Nat) (ql : Nat → Nat) (qs : Nat → Nat) (qc : Nat → Nat) (ch : Nat → Nat) (ap : Nat → Nat) (un : Nat → Int32) (ro : Nat → Nat) (pi : Nat → Nat) (si : Nat → Nat) (pl : Nat → Int32) (rq : Nat) (dy : Nat) (en : Nat) (th : Int32) (p v : Nat) (hp : p < 8) (hv : 1 ≤ v ∧ v ≤ vs p) (hvs : ∀ k, vs k ≤ 3) (q a b : Nat) (hq : q < 8) (h2 : ¬ p = q) (ha : 1 ≤ a ∧ a ≤ 3) (hb : a ≤ b ∧ b ≤ 3) (h : vn (3 * p + v - 1) < 4) : CId l yX9_need wsX9_need 3 D tys [.ref (ad 0), .int (nI p), .int (nI v), .int (nI q), .int (nI a), .int (nI b)] (wMod cI ad vc vr vn ne vs li ba de qp qt ql qs qc ch ap un ro pi si pl rq dy en th) (nI (vn (3 * p + v - 1) + 1)) (wMod cI ad vc vr (va_up vn (3 * p + v - 1) (vn (3 * p + v - 1) + 1)) (va_up (va_up (va_up ne (12 * (3 * p + v - 1) + 3 * vn (3 * p + v - 1)) q) ((12 * (3 * p + v - 1) + 3 * vn (3 * p + v - 1)) + 1) a) ((12 * (3 * p + v - 1) + 3 * vn (3 * p + v - 1)) + 2) b) vs li ba de qp qt ql qs qc ch ap un ro pi si pl rq dy (en + 1) 0) := by
  refine CI_of (maxL := 10) (cc := cX9_need) (y := yX9_need) rfl rfl (Nat.le_of_ble_eq_true rfl) (fun X hl hD hk hn hcz hsz o fin => ?_)
  subst hl; subst hD; subst hk
  refine V_aload_n (pc := 0) o dX9_need_0 rfl ?_
  refine V_iload_n (pc := 1) o dX9_need_1 rfl ?_
  refine V_iload_n (pc := 2) o dX9_need_2 rfl ?_
  refine V_rVi (pc := 3) o (k9_verT _ _ _ cI ht ad vc vr vn ne vs li ba de qp qt ql qs qc ch ap un ro pi si pl rq dy en th p v (by omega) (by omega) hvs) 0 21 gX9_need_X9_isVersion rfl hdX9_isVersion ⟨by omega, by decide⟩ rfl rfl rfl (Nat.le_of_ble_eq_true rfl) dX9_need_3 rfl ?_
  refine V_if_eq (pc := 6) o 21 dX9_need_6 (by decide) (fun c6 => absurd c6 (by decide)) (fun _ => ?_)
  refine V_aload_n (pc := 9) o dX9_need_9 rfl ?_
  refine V_iload_n (pc := 10) o dX9_need_10 rfl ?_
  refine V_rVi (pc := 11) o (k9_eightT _ _ _ cI ht ad vc vr vn ne vs li ba de qp qt ql qs qc ch ap un ro pi si pl rq dy en th q (by omega)) 0 21 gX9_need_X9_isEight rfl hdX9_isEight ⟨by omega, by decide⟩ rfl rfl rfl (Nat.le_of_ble_eq_true rfl) dX9_need_11 rfl ?_
  refine V_if_eq (pc := 14) o 21 dX9_need_14 (by decide) (fun c14 => absurd c14 (by decide)) (fun _ => ?_)
  refine V_iconst (pc := 17) o 1 dX9_need_17 (by decide) ?_
  refine V_goto (pc := 18) o 22 dX9_need_18 (by decide) ?_
  refine V_istore (pc := 22) o dX9_need_22 (by rw [hn]; decide) ?_
  refine V_iload_n (pc := 24) o dX9_need_24 rfl ?_
  refine V_iload_n (pc := 25) o dX9_need_25 rfl ?_
  refine V_icmp_eqN (pc := 26) o 56 p q rfl rfl (by have := hvs p; omega) (by have := hvs p; omega) dX9_need_26 (by decide) (fun c26 => absurd c26 (by omega)) (fun c26 => ?_)
  refine V_aload_n (pc := 29) o dX9_need_29 rfl ?_
  refine V_iload (pc := 30) o dX9_need_30 rfl ?_
  refine V_iconst (pc := 32) o 1 dX9_need_32 (by decide) ?_
  refine V_iconst (pc := 33) o 3 dX9_need_33 (by decide) ?_
  refine V_rVi (pc := 34) o (k9_in _ _ _ cI ht ad vc vr vn ne vs li ba de qp qt ql qs qc ch ap un ro pi si pl rq dy en th (nI a) 1 3) 0 21 gX9_need_X9_in rfl hdX9_in ⟨by omega, by decide⟩ rfl rfl rfl (Nat.le_of_ble_eq_true rfl) dX9_need_34 rfl ?_
  refine V_ifT (⟨nI_le (a := 1) (by omega) (by omega), nI_le (b := 3) (by omega) (by omega)⟩) ?_
  refine V_if_eq (pc := 37) o 56 dX9_need_37 (by decide) (fun c37 => absurd c37 (by decide)) (fun _ => ?_)
  refine V_aload_n (pc := 40) o dX9_need_40 rfl ?_
  refine V_iload (pc := 41) o dX9_need_41 rfl ?_
  refine V_iload (pc := 43) o dX9_need_43 rfl ?_
  refine V_iconst (pc := 45) o 3 dX9_need_45 (by decide) ?_
  refine V_rVi (pc := 46) o (k9_in _ _ _ cI ht ad vc vr vn ne vs li ba de qp qt ql qs qc ch ap un ro pi si pl rq dy en th (nI b) (nI a) 3) 0 21 gX9_need_X9_in rfl hdX9_in ⟨by omega, by decide⟩ rfl rfl rfl (Nat.le_of_ble_eq_true rfl) dX9_need_46 rfl ?_
  refine V_ifT (⟨nI_le (by omega) (by omega), nI_le (b := 3) (by omega) (by omega)⟩) ?_
  refine V_if_eq (pc := 49) o 56 dX9_need_49 (by decide) (fun c49 => absurd c49 (by decide)) (fun _ => ?_)
  refine V_iconst (pc := 52) o 1 dX9_need_52 (by decide) ?_
  refine V_goto (pc := 53) o 57 dX9_need_53 (by decide) ?_
  refine V_istore (pc := 57) o dX9_need_57 (by rw [hn]; decide) ?_
  refine V_iload (pc := 59) o dX9_need_59 rfl ?_
  refine V_if_eq (pc := 61) o 74 dX9_need_61 (by decide) (fun c61 => absurd c61 (by decide)) (fun _ => ?_)
  refine V_iconst (pc := 64) o 3 dX9_need_64 (by decide) ?_
  refine V_iload_n (pc := 65) o dX9_need_65 rfl ?_
  refine V_imulN (pc := 66) o 3 p rfl rfl dX9_need_66 ?_
  refine V_iload_n (pc := 67) o dX9_need_67 rfl ?_
  refine V_iaddN (pc := 68) o (3 * p) v rfl rfl dX9_need_68 ?_
  refine V_iconst (pc := 69) o 1 dX9_need_69 (by decide) ?_
  refine V_isubN (pc := 70) o ((3 * p) + v) 1 rfl rfl (by have := hvs p; omega) dX9_need_70 ?_
  refine V_goto (pc := 71) o 75 dX9_need_71 (by decide) ?_
  refine V_istore (pc := 75) o dX9_need_75 (by rw [hn]; decide) ?_
  refine V_aload_n (pc := 77) o dX9_need_77 rfl ?_
  refine V_iload (pc := 78) o dX9_need_78 rfl ?_
  refine V_if_ne (pc := 80) o 87 dX9_need_80 (by decide) (fun _ => ?_) (fun c80 => absurd c80 (by decide))
  refine V_iload (pc := 87) o dX9_need_87 rfl ?_
  refine V_if_ne (pc := 89) o 96 dX9_need_89 (by decide) (fun _ => ?_) (fun c89 => absurd c89 (by decide))
  refine V_aload_n (pc := 96) o dX9_need_96 rfl ?_
  refine V_get (pc := 97) o 0 2 hiX9_need rfl rfl (by decide) lkX9_need_16 rfl rfl dX9_need_97 ?_
  refine V_iload (pc := 100) o dX9_need_100 rfl ?_
  refine V_ialdN (pc := 102) o 3 vn (((3 * p) + v) - 1) rfl ht rfl (by have := hvs p; omega) (by decide) dX9_need_102 ?_
  refine V_iconst (pc := 103) o 4 dX9_need_103 (by decide) ?_
  refine V_icmp_neN (pc := 104) o 111 (vn (((3 * p) + v) - 1)) 4 rfl rfl (by have := hvs p; omega) (by have := hvs p; omega) dX9_need_104 (by decide) (fun c104 => ?_) (fun c104 => absurd c104 (by omega))
  refine V_iconst (pc := 111) o 0 dX9_need_111 (by decide) ?_
  refine V_wVi (pc := 112) o (k9_holds _ _ _ cI ht ad vc vr vn ne vs li ba de qp qt ql qs qc ch ap un ro pi si pl rq dy en th 0) 0 21 (wMod cI ad vc vr vn ne vs li ba de qp qt ql qs qc ch ap un ro pi si pl rq dy en 0) gX9_need_X9_holds rfl hdX9_holds ⟨by omega, by decide⟩ rfl rfl rfl (Nat.le_of_ble_eq_true rfl) dX9_need_112 rfl rfl ?_
  refine V_ifF (by decide) ?_
  refine V_if_eq (pc := 115) o 120 dX9_need_115 (by decide) (fun _ => ?_) (fun c115 => absurd c115 (by decide))
  refine V_bipush (pc := 120) o 12 dX9_need_120 (by decide) ?_
  refine V_iload (pc := 122) o dX9_need_122 rfl ?_
  refine V_imulN (pc := 124) o 12 (((3 * p) + v) - 1) rfl rfl dX9_need_124 ?_
  refine V_iconst (pc := 125) o 3 dX9_need_125 (by decide) ?_
  refine V_aload_n (pc := 126) o dX9_need_126 rfl ?_
  refine V_get (pc := 127) o 0 2 hiX9_need rfl rfl (by decide) lkX9_need_16 rfl rfl dX9_need_127 ?_
  refine V_iload (pc := 130) o dX9_need_130 rfl ?_
  refine V_ialdN (pc := 132) o 3 vn (((3 * p) + v) - 1) rfl ht rfl (by have := hvs p; omega) (by decide) dX9_need_132 ?_
  refine V_imulN (pc := 133) o 3 (vn (((3 * p) + v) - 1)) rfl rfl dX9_need_133 ?_
  refine V_iaddN (pc := 134) o (12 * (((3 * p) + v) - 1)) (3 * (vn (((3 * p) + v) - 1))) rfl rfl dX9_need_134 ?_
  refine V_istore (pc := 135) o dX9_need_135 (by rw [hn]; decide) ?_
  refine V_aload_n (pc := 137) o dX9_need_137 rfl ?_
  refine V_get (pc := 138) o 0 3 hiX9_need rfl rfl (by decide) lkX9_need_19 rfl rfl dX9_need_138 ?_
  refine V_iload (pc := 141) o dX9_need_141 rfl ?_
  refine V_iload_n (pc := 143) o dX9_need_143 rfl ?_
  refine V_iastN (pc := 144) o 4 ne ((12 * (((3 * p) + v) - 1)) + (3 * (vn (((3 * p) + v) - 1)))) q rfl ht rfl rfl (by have := hvs p; omega) (by decide) dX9_need_144 ?_
  refine V_eq (ws2 := wMod cI ad vc vr vn (va_up ne ((12 * (((3 * p) + v) - 1)) + (3 * (vn (((3 * p) + v) - 1)))) q) vs li ba de qp qt ql qs qc ch ap un ro pi si pl rq dy en 0) rfl rfl ?_
  refine V_aload_n (pc := 145) o dX9_need_145 rfl ?_
  refine V_get (pc := 146) o 0 3 hiX9_need rfl rfl (by decide) lkX9_need_19 rfl rfl dX9_need_146 ?_
  refine V_iload (pc := 149) o dX9_need_149 rfl ?_
  refine V_iconst (pc := 151) o 1 dX9_need_151 (by decide) ?_
  refine V_iaddN (pc := 152) o ((12 * (((3 * p) + v) - 1)) + (3 * (vn (((3 * p) + v) - 1)))) 1 rfl rfl dX9_need_152 ?_
  refine V_iload (pc := 153) o dX9_need_153 rfl ?_
  refine V_iastN (pc := 155) o 4 (va_up ne ((12 * (((3 * p) + v) - 1)) + (3 * (vn (((3 * p) + v) - 1)))) q) (((12 * (((3 * p) + v) - 1)) + (3 * (vn (((3 * p) + v) - 1)))) + 1) a rfl ht rfl rfl (by have := hvs p; omega) (by decide) dX9_need_155 ?_
  refine V_eq (ws2 := wMod cI ad vc vr vn (va_up (va_up ne ((12 * (((3 * p) + v) - 1)) + (3 * (vn (((3 * p) + v) - 1)))) q) (((12 * (((3 * p) + v) - 1)) + (3 * (vn (((3 * p) + v) - 1)))) + 1) a) vs li ba de qp qt ql qs qc ch ap un ro pi si pl rq dy en 0) rfl rfl ?_
  refine V_aload_n (pc := 156) o dX9_need_156 rfl ?_
  refine V_get (pc := 157) o 0 3 hiX9_need rfl rfl (by decide) lkX9_need_19 rfl rfl dX9_need_157 ?_
  refine V_iload (pc := 160) o dX9_need_160 rfl ?_
  refine V_iconst (pc := 162) o 2 dX9_need_162 (by decide) ?_
  refine V_iaddN (pc := 163) o ((12 * (((3 * p) + v) - 1)) + (3 * (vn (((3 * p) + v) - 1)))) 2 rfl rfl dX9_need_163 ?_
  refine V_iload (pc := 164) o dX9_need_164 rfl ?_
  refine V_iastN (pc := 166) o 4 (va_up (va_up ne ((12 * (((3 * p) + v) - 1)) + (3 * (vn (((3 * p) + v) - 1)))) q) (((12 * (((3 * p) + v) - 1)) + (3 * (vn (((3 * p) + v) - 1)))) + 1) a) (((12 * (((3 * p) + v) - 1)) + (3 * (vn (((3 * p) + v) - 1)))) + 2) b rfl ht rfl rfl (by have := hvs p; omega) (by decide) dX9_need_166 ?_
  refine V_eq (ws2 := wMod cI ad vc vr vn (va_up (va_up (va_up ne ((12 * (((3 * p) + v) - 1)) + (3 * (vn (((3 * p) + v) - 1)))) q) (((12 * (((3 * p) + v) - 1)) + (3 * (vn (((3 * p) + v) - 1)))) + 1) a) (((12 * (((3 * p) + v) - 1)) + (3 * (vn (((3 * p) + v) - 1)))) + 2) b) vs li ba de qp qt ql qs qc ch ap un ro pi si pl rq dy en 0) rfl rfl ?_
  refine V_aload_n (pc := 167) o dX9_need_167 rfl ?_
  refine V_get (pc := 168) o 0 2 hiX9_need rfl rfl (by decide) lkX9_need_16 rfl rfl dX9_need_168 ?_
  refine V_iload (pc := 171) o dX9_need_171 rfl ?_
  refine V_dup2 (pc := 173) o rfl rfl dX9_need_173 ?_
  refine V_ialdN (pc := 174) o 3 vn (((3 * p) + v) - 1) rfl ht rfl (by have := hvs p; omega) (by decide) dX9_need_174 ?_
  refine V_iconst (pc := 175) o 1 dX9_need_175 (by decide) ?_
  refine V_iaddN (pc := 176) o (vn (((3 * p) + v) - 1)) 1 rfl rfl dX9_need_176 ?_
  refine V_iastN (pc := 177) o 3 vn (((3 * p) + v) - 1) ((vn (((3 * p) + v) - 1)) + 1) rfl ht rfl rfl (by have := hvs p; omega) (by decide) dX9_need_177 ?_
  refine V_eq (ws2 := wMod cI ad vc vr (va_up vn (((3 * p) + v) - 1) ((vn (((3 * p) + v) - 1)) + 1)) (va_up (va_up (va_up ne ((12 * (((3 * p) + v) - 1)) + (3 * (vn (((3 * p) + v) - 1)))) q) (((12 * (((3 * p) + v) - 1)) + (3 * (vn (((3 * p) + v) - 1)))) + 1) a) (((12 * (((3 * p) + v) - 1)) + (3 * (vn (((3 * p) + v) - 1)))) + 2) b) vs li ba de qp qt ql qs qc ch ap un ro pi si pl rq dy en 0) rfl rfl ?_
  refine V_aload_n (pc := 178) o dX9_need_178 rfl ?_
  refine V_dup (pc := 179) o rfl dX9_need_179 ?_
  refine V_get (pc := 180) o 0 18 hiX9_need rfl rfl (by decide) lkX9_need_88 rfl rfl dX9_need_180 ?_
  refine V_iconst (pc := 183) o 1 dX9_need_183 (by decide) ?_
  refine V_iaddN (pc := 184) o en 1 rfl rfl dX9_need_184 ?_
  refine V_put (pc := 185) o 0 18 hiX9_need tyX9 tyX9_ok nmX9 rfl rfl (by decide) lkX9_need_88 rfl rfl rfl rfl rfl (Nat.le_of_ble_eq_true rfl) dX9_need_185 ?_
  refine V_eq (ws2 := wMod cI ad vc vr (va_up vn (((3 * p) + v) - 1) ((vn (((3 * p) + v) - 1)) + 1)) (va_up (va_up (va_up ne ((12 * (((3 * p) + v) - 1)) + (3 * (vn (((3 * p) + v) - 1)))) q) (((12 * (((3 * p) + v) - 1)) + (3 * (vn (((3 * p) + v) - 1)))) + 1) a) (((12 * (((3 * p) + v) - 1)) + (3 * (vn (((3 * p) + v) - 1)))) + 2) b) vs li ba de qp qt ql qs qc ch ap un ro pi si pl rq dy (en + 1) 0) rfl rfl ?_
  refine V_aload_n (pc := 188) o dX9_need_188 rfl ?_
  refine V_get (pc := 189) o 0 2 hiX9_need rfl rfl (by decide) lkX9_need_16 rfl rfl dX9_need_189 ?_
  refine V_iload (pc := 192) o dX9_need_192 rfl ?_
  refine V_ialdN (pc := 194) o 3 (va_up vn (((3 * p) + v) - 1) ((vn (((3 * p) + v) - 1)) + 1)) (((3 * p) + v) - 1) rfl ht rfl (by have := hvs p; omega) (by decide) dX9_need_194 ?_
  exact fin 195 _ _ () dX9_need_195 rfl (by first | rfl | simp [va_up])
theorem hdX9_replace : yX9_replace.cls = RX9 ∧ yX9_replace.cls ≠ "java/lang/invoke/MethodHandle" ∧ yX9_replace.cls ≠ "java/lang/invoke/VarHandle" ∧ (parseMethodDescriptor yX9_replace.desc).map (fun d => d.parameters.length) = some 2 := by decide +kernel
set_option maxHeartbeats 4000000 in
set_option maxRecDepth 100000 in
/-- reference: replace1a -/
theorem k9_replace1a (l : Launch) (D : va_G) (tys : List (ClassId × FieldType)) (cI : ClassId) (ht : tys[0]? = some (cI, .int)) (ad : Nat → Nat) (vc : Nat → Nat) (vr : Nat → Nat) (vn : Nat → Nat) (ne : Nat → Nat) (vs : Nat → Nat) (li : Nat → Nat) (ba : Nat → Nat) (de : Nat → Nat) (qp : Nat → Nat) (qt : Nat → Nat) (ql : Nat → Nat) (qs : Nat → Nat) (qc : Nat → Nat) (ch : Nat → Nat) (ap : Nat → Nat) (un : Nat → Int32) (ro : Nat → Nat) (pi : Nat → Nat) (si : Nat → Nat) (pl : Nat → Int32) (rq : Nat) (dy : Nat) (en : Nat) (th : Int32) (p v : Int32) (h : ¬ ((0 : Int32) ≤ p ∧ p ≤ 7)) : CId l yX9_replace wsX9_replace 3 D tys [.ref (ad 0), .int p, .int v] (wMod cI ad vc vr vn ne vs li ba de qp qt ql qs qc ch ap un ro pi si pl rq dy en th) (-1) (wMod cI ad vc vr vn ne vs li ba de qp qt ql qs qc ch ap un ro pi si pl rq dy en 1) := by
  refine CI_of (maxL := 6) (cc := cX9_replace) (y := yX9_replace) rfl rfl (Nat.le_of_ble_eq_true rfl) (fun X hl hD hk hn hcz hsz o fin => ?_)
  subst hl; subst hD; subst hk
  refine V_aload_n (pc := 0) o dX9_replace_0 rfl ?_
  refine V_iload_n (pc := 1) o dX9_replace_1 rfl ?_
  refine V_iload_n (pc := 2) o dX9_replace_2 rfl ?_
  refine V_rVi (pc := 3) o (k9_verF1 _ _ _ cI ht ad vc vr vn ne vs li ba de qp qt ql qs qc ch ap un ro pi si pl rq dy en th p v h) 0 21 gX9_replace_X9_isVersion rfl hdX9_isVersion ⟨by omega, by decide⟩ rfl rfl rfl (Nat.le_of_ble_eq_true rfl) dX9_replace_3 rfl ?_
  refine V_istore_n (pc := 6) o dX9_replace_6 (by rw [hn]; decide) ?_
  refine V_aload_n (pc := 7) o dX9_replace_7 rfl ?_
  refine V_iload_n (pc := 8) o dX9_replace_8 rfl ?_
  refine V_if_ne (pc := 9) o 16 dX9_replace_9 (by decide) (fun c9 => absurd c9 (by decide)) (fun _ => ?_)
  refine V_iconst (pc := 12) o 1 dX9_replace_12 (by decide) ?_
  refine V_goto (pc := 13) o 37 dX9_replace_13 (by decide) ?_
  refine V_wVi (pc := 37) o (k9_holds _ _ _ cI ht ad vc vr vn ne vs li ba de qp qt ql qs qc ch ap un ro pi si pl rq dy en th 1) 0 21 (wMod cI ad vc vr vn ne vs li ba de qp qt ql qs qc ch ap un ro pi si pl rq dy en 1) gX9_replace_X9_holds rfl hdX9_holds ⟨by omega, by decide⟩ rfl rfl rfl (Nat.le_of_ble_eq_true rfl) dX9_replace_37 rfl rfl ?_
  refine V_ifT (by decide) ?_
  refine V_if_eq (pc := 40) o 45 dX9_replace_40 (by decide) (fun c40 => absurd c40 (by decide)) (fun _ => ?_)
  refine V_iconst (pc := 43) o (-1) dX9_replace_43 (by decide) ?_
  exact fin 44 _ _ () dX9_replace_44 rfl rfl
set_option maxHeartbeats 4000000 in
set_option maxRecDepth 100000 in
/-- reference: replace1b -/
theorem k9_replace1b (l : Launch) (D : va_G) (tys : List (ClassId × FieldType)) (cI : ClassId) (ht : tys[0]? = some (cI, .int)) (ad : Nat → Nat) (vc : Nat → Nat) (vr : Nat → Nat) (vn : Nat → Nat) (ne : Nat → Nat) (vs : Nat → Nat) (li : Nat → Nat) (ba : Nat → Nat) (de : Nat → Nat) (qp : Nat → Nat) (qt : Nat → Nat) (ql : Nat → Nat) (qs : Nat → Nat) (qc : Nat → Nat) (ch : Nat → Nat) (ap : Nat → Nat) (un : Nat → Int32) (ro : Nat → Nat) (pi : Nat → Nat) (si : Nat → Nat) (pl : Nat → Int32) (rq : Nat) (dy : Nat) (en : Nat) (th : Int32) (p : Nat) (hp : p < 8) (v : Int32) (h : ¬ (1 ≤ v ∧ v ≤ nI (vs p))) : CId l yX9_replace wsX9_replace 3 D tys [.ref (ad 0), .int (nI p), .int v] (wMod cI ad vc vr vn ne vs li ba de qp qt ql qs qc ch ap un ro pi si pl rq dy en th) (-1) (wMod cI ad vc vr vn ne vs li ba de qp qt ql qs qc ch ap un ro pi si pl rq dy en 1) := by
  refine CI_of (maxL := 6) (cc := cX9_replace) (y := yX9_replace) rfl rfl (Nat.le_of_ble_eq_true rfl) (fun X hl hD hk hn hcz hsz o fin => ?_)
  subst hl; subst hD; subst hk
  refine V_aload_n (pc := 0) o dX9_replace_0 rfl ?_
  refine V_iload_n (pc := 1) o dX9_replace_1 rfl ?_
  refine V_iload_n (pc := 2) o dX9_replace_2 rfl ?_
  refine V_rVi (pc := 3) o (k9_verF2 _ _ _ cI ht ad vc vr vn ne vs li ba de qp qt ql qs qc ch ap un ro pi si pl rq dy en th p v (by omega) h) 0 21 gX9_replace_X9_isVersion rfl hdX9_isVersion ⟨by omega, by decide⟩ rfl rfl rfl (Nat.le_of_ble_eq_true rfl) dX9_replace_3 rfl ?_
  refine V_istore_n (pc := 6) o dX9_replace_6 (by rw [hn]; decide) ?_
  refine V_aload_n (pc := 7) o dX9_replace_7 rfl ?_
  refine V_iload_n (pc := 8) o dX9_replace_8 rfl ?_
  refine V_if_ne (pc := 9) o 16 dX9_replace_9 (by decide) (fun c9 => absurd c9 (by decide)) (fun _ => ?_)
  refine V_iconst (pc := 12) o 1 dX9_replace_12 (by decide) ?_
  refine V_goto (pc := 13) o 37 dX9_replace_13 (by decide) ?_
  refine V_wVi (pc := 37) o (k9_holds _ _ _ cI ht ad vc vr vn ne vs li ba de qp qt ql qs qc ch ap un ro pi si pl rq dy en th 1) 0 21 (wMod cI ad vc vr vn ne vs li ba de qp qt ql qs qc ch ap un ro pi si pl rq dy en 1) gX9_replace_X9_holds rfl hdX9_holds ⟨by omega, by decide⟩ rfl rfl rfl (Nat.le_of_ble_eq_true rfl) dX9_replace_37 rfl rfl ?_
  refine V_ifT (by decide) ?_
  refine V_if_eq (pc := 40) o 45 dX9_replace_40 (by decide) (fun c40 => absurd c40 (by decide)) (fun _ => ?_)
  refine V_iconst (pc := 43) o (-1) dX9_replace_43 (by decide) ?_
  exact fin 44 _ _ () dX9_replace_44 rfl rfl
theorem hiX9_replace : ∀ w ∈ wsX90, w ∈ wsX9_replace := by decide +kernel
theorem lkX9_replace_13 : Cond.fieldLink RX9 13 RX9 "vr" "[I" ∈ wsX9_replace := by decide +kernel
set_option maxHeartbeats 4000000 in
set_option maxRecDepth 100000 in
/-- reference: replace2 -/
theorem k9_replace2 (l : Launch) (D : va_G) (tys : List (ClassId × FieldType)) (cI : ClassId) (ht : tys[0]? = some (cI, .int)) (ad : Nat → Nat) (vc : Nat → Nat) (vr : Nat → Nat) (vn : Nat → Nat) (ne : Nat → Nat) (vs : Nat → Nat) (li : Nat → Nat) (ba : Nat → Nat) (de : Nat → Nat) (qp : Nat → Nat) (qt : Nat → Nat) (ql : Nat → Nat) (qs : Nat → Nat) (qc : Nat → Nat) (ch : Nat → Nat) (ap : Nat → Nat) (un : Nat → Int32) (ro : Nat → Nat) (pi : Nat → Nat) (si : Nat → Nat) (pl : Nat → Int32) (rq : Nat) (dy : Nat) (en : Nat) (th : Int32) (p v : Nat) (hp : p < 8) (hv : 1 ≤ v ∧ v ≤ vs p) (hvs : ∀ k, vs k ≤ 3) (hvr : ∀ k, vr k ≤ 1) (h : vr (3 * p + v - 1) = 1) : CId l yX9_replace wsX9_replace 3 D tys [.ref (ad 0), .int (nI p), .int (nI v)] (wMod cI ad vc vr vn ne vs li ba de qp qt ql qs qc ch ap un ro pi si pl rq dy en th) (-1) (wMod cI ad vc vr vn ne vs li ba de qp qt ql qs qc ch ap un ro pi si pl rq dy en 2) := by
  refine CI_of (maxL := 6) (cc := cX9_replace) (y := yX9_replace) rfl rfl (Nat.le_of_ble_eq_true rfl) (fun X hl hD hk hn hcz hsz o fin => ?_)
  subst hl; subst hD; subst hk
  refine V_aload_n (pc := 0) o dX9_replace_0 rfl ?_
  refine V_iload_n (pc := 1) o dX9_replace_1 rfl ?_
  refine V_iload_n (pc := 2) o dX9_replace_2 rfl ?_
  refine V_rVi (pc := 3) o (k9_verT _ _ _ cI ht ad vc vr vn ne vs li ba de qp qt ql qs qc ch ap un ro pi si pl rq dy en th p v (by omega) (by omega) hvs) 0 21 gX9_replace_X9_isVersion rfl hdX9_isVersion ⟨by omega, by decide⟩ rfl rfl rfl (Nat.le_of_ble_eq_true rfl) dX9_replace_3 rfl ?_
  refine V_istore_n (pc := 6) o dX9_replace_6 (by rw [hn]; decide) ?_
  refine V_aload_n (pc := 7) o dX9_replace_7 rfl ?_
  refine V_iload_n (pc := 8) o dX9_replace_8 rfl ?_
  refine V_if_ne (pc := 9) o 16 dX9_replace_9 (by decide) (fun _ => ?_) (fun c9 => absurd c9 (by decide))
  refine V_aload_n (pc := 16) o dX9_replace_16 rfl ?_
  refine V_get (pc := 17) o 0 1 hiX9_replace rfl rfl (by decide) lkX9_replace_13 rfl rfl dX9_replace_17 ?_
  refine V_iconst (pc := 20) o 3 dX9_replace_20 (by decide) ?_
  refine V_iload_n (pc := 21) o dX9_replace_21 rfl ?_
  refine V_imulN (pc := 22) o 3 p rfl rfl dX9_replace_22 ?_
  refine V_iload_n (pc := 23) o dX9_replace_23 rfl ?_
  refine V_iaddN (pc := 24) o (3 * p) v rfl rfl dX9_replace_24 ?_
  refine V_iconst (pc := 25) o 1 dX9_replace_25 (by decide) ?_
  refine V_isubN (pc := 26) o ((3 * p) + v) 1 rfl rfl (by have := hvs p; have := hvr (3 * p + v - 1); omega) dX9_replace_26 ?_
  refine V_ialdN (pc := 27) o 2 vr (((3 * p) + v) - 1) rfl ht rfl (by have := hvs p; have := hvr (3 * p + v - 1); omega) (by decide) dX9_replace_27 ?_
  refine V_iconst (pc := 28) o 1 dX9_replace_28 (by decide) ?_
  refine V_icmp_neN (pc := 29) o 36 (vr (((3 * p) + v) - 1)) 1 rfl rfl (by have := hvs p; have := hvr (3 * p + v - 1); omega) (by have := hvs p; have := hvr (3 * p + v - 1); omega) dX9_replace_29 (by decide) (fun c29 => absurd c29 (by omega)) (fun c29 => ?_)
  refine V_iconst (pc := 32) o 2 dX9_replace_32 (by decide) ?_
  refine V_goto (pc := 33) o 37 dX9_replace_33 (by decide) ?_
  refine V_wVi (pc := 37) o (k9_holds _ _ _ cI ht ad vc vr vn ne vs li ba de qp qt ql qs qc ch ap un ro pi si pl rq dy en th 2) 0 21 (wMod cI ad vc vr vn ne vs li ba de qp qt ql qs qc ch ap un ro pi si pl rq dy en 2) gX9_replace_X9_holds rfl hdX9_holds ⟨by omega, by decide⟩ rfl rfl rfl (Nat.le_of_ble_eq_true rfl) dX9_replace_37 rfl rfl ?_
  refine V_ifT (by decide) ?_
  refine V_if_eq (pc := 40) o 45 dX9_replace_40 (by decide) (fun c40 => absurd c40 (by decide)) (fun _ => ?_)
  refine V_iconst (pc := 43) o (-1) dX9_replace_43 (by decide) ?_
  exact fin 44 _ _ () dX9_replace_44 rfl rfl
abbrev R3 : Type := (Nat → Nat) × (Nat → Nat) × (Nat → Nat)
def reS (p v : Nat) (T : R3) (q : Nat) : R3 := if 0 < T.2.1 q ∧ T.2.2 (8 * q + p) = v then (if T.2.1 q = 1 then (enA T.1 q 8, va_up T.2.1 q 0, emC T.2.2 q 8) else (enA T.1 q 8, T.2.1, T.2.2)) else T
def reT (p v : Nat) (T : R3) : Nat → R3
  | 0 => T
  | j + 1 => reS p v (reT p v T j) j
def reE (p v : Nat) (T : R3) : Nat → Nat
  | 0 => 0
  | j + 1 => if 0 < (reT p v T j).2.1 j ∧ (reT p v T j).2.2 (8 * j + p) = v then reE p v T j + enS (reT p v T j).1 j 8 else reE p v T j
theorem emC_le {ch : Nat → Nat} {b : Nat} (h : ∀ k, ch k ≤ b) (q : Nat) : ∀ j k, emC ch q j k ≤ b
  | 0, k => h k
  | j + 1, k => by
    unfold emC va_up
    split
    · omega
    · exact emC_le h q j k
theorem up_le {f : Nat → Nat} {b j x : Nat} (h : ∀ k, f k ≤ b) (hx : x ≤ b) : ∀ k, va_up f j x k ≤ b := fun k => by
  unfold va_up
  split
  · exact hx
  · exact h k
theorem reT_le (p v : Nat) {T : R3} (h1 : ∀ k, T.1 k ≤ 8) (h2 : ∀ k, T.2.1 k ≤ 2) (h3 : ∀ k, T.2.2 k ≤ 3) : ∀ j, (∀ k, (reT p v T j).1 k ≤ 8) ∧ (∀ k, (reT p v T j).2.1 k ≤ 2) ∧ (∀ k, (reT p v T j).2.2 k ≤ 3)
  | 0 => ⟨h1, h2, h3⟩
  | j + 1 => by
    obtain ⟨i1, i2, i3⟩ := reT_le p v h1 h2 h3 j
    unfold reT reS
    split
    · split
      · exact ⟨enA_le i1 j 8, up_le i2 (by omega), emC_le i3 j 8⟩
      · exact ⟨enA_le i1 j 8, i2, i3⟩
    · exact ⟨i1, i2, i3⟩
theorem lkX9_replace_82 : Cond.fieldLink RX9 82 RX9 "requests" "I" ∈ wsX9_replace := by decide +kernel
theorem lkX9_replace_43 : Cond.fieldLink RX9 43 RX9 "qs" "[I" ∈ wsX9_replace := by decide +kernel
theorem lkX9_replace_49 : Cond.fieldLink RX9 49 RX9 "chosen" "[I" ∈ wsX9_replace := by decide +kernel
set_option maxHeartbeats 4000000 in
set_option maxRecDepth 100000 in
theorem lpX9_replace {X : XT} (o : OkX X cX9_replace RX9 wsX9_replace 3) (hn : XN X = 6) (cI : ClassId) (ht : (XK X)[0]? = some (cI, .int)) (ad : Nat → Nat) (vc : Nat → Nat) (vr : Nat → Nat) (vn : Nat → Nat) (ne : Nat → Nat) (vs : Nat → Nat) (li : Nat → Nat) (ba : Nat → Nat) (de : Nat → Nat) (qp : Nat → Nat) (qt : Nat → Nat) (ql : Nat → Nat) (qs : Nat → Nat) (qc : Nat → Nat) (ch : Nat → Nat) (ap : Nat → Nat) (un : Nat → Int32) (ro : Nat → Nat) (pi : Nat → Nat) (si : Nat → Nat) (pl : Nat → Int32) (rq : Nat) (dy : Nat) (en : Nat) (th : Int32) (p v : Nat) (hp : p < 8) (hv : 1 ≤ v ∧ v ≤ 3) (hap : ∀ k, ap k ≤ 8) (hqs : ∀ k, qs k ≤ 2) (hch : ∀ k, ch k ≤ 3) (hrq : rq ≤ 30) (kk : V X 0 0 (wMod cI ad vc vr vn ne vs li ba de qp qt ql ((reT p v (ap, qs, ch) rq).2.1) qc ((reT p v (ap, qs, ch) rq).2.2) ((reT p v (ap, qs, ch) rq).1) un ro pi si pl rq dy en 0) 141 [(0, .ref (ad 0)), (1, .int (nI p)), (2, .int (nI v)), (3, .int (nI 1)), (4, .int (nI (reE p v (ap, qs, ch) rq))), (5, .int (nI rq))] []) : ∀ (m j : Nat), rq - j < m → j ≤ rq → V X 0 0 (wMod cI ad vc vr vn ne vs li ba de qp qt ql ((reT p v (ap, qs, ch) j).2.1) qc ((reT p v (ap, qs, ch) j).2.2) ((reT p v (ap, qs, ch) j).1) un ro pi si pl rq dy en 0) 64 [(0, .ref (ad 0)), (1, .int (nI p)), (2, .int (nI v)), (3, .int (nI 1)), (4, .int (nI (reE p v (ap, qs, ch) j))), (5, .int (nI j))] [] := by
  intro m
  induction m with
  | zero => intro j h1; exact absurd h1 (Nat.not_lt_zero _)
  | succ m ih =>
    intro j h1 h2
    refine V_iload (pc := 64) o dX9_replace_64 rfl ?_
    refine V_aload_n (pc := 66) o dX9_replace_66 rfl ?_
    refine V_get (pc := 67) o 0 16 hiX9_replace rfl rfl (by decide) lkX9_replace_82 rfl rfl dX9_replace_67 ?_
    refine V_icmp_geN (pc := 70) o 141 j rq rfl rfl (by omega) (by omega) dX9_replace_70 (by decide) (fun c70 => ?_) (fun c70 => ?_)
    · have e1 : j = rq := by omega
      rw [e1]
      exact V_sub (lc2 := [(0, .ref (ad 0)), (1, .int (nI p)), (2, .int (nI v)), (3, .int (nI 1)), (4, .int (nI (reE p v (ap, qs, ch) rq))), (5, .int (nI rq))]) ⟨rfl, rfl, rfl, rfl, rfl, rfl, trivial⟩ kk
    · refine V_aload_n (pc := 73) o dX9_replace_73 rfl ?_
      refine V_get (pc := 74) o 0 11 hiX9_replace rfl rfl (by decide) lkX9_replace_43 rfl rfl dX9_replace_74 ?_
      refine V_iload (pc := 77) o dX9_replace_77 rfl ?_
      refine V_ialdN (pc := 79) o 12 ((reT p v (ap, qs, ch) j).2.1) j rfl ht rfl (by omega) (by decide) dX9_replace_79 ?_
      refine V_if_leN (pc := 80) o 135 (((reT p v (ap, qs, ch) j).2.1) j) rfl (by obtain ⟨i1, i2, i3⟩ := reT_le p v (T := (ap, qs, ch)) hap hqs hch j; have := i2 j; omega) dX9_replace_80 (by decide) (fun c80 => ?_) (fun c80 => ?_)
      · refine V_iincN (pc := 135) o j 1 rfl dX9_replace_135 (by rw [hn]; decide) rfl (by decide) ?_
        refine V_goto (pc := 138) o 64 dX9_replace_138 (by decide) ?_
        refine V_eq (ws2 := wMod cI ad vc vr vn ne vs li ba de qp qt ql ((reT p v (ap, qs, ch) (j + 1)).2.1) qc ((reT p v (ap, qs, ch) (j + 1)).2.2) ((reT p v (ap, qs, ch) (j + 1)).1) un ro pi si pl rq dy en 0) (by first | (rw [reT, reS, if_neg (by omega)]; done) | (rw [reT, reS, if_pos ⟨by omega, by omega⟩, if_pos (by omega)]; done) | (rw [reT, reS, if_pos ⟨by omega, by omega⟩, if_neg (by omega)]; done)) rfl ?_
        refine V_sub (lc2 := [(0, .ref (ad 0)), (1, .int (nI p)), (2, .int (nI v)), (3, .int (nI 1)), (4, .int (nI (reE p v (ap, qs, ch) (j + 1)))), (5, .int (nI ((j + 1))))]) ⟨rfl, rfl, rfl, rfl, lc_e (by first | (rw [reE, if_neg (by omega)]; done) | (rw [reE, if_pos ⟨by omega, by omega⟩]; done)), lc_e (by rfl), trivial⟩ ?_
        exact ih (j + 1) (by omega) (by omega)
      · refine V_aload_n (pc := 83) o dX9_replace_83 rfl ?_
        refine V_get (pc := 84) o 0 13 hiX9_replace rfl rfl (by decide) lkX9_replace_49 rfl rfl dX9_replace_84 ?_
        refine V_bipush (pc := 87) o 8 dX9_replace_87 (by decide) ?_
        refine V_iload (pc := 89) o dX9_replace_89 rfl ?_
        refine V_imulN (pc := 91) o 8 j rfl rfl dX9_replace_91 ?_
        refine V_iload_n (pc := 92) o dX9_replace_92 rfl ?_
        refine V_iaddN (pc := 93) o (8 * j) p rfl rfl dX9_replace_93 ?_
        refine V_ialdN (pc := 94) o 14 ((reT p v (ap, qs, ch) j).2.2) ((8 * j) + p) rfl ht rfl (by omega) (by decide) dX9_replace_94 ?_
        refine V_iload_n (pc := 95) o dX9_replace_95 rfl ?_
        refine V_icmp_neN (pc := 96) o 135 (((reT p v (ap, qs, ch) j).2.2) ((8 * j) + p)) v rfl rfl (by obtain ⟨i1, i2, i3⟩ := reT_le p v (T := (ap, qs, ch)) hap hqs hch j; have := i3 (8 * j + p); omega) (by obtain ⟨i1, i2, i3⟩ := reT_le p v (T := (ap, qs, ch)) hap hqs hch j; have := i3 (8 * j + p); omega) dX9_replace_96 (by decide) (fun c96 => ?_) (fun c96 => ?_)
        · refine V_iincN (pc := 135) o j 1 rfl dX9_replace_135 (by rw [hn]; decide) rfl (by decide) ?_
          refine V_goto (pc := 138) o 64 dX9_replace_138 (by decide) ?_
          refine V_eq (ws2 := wMod cI ad vc vr vn ne vs li ba de qp qt ql ((reT p v (ap, qs, ch) (j + 1)).2.1) qc ((reT p v (ap, qs, ch) (j + 1)).2.2) ((reT p v (ap, qs, ch) (j + 1)).1) un ro pi si pl rq dy en 0) (by first | (rw [reT, reS, if_neg (by omega)]; done) | (rw [reT, reS, if_pos ⟨by omega, by omega⟩, if_pos (by omega)]; done) | (rw [reT, reS, if_pos ⟨by omega, by omega⟩, if_neg (by omega)]; done)) rfl ?_
          refine V_sub (lc2 := [(0, .ref (ad 0)), (1, .int (nI p)), (2, .int (nI v)), (3, .int (nI 1)), (4, .int (nI (reE p v (ap, qs, ch) (j + 1)))), (5, .int (nI ((j + 1))))]) ⟨rfl, rfl, rfl, rfl, lc_e (by first | (rw [reE, if_neg (by omega)]; done) | (rw [reE, if_pos ⟨by omega, by omega⟩]; done)), lc_e (by rfl), trivial⟩ ?_
          exact ih (j + 1) (by omega) (by omega)
        · refine V_iload (pc := 99) o dX9_replace_99 rfl ?_
          refine V_aload_n (pc := 101) o dX9_replace_101 rfl ?_
          refine V_iload (pc := 102) o dX9_replace_102 rfl ?_
          refine V_wVi (pc := 104) o (k9_ends _ _ _ cI ht ad vc vr vn ne vs li ba de qp qt ql ((reT p v (ap, qs, ch) j).2.1) qc ((reT p v (ap, qs, ch) j).2.2) ((reT p v (ap, qs, ch) j).1) un ro pi si pl rq dy en 0 j (by omega) ((reT_le p v (T := (ap, qs, ch)) hap hqs hch j).1)) 0 21 (wMod cI ad vc vr vn ne vs li ba de qp qt ql ((reT p v (ap, qs, ch) j).2.1) qc ((reT p v (ap, qs, ch) j).2.2) (enA ((reT p v (ap, qs, ch) j).1) j 8) un ro pi si pl rq dy en 0) gX9_replace_X9_ends rfl hdX9_ends ⟨by omega, by decide⟩ rfl rfl rfl (Nat.le_of_ble_eq_true rfl) dX9_replace_104 rfl rfl ?_
          refine V_iaddN (pc := 107) o (reE p v (ap, qs, ch) j) (enS ((reT p v (ap, qs, ch) j).1) j 8) rfl rfl dX9_replace_107 ?_
          refine V_istore (pc := 108) o dX9_replace_108 (by rw [hn]; decide) ?_
          refine V_aload_n (pc := 110) o dX9_replace_110 rfl ?_
          refine V_get (pc := 111) o 0 11 hiX9_replace rfl rfl (by decide) lkX9_replace_43 rfl rfl dX9_replace_111 ?_
          refine V_iload (pc := 114) o dX9_replace_114 rfl ?_
          refine V_ialdN (pc := 116) o 12 ((reT p v (ap, qs, ch) j).2.1) j rfl ht rfl (by omega) (by decide) dX9_replace_116 ?_
          refine V_iconst (pc := 117) o 1 dX9_replace_117 (by decide) ?_
          refine V_icmp_neN (pc := 118) o 135 (((reT p v (ap, qs, ch) j).2.1) j) 1 rfl rfl (by obtain ⟨i1, i2, i3⟩ := reT_le p v (T := (ap, qs, ch)) hap hqs hch j; have := i2 j; omega) (by obtain ⟨i1, i2, i3⟩ := reT_le p v (T := (ap, qs, ch)) hap hqs hch j; have := i2 j; omega) dX9_replace_118 (by decide) (fun c118 => ?_) (fun c118 => ?_)
          · refine V_iincN (pc := 135) o j 1 rfl dX9_replace_135 (by rw [hn]; decide) rfl (by decide) ?_
            refine V_goto (pc := 138) o 64 dX9_replace_138 (by decide) ?_
            refine V_eq (ws2 := wMod cI ad vc vr vn ne vs li ba de qp qt ql ((reT p v (ap, qs, ch) (j + 1)).2.1) qc ((reT p v (ap, qs, ch) (j + 1)).2.2) ((reT p v (ap, qs, ch) (j + 1)).1) un ro pi si pl rq dy en 0) (by first | (rw [reT, reS, if_neg (by omega)]; done) | (rw [reT, reS, if_pos ⟨by omega, by omega⟩, if_pos (by omega)]; done) | (rw [reT, reS, if_pos ⟨by omega, by omega⟩, if_neg (by omega)]; done)) rfl ?_
            refine V_sub (lc2 := [(0, .ref (ad 0)), (1, .int (nI p)), (2, .int (nI v)), (3, .int (nI 1)), (4, .int (nI (reE p v (ap, qs, ch) (j + 1)))), (5, .int (nI ((j + 1))))]) ⟨rfl, rfl, rfl, rfl, lc_e (by first | (rw [reE, if_neg (by omega)]; done) | (rw [reE, if_pos ⟨by omega, by omega⟩]; done)), lc_e (by rfl), trivial⟩ ?_
            exact ih (j + 1) (by omega) (by omega)
          · refine V_aload_n (pc := 121) o dX9_replace_121 rfl ?_
            refine V_get (pc := 122) o 0 11 hiX9_replace rfl rfl (by decide) lkX9_replace_43 rfl rfl dX9_replace_122 ?_
            refine V_iload (pc := 125) o dX9_replace_125 rfl ?_
            refine V_iconst (pc := 127) o 0 dX9_replace_127 (by decide) ?_
            refine V_iastN (pc := 128) o 12 ((reT p v (ap, qs, ch) j).2.1) j 0 rfl ht rfl rfl (by omega) (by decide) dX9_replace_128 ?_
            refine V_eq (ws2 := wMod cI ad vc vr vn ne vs li ba de qp qt ql (va_up ((reT p v (ap, qs, ch) j).2.1) j 0) qc ((reT p v (ap, qs, ch) j).2.2) (enA ((reT p v (ap, qs, ch) j).1) j 8) un ro pi si pl rq dy en 0) rfl rfl ?_
            refine V_aload_n (pc := 129) o dX9_replace_129 rfl ?_
            refine V_iload (pc := 130) o dX9_replace_130 rfl ?_
            refine V_wVv (pc := 132) o (k9_empty _ _ _ cI ht ad vc vr vn ne vs li ba de qp qt ql (va_up ((reT p v (ap, qs, ch) j).2.1) j 0) qc ((reT p v (ap, qs, ch) j).2.2) (enA ((reT p v (ap, qs, ch) j).1) j 8) un ro pi si pl rq dy en 0 j (by omega)) 0 21 (wMod cI ad vc vr vn ne vs li ba de qp qt ql (va_up ((reT p v (ap, qs, ch) j).2.1) j 0) qc (emC ((reT p v (ap, qs, ch) j).2.2) j 8) (enA ((reT p v (ap, qs, ch) j).1) j 8) un ro pi si pl rq dy en 0) gX9_replace_X9_empty rfl hdX9_empty ⟨by omega, by decide⟩ rfl rfl rfl (Nat.le_of_ble_eq_true rfl) dX9_replace_132 rfl rfl ?_
            refine V_iincN (pc := 135) o j 1 rfl dX9_replace_135 (by rw [hn]; decide) rfl (by decide) ?_
            refine V_goto (pc := 138) o 64 dX9_replace_138 (by decide) ?_
            refine V_eq (ws2 := wMod cI ad vc vr vn ne vs li ba de qp qt ql ((reT p v (ap, qs, ch) (j + 1)).2.1) qc ((reT p v (ap, qs, ch) (j + 1)).2.2) ((reT p v (ap, qs, ch) (j + 1)).1) un ro pi si pl rq dy en 0) (by first | (rw [reT, reS, if_neg (by omega)]; done) | (rw [reT, reS, if_pos ⟨by omega, by omega⟩, if_pos (by omega)]; done) | (rw [reT, reS, if_pos ⟨by omega, by omega⟩, if_neg (by omega)]; done)) rfl ?_
            refine V_sub (lc2 := [(0, .ref (ad 0)), (1, .int (nI p)), (2, .int (nI v)), (3, .int (nI 1)), (4, .int (nI (reE p v (ap, qs, ch) (j + 1)))), (5, .int (nI ((j + 1))))]) ⟨rfl, rfl, rfl, rfl, lc_e (by first | (rw [reE, if_neg (by omega)]; done) | (rw [reE, if_pos ⟨by omega, by omega⟩]; done)), lc_e (by rfl), trivial⟩ ?_
            exact ih (j + 1) (by omega) (by omega)
theorem lkX9_replace_88 : Cond.fieldLink RX9 88 RX9 "entries" "I" ∈ wsX9_replace := by decide +kernel
set_option maxHeartbeats 4000000 in
set_option maxRecDepth 100000 in
/-- reference: replaceK -/
theorem k9_replaceK (l : Launch) (D : va_G) (tys : List (ClassId × FieldType)) (cI : ClassId) (ht : tys[0]? = some (cI, .int)) (ad : Nat → Nat) (vc : Nat → Nat) (vr : Nat → Nat) (vn : Nat → Nat) (ne : Nat → Nat) (vs : Nat → Nat) (li : Nat → Nat) (ba : Nat → Nat) (de : Nat → Nat) (qp : Nat → Nat) (qt : Nat → Nat) (ql : Nat → Nat) (qs : Nat → Nat) (qc : Nat → Nat) (ch : Nat → Nat) (ap : Nat → Nat) (un : Nat → Int32) (ro : Nat → Nat) (pi : Nat → Nat) (si : Nat → Nat) (pl : Nat → Int32) (rq : Nat) (dy : Nat) (en : Nat) (th : Int32) (p v : Nat) (hp : p < 8) (hv : 1 ≤ v ∧ v ≤ vs p) (hvs : ∀ k, vs k ≤ 3) (hvr : ∀ k, vr k ≤ 1) (hap : ∀ k, ap k ≤ 8) (hqs : ∀ k, qs k ≤ 2) (hch : ∀ k, ch k ≤ 3) (hrq : rq ≤ 30) (h : vr (3 * p + v - 1) = 0) : CId l yX9_replace wsX9_replace 3 D tys [.ref (ad 0), .int (nI p), .int (nI v)] (wMod cI ad vc vr vn ne vs li ba de qp qt ql qs qc ch ap un ro pi si pl rq dy en th) (nI (reE p v (ap, qs, ch) rq)) (wMod cI ad vc (va_up vr (3 * p + v - 1) 1) vn ne vs li ba de qp qt ql ((reT p v (ap, qs, ch) rq).2.1) qc ((reT p v (ap, qs, ch) rq).2.2) ((reT p v (ap, qs, ch) rq).1) un ro pi si pl rq dy (en + 1) 0) := by
  refine CI_of (maxL := 6) (cc := cX9_replace) (y := yX9_replace) rfl rfl (Nat.le_of_ble_eq_true rfl) (fun X hl hD hk hn hcz hsz o fin => ?_)
  subst hl; subst hD; subst hk
  refine V_aload_n (pc := 0) o dX9_replace_0 rfl ?_
  refine V_iload_n (pc := 1) o dX9_replace_1 rfl ?_
  refine V_iload_n (pc := 2) o dX9_replace_2 rfl ?_
  refine V_rVi (pc := 3) o (k9_verT _ _ _ cI ht ad vc vr vn ne vs li ba de qp qt ql qs qc ch ap un ro pi si pl rq dy en th p v (by omega) (by omega) hvs) 0 21 gX9_replace_X9_isVersion rfl hdX9_isVersion ⟨by omega, by decide⟩ rfl rfl rfl (Nat.le_of_ble_eq_true rfl) dX9_replace_3 rfl ?_
  refine V_istore_n (pc := 6) o dX9_replace_6 (by rw [hn]; decide) ?_
  refine V_aload_n (pc := 7) o dX9_replace_7 rfl ?_
  refine V_iload_n (pc := 8) o dX9_replace_8 rfl ?_
  refine V_if_ne (pc := 9) o 16 dX9_replace_9 (by decide) (fun _ => ?_) (fun c9 => absurd c9 (by decide))
  refine V_aload_n (pc := 16) o dX9_replace_16 rfl ?_
  refine V_get (pc := 17) o 0 1 hiX9_replace rfl rfl (by decide) lkX9_replace_13 rfl rfl dX9_replace_17 ?_
  refine V_iconst (pc := 20) o 3 dX9_replace_20 (by decide) ?_
  refine V_iload_n (pc := 21) o dX9_replace_21 rfl ?_
  refine V_imulN (pc := 22) o 3 p rfl rfl dX9_replace_22 ?_
  refine V_iload_n (pc := 23) o dX9_replace_23 rfl ?_
  refine V_iaddN (pc := 24) o (3 * p) v rfl rfl dX9_replace_24 ?_
  refine V_iconst (pc := 25) o 1 dX9_replace_25 (by decide) ?_
  refine V_isubN (pc := 26) o ((3 * p) + v) 1 rfl rfl (by have := hvs p; have := hvr (3 * p + v - 1); omega) dX9_replace_26 ?_
  refine V_ialdN (pc := 27) o 2 vr (((3 * p) + v) - 1) rfl ht rfl (by have := hvs p; have := hvr (3 * p + v - 1); omega) (by decide) dX9_replace_27 ?_
  refine V_iconst (pc := 28) o 1 dX9_replace_28 (by decide) ?_
  refine V_icmp_neN (pc := 29) o 36 (vr (((3 * p) + v) - 1)) 1 rfl rfl (by have := hvs p; have := hvr (3 * p + v - 1); omega) (by have := hvs p; have := hvr (3 * p + v - 1); omega) dX9_replace_29 (by decide) (fun c29 => ?_) (fun c29 => absurd c29 (by omega))
  refine V_iconst (pc := 36) o 0 dX9_replace_36 (by decide) ?_
  refine V_wVi (pc := 37) o (k9_holds _ _ _ cI ht ad vc vr vn ne vs li ba de qp qt ql qs qc ch ap un ro pi si pl rq dy en th 0) 0 21 (wMod cI ad vc vr vn ne vs li ba de qp qt ql qs qc ch ap un ro pi si pl rq dy en 0) gX9_replace_X9_holds rfl hdX9_holds ⟨by omega, by decide⟩ rfl rfl rfl (Nat.le_of_ble_eq_true rfl) dX9_replace_37 rfl rfl ?_
  refine V_ifF (by decide) ?_
  refine V_if_eq (pc := 40) o 45 dX9_replace_40 (by decide) (fun _ => ?_) (fun c40 => absurd c40 (by decide))
  refine V_aload_n (pc := 45) o dX9_replace_45 rfl ?_
  refine V_get (pc := 46) o 0 1 hiX9_replace rfl rfl (by decide) lkX9_replace_13 rfl rfl dX9_replace_46 ?_
  refine V_iconst (pc := 49) o 3 dX9_replace_49 (by decide) ?_
  refine V_iload_n (pc := 50) o dX9_replace_50 rfl ?_
  refine V_imulN (pc := 51) o 3 p rfl rfl dX9_replace_51 ?_
  refine V_iload_n (pc := 52) o dX9_replace_52 rfl ?_
  refine V_iaddN (pc := 53) o (3 * p) v rfl rfl dX9_replace_53 ?_
  refine V_iconst (pc := 54) o 1 dX9_replace_54 (by decide) ?_
  refine V_isubN (pc := 55) o ((3 * p) + v) 1 rfl rfl (by have := hvs p; have := hvr (3 * p + v - 1); omega) dX9_replace_55 ?_
  refine V_iconst (pc := 56) o 1 dX9_replace_56 (by decide) ?_
  refine V_iastN (pc := 57) o 2 vr (((3 * p) + v) - 1) 1 rfl ht rfl rfl (by have := hvs p; have := hvr (3 * p + v - 1); omega) (by decide) dX9_replace_57 ?_
  refine V_eq (ws2 := wMod cI ad vc (va_up vr (((3 * p) + v) - 1) 1) vn ne vs li ba de qp qt ql qs qc ch ap un ro pi si pl rq dy en 0) rfl rfl ?_
  refine V_iconst (pc := 58) o 0 dX9_replace_58 (by decide) ?_
  refine V_istore (pc := 59) o dX9_replace_59 (by rw [hn]; decide) ?_
  refine V_iconst (pc := 61) o 0 dX9_replace_61 (by decide) ?_
  refine V_istore (pc := 62) o dX9_replace_62 (by rw [hn]; decide) ?_
  refine V_eq (ws2 := wMod cI ad vc (va_up vr (((3 * p) + v) - 1) 1) vn ne vs li ba de qp qt ql ((reT p v (ap, qs, ch) 0).2.1) qc ((reT p v (ap, qs, ch) 0).2.2) ((reT p v (ap, qs, ch) 0).1) un ro pi si pl rq dy en 0) rfl rfl ?_
  refine V_sub (lc2 := [(0, .ref (ad 0)), (1, .int (nI p)), (2, .int (nI v)), (3, .int (nI 1)), (4, .int (nI (reE p v (ap, qs, ch) 0))), (5, .int (nI 0))]) ⟨rfl, rfl, rfl, rfl, rfl, rfl, trivial⟩ ?_
  refine lpX9_replace o hn cI ht ad vc (va_up vr (((3 * p) + v) - 1) 1) vn ne vs li ba de qp qt ql qs qc ch ap un ro pi si pl rq dy en 0 p v (by omega) (by have := hvs p; omega) hap hqs hch hrq ?_ (rq + 1) 0 (by omega) (by omega)
  refine V_aload_n (pc := 141) o dX9_replace_141 rfl ?_
  refine V_dup (pc := 142) o rfl dX9_replace_142 ?_
  refine V_get (pc := 143) o 0 18 hiX9_replace rfl rfl (by decide) lkX9_replace_88 rfl rfl dX9_replace_143 ?_
  refine V_iconst (pc := 146) o 1 dX9_replace_146 (by decide) ?_
  refine V_iaddN (pc := 147) o en 1 rfl rfl dX9_replace_147 ?_
  refine V_put (pc := 148) o 0 18 hiX9_replace tyX9 tyX9_ok nmX9 rfl rfl (by decide) lkX9_replace_88 rfl rfl rfl rfl rfl (Nat.le_of_ble_eq_true rfl) dX9_replace_148 ?_
  refine V_eq (ws2 := wMod cI ad vc (va_up vr (((3 * p) + v) - 1) 1) vn ne vs li ba de qp qt ql ((reT p v (ap, qs, ch) rq).2.1) qc ((reT p v (ap, qs, ch) rq).2.2) ((reT p v (ap, qs, ch) rq).1) un ro pi si pl rq dy (en + 1) 0) rfl rfl ?_
  refine V_iload (pc := 151) o dX9_replace_151 rfl ?_
  exact fin 153 _ _ () dX9_replace_153 rfl rfl
