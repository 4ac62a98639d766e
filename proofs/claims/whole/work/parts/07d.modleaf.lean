/-! The reference: small methods. -/
theorem V_ifT {X : XT} {k z : Nat} {ws : va_W} {pc : Nat} {lc : List (Nat × Value)} {st : List Value} {c : Prop} [Decidable c] (h : c) (kk : V X k z ws pc lc (.int 1 :: st)) : V X k z ws pc lc (.int (if c then 1 else 0) :: st) := by rw [if_pos h]; exact kk
theorem V_ifF {X : XT} {k z : Nat} {ws : va_W} {pc : Nat} {lc : List (Nat × Value)} {st : List Value} {c : Prop} [Decidable c] (h : ¬ c) (kk : V X k z ws pc lc (.int 0 :: st)) : V X k z ws pc lc (.int (if c then 1 else 0) :: st) := by rw [if_neg h]; exact kk
theorem e8_T {p : Nat} (hp : p < 8) : (0 : Int32) ≤ nI p ∧ nI p ≤ 7 := ⟨nI_pos' (by omega), nI_le (b := 7) (by omega) (by decide)⟩
theorem hdX9_thrown : yX9_thrown.cls = RX9 ∧ yX9_thrown.cls ≠ "java/lang/invoke/MethodHandle" ∧ yX9_thrown.cls ≠ "java/lang/invoke/VarHandle" ∧ (parseMethodDescriptor yX9_thrown.desc).map (fun d => d.parameters.length) = some 0 := by decide +kernel
theorem hiX9_thrown : ∀ w ∈ wsX90, w ∈ wsX9_thrown := by decide +kernel
theorem lkX9_thrown_70 : Cond.fieldLink RX9 70 RX9 "thrown" "I" ∈ wsX9_thrown := by decide +kernel
set_option maxHeartbeats 4000000 in
set_option maxRecDepth 100000 in
/-- reference: thrown -/
theorem k9_thrown (l : Launch) (D : va_G) (tys : List (ClassId × FieldType)) (cI : ClassId) (ht : tys[0]? = some (cI, .int)) (ad : Nat → Nat) (vc : Nat → Nat) (vr : Nat → Nat) (vn : Nat → Nat) (ne : Nat → Nat) (vs : Nat → Nat) (li : Nat → Nat) (ba : Nat → Nat) (de : Nat → Nat) (qp : Nat → Nat) (qt : Nat → Nat) (ql : Nat → Nat) (qs : Nat → Nat) (qc : Nat → Nat) (ch : Nat → Nat) (ap : Nat → Nat) (un : Nat → Int32) (ro : Nat → Nat) (pi : Nat → Nat) (si : Nat → Nat) (pl : Nat → Int32) (rq : Nat) (dy : Nat) (en : Nat) (th : Int32)  : CId l yX9_thrown wsX9_thrown 0 D tys [.ref (ad 0)] (wMod cI ad vc vr vn ne vs li ba de qp qt ql qs qc ch ap un ro pi si pl rq dy en th) th (wMod cI ad vc vr vn ne vs li ba de qp qt ql qs qc ch ap un ro pi si pl rq dy en th) := by
  refine CI_of (maxL := 1) (cc := cX9_thrown) (y := yX9_thrown) rfl rfl (Nat.le_of_ble_eq_true rfl) (fun X hl hD hk hn hcz hsz o fin => ?_)
  subst hl; subst hD; subst hk
  refine V_aload_n (pc := 0) o dX9_thrown_0 rfl ?_
  refine V_get (pc := 1) o 0 23 hiX9_thrown rfl rfl (by decide) lkX9_thrown_70 rfl rfl dX9_thrown_1 ?_
  exact fin 4 _ _ () dX9_thrown_4 rfl rfl
theorem hdX9_holds : yX9_holds.cls = RX9 ∧ yX9_holds.cls ≠ "java/lang/invoke/MethodHandle" ∧ yX9_holds.cls ≠ "java/lang/invoke/VarHandle" ∧ (parseMethodDescriptor yX9_holds.desc).map (fun d => d.parameters.length) = some 1 := by decide +kernel
theorem hiX9_holds : ∀ w ∈ wsX90, w ∈ wsX9_holds := by decide +kernel
theorem lkX9_holds_70 : Cond.fieldLink RX9 70 RX9 "thrown" "I" ∈ wsX9_holds := by decide +kernel
set_option maxHeartbeats 4000000 in
set_option maxRecDepth 100000 in
/-- reference: holds -/
theorem k9_holds (l : Launch) (D : va_G) (tys : List (ClassId × FieldType)) (cI : ClassId) (ht : tys[0]? = some (cI, .int)) (ad : Nat → Nat) (vc : Nat → Nat) (vr : Nat → Nat) (vn : Nat → Nat) (ne : Nat → Nat) (vs : Nat → Nat) (li : Nat → Nat) (ba : Nat → Nat) (de : Nat → Nat) (qp : Nat → Nat) (qt : Nat → Nat) (ql : Nat → Nat) (qs : Nat → Nat) (qc : Nat → Nat) (ch : Nat → Nat) (ap : Nat → Nat) (un : Nat → Int32) (ro : Nat → Nat) (pi : Nat → Nat) (si : Nat → Nat) (pl : Nat → Int32) (rq : Nat) (dy : Nat) (en : Nat) (th : Int32) (x : Int32) : CId l yX9_holds wsX9_holds 0 D tys [.ref (ad 0), .int x] (wMod cI ad vc vr vn ne vs li ba de qp qt ql qs qc ch ap un ro pi si pl rq dy en th) (if 0 < x then 1 else 0) (wMod cI ad vc vr vn ne vs li ba de qp qt ql qs qc ch ap un ro pi si pl rq dy en x) := by
  refine CI_of (maxL := 2) (cc := cX9_holds) (y := yX9_holds) rfl rfl (Nat.le_of_ble_eq_true rfl) (fun X hl hD hk hn hcz hsz o fin => ?_)
  subst hl; subst hD; subst hk
  refine V_aload_n (pc := 0) o dX9_holds_0 rfl ?_
  refine V_iload_n (pc := 1) o dX9_holds_1 rfl ?_
  refine V_put (pc := 2) o 0 23 hiX9_holds tyX9 tyX9_ok nmX9 rfl rfl (by decide) lkX9_holds_70 rfl rfl rfl rfl rfl (Nat.le_of_ble_eq_true rfl) dX9_holds_2 ?_
  refine V_eq (ws2 := wMod cI ad vc vr vn ne vs li ba de qp qt ql qs qc ch ap un ro pi si pl rq dy en x) rfl rfl ?_
  refine V_iload_n (pc := 5) o dX9_holds_5 rfl ?_
  refine V_if_le (pc := 6) o 13 dX9_holds_6 (by decide) (fun c6 => ?_) (fun c6 => ?_)
  · refine V_iconst (pc := 13) o 0 dX9_holds_13 (by decide) ?_
    exact fin 14 _ _ () dX9_holds_14 rfl (by first | (rw [if_pos (i_nle (by assumption))]; done) | (rw [if_neg (Int32.not_lt.mpr (by assumption))]; done))
  · refine V_iconst (pc := 9) o 1 dX9_holds_9 (by decide) ?_
    refine V_goto (pc := 10) o 14 dX9_holds_10 (by decide) ?_
    exact fin 14 _ _ () dX9_holds_14 rfl (by first | (rw [if_pos (i_nle (by assumption))]; done) | (rw [if_neg (Int32.not_lt.mpr (by assumption))]; done))
theorem hdX9_in : yX9_in.cls = RX9 ∧ yX9_in.cls ≠ "java/lang/invoke/MethodHandle" ∧ yX9_in.cls ≠ "java/lang/invoke/VarHandle" ∧ (parseMethodDescriptor yX9_in.desc).map (fun d => d.parameters.length) = some 3 := by decide +kernel
set_option maxHeartbeats 4000000 in
set_option maxRecDepth 100000 in
/-- reference: in -/
theorem k9_in (l : Launch) (D : va_G) (tys : List (ClassId × FieldType)) (cI : ClassId) (ht : tys[0]? = some (cI, .int)) (ad : Nat → Nat) (vc : Nat → Nat) (vr : Nat → Nat) (vn : Nat → Nat) (ne : Nat → Nat) (vs : Nat → Nat) (li : Nat → Nat) (ba : Nat → Nat) (de : Nat → Nat) (qp : Nat → Nat) (qt : Nat → Nat) (ql : Nat → Nat) (qs : Nat → Nat) (qc : Nat → Nat) (ch : Nat → Nat) (ap : Nat → Nat) (un : Nat → Int32) (ro : Nat → Nat) (pi : Nat → Nat) (si : Nat → Nat) (pl : Nat → Int32) (rq : Nat) (dy : Nat) (en : Nat) (th : Int32) (x a b : Int32) : CId l yX9_in wsX9_in 0 D tys [.ref (ad 0), .int x, .int a, .int b] (wMod cI ad vc vr vn ne vs li ba de qp qt ql qs qc ch ap un ro pi si pl rq dy en th) (if a ≤ x ∧ x ≤ b then 1 else 0) (wMod cI ad vc vr vn ne vs li ba de qp qt ql qs qc ch ap un ro pi si pl rq dy en th) := by
  refine CI_of (maxL := 4) (cc := cX9_in) (y := yX9_in) rfl rfl (Nat.le_of_ble_eq_true rfl) (fun X hl hD hk hn hcz hsz o fin => ?_)
  subst hl; subst hD; subst hk
  refine V_iload_n (pc := 0) o dX9_in_0 rfl ?_
  refine V_iload_n (pc := 1) o dX9_in_1 rfl ?_
  refine V_icmp_lt (pc := 2) o 14 dX9_in_2 (by decide) (fun c2 => ?_) (fun c2 => ?_)
  · refine V_iconst (pc := 14) o 0 dX9_in_14 (by decide) ?_
    exact fin 15 _ _ () dX9_in_15 rfl (by first | (rw [if_pos ⟨i_nlt (by assumption), i_nlt (by assumption)⟩]; done) | (rw [if_neg (fun q => absurd q.1 (Int32.not_le.mpr (by assumption)))]; done) | (rw [if_neg (fun q => absurd q.2 (Int32.not_le.mpr (by assumption)))]; done))
  · refine V_iload_n (pc := 5) o dX9_in_5 rfl ?_
    refine V_iload_n (pc := 6) o dX9_in_6 rfl ?_
    refine V_icmp_gt (pc := 7) o 14 dX9_in_7 (by decide) (fun c7 => ?_) (fun c7 => ?_)
    · refine V_iconst (pc := 14) o 0 dX9_in_14 (by decide) ?_
      exact fin 15 _ _ () dX9_in_15 rfl (by first | (rw [if_pos ⟨i_nlt (by assumption), i_nlt (by assumption)⟩]; done) | (rw [if_neg (fun q => absurd q.1 (Int32.not_le.mpr (by assumption)))]; done) | (rw [if_neg (fun q => absurd q.2 (Int32.not_le.mpr (by assumption)))]; done))
    · refine V_iconst (pc := 10) o 1 dX9_in_10 (by decide) ?_
      refine V_goto (pc := 11) o 15 dX9_in_11 (by decide) ?_
      exact fin 15 _ _ () dX9_in_15 rfl (by first | (rw [if_pos ⟨i_nlt (by assumption), i_nlt (by assumption)⟩]; done) | (rw [if_neg (fun q => absurd q.1 (Int32.not_le.mpr (by assumption)))]; done) | (rw [if_neg (fun q => absurd q.2 (Int32.not_le.mpr (by assumption)))]; done))
theorem hdX9_isEight : yX9_isEight.cls = RX9 ∧ yX9_isEight.cls ≠ "java/lang/invoke/MethodHandle" ∧ yX9_isEight.cls ≠ "java/lang/invoke/VarHandle" ∧ (parseMethodDescriptor yX9_isEight.desc).map (fun d => d.parameters.length) = some 1 := by decide +kernel
set_option maxHeartbeats 4000000 in
set_option maxRecDepth 100000 in
/-- reference: eightT -/
theorem k9_eightT (l : Launch) (D : va_G) (tys : List (ClassId × FieldType)) (cI : ClassId) (ht : tys[0]? = some (cI, .int)) (ad : Nat → Nat) (vc : Nat → Nat) (vr : Nat → Nat) (vn : Nat → Nat) (ne : Nat → Nat) (vs : Nat → Nat) (li : Nat → Nat) (ba : Nat → Nat) (de : Nat → Nat) (qp : Nat → Nat) (qt : Nat → Nat) (ql : Nat → Nat) (qs : Nat → Nat) (qc : Nat → Nat) (ch : Nat → Nat) (ap : Nat → Nat) (un : Nat → Int32) (ro : Nat → Nat) (pi : Nat → Nat) (si : Nat → Nat) (pl : Nat → Int32) (rq : Nat) (dy : Nat) (en : Nat) (th : Int32) (p : Nat) (hp : p < 8) : CId l yX9_isEight wsX9_isEight 1 D tys [.ref (ad 0), .int (nI p)] (wMod cI ad vc vr vn ne vs li ba de qp qt ql qs qc ch ap un ro pi si pl rq dy en th) 1 (wMod cI ad vc vr vn ne vs li ba de qp qt ql qs qc ch ap un ro pi si pl rq dy en th) := by
  refine CI_of (maxL := 2) (cc := cX9_isEight) (y := yX9_isEight) rfl rfl (Nat.le_of_ble_eq_true rfl) (fun X hl hD hk hn hcz hsz o fin => ?_)
  subst hl; subst hD; subst hk
  refine V_aload_n (pc := 0) o dX9_isEight_0 rfl ?_
  refine V_iload_n (pc := 1) o dX9_isEight_1 rfl ?_
  refine V_iconst (pc := 2) o 0 dX9_isEight_2 (by decide) ?_
  refine V_bipush (pc := 3) o 7 dX9_isEight_3 (by decide) ?_
  refine V_rVi (pc := 5) o (k9_in _ _ _ cI ht ad vc vr vn ne vs li ba de qp qt ql qs qc ch ap un ro pi si pl rq dy en th (nI p) 0 7) 0 21 gX9_isEight_X9_in rfl hdX9_in ⟨by omega, by decide⟩ rfl rfl rfl (Nat.le_of_ble_eq_true rfl) dX9_isEight_5 rfl ?_
  refine V_ifT (e8_T hp) ?_
  exact fin 8 _ _ () dX9_isEight_8 rfl rfl
set_option maxHeartbeats 4000000 in
set_option maxRecDepth 100000 in
/-- reference: eightF -/
theorem k9_eightF (l : Launch) (D : va_G) (tys : List (ClassId × FieldType)) (cI : ClassId) (ht : tys[0]? = some (cI, .int)) (ad : Nat → Nat) (vc : Nat → Nat) (vr : Nat → Nat) (vn : Nat → Nat) (ne : Nat → Nat) (vs : Nat → Nat) (li : Nat → Nat) (ba : Nat → Nat) (de : Nat → Nat) (qp : Nat → Nat) (qt : Nat → Nat) (ql : Nat → Nat) (qs : Nat → Nat) (qc : Nat → Nat) (ch : Nat → Nat) (ap : Nat → Nat) (un : Nat → Int32) (ro : Nat → Nat) (pi : Nat → Nat) (si : Nat → Nat) (pl : Nat → Int32) (rq : Nat) (dy : Nat) (en : Nat) (th : Int32) (p : Int32) (h : ¬ ((0 : Int32) ≤ p ∧ p ≤ 7)) : CId l yX9_isEight wsX9_isEight 1 D tys [.ref (ad 0), .int p] (wMod cI ad vc vr vn ne vs li ba de qp qt ql qs qc ch ap un ro pi si pl rq dy en th) 0 (wMod cI ad vc vr vn ne vs li ba de qp qt ql qs qc ch ap un ro pi si pl rq dy en th) := by
  refine CI_of (maxL := 2) (cc := cX9_isEight) (y := yX9_isEight) rfl rfl (Nat.le_of_ble_eq_true rfl) (fun X hl hD hk hn hcz hsz o fin => ?_)
  subst hl; subst hD; subst hk
  refine V_aload_n (pc := 0) o dX9_isEight_0 rfl ?_
  refine V_iload_n (pc := 1) o dX9_isEight_1 rfl ?_
  refine V_iconst (pc := 2) o 0 dX9_isEight_2 (by decide) ?_
  refine V_bipush (pc := 3) o 7 dX9_isEight_3 (by decide) ?_
  refine V_rVi (pc := 5) o (k9_in _ _ _ cI ht ad vc vr vn ne vs li ba de qp qt ql qs qc ch ap un ro pi si pl rq dy en th p 0 7) 0 21 gX9_isEight_X9_in rfl hdX9_in ⟨by omega, by decide⟩ rfl rfl rfl (Nat.le_of_ble_eq_true rfl) dX9_isEight_5 rfl ?_
  refine V_ifF (h) ?_
  exact fin 8 _ _ () dX9_isEight_8 rfl rfl
theorem hdX9_isRequest : yX9_isRequest.cls = RX9 ∧ yX9_isRequest.cls ≠ "java/lang/invoke/MethodHandle" ∧ yX9_isRequest.cls ≠ "java/lang/invoke/VarHandle" ∧ (parseMethodDescriptor yX9_isRequest.desc).map (fun d => d.parameters.length) = some 1 := by decide +kernel
theorem hiX9_isRequest : ∀ w ∈ wsX90, w ∈ wsX9_isRequest := by decide +kernel
theorem lkX9_isRequest_82 : Cond.fieldLink RX9 82 RX9 "requests" "I" ∈ wsX9_isRequest := by decide +kernel
set_option maxHeartbeats 4000000 in
set_option maxRecDepth 100000 in
/-- reference: reqT -/
theorem k9_reqT (l : Launch) (D : va_G) (tys : List (ClassId × FieldType)) (cI : ClassId) (ht : tys[0]? = some (cI, .int)) (ad : Nat → Nat) (vc : Nat → Nat) (vr : Nat → Nat) (vn : Nat → Nat) (ne : Nat → Nat) (vs : Nat → Nat) (li : Nat → Nat) (ba : Nat → Nat) (de : Nat → Nat) (qp : Nat → Nat) (qt : Nat → Nat) (ql : Nat → Nat) (qs : Nat → Nat) (qc : Nat → Nat) (ch : Nat → Nat) (ap : Nat → Nat) (un : Nat → Int32) (ro : Nat → Nat) (pi : Nat → Nat) (si : Nat → Nat) (pl : Nat → Int32) (rq : Nat) (dy : Nat) (en : Nat) (th : Int32) (q : Nat) (hq : q < rq) (hrq : rq ≤ 30) : CId l yX9_isRequest wsX9_isRequest 1 D tys [.ref (ad 0), .int (nI q)] (wMod cI ad vc vr vn ne vs li ba de qp qt ql qs qc ch ap un ro pi si pl rq dy en th) 1 (wMod cI ad vc vr vn ne vs li ba de qp qt ql qs qc ch ap un ro pi si pl rq dy en th) := by
  refine CI_of (maxL := 2) (cc := cX9_isRequest) (y := yX9_isRequest) rfl rfl (Nat.le_of_ble_eq_true rfl) (fun X hl hD hk hn hcz hsz o fin => ?_)
  subst hl; subst hD; subst hk
  refine V_aload_n (pc := 0) o dX9_isRequest_0 rfl ?_
  refine V_iload_n (pc := 1) o dX9_isRequest_1 rfl ?_
  refine V_iconst (pc := 2) o 0 dX9_isRequest_2 (by decide) ?_
  refine V_aload_n (pc := 3) o dX9_isRequest_3 rfl ?_
  refine V_get (pc := 4) o 0 16 hiX9_isRequest rfl rfl (by decide) lkX9_isRequest_82 rfl rfl dX9_isRequest_4 ?_
  refine V_iconst (pc := 7) o 1 dX9_isRequest_7 (by decide) ?_
  refine V_isubN (pc := 8) o rq 1 rfl rfl (by omega) dX9_isRequest_8 ?_
  refine V_rVi (pc := 9) o (k9_in _ _ _ cI ht ad vc vr vn ne vs li ba de qp qt ql qs qc ch ap un ro pi si pl rq dy en th (nI q) 0 (nI (rq - 1))) 0 21 gX9_isRequest_X9_in rfl hdX9_in ⟨by omega, by decide⟩ rfl rfl rfl (Nat.le_of_ble_eq_true rfl) dX9_isRequest_9 rfl ?_
  refine V_ifT (⟨nI_pos' (by omega), nI_le (by omega) (by omega)⟩) ?_
  exact fin 12 _ _ () dX9_isRequest_12 rfl rfl
theorem reqF_c {q : Int32} {rq : Nat} (h : q < 0 ∨ nI rq ≤ q) (hrq : rq ≤ 30) : ¬ ((0 : Int32) ≤ q ∧ q ≤ nI rq - 1) := by
  rintro ⟨h0, h1⟩
  rcases h with h | h
  · exact absurd h0 (Int32.not_le.mpr h)
  · obtain ⟨j, hj, rfl⟩ := nI_of (Int32.not_lt.mpr h0)
    rw [Int32.le_iff_toInt_le] at h1 h
    rw [show (1 : Int32) = nI 1 from rfl, pk_sub_toInt (by omega) (by decide), nI_toInt hj] at h1
    rw [nI_toInt hj, nI_toInt (by omega)] at h
    omega
set_option maxHeartbeats 4000000 in
set_option maxRecDepth 100000 in
/-- reference: reqF -/
theorem k9_reqF (l : Launch) (D : va_G) (tys : List (ClassId × FieldType)) (cI : ClassId) (ht : tys[0]? = some (cI, .int)) (ad : Nat → Nat) (vc : Nat → Nat) (vr : Nat → Nat) (vn : Nat → Nat) (ne : Nat → Nat) (vs : Nat → Nat) (li : Nat → Nat) (ba : Nat → Nat) (de : Nat → Nat) (qp : Nat → Nat) (qt : Nat → Nat) (ql : Nat → Nat) (qs : Nat → Nat) (qc : Nat → Nat) (ch : Nat → Nat) (ap : Nat → Nat) (un : Nat → Int32) (ro : Nat → Nat) (pi : Nat → Nat) (si : Nat → Nat) (pl : Nat → Int32) (rq : Nat) (dy : Nat) (en : Nat) (th : Int32) (q : Int32) (h : q < 0 ∨ nI rq ≤ q) (hrq : rq ≤ 30) : CId l yX9_isRequest wsX9_isRequest 1 D tys [.ref (ad 0), .int q] (wMod cI ad vc vr vn ne vs li ba de qp qt ql qs qc ch ap un ro pi si pl rq dy en th) 0 (wMod cI ad vc vr vn ne vs li ba de qp qt ql qs qc ch ap un ro pi si pl rq dy en th) := by
  refine CI_of (maxL := 2) (cc := cX9_isRequest) (y := yX9_isRequest) rfl rfl (Nat.le_of_ble_eq_true rfl) (fun X hl hD hk hn hcz hsz o fin => ?_)
  subst hl; subst hD; subst hk
  refine V_aload_n (pc := 0) o dX9_isRequest_0 rfl ?_
  refine V_iload_n (pc := 1) o dX9_isRequest_1 rfl ?_
  refine V_iconst (pc := 2) o 0 dX9_isRequest_2 (by decide) ?_
  refine V_aload_n (pc := 3) o dX9_isRequest_3 rfl ?_
  refine V_get (pc := 4) o 0 16 hiX9_isRequest rfl rfl (by decide) lkX9_isRequest_82 rfl rfl dX9_isRequest_4 ?_
  refine V_iconst (pc := 7) o 1 dX9_isRequest_7 (by decide) ?_
  refine V_isub (pc := 8) o dX9_isRequest_8 ?_
  refine V_rVi (pc := 9) o (k9_in _ _ _ cI ht ad vc vr vn ne vs li ba de qp qt ql qs qc ch ap un ro pi si pl rq dy en th q 0 (nI rq - 1)) 0 21 gX9_isRequest_X9_in rfl hdX9_in ⟨by omega, by decide⟩ rfl rfl rfl (Nat.le_of_ble_eq_true rfl) dX9_isRequest_9 rfl ?_
  refine V_ifF (reqF_c h hrq) ?_
  exact fin 12 _ _ () dX9_isRequest_12 rfl rfl
theorem hdX9_isVersion : yX9_isVersion.cls = RX9 ∧ yX9_isVersion.cls ≠ "java/lang/invoke/MethodHandle" ∧ yX9_isVersion.cls ≠ "java/lang/invoke/VarHandle" ∧ (parseMethodDescriptor yX9_isVersion.desc).map (fun d => d.parameters.length) = some 2 := by decide +kernel
theorem hiX9_isVersion : ∀ w ∈ wsX90, w ∈ wsX9_isVersion := by decide +kernel
theorem lkX9_isVersion_22 : Cond.fieldLink RX9 22 RX9 "versions" "[I" ∈ wsX9_isVersion := by decide +kernel
set_option maxHeartbeats 4000000 in
set_option maxRecDepth 100000 in
/-- reference: verT -/
theorem k9_verT (l : Launch) (D : va_G) (tys : List (ClassId × FieldType)) (cI : ClassId) (ht : tys[0]? = some (cI, .int)) (ad : Nat → Nat) (vc : Nat → Nat) (vr : Nat → Nat) (vn : Nat → Nat) (ne : Nat → Nat) (vs : Nat → Nat) (li : Nat → Nat) (ba : Nat → Nat) (de : Nat → Nat) (qp : Nat → Nat) (qt : Nat → Nat) (ql : Nat → Nat) (qs : Nat → Nat) (qc : Nat → Nat) (ch : Nat → Nat) (ap : Nat → Nat) (un : Nat → Int32) (ro : Nat → Nat) (pi : Nat → Nat) (si : Nat → Nat) (pl : Nat → Int32) (rq : Nat) (dy : Nat) (en : Nat) (th : Int32) (p v : Nat) (hp : p < 8) (hv : 1 ≤ v ∧ v ≤ vs p) (hvs : ∀ k, vs k ≤ 3) : CId l yX9_isVersion wsX9_isVersion 2 D tys [.ref (ad 0), .int (nI p), .int (nI v)] (wMod cI ad vc vr vn ne vs li ba de qp qt ql qs qc ch ap un ro pi si pl rq dy en th) 1 (wMod cI ad vc vr vn ne vs li ba de qp qt ql qs qc ch ap un ro pi si pl rq dy en th) := by
  refine CI_of (maxL := 3) (cc := cX9_isVersion) (y := yX9_isVersion) rfl rfl (Nat.le_of_ble_eq_true rfl) (fun X hl hD hk hn hcz hsz o fin => ?_)
  subst hl; subst hD; subst hk
  refine V_aload_n (pc := 0) o dX9_isVersion_0 rfl ?_
  refine V_iload_n (pc := 1) o dX9_isVersion_1 rfl ?_
  refine V_rVi (pc := 2) o (k9_eightT _ _ _ cI ht ad vc vr vn ne vs li ba de qp qt ql qs qc ch ap un ro pi si pl rq dy en th p (by omega)) 0 21 gX9_isVersion_X9_isEight rfl hdX9_isEight ⟨by omega, by decide⟩ rfl rfl rfl (Nat.le_of_ble_eq_true rfl) dX9_isVersion_2 rfl ?_
  refine V_if_eq (pc := 5) o 27 dX9_isVersion_5 (by decide) (fun c5 => absurd c5 (by decide)) (fun _ => ?_)
  refine V_aload_n (pc := 8) o dX9_isVersion_8 rfl ?_
  refine V_iload_n (pc := 9) o dX9_isVersion_9 rfl ?_
  refine V_iconst (pc := 10) o 1 dX9_isVersion_10 (by decide) ?_
  refine V_aload_n (pc := 11) o dX9_isVersion_11 rfl ?_
  refine V_get (pc := 12) o 0 4 hiX9_isVersion rfl rfl (by decide) lkX9_isVersion_22 rfl rfl dX9_isVersion_12 ?_
  refine V_iload_n (pc := 15) o dX9_isVersion_15 rfl ?_
  refine V_ialdN (pc := 16) o 5 vs p rfl ht rfl (by omega) (by decide) dX9_isVersion_16 ?_
  refine V_rVi (pc := 17) o (k9_in _ _ _ cI ht ad vc vr vn ne vs li ba de qp qt ql qs qc ch ap un ro pi si pl rq dy en th (nI v) 1 (nI (vs p))) 0 21 gX9_isVersion_X9_in rfl hdX9_in ⟨by omega, by decide⟩ rfl rfl rfl (Nat.le_of_ble_eq_true rfl) dX9_isVersion_17 rfl ?_
  refine V_ifT (⟨nI_le (a := 1) (by omega) (by have := hvs p; omega), nI_le (by omega) (by have := hvs p; omega)⟩) ?_
  refine V_if_eq (pc := 20) o 27 dX9_isVersion_20 (by decide) (fun c20 => absurd c20 (by decide)) (fun _ => ?_)
  refine V_iconst (pc := 23) o 1 dX9_isVersion_23 (by decide) ?_
  refine V_goto (pc := 24) o 28 dX9_isVersion_24 (by decide) ?_
  exact fin 28 _ _ () dX9_isVersion_28 rfl rfl
set_option maxHeartbeats 4000000 in
set_option maxRecDepth 100000 in
/-- reference: verF1 -/
theorem k9_verF1 (l : Launch) (D : va_G) (tys : List (ClassId × FieldType)) (cI : ClassId) (ht : tys[0]? = some (cI, .int)) (ad : Nat → Nat) (vc : Nat → Nat) (vr : Nat → Nat) (vn : Nat → Nat) (ne : Nat → Nat) (vs : Nat → Nat) (li : Nat → Nat) (ba : Nat → Nat) (de : Nat → Nat) (qp : Nat → Nat) (qt : Nat → Nat) (ql : Nat → Nat) (qs : Nat → Nat) (qc : Nat → Nat) (ch : Nat → Nat) (ap : Nat → Nat) (un : Nat → Int32) (ro : Nat → Nat) (pi : Nat → Nat) (si : Nat → Nat) (pl : Nat → Int32) (rq : Nat) (dy : Nat) (en : Nat) (th : Int32) (p v : Int32) (h : ¬ ((0 : Int32) ≤ p ∧ p ≤ 7)) : CId l yX9_isVersion wsX9_isVersion 2 D tys [.ref (ad 0), .int p, .int v] (wMod cI ad vc vr vn ne vs li ba de qp qt ql qs qc ch ap un ro pi si pl rq dy en th) 0 (wMod cI ad vc vr vn ne vs li ba de qp qt ql qs qc ch ap un ro pi si pl rq dy en th) := by
  refine CI_of (maxL := 3) (cc := cX9_isVersion) (y := yX9_isVersion) rfl rfl (Nat.le_of_ble_eq_true rfl) (fun X hl hD hk hn hcz hsz o fin => ?_)
  subst hl; subst hD; subst hk
  refine V_aload_n (pc := 0) o dX9_isVersion_0 rfl ?_
  refine V_iload_n (pc := 1) o dX9_isVersion_1 rfl ?_
  refine V_rVi (pc := 2) o (k9_eightF _ _ _ cI ht ad vc vr vn ne vs li ba de qp qt ql qs qc ch ap un ro pi si pl rq dy en th p h) 0 21 gX9_isVersion_X9_isEight rfl hdX9_isEight ⟨by omega, by decide⟩ rfl rfl rfl (Nat.le_of_ble_eq_true rfl) dX9_isVersion_2 rfl ?_
  refine V_if_eq (pc := 5) o 27 dX9_isVersion_5 (by decide) (fun _ => ?_) (fun c5 => absurd c5 (by decide))
  refine V_iconst (pc := 27) o 0 dX9_isVersion_27 (by decide) ?_
  exact fin 28 _ _ () dX9_isVersion_28 rfl rfl
set_option maxHeartbeats 4000000 in
set_option maxRecDepth 100000 in
/-- reference: verF2 -/
theorem k9_verF2 (l : Launch) (D : va_G) (tys : List (ClassId × FieldType)) (cI : ClassId) (ht : tys[0]? = some (cI, .int)) (ad : Nat → Nat) (vc : Nat → Nat) (vr : Nat → Nat) (vn : Nat → Nat) (ne : Nat → Nat) (vs : Nat → Nat) (li : Nat → Nat) (ba : Nat → Nat) (de : Nat → Nat) (qp : Nat → Nat) (qt : Nat → Nat) (ql : Nat → Nat) (qs : Nat → Nat) (qc : Nat → Nat) (ch : Nat → Nat) (ap : Nat → Nat) (un : Nat → Int32) (ro : Nat → Nat) (pi : Nat → Nat) (si : Nat → Nat) (pl : Nat → Int32) (rq : Nat) (dy : Nat) (en : Nat) (th : Int32) (p : Nat) (v : Int32) (hp : p < 8) (h : ¬ (1 ≤ v ∧ v ≤ nI (vs p))) : CId l yX9_isVersion wsX9_isVersion 2 D tys [.ref (ad 0), .int (nI p), .int v] (wMod cI ad vc vr vn ne vs li ba de qp qt ql qs qc ch ap un ro pi si pl rq dy en th) 0 (wMod cI ad vc vr vn ne vs li ba de qp qt ql qs qc ch ap un ro pi si pl rq dy en th) := by
  refine CI_of (maxL := 3) (cc := cX9_isVersion) (y := yX9_isVersion) rfl rfl (Nat.le_of_ble_eq_true rfl) (fun X hl hD hk hn hcz hsz o fin => ?_)
  subst hl; subst hD; subst hk
  refine V_aload_n (pc := 0) o dX9_isVersion_0 rfl ?_
  refine V_iload_n (pc := 1) o dX9_isVersion_1 rfl ?_
  refine V_rVi (pc := 2) o (k9_eightT _ _ _ cI ht ad vc vr vn ne vs li ba de qp qt ql qs qc ch ap un ro pi si pl rq dy en th p (by omega)) 0 21 gX9_isVersion_X9_isEight rfl hdX9_isEight ⟨by omega, by decide⟩ rfl rfl rfl (Nat.le_of_ble_eq_true rfl) dX9_isVersion_2 rfl ?_
  refine V_if_eq (pc := 5) o 27 dX9_isVersion_5 (by decide) (fun c5 => absurd c5 (by decide)) (fun _ => ?_)
  refine V_aload_n (pc := 8) o dX9_isVersion_8 rfl ?_
  refine V_iload_n (pc := 9) o dX9_isVersion_9 rfl ?_
  refine V_iconst (pc := 10) o 1 dX9_isVersion_10 (by decide) ?_
  refine V_aload_n (pc := 11) o dX9_isVersion_11 rfl ?_
  refine V_get (pc := 12) o 0 4 hiX9_isVersion rfl rfl (by decide) lkX9_isVersion_22 rfl rfl dX9_isVersion_12 ?_
  refine V_iload_n (pc := 15) o dX9_isVersion_15 rfl ?_
  refine V_ialdN (pc := 16) o 5 vs p rfl ht rfl (by omega) (by decide) dX9_isVersion_16 ?_
  refine V_rVi (pc := 17) o (k9_in _ _ _ cI ht ad vc vr vn ne vs li ba de qp qt ql qs qc ch ap un ro pi si pl rq dy en th v 1 (nI (vs p))) 0 21 gX9_isVersion_X9_in rfl hdX9_in ⟨by omega, by decide⟩ rfl rfl rfl (Nat.le_of_ble_eq_true rfl) dX9_isVersion_17 rfl ?_
  refine V_ifF (h) ?_
  refine V_if_eq (pc := 20) o 27 dX9_isVersion_20 (by decide) (fun _ => ?_) (fun c20 => absurd c20 (by decide))
  refine V_iconst (pc := 27) o 0 dX9_isVersion_27 (by decide) ?_
  exact fin 28 _ _ () dX9_isVersion_28 rfl rfl
theorem hdX9_version : yX9_version.cls = RX9 ∧ yX9_version.cls ≠ "java/lang/invoke/MethodHandle" ∧ yX9_version.cls ≠ "java/lang/invoke/VarHandle" ∧ (parseMethodDescriptor yX9_version.desc).map (fun d => d.parameters.length) = some 2 := by decide +kernel
set_option maxHeartbeats 4000000 in
set_option maxRecDepth 100000 in
/-- reference: version1 -/
theorem k9_version1 (l : Launch) (D : va_G) (tys : List (ClassId × FieldType)) (cI : ClassId) (ht : tys[0]? = some (cI, .int)) (ad : Nat → Nat) (vc : Nat → Nat) (vr : Nat → Nat) (vn : Nat → Nat) (ne : Nat → Nat) (vs : Nat → Nat) (li : Nat → Nat) (ba : Nat → Nat) (de : Nat → Nat) (qp : Nat → Nat) (qt : Nat → Nat) (ql : Nat → Nat) (qs : Nat → Nat) (qc : Nat → Nat) (ch : Nat → Nat) (ap : Nat → Nat) (un : Nat → Int32) (ro : Nat → Nat) (pi : Nat → Nat) (si : Nat → Nat) (pl : Nat → Int32) (rq : Nat) (dy : Nat) (en : Nat) (th : Int32) (p c : Int32) (h : ¬ ((0 : Int32) ≤ p ∧ p ≤ 7)) : CId l yX9_version wsX9_version 2 D tys [.ref (ad 0), .int p, .int c] (wMod cI ad vc vr vn ne vs li ba de qp qt ql qs qc ch ap un ro pi si pl rq dy en th) (-1) (wMod cI ad vc vr vn ne vs li ba de qp qt ql qs qc ch ap un ro pi si pl rq dy en 1) := by
  refine CI_of (maxL := 3) (cc := cX9_version) (y := yX9_version) rfl rfl (Nat.le_of_ble_eq_true rfl) (fun X hl hD hk hn hcz hsz o fin => ?_)
  subst hl; subst hD; subst hk
  refine V_aload_n (pc := 0) o dX9_version_0 rfl ?_
  refine V_aload_n (pc := 1) o dX9_version_1 rfl ?_
  refine V_iload_n (pc := 2) o dX9_version_2 rfl ?_
  refine V_rVi (pc := 3) o (k9_eightF _ _ _ cI ht ad vc vr vn ne vs li ba de qp qt ql qs qc ch ap un ro pi si pl rq dy en th p h) 0 21 gX9_version_X9_isEight rfl hdX9_isEight ⟨by omega, by decide⟩ rfl rfl rfl (Nat.le_of_ble_eq_true rfl) dX9_version_3 rfl ?_
  refine V_if_ne (pc := 6) o 13 dX9_version_6 (by decide) (fun c6 => absurd c6 (by decide)) (fun _ => ?_)
  refine V_iconst (pc := 9) o 1 dX9_version_9 (by decide) ?_
  refine V_goto (pc := 10) o 44 dX9_version_10 (by decide) ?_
  refine V_wVi (pc := 44) o (k9_holds _ _ _ cI ht ad vc vr vn ne vs li ba de qp qt ql qs qc ch ap un ro pi si pl rq dy en th 1) 0 21 (wMod cI ad vc vr vn ne vs li ba de qp qt ql qs qc ch ap un ro pi si pl rq dy en 1) gX9_version_X9_holds rfl hdX9_holds ⟨by omega, by decide⟩ rfl rfl rfl (Nat.le_of_ble_eq_true rfl) dX9_version_44 rfl rfl ?_
  refine V_ifT (by decide) ?_
  refine V_if_eq (pc := 47) o 52 dX9_version_47 (by decide) (fun c47 => absurd c47 (by decide)) (fun _ => ?_)
  refine V_iconst (pc := 50) o (-1) dX9_version_50 (by decide) ?_
  exact fin 51 _ _ () dX9_version_51 rfl rfl
set_option maxHeartbeats 4000000 in
set_option maxRecDepth 100000 in
/-- reference: version2 -/
theorem k9_version2 (l : Launch) (D : va_G) (tys : List (ClassId × FieldType)) (cI : ClassId) (ht : tys[0]? = some (cI, .int)) (ad : Nat → Nat) (vc : Nat → Nat) (vr : Nat → Nat) (vn : Nat → Nat) (ne : Nat → Nat) (vs : Nat → Nat) (li : Nat → Nat) (ba : Nat → Nat) (de : Nat → Nat) (qp : Nat → Nat) (qt : Nat → Nat) (ql : Nat → Nat) (qs : Nat → Nat) (qc : Nat → Nat) (ch : Nat → Nat) (ap : Nat → Nat) (un : Nat → Int32) (ro : Nat → Nat) (pi : Nat → Nat) (si : Nat → Nat) (pl : Nat → Int32) (rq : Nat) (dy : Nat) (en : Nat) (th : Int32) (p : Nat) (hp : p < 8) (c : Int32) (h : ¬ ((0 : Int32) ≤ c ∧ c ≤ 1000)) : CId l yX9_version wsX9_version 2 D tys [.ref (ad 0), .int (nI p), .int c] (wMod cI ad vc vr vn ne vs li ba de qp qt ql qs qc ch ap un ro pi si pl rq dy en th) (-1) (wMod cI ad vc vr vn ne vs li ba de qp qt ql qs qc ch ap un ro pi si pl rq dy en 2) := by
  refine CI_of (maxL := 3) (cc := cX9_version) (y := yX9_version) rfl rfl (Nat.le_of_ble_eq_true rfl) (fun X hl hD hk hn hcz hsz o fin => ?_)
  subst hl; subst hD; subst hk
  refine V_aload_n (pc := 0) o dX9_version_0 rfl ?_
  refine V_aload_n (pc := 1) o dX9_version_1 rfl ?_
  refine V_iload_n (pc := 2) o dX9_version_2 rfl ?_
  refine V_rVi (pc := 3) o (k9_eightT _ _ _ cI ht ad vc vr vn ne vs li ba de qp qt ql qs qc ch ap un ro pi si pl rq dy en th p (by omega)) 0 21 gX9_version_X9_isEight rfl hdX9_isEight ⟨by omega, by decide⟩ rfl rfl rfl (Nat.le_of_ble_eq_true rfl) dX9_version_3 rfl ?_
  refine V_if_ne (pc := 6) o 13 dX9_version_6 (by decide) (fun _ => ?_) (fun c6 => absurd c6 (by decide))
  refine V_aload_n (pc := 13) o dX9_version_13 rfl ?_
  refine V_iload_n (pc := 14) o dX9_version_14 rfl ?_
  refine V_iconst (pc := 15) o 0 dX9_version_15 (by decide) ?_
  refine V_sipush (pc := 16) o 1000 dX9_version_16 (by decide) ?_
  refine V_rVi (pc := 19) o (k9_in _ _ _ cI ht ad vc vr vn ne vs li ba de qp qt ql qs qc ch ap un ro pi si pl rq dy en th c 0 1000) 0 21 gX9_version_X9_in rfl hdX9_in ⟨by omega, by decide⟩ rfl rfl rfl (Nat.le_of_ble_eq_true rfl) dX9_version_19 rfl ?_
  refine V_ifF (h) ?_
  refine V_if_ne (pc := 22) o 29 dX9_version_22 (by decide) (fun c22 => absurd c22 (by decide)) (fun _ => ?_)
  refine V_iconst (pc := 25) o 2 dX9_version_25 (by decide) ?_
  refine V_goto (pc := 26) o 44 dX9_version_26 (by decide) ?_
  refine V_wVi (pc := 44) o (k9_holds _ _ _ cI ht ad vc vr vn ne vs li ba de qp qt ql qs qc ch ap un ro pi si pl rq dy en th 2) 0 21 (wMod cI ad vc vr vn ne vs li ba de qp qt ql qs qc ch ap un ro pi si pl rq dy en 2) gX9_version_X9_holds rfl hdX9_holds ⟨by omega, by decide⟩ rfl rfl rfl (Nat.le_of_ble_eq_true rfl) dX9_version_44 rfl rfl ?_
  refine V_ifT (by decide) ?_
  refine V_if_eq (pc := 47) o 52 dX9_version_47 (by decide) (fun c47 => absurd c47 (by decide)) (fun _ => ?_)
  refine V_iconst (pc := 50) o (-1) dX9_version_50 (by decide) ?_
  exact fin 51 _ _ () dX9_version_51 rfl rfl
theorem hiX9_version : ∀ w ∈ wsX90, w ∈ wsX9_version := by decide +kernel
theorem lkX9_version_22 : Cond.fieldLink RX9 22 RX9 "versions" "[I" ∈ wsX9_version := by decide +kernel
set_option maxHeartbeats 4000000 in
set_option maxRecDepth 100000 in
/-- reference: version3 -/
theorem k9_version3 (l : Launch) (D : va_G) (tys : List (ClassId × FieldType)) (cI : ClassId) (ht : tys[0]? = some (cI, .int)) (ad : Nat → Nat) (vc : Nat → Nat) (vr : Nat → Nat) (vn : Nat → Nat) (ne : Nat → Nat) (vs : Nat → Nat) (li : Nat → Nat) (ba : Nat → Nat) (de : Nat → Nat) (qp : Nat → Nat) (qt : Nat → Nat) (ql : Nat → Nat) (qs : Nat → Nat) (qc : Nat → Nat) (ch : Nat → Nat) (ap : Nat → Nat) (un : Nat → Int32) (ro : Nat → Nat) (pi : Nat → Nat) (si : Nat → Nat) (pl : Nat → Int32) (rq : Nat) (dy : Nat) (en : Nat) (th : Int32) (p : Nat) (hp : p < 8) (c : Nat) (hc : c ≤ 1000) (h3 : vs p = 3) : CId l yX9_version wsX9_version 2 D tys [.ref (ad 0), .int (nI p), .int (nI c)] (wMod cI ad vc vr vn ne vs li ba de qp qt ql qs qc ch ap un ro pi si pl rq dy en th) (-1) (wMod cI ad vc vr vn ne vs li ba de qp qt ql qs qc ch ap un ro pi si pl rq dy en 3) := by
  refine CI_of (maxL := 3) (cc := cX9_version) (y := yX9_version) rfl rfl (Nat.le_of_ble_eq_true rfl) (fun X hl hD hk hn hcz hsz o fin => ?_)
  subst hl; subst hD; subst hk
  refine V_aload_n (pc := 0) o dX9_version_0 rfl ?_
  refine V_aload_n (pc := 1) o dX9_version_1 rfl ?_
  refine V_iload_n (pc := 2) o dX9_version_2 rfl ?_
  refine V_rVi (pc := 3) o (k9_eightT _ _ _ cI ht ad vc vr vn ne vs li ba de qp qt ql qs qc ch ap un ro pi si pl rq dy en th p (by omega)) 0 21 gX9_version_X9_isEight rfl hdX9_isEight ⟨by omega, by decide⟩ rfl rfl rfl (Nat.le_of_ble_eq_true rfl) dX9_version_3 rfl ?_
  refine V_if_ne (pc := 6) o 13 dX9_version_6 (by decide) (fun _ => ?_) (fun c6 => absurd c6 (by decide))
  refine V_aload_n (pc := 13) o dX9_version_13 rfl ?_
  refine V_iload_n (pc := 14) o dX9_version_14 rfl ?_
  refine V_iconst (pc := 15) o 0 dX9_version_15 (by decide) ?_
  refine V_sipush (pc := 16) o 1000 dX9_version_16 (by decide) ?_
  refine V_rVi (pc := 19) o (k9_in _ _ _ cI ht ad vc vr vn ne vs li ba de qp qt ql qs qc ch ap un ro pi si pl rq dy en th (nI c) 0 1000) 0 21 gX9_version_X9_in rfl hdX9_in ⟨by omega, by decide⟩ rfl rfl rfl (Nat.le_of_ble_eq_true rfl) dX9_version_19 rfl ?_
  refine V_ifT (⟨nI_pos' (by omega), nI_le (b := 1000) (by omega) (by decide)⟩) ?_
  refine V_if_ne (pc := 22) o 29 dX9_version_22 (by decide) (fun _ => ?_) (fun c22 => absurd c22 (by decide))
  refine V_aload_n (pc := 29) o dX9_version_29 rfl ?_
  refine V_get (pc := 30) o 0 4 hiX9_version rfl rfl (by decide) lkX9_version_22 rfl rfl dX9_version_30 ?_
  refine V_iload_n (pc := 33) o dX9_version_33 rfl ?_
  refine V_ialdN (pc := 34) o 5 vs p rfl ht rfl (by omega) (by decide) dX9_version_34 ?_
  refine V_iconst (pc := 35) o 3 dX9_version_35 (by decide) ?_
  refine V_icmp_neN (pc := 36) o 43 (vs p) 3 rfl rfl (by omega) (by omega) dX9_version_36 (by decide) (fun c36 => absurd c36 (by omega)) (fun c36 => ?_)
  refine V_iconst (pc := 39) o 3 dX9_version_39 (by decide) ?_
  refine V_goto (pc := 40) o 44 dX9_version_40 (by decide) ?_
  refine V_wVi (pc := 44) o (k9_holds _ _ _ cI ht ad vc vr vn ne vs li ba de qp qt ql qs qc ch ap un ro pi si pl rq dy en th 3) 0 21 (wMod cI ad vc vr vn ne vs li ba de qp qt ql qs qc ch ap un ro pi si pl rq dy en 3) gX9_version_X9_holds rfl hdX9_holds ⟨by omega, by decide⟩ rfl rfl rfl (Nat.le_of_ble_eq_true rfl) dX9_version_44 rfl rfl ?_
  refine V_ifT (by decide) ?_
  refine V_if_eq (pc := 47) o 52 dX9_version_47 (by decide) (fun c47 => absurd c47 (by decide)) (fun _ => ?_)
  refine V_iconst (pc := 50) o (-1) dX9_version_50 (by decide) ?_
  exact fin 51 _ _ () dX9_version_51 rfl rfl
theorem lkX9_version_7 : Cond.fieldLink RX9 7 RX9 "vc" "[I" ∈ wsX9_version := by decide +kernel
theorem lkX9_version_88 : Cond.fieldLink RX9 88 RX9 "entries" "I" ∈ wsX9_version := by decide +kernel
set_option maxHeartbeats 4000000 in
set_option maxRecDepth 100000 in
/-- reference: versionK -/
theorem k9_versionK (l : Launch) (D : va_G) (tys : List (ClassId × FieldType)) (cI : ClassId) (ht : tys[0]? = some (cI, .int)) (ad : Nat → Nat) (vc : Nat → Nat) (vr : Nat → Nat) (vn : Nat → Nat) (ne : Nat → Nat) (vs : Nat → Nat) (li : Nat → Nat) (ba : Nat → Nat) (de : Nat → Nat) (qp : Nat → Nat) (qt : Nat → Nat) (ql : Nat → Nat) (qs : Nat → Nat) (qc : Nat → Nat) (ch : Nat → Nat) (ap : Nat → Nat) (un : Nat → Int32) (ro : Nat → Nat) (pi : Nat → Nat) (si : Nat → Nat) (pl : Nat → Int32) (rq : Nat) (dy : Nat) (en : Nat) (th : Int32) (p : Nat) (hp : p < 8) (c : Nat) (hc : c ≤ 1000) (h3 : vs p < 3) : CId l yX9_version wsX9_version 2 D tys [.ref (ad 0), .int (nI p), .int (nI c)] (wMod cI ad vc vr vn ne vs li ba de qp qt ql qs qc ch ap un ro pi si pl rq dy en th) (nI (vs p + 1)) (wMod cI ad (va_up vc (3 * p + vs p) c) vr vn ne (va_up vs p (vs p + 1)) li ba de qp qt ql qs qc ch ap un ro pi si pl rq dy (en + 1) 0) := by
  refine CI_of (maxL := 3) (cc := cX9_version) (y := yX9_version) rfl rfl (Nat.le_of_ble_eq_true rfl) (fun X hl hD hk hn hcz hsz o fin => ?_)
  subst hl; subst hD; subst hk
  refine V_aload_n (pc := 0) o dX9_version_0 rfl ?_
  refine V_aload_n (pc := 1) o dX9_version_1 rfl ?_
  refine V_iload_n (pc := 2) o dX9_version_2 rfl ?_
  refine V_rVi (pc := 3) o (k9_eightT _ _ _ cI ht ad vc vr vn ne vs li ba de qp qt ql qs qc ch ap un ro pi si pl rq dy en th p (by omega)) 0 21 gX9_version_X9_isEight rfl hdX9_isEight ⟨by omega, by decide⟩ rfl rfl rfl (Nat.le_of_ble_eq_true rfl) dX9_version_3 rfl ?_
  refine V_if_ne (pc := 6) o 13 dX9_version_6 (by decide) (fun _ => ?_) (fun c6 => absurd c6 (by decide))
  refine V_aload_n (pc := 13) o dX9_version_13 rfl ?_
  refine V_iload_n (pc := 14) o dX9_version_14 rfl ?_
  refine V_iconst (pc := 15) o 0 dX9_version_15 (by decide) ?_
  refine V_sipush (pc := 16) o 1000 dX9_version_16 (by decide) ?_
  refine V_rVi (pc := 19) o (k9_in _ _ _ cI ht ad vc vr vn ne vs li ba de qp qt ql qs qc ch ap un ro pi si pl rq dy en th (nI c) 0 1000) 0 21 gX9_version_X9_in rfl hdX9_in ⟨by omega, by decide⟩ rfl rfl rfl (Nat.le_of_ble_eq_true rfl) dX9_version_19 rfl ?_
  refine V_ifT (⟨nI_pos' (by omega), nI_le (b := 1000) (by omega) (by decide)⟩) ?_
  refine V_if_ne (pc := 22) o 29 dX9_version_22 (by decide) (fun _ => ?_) (fun c22 => absurd c22 (by decide))
  refine V_aload_n (pc := 29) o dX9_version_29 rfl ?_
  refine V_get (pc := 30) o 0 4 hiX9_version rfl rfl (by decide) lkX9_version_22 rfl rfl dX9_version_30 ?_
  refine V_iload_n (pc := 33) o dX9_version_33 rfl ?_
  refine V_ialdN (pc := 34) o 5 vs p rfl ht rfl (by omega) (by decide) dX9_version_34 ?_
  refine V_iconst (pc := 35) o 3 dX9_version_35 (by decide) ?_
  refine V_icmp_neN (pc := 36) o 43 (vs p) 3 rfl rfl (by omega) (by omega) dX9_version_36 (by decide) (fun c36 => ?_) (fun c36 => absurd c36 (by omega))
  refine V_iconst (pc := 43) o 0 dX9_version_43 (by decide) ?_
  refine V_wVi (pc := 44) o (k9_holds _ _ _ cI ht ad vc vr vn ne vs li ba de qp qt ql qs qc ch ap un ro pi si pl rq dy en th 0) 0 21 (wMod cI ad vc vr vn ne vs li ba de qp qt ql qs qc ch ap un ro pi si pl rq dy en 0) gX9_version_X9_holds rfl hdX9_holds ⟨by omega, by decide⟩ rfl rfl rfl (Nat.le_of_ble_eq_true rfl) dX9_version_44 rfl rfl ?_
  refine V_ifF (by decide) ?_
  refine V_if_eq (pc := 47) o 52 dX9_version_47 (by decide) (fun _ => ?_) (fun c47 => absurd c47 (by decide))
  refine V_aload_n (pc := 52) o dX9_version_52 rfl ?_
  refine V_get (pc := 53) o 0 0 hiX9_version rfl rfl (by decide) lkX9_version_7 rfl rfl dX9_version_53 ?_
  refine V_iconst (pc := 56) o 3 dX9_version_56 (by decide) ?_
  refine V_iload_n (pc := 57) o dX9_version_57 rfl ?_
  refine V_imulN (pc := 58) o 3 p rfl rfl dX9_version_58 ?_
  refine V_aload_n (pc := 59) o dX9_version_59 rfl ?_
  refine V_get (pc := 60) o 0 4 hiX9_version rfl rfl (by decide) lkX9_version_22 rfl rfl dX9_version_60 ?_
  refine V_iload_n (pc := 63) o dX9_version_63 rfl ?_
  refine V_ialdN (pc := 64) o 5 vs p rfl ht rfl (by omega) (by decide) dX9_version_64 ?_
  refine V_iaddN (pc := 65) o (3 * p) (vs p) rfl rfl dX9_version_65 ?_
  refine V_iload_n (pc := 66) o dX9_version_66 rfl ?_
  refine V_iastN (pc := 67) o 1 vc ((3 * p) + (vs p)) c rfl ht rfl rfl (by omega) (by decide) dX9_version_67 ?_
  refine V_eq (ws2 := wMod cI ad (va_up vc ((3 * p) + (vs p)) c) vr vn ne vs li ba de qp qt ql qs qc ch ap un ro pi si pl rq dy en 0) rfl rfl ?_
  refine V_aload_n (pc := 68) o dX9_version_68 rfl ?_
  refine V_get (pc := 69) o 0 4 hiX9_version rfl rfl (by decide) lkX9_version_22 rfl rfl dX9_version_69 ?_
  refine V_iload_n (pc := 72) o dX9_version_72 rfl ?_
  refine V_dup2 (pc := 73) o rfl rfl dX9_version_73 ?_
  refine V_ialdN (pc := 74) o 5 vs p rfl ht rfl (by omega) (by decide) dX9_version_74 ?_
  refine V_iconst (pc := 75) o 1 dX9_version_75 (by decide) ?_
  refine V_iaddN (pc := 76) o (vs p) 1 rfl rfl dX9_version_76 ?_
  refine V_iastN (pc := 77) o 5 vs p ((vs p) + 1) rfl ht rfl rfl (by omega) (by decide) dX9_version_77 ?_
  refine V_eq (ws2 := wMod cI ad (va_up vc ((3 * p) + (vs p)) c) vr vn ne (va_up vs p ((vs p) + 1)) li ba de qp qt ql qs qc ch ap un ro pi si pl rq dy en 0) rfl rfl ?_
  refine V_aload_n (pc := 78) o dX9_version_78 rfl ?_
  refine V_dup (pc := 79) o rfl dX9_version_79 ?_
  refine V_get (pc := 80) o 0 18 hiX9_version rfl rfl (by decide) lkX9_version_88 rfl rfl dX9_version_80 ?_
  refine V_iconst (pc := 83) o 1 dX9_version_83 (by decide) ?_
  refine V_iaddN (pc := 84) o en 1 rfl rfl dX9_version_84 ?_
  refine V_put (pc := 85) o 0 18 hiX9_version tyX9 tyX9_ok nmX9 rfl rfl (by decide) lkX9_version_88 rfl rfl rfl rfl rfl (Nat.le_of_ble_eq_true rfl) dX9_version_85 ?_
  refine V_eq (ws2 := wMod cI ad (va_up vc ((3 * p) + (vs p)) c) vr vn ne (va_up vs p ((vs p) + 1)) li ba de qp qt ql qs qc ch ap un ro pi si pl rq dy (en + 1) 0) rfl rfl ?_
  refine V_aload_n (pc := 88) o dX9_version_88 rfl ?_
  refine V_get (pc := 89) o 0 4 hiX9_version rfl rfl (by decide) lkX9_version_22 rfl rfl dX9_version_89 ?_
  refine V_iload_n (pc := 92) o dX9_version_92 rfl ?_
  refine V_ialdN (pc := 93) o 5 (va_up vs p ((vs p) + 1)) p rfl ht rfl (by omega) (by decide) dX9_version_93 ?_
  exact fin 94 _ _ () dX9_version_94 rfl (by first | rfl | simp [va_up])
theorem hdX9_limit : yX9_limit.cls = RX9 ∧ yX9_limit.cls ≠ "java/lang/invoke/MethodHandle" ∧ yX9_limit.cls ≠ "java/lang/invoke/VarHandle" ∧ (parseMethodDescriptor yX9_limit.desc).map (fun d => d.parameters.length) = some 2 := by decide +kernel
set_option maxHeartbeats 4000000 in
set_option maxRecDepth 100000 in
/-- reference: limit1 -/
theorem k9_limit1 (l : Launch) (D : va_G) (tys : List (ClassId × FieldType)) (cI : ClassId) (ht : tys[0]? = some (cI, .int)) (ad : Nat → Nat) (vc : Nat → Nat) (vr : Nat → Nat) (vn : Nat → Nat) (ne : Nat → Nat) (vs : Nat → Nat) (li : Nat → Nat) (ba : Nat → Nat) (de : Nat → Nat) (qp : Nat → Nat) (qt : Nat → Nat) (ql : Nat → Nat) (qs : Nat → Nat) (qc : Nat → Nat) (ch : Nat → Nat) (ap : Nat → Nat) (un : Nat → Int32) (ro : Nat → Nat) (pi : Nat → Nat) (si : Nat → Nat) (pl : Nat → Int32) (rq : Nat) (dy : Nat) (en : Nat) (th : Int32) (p c : Int32) (h : ¬ ((0 : Int32) ≤ p ∧ p ≤ 7)) : CId l yX9_limit wsX9_limit 2 D tys [.ref (ad 0), .int p, .int c] (wMod cI ad vc vr vn ne vs li ba de qp qt ql qs qc ch ap un ro pi si pl rq dy en th) (-1) (wMod cI ad vc vr vn ne vs li ba de qp qt ql qs qc ch ap un ro pi si pl rq dy en 1) := by
  refine CI_of (maxL := 4) (cc := cX9_limit) (y := yX9_limit) rfl rfl (Nat.le_of_ble_eq_true rfl) (fun X hl hD hk hn hcz hsz o fin => ?_)
  subst hl; subst hD; subst hk
  refine V_aload_n (pc := 0) o dX9_limit_0 rfl ?_
  refine V_aload_n (pc := 1) o dX9_limit_1 rfl ?_
  refine V_iload_n (pc := 2) o dX9_limit_2 rfl ?_
  refine V_rVi (pc := 3) o (k9_eightF _ _ _ cI ht ad vc vr vn ne vs li ba de qp qt ql qs qc ch ap un ro pi si pl rq dy en th p h) 0 21 gX9_limit_X9_isEight rfl hdX9_isEight ⟨by omega, by decide⟩ rfl rfl rfl (Nat.le_of_ble_eq_true rfl) dX9_limit_3 rfl ?_
  refine V_if_ne (pc := 6) o 13 dX9_limit_6 (by decide) (fun c6 => absurd c6 (by decide)) (fun _ => ?_)
  refine V_iconst (pc := 9) o 1 dX9_limit_9 (by decide) ?_
  refine V_goto (pc := 10) o 30 dX9_limit_10 (by decide) ?_
  refine V_wVi (pc := 30) o (k9_holds _ _ _ cI ht ad vc vr vn ne vs li ba de qp qt ql qs qc ch ap un ro pi si pl rq dy en th 1) 0 21 (wMod cI ad vc vr vn ne vs li ba de qp qt ql qs qc ch ap un ro pi si pl rq dy en 1) gX9_limit_X9_holds rfl hdX9_holds ⟨by omega, by decide⟩ rfl rfl rfl (Nat.le_of_ble_eq_true rfl) dX9_limit_30 rfl rfl ?_
  refine V_ifT (by decide) ?_
  refine V_if_eq (pc := 33) o 38 dX9_limit_33 (by decide) (fun c33 => absurd c33 (by decide)) (fun _ => ?_)
  refine V_iconst (pc := 36) o (-1) dX9_limit_36 (by decide) ?_
  exact fin 37 _ _ () dX9_limit_37 rfl rfl
set_option maxHeartbeats 4000000 in
set_option maxRecDepth 100000 in
/-- reference: limit2 -/
theorem k9_limit2 (l : Launch) (D : va_G) (tys : List (ClassId × FieldType)) (cI : ClassId) (ht : tys[0]? = some (cI, .int)) (ad : Nat → Nat) (vc : Nat → Nat) (vr : Nat → Nat) (vn : Nat → Nat) (ne : Nat → Nat) (vs : Nat → Nat) (li : Nat → Nat) (ba : Nat → Nat) (de : Nat → Nat) (qp : Nat → Nat) (qt : Nat → Nat) (ql : Nat → Nat) (qs : Nat → Nat) (qc : Nat → Nat) (ch : Nat → Nat) (ap : Nat → Nat) (un : Nat → Int32) (ro : Nat → Nat) (pi : Nat → Nat) (si : Nat → Nat) (pl : Nat → Int32) (rq : Nat) (dy : Nat) (en : Nat) (th : Int32) (p : Nat) (hp : p < 8) (c : Int32) (h : ¬ ((0 : Int32) ≤ c ∧ c ≤ 10000)) : CId l yX9_limit wsX9_limit 2 D tys [.ref (ad 0), .int (nI p), .int c] (wMod cI ad vc vr vn ne vs li ba de qp qt ql qs qc ch ap un ro pi si pl rq dy en th) (-1) (wMod cI ad vc vr vn ne vs li ba de qp qt ql qs qc ch ap un ro pi si pl rq dy en 2) := by
  refine CI_of (maxL := 4) (cc := cX9_limit) (y := yX9_limit) rfl rfl (Nat.le_of_ble_eq_true rfl) (fun X hl hD hk hn hcz hsz o fin => ?_)
  subst hl; subst hD; subst hk
  refine V_aload_n (pc := 0) o dX9_limit_0 rfl ?_
  refine V_aload_n (pc := 1) o dX9_limit_1 rfl ?_
  refine V_iload_n (pc := 2) o dX9_limit_2 rfl ?_
  refine V_rVi (pc := 3) o (k9_eightT _ _ _ cI ht ad vc vr vn ne vs li ba de qp qt ql qs qc ch ap un ro pi si pl rq dy en th p (by omega)) 0 21 gX9_limit_X9_isEight rfl hdX9_isEight ⟨by omega, by decide⟩ rfl rfl rfl (Nat.le_of_ble_eq_true rfl) dX9_limit_3 rfl ?_
  refine V_if_ne (pc := 6) o 13 dX9_limit_6 (by decide) (fun _ => ?_) (fun c6 => absurd c6 (by decide))
  refine V_aload_n (pc := 13) o dX9_limit_13 rfl ?_
  refine V_iload_n (pc := 14) o dX9_limit_14 rfl ?_
  refine V_iconst (pc := 15) o 0 dX9_limit_15 (by decide) ?_
  refine V_sipush (pc := 16) o 10000 dX9_limit_16 (by decide) ?_
  refine V_rVi (pc := 19) o (k9_in _ _ _ cI ht ad vc vr vn ne vs li ba de qp qt ql qs qc ch ap un ro pi si pl rq dy en th c 0 10000) 0 21 gX9_limit_X9_in rfl hdX9_in ⟨by omega, by decide⟩ rfl rfl rfl (Nat.le_of_ble_eq_true rfl) dX9_limit_19 rfl ?_
  refine V_ifF (h) ?_
  refine V_if_eq (pc := 22) o 29 dX9_limit_22 (by decide) (fun _ => ?_) (fun c22 => absurd c22 (by decide))
  refine V_iconst (pc := 29) o 2 dX9_limit_29 (by decide) ?_
  refine V_wVi (pc := 30) o (k9_holds _ _ _ cI ht ad vc vr vn ne vs li ba de qp qt ql qs qc ch ap un ro pi si pl rq dy en th 2) 0 21 (wMod cI ad vc vr vn ne vs li ba de qp qt ql qs qc ch ap un ro pi si pl rq dy en 2) gX9_limit_X9_holds rfl hdX9_holds ⟨by omega, by decide⟩ rfl rfl rfl (Nat.le_of_ble_eq_true rfl) dX9_limit_30 rfl rfl ?_
  refine V_ifT (by decide) ?_
  refine V_if_eq (pc := 33) o 38 dX9_limit_33 (by decide) (fun c33 => absurd c33 (by decide)) (fun _ => ?_)
  refine V_iconst (pc := 36) o (-1) dX9_limit_36 (by decide) ?_
  exact fin 37 _ _ () dX9_limit_37 rfl rfl
theorem hiX9_limit : ∀ w ∈ wsX90, w ∈ wsX9_limit := by decide +kernel
theorem lkX9_limit_25 : Cond.fieldLink RX9 25 RX9 "lim" "[I" ∈ wsX9_limit := by decide +kernel
theorem lkX9_limit_88 : Cond.fieldLink RX9 88 RX9 "entries" "I" ∈ wsX9_limit := by decide +kernel
set_option maxHeartbeats 4000000 in
set_option maxRecDepth 100000 in
/-- reference: limitK -/
theorem k9_limitK (l : Launch) (D : va_G) (tys : List (ClassId × FieldType)) (cI : ClassId) (ht : tys[0]? = some (cI, .int)) (ad : Nat → Nat) (vc : Nat → Nat) (vr : Nat → Nat) (vn : Nat → Nat) (ne : Nat → Nat) (vs : Nat → Nat) (li : Nat → Nat) (ba : Nat → Nat) (de : Nat → Nat) (qp : Nat → Nat) (qt : Nat → Nat) (ql : Nat → Nat) (qs : Nat → Nat) (qc : Nat → Nat) (ch : Nat → Nat) (ap : Nat → Nat) (un : Nat → Int32) (ro : Nat → Nat) (pi : Nat → Nat) (si : Nat → Nat) (pl : Nat → Int32) (rq : Nat) (dy : Nat) (en : Nat) (th : Int32) (p : Nat) (hp : p < 8) (c : Nat) (hc : c ≤ 10000) : CId l yX9_limit wsX9_limit 2 D tys [.ref (ad 0), .int (nI p), .int (nI c)] (wMod cI ad vc vr vn ne vs li ba de qp qt ql qs qc ch ap un ro pi si pl rq dy en th) (nI (li p)) (wMod cI ad vc vr vn ne vs (va_up li p c) ba de qp qt ql qs qc ch ap un ro pi si pl rq dy (en + 1) 0) := by
  refine CI_of (maxL := 4) (cc := cX9_limit) (y := yX9_limit) rfl rfl (Nat.le_of_ble_eq_true rfl) (fun X hl hD hk hn hcz hsz o fin => ?_)
  subst hl; subst hD; subst hk
  refine V_aload_n (pc := 0) o dX9_limit_0 rfl ?_
  refine V_aload_n (pc := 1) o dX9_limit_1 rfl ?_
  refine V_iload_n (pc := 2) o dX9_limit_2 rfl ?_
  refine V_rVi (pc := 3) o (k9_eightT _ _ _ cI ht ad vc vr vn ne vs li ba de qp qt ql qs qc ch ap un ro pi si pl rq dy en th p (by omega)) 0 21 gX9_limit_X9_isEight rfl hdX9_isEight ⟨by omega, by decide⟩ rfl rfl rfl (Nat.le_of_ble_eq_true rfl) dX9_limit_3 rfl ?_
  refine V_if_ne (pc := 6) o 13 dX9_limit_6 (by decide) (fun _ => ?_) (fun c6 => absurd c6 (by decide))
  refine V_aload_n (pc := 13) o dX9_limit_13 rfl ?_
  refine V_iload_n (pc := 14) o dX9_limit_14 rfl ?_
  refine V_iconst (pc := 15) o 0 dX9_limit_15 (by decide) ?_
  refine V_sipush (pc := 16) o 10000 dX9_limit_16 (by decide) ?_
  refine V_rVi (pc := 19) o (k9_in _ _ _ cI ht ad vc vr vn ne vs li ba de qp qt ql qs qc ch ap un ro pi si pl rq dy en th (nI c) 0 10000) 0 21 gX9_limit_X9_in rfl hdX9_in ⟨by omega, by decide⟩ rfl rfl rfl (Nat.le_of_ble_eq_true rfl) dX9_limit_19 rfl ?_
  refine V_ifT (⟨nI_pos' (by omega), nI_le (b := 10000) (by omega) (by decide)⟩) ?_
  refine V_if_eq (pc := 22) o 29 dX9_limit_22 (by decide) (fun c22 => absurd c22 (by decide)) (fun _ => ?_)
  refine V_iconst (pc := 25) o 0 dX9_limit_25 (by decide) ?_
  refine V_goto (pc := 26) o 30 dX9_limit_26 (by decide) ?_
  refine V_wVi (pc := 30) o (k9_holds _ _ _ cI ht ad vc vr vn ne vs li ba de qp qt ql qs qc ch ap un ro pi si pl rq dy en th 0) 0 21 (wMod cI ad vc vr vn ne vs li ba de qp qt ql qs qc ch ap un ro pi si pl rq dy en 0) gX9_limit_X9_holds rfl hdX9_holds ⟨by omega, by decide⟩ rfl rfl rfl (Nat.le_of_ble_eq_true rfl) dX9_limit_30 rfl rfl ?_
  refine V_ifF (by decide) ?_
  refine V_if_eq (pc := 33) o 38 dX9_limit_33 (by decide) (fun _ => ?_) (fun c33 => absurd c33 (by decide))
  refine V_aload_n (pc := 38) o dX9_limit_38 rfl ?_
  refine V_get (pc := 39) o 0 5 hiX9_limit rfl rfl (by decide) lkX9_limit_25 rfl rfl dX9_limit_39 ?_
  refine V_iload_n (pc := 42) o dX9_limit_42 rfl ?_
  refine V_ialdN (pc := 43) o 6 li p rfl ht rfl (by omega) (by decide) dX9_limit_43 ?_
  refine V_istore_n (pc := 44) o dX9_limit_44 (by rw [hn]; decide) ?_
  refine V_aload_n (pc := 45) o dX9_limit_45 rfl ?_
  refine V_get (pc := 46) o 0 5 hiX9_limit rfl rfl (by decide) lkX9_limit_25 rfl rfl dX9_limit_46 ?_
  refine V_iload_n (pc := 49) o dX9_limit_49 rfl ?_
  refine V_iload_n (pc := 50) o dX9_limit_50 rfl ?_
  refine V_iastN (pc := 51) o 6 li p c rfl ht rfl rfl (by omega) (by decide) dX9_limit_51 ?_
  refine V_eq (ws2 := wMod cI ad vc vr vn ne vs (va_up li p c) ba de qp qt ql qs qc ch ap un ro pi si pl rq dy en 0) rfl rfl ?_
  refine V_aload_n (pc := 52) o dX9_limit_52 rfl ?_
  refine V_dup (pc := 53) o rfl dX9_limit_53 ?_
  refine V_get (pc := 54) o 0 18 hiX9_limit rfl rfl (by decide) lkX9_limit_88 rfl rfl dX9_limit_54 ?_
  refine V_iconst (pc := 57) o 1 dX9_limit_57 (by decide) ?_
  refine V_iaddN (pc := 58) o en 1 rfl rfl dX9_limit_58 ?_
  refine V_put (pc := 59) o 0 18 hiX9_limit tyX9 tyX9_ok nmX9 rfl rfl (by decide) lkX9_limit_88 rfl rfl rfl rfl rfl (Nat.le_of_ble_eq_true rfl) dX9_limit_59 ?_
  refine V_eq (ws2 := wMod cI ad vc vr vn ne vs (va_up li p c) ba de qp qt ql qs qc ch ap un ro pi si pl rq dy (en + 1) 0) rfl rfl ?_
  refine V_iload_n (pc := 62) o dX9_limit_62 rfl ?_
  exact fin 63 _ _ () dX9_limit_63 rfl rfl
