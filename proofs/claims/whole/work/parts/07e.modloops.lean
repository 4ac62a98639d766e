/-! The reference: loops. -/
def enA (ap : Nat → Nat) (q : Nat) : Nat → Nat → Nat
  | 0 => ap
  | j + 1 => va_up (enA ap q j) (8 * q + j) 0
def enS (ap : Nat → Nat) (q : Nat) : Nat → Nat
  | 0 => 0
  | j + 1 => enS ap q j + (if 0 < enA ap q j (8 * q + j) then 1 else 0)
def emC (ch : Nat → Nat) (q : Nat) : Nat → Nat → Nat
  | 0 => ch
  | j + 1 => va_up (emC ch q j) (8 * q + j) 0
def apS (ap : Nat → Nat) (q : Nat) : Nat → Nat
  | 0 => 0
  | j + 1 => apS ap q j + (if 0 < ap (8 * q + j) then 1 else 0)
theorem enA_le {ap : Nat → Nat} (h : ∀ k, ap k ≤ 8) (q : Nat) : ∀ j k, enA ap q j k ≤ 8
  | 0, k => h k
  | j + 1, k => by
    unfold enA va_up
    split
    · omega
    · exact enA_le h q j k
theorem hiX9_ends : ∀ w ∈ wsX90, w ∈ wsX9_ends := by decide +kernel
theorem lkX9_ends_52 : Cond.fieldLink RX9 52 RX9 "by" "[I" ∈ wsX9_ends := by decide +kernel
set_option maxHeartbeats 4000000 in
set_option maxRecDepth 100000 in
theorem lpX9_ends {X : XT} (o : OkX X cX9_ends RX9 wsX9_ends 0) (hn : XN X = 4) (cI : ClassId) (ht : (XK X)[0]? = some (cI, .int)) (ad : Nat → Nat) (vc : Nat → Nat) (vr : Nat → Nat) (vn : Nat → Nat) (ne : Nat → Nat) (vs : Nat → Nat) (li : Nat → Nat) (ba : Nat → Nat) (de : Nat → Nat) (qp : Nat → Nat) (qt : Nat → Nat) (ql : Nat → Nat) (qs : Nat → Nat) (qc : Nat → Nat) (ch : Nat → Nat) (ap : Nat → Nat) (un : Nat → Int32) (ro : Nat → Nat) (pi : Nat → Nat) (si : Nat → Nat) (pl : Nat → Int32) (rq : Nat) (dy : Nat) (en : Nat) (th : Int32) (q : Nat) (hq : q < 30) (hap : ∀ k, ap k ≤ 8) (kk : V X 0 0 (wMod cI ad vc vr vn ne vs li ba de qp qt ql qs qc ch (enA ap q 8) un ro pi si pl rq dy en th) 50 [(0, .ref (ad 0)), (1, .int (nI q)), (2, .int (nI (enS ap q 8))), (3, .int (nI 8))] []) : ∀ (m j : Nat), 8 - j < m → j ≤ 8 → V X 0 0 (wMod cI ad vc vr vn ne vs li ba de qp qt ql qs qc ch (enA ap q j) un ro pi si pl rq dy en th) 4 [(0, .ref (ad 0)), (1, .int (nI q)), (2, .int (nI (enS ap q j))), (3, .int (nI j))] [] := by
  intro m
  induction m with
  | zero => intro j h1; exact absurd h1 (Nat.not_lt_zero _)
  | succ m ih =>
    intro j h1 h2
    refine V_iload_n (pc := 4) o dX9_ends_4 rfl ?_
    refine V_bipush (pc := 5) o 8 dX9_ends_5 (by decide) ?_
    refine V_icmp_geN (pc := 7) o 50 j 8 rfl rfl (by omega) (by omega) dX9_ends_7 (by decide) (fun c7 => ?_) (fun c7 => ?_)
    · have e1 : j = 8 := by omega
      rw [e1]
      exact V_sub (lc2 := [(0, .ref (ad 0)), (1, .int (nI q)), (2, .int (nI (enS ap q 8))), (3, .int (nI 8))]) ⟨rfl, rfl, rfl, rfl, trivial⟩ kk
    · refine V_iload_n (pc := 10) o dX9_ends_10 rfl ?_
      refine V_aload_n (pc := 11) o dX9_ends_11 rfl ?_
      refine V_get (pc := 12) o 0 14 hiX9_ends rfl rfl (by decide) lkX9_ends_52 rfl rfl dX9_ends_12 ?_
      refine V_bipush (pc := 15) o 8 dX9_ends_15 (by decide) ?_
      refine V_iload_n (pc := 17) o dX9_ends_17 rfl ?_
      refine V_imulN (pc := 18) o 8 q rfl rfl dX9_ends_18 ?_
      refine V_iload_n (pc := 19) o dX9_ends_19 rfl ?_
      refine V_iaddN (pc := 20) o (8 * q) j rfl rfl dX9_ends_20 ?_
      refine V_ialdN (pc := 21) o 15 (enA ap q j) ((8 * q) + j) rfl ht rfl (by omega) (by decide) dX9_ends_21 ?_
      refine V_if_leN (pc := 22) o 29 ((enA ap q j) ((8 * q) + j)) rfl (by have := enA_le hap q j (8 * q + j); omega) dX9_ends_22 (by decide) (fun c22 => ?_) (fun c22 => ?_)
      · refine V_iconst (pc := 29) o 0 dX9_ends_29 (by decide) ?_
        refine V_iaddN (pc := 30) o (enS ap q j) 0 rfl rfl dX9_ends_30 ?_
        refine V_istore_n (pc := 31) o dX9_ends_31 (by rw [hn]; decide) ?_
        refine V_aload_n (pc := 32) o dX9_ends_32 rfl ?_
        refine V_get (pc := 33) o 0 14 hiX9_ends rfl rfl (by decide) lkX9_ends_52 rfl rfl dX9_ends_33 ?_
        refine V_bipush (pc := 36) o 8 dX9_ends_36 (by decide) ?_
        refine V_iload_n (pc := 38) o dX9_ends_38 rfl ?_
        refine V_imulN (pc := 39) o 8 q rfl rfl dX9_ends_39 ?_
        refine V_iload_n (pc := 40) o dX9_ends_40 rfl ?_
        refine V_iaddN (pc := 41) o (8 * q) j rfl rfl dX9_ends_41 ?_
        refine V_iconst (pc := 42) o 0 dX9_ends_42 (by decide) ?_
        refine V_iastN (pc := 43) o 15 (enA ap q j) ((8 * q) + j) 0 rfl ht rfl rfl (by omega) (by decide) dX9_ends_43 ?_
        refine V_eq (ws2 := wMod cI ad vc vr vn ne vs li ba de qp qt ql qs qc ch (va_up (enA ap q j) ((8 * q) + j) 0) un ro pi si pl rq dy en th) rfl rfl ?_
        refine V_iincN (pc := 44) o j 1 rfl dX9_ends_44 (by rw [hn]; decide) rfl (by decide) ?_
        refine V_goto (pc := 47) o 4 dX9_ends_47 (by decide) ?_
        refine V_eq (ws2 := wMod cI ad vc vr vn ne vs li ba de qp qt ql qs qc ch (enA ap q (j + 1)) un ro pi si pl rq dy en th) (by rfl) rfl ?_
        refine V_sub (lc2 := [(0, .ref (ad 0)), (1, .int (nI q)), (2, .int (nI (enS ap q (j + 1)))), (3, .int (nI ((j + 1))))]) ⟨rfl, rfl, lc_e (by first | (rw [enS, if_neg (by omega)]; done) | (rw [enS, if_pos (by omega)]; done)), lc_e (by rfl), trivial⟩ ?_
        exact ih (j + 1) (by omega) (by omega)
      · refine V_iconst (pc := 25) o 1 dX9_ends_25 (by decide) ?_
        refine V_goto (pc := 26) o 30 dX9_ends_26 (by decide) ?_
        refine V_iaddN (pc := 30) o (enS ap q j) 1 rfl rfl dX9_ends_30 ?_
        refine V_istore_n (pc := 31) o dX9_ends_31 (by rw [hn]; decide) ?_
        refine V_aload_n (pc := 32) o dX9_ends_32 rfl ?_
        refine V_get (pc := 33) o 0 14 hiX9_ends rfl rfl (by decide) lkX9_ends_52 rfl rfl dX9_ends_33 ?_
        refine V_bipush (pc := 36) o 8 dX9_ends_36 (by decide) ?_
        refine V_iload_n (pc := 38) o dX9_ends_38 rfl ?_
        refine V_imulN (pc := 39) o 8 q rfl rfl dX9_ends_39 ?_
        refine V_iload_n (pc := 40) o dX9_ends_40 rfl ?_
        refine V_iaddN (pc := 41) o (8 * q) j rfl rfl dX9_ends_41 ?_
        refine V_iconst (pc := 42) o 0 dX9_ends_42 (by decide) ?_
        refine V_iastN (pc := 43) o 15 (enA ap q j) ((8 * q) + j) 0 rfl ht rfl rfl (by omega) (by decide) dX9_ends_43 ?_
        refine V_eq (ws2 := wMod cI ad vc vr vn ne vs li ba de qp qt ql qs qc ch (va_up (enA ap q j) ((8 * q) + j) 0) un ro pi si pl rq dy en th) rfl rfl ?_
        refine V_iincN (pc := 44) o j 1 rfl dX9_ends_44 (by rw [hn]; decide) rfl (by decide) ?_
        refine V_goto (pc := 47) o 4 dX9_ends_47 (by decide) ?_
        refine V_eq (ws2 := wMod cI ad vc vr vn ne vs li ba de qp qt ql qs qc ch (enA ap q (j + 1)) un ro pi si pl rq dy en th) (by rfl) rfl ?_
        refine V_sub (lc2 := [(0, .ref (ad 0)), (1, .int (nI q)), (2, .int (nI (enS ap q (j + 1)))), (3, .int (nI ((j + 1))))]) ⟨rfl, rfl, lc_e (by first | (rw [enS, if_neg (by omega)]; done) | (rw [enS, if_pos (by omega)]; done)), lc_e (by rfl), trivial⟩ ?_
        exact ih (j + 1) (by omega) (by omega)
theorem hdX9_ends : yX9_ends.cls = RX9 ∧ yX9_ends.cls ≠ "java/lang/invoke/MethodHandle" ∧ yX9_ends.cls ≠ "java/lang/invoke/VarHandle" ∧ (parseMethodDescriptor yX9_ends.desc).map (fun d => d.parameters.length) = some 1 := by decide +kernel
set_option maxHeartbeats 4000000 in
set_option maxRecDepth 100000 in
/-- reference: ends -/
theorem k9_ends (l : Launch) (D : va_G) (tys : List (ClassId × FieldType)) (cI : ClassId) (ht : tys[0]? = some (cI, .int)) (ad : Nat → Nat) (vc : Nat → Nat) (vr : Nat → Nat) (vn : Nat → Nat) (ne : Nat → Nat) (vs : Nat → Nat) (li : Nat → Nat) (ba : Nat → Nat) (de : Nat → Nat) (qp : Nat → Nat) (qt : Nat → Nat) (ql : Nat → Nat) (qs : Nat → Nat) (qc : Nat → Nat) (ch : Nat → Nat) (ap : Nat → Nat) (un : Nat → Int32) (ro : Nat → Nat) (pi : Nat → Nat) (si : Nat → Nat) (pl : Nat → Int32) (rq : Nat) (dy : Nat) (en : Nat) (th : Int32) (q : Nat) (hq : q < 30) (hap : ∀ k, ap k ≤ 8) : CId l yX9_ends wsX9_ends 0 D tys [.ref (ad 0), .int (nI q)] (wMod cI ad vc vr vn ne vs li ba de qp qt ql qs qc ch ap un ro pi si pl rq dy en th) (nI (enS ap q 8)) (wMod cI ad vc vr vn ne vs li ba de qp qt ql qs qc ch (enA ap q 8) un ro pi si pl rq dy en th) := by
  refine CI_of (maxL := 4) (cc := cX9_ends) (y := yX9_ends) rfl rfl (Nat.le_of_ble_eq_true rfl) (fun X hl hD hk hn hcz hsz o fin => ?_)
  subst hl; subst hD; subst hk
  refine V_iconst (pc := 0) o 0 dX9_ends_0 (by decide) ?_
  refine V_istore_n (pc := 1) o dX9_ends_1 (by rw [hn]; decide) ?_
  refine V_iconst (pc := 2) o 0 dX9_ends_2 (by decide) ?_
  refine V_istore_n (pc := 3) o dX9_ends_3 (by rw [hn]; decide) ?_
  refine V_eq (ws2 := wMod cI ad vc vr vn ne vs li ba de qp qt ql qs qc ch (enA ap q 0) un ro pi si pl rq dy en th) rfl rfl ?_
  exact V_sub (lc2 := [(0, .ref (ad 0)), (1, .int (nI q)), (2, .int (nI (enS ap q 0))), (3, .int (nI 0))]) ⟨rfl, rfl, rfl, rfl, trivial⟩ (lpX9_ends o hn cI ht ad vc vr vn ne vs li ba de qp qt ql qs qc ch ap un ro pi si pl rq dy en th q hq hap (V_iload_n (pc := 50) o dX9_ends_50 rfl (fin 51 _ _ () dX9_ends_51 rfl rfl)) 9 0 (by omega) (by omega))
theorem hiX9_empty : ∀ w ∈ wsX90, w ∈ wsX9_empty := by decide +kernel
theorem lkX9_empty_49 : Cond.fieldLink RX9 49 RX9 "chosen" "[I" ∈ wsX9_empty := by decide +kernel
set_option maxHeartbeats 4000000 in
set_option maxRecDepth 100000 in
theorem lpX9_empty {X : XT} (o : OkX X cX9_empty RX9 wsX9_empty 0) (hn : XN X = 3) (cI : ClassId) (ht : (XK X)[0]? = some (cI, .int)) (ad : Nat → Nat) (vc : Nat → Nat) (vr : Nat → Nat) (vn : Nat → Nat) (ne : Nat → Nat) (vs : Nat → Nat) (li : Nat → Nat) (ba : Nat → Nat) (de : Nat → Nat) (qp : Nat → Nat) (qt : Nat → Nat) (ql : Nat → Nat) (qs : Nat → Nat) (qc : Nat → Nat) (ch : Nat → Nat) (ap : Nat → Nat) (un : Nat → Int32) (ro : Nat → Nat) (pi : Nat → Nat) (si : Nat → Nat) (pl : Nat → Int32) (rq : Nat) (dy : Nat) (en : Nat) (th : Int32) (q : Nat) (hq : q < 30) (kk : V X 0 0 (wMod cI ad vc vr vn ne vs li ba de qp qt ql qs qc (emC ch q 8) ap un ro pi si pl rq dy en th) 26 [(0, .ref (ad 0)), (1, .int (nI q)), (2, .int (nI 8))] []) : ∀ (m j : Nat), 8 - j < m → j ≤ 8 → V X 0 0 (wMod cI ad vc vr vn ne vs li ba de qp qt ql qs qc (emC ch q j) ap un ro pi si pl rq dy en th) 2 [(0, .ref (ad 0)), (1, .int (nI q)), (2, .int (nI j))] [] := by
  intro m
  induction m with
  | zero => intro j h1; exact absurd h1 (Nat.not_lt_zero _)
  | succ m ih =>
    intro j h1 h2
    refine V_iload_n (pc := 2) o dX9_empty_2 rfl ?_
    refine V_bipush (pc := 3) o 8 dX9_empty_3 (by decide) ?_
    refine V_icmp_geN (pc := 5) o 26 j 8 rfl rfl (by omega) (by omega) dX9_empty_5 (by decide) (fun c5 => ?_) (fun c5 => ?_)
    · have e1 : j = 8 := by omega
      rw [e1]
      exact V_sub (lc2 := [(0, .ref (ad 0)), (1, .int (nI q)), (2, .int (nI 8))]) ⟨rfl, rfl, rfl, trivial⟩ kk
    · refine V_aload_n (pc := 8) o dX9_empty_8 rfl ?_
      refine V_get (pc := 9) o 0 13 hiX9_empty rfl rfl (by decide) lkX9_empty_49 rfl rfl dX9_empty_9 ?_
      refine V_bipush (pc := 12) o 8 dX9_empty_12 (by decide) ?_
      refine V_iload_n (pc := 14) o dX9_empty_14 rfl ?_
      refine V_imulN (pc := 15) o 8 q rfl rfl dX9_empty_15 ?_
      refine V_iload_n (pc := 16) o dX9_empty_16 rfl ?_
      refine V_iaddN (pc := 17) o (8 * q) j rfl rfl dX9_empty_17 ?_
      refine V_iconst (pc := 18) o 0 dX9_empty_18 (by decide) ?_
      refine V_iastN (pc := 19) o 14 (emC ch q j) ((8 * q) + j) 0 rfl ht rfl rfl (by omega) (by decide) dX9_empty_19 ?_
      refine V_eq (ws2 := wMod cI ad vc vr vn ne vs li ba de qp qt ql qs qc (va_up (emC ch q j) ((8 * q) + j) 0) ap un ro pi si pl rq dy en th) rfl rfl ?_
      refine V_iincN (pc := 20) o j 1 rfl dX9_empty_20 (by rw [hn]; decide) rfl (by decide) ?_
      refine V_goto (pc := 23) o 2 dX9_empty_23 (by decide) ?_
      refine V_eq (ws2 := wMod cI ad vc vr vn ne vs li ba de qp qt ql qs qc (emC ch q (j + 1)) ap un ro pi si pl rq dy en th) (by rfl) rfl ?_
      refine V_sub (lc2 := [(0, .ref (ad 0)), (1, .int (nI q)), (2, .int (nI ((j + 1))))]) ⟨rfl, rfl, lc_e (by rfl), trivial⟩ ?_
      exact ih (j + 1) (by omega) (by omega)
theorem hdX9_empty : yX9_empty.cls = RX9 ∧ yX9_empty.cls ≠ "java/lang/invoke/MethodHandle" ∧ yX9_empty.cls ≠ "java/lang/invoke/VarHandle" ∧ (parseMethodDescriptor yX9_empty.desc).map (fun d => d.parameters.length) = some 1 := by decide +kernel
set_option maxHeartbeats 4000000 in
set_option maxRecDepth 100000 in
/-- reference: empty -/
theorem k9_empty (l : Launch) (D : va_G) (tys : List (ClassId × FieldType)) (cI : ClassId) (ht : tys[0]? = some (cI, .int)) (ad : Nat → Nat) (vc : Nat → Nat) (vr : Nat → Nat) (vn : Nat → Nat) (ne : Nat → Nat) (vs : Nat → Nat) (li : Nat → Nat) (ba : Nat → Nat) (de : Nat → Nat) (qp : Nat → Nat) (qt : Nat → Nat) (ql : Nat → Nat) (qs : Nat → Nat) (qc : Nat → Nat) (ch : Nat → Nat) (ap : Nat → Nat) (un : Nat → Int32) (ro : Nat → Nat) (pi : Nat → Nat) (si : Nat → Nat) (pl : Nat → Int32) (rq : Nat) (dy : Nat) (en : Nat) (th : Int32) (q : Nat) (hq : q < 30) : CVd l yX9_empty wsX9_empty 0 D tys [.ref (ad 0), .int (nI q)] (wMod cI ad vc vr vn ne vs li ba de qp qt ql qs qc ch ap un ro pi si pl rq dy en th) (wMod cI ad vc vr vn ne vs li ba de qp qt ql qs qc (emC ch q 8) ap un ro pi si pl rq dy en th) := by
  refine CV_of (maxL := 3) (cc := cX9_empty) (y := yX9_empty) rfl rfl (Nat.le_of_ble_eq_true rfl) (fun X hl hD hk hn hcz hsz o fin => ?_)
  subst hl; subst hD; subst hk
  refine V_iconst (pc := 0) o 0 dX9_empty_0 (by decide) ?_
  refine V_istore_n (pc := 1) o dX9_empty_1 (by rw [hn]; decide) ?_
  refine V_eq (ws2 := wMod cI ad vc vr vn ne vs li ba de qp qt ql qs qc (emC ch q 0) ap un ro pi si pl rq dy en th) rfl rfl ?_
  exact V_sub (lc2 := [(0, .ref (ad 0)), (1, .int (nI q)), (2, .int (nI 0))]) ⟨rfl, rfl, rfl, trivial⟩ (lpX9_empty o hn cI ht ad vc vr vn ne vs li ba de qp qt ql qs qc ch ap un ro pi si pl rq dy en th q hq (fin 26 _ () dX9_empty_26 trivial) 9 0 (by omega) (by omega))
theorem hiX9_approvals : ∀ w ∈ wsX90, w ∈ wsX9_approvals := by decide +kernel
theorem lkX9_approvals_52 : Cond.fieldLink RX9 52 RX9 "by" "[I" ∈ wsX9_approvals := by decide +kernel
set_option maxHeartbeats 4000000 in
set_option maxRecDepth 100000 in
theorem lpX9_approvals {X : XT} (o : OkX X cX9_approvals RX9 wsX9_approvals 0) (hn : XN X = 4) (cI : ClassId) (ht : (XK X)[0]? = some (cI, .int)) (ad : Nat → Nat) (vc : Nat → Nat) (vr : Nat → Nat) (vn : Nat → Nat) (ne : Nat → Nat) (vs : Nat → Nat) (li : Nat → Nat) (ba : Nat → Nat) (de : Nat → Nat) (qp : Nat → Nat) (qt : Nat → Nat) (ql : Nat → Nat) (qs : Nat → Nat) (qc : Nat → Nat) (ch : Nat → Nat) (ap : Nat → Nat) (un : Nat → Int32) (ro : Nat → Nat) (pi : Nat → Nat) (si : Nat → Nat) (pl : Nat → Int32) (rq : Nat) (dy : Nat) (en : Nat) (th : Int32) (q : Nat) (hq : q < 30) (hap : ∀ k, ap k ≤ 8) (kk : V X 0 0 (wMod cI ad vc vr vn ne vs li ba de qp qt ql qs qc ch ap un ro pi si pl rq dy en th) 38 [(0, .ref (ad 0)), (1, .int (nI q)), (2, .int (nI (apS ap q 8))), (3, .int (nI 8))] []) : ∀ (m j : Nat), 8 - j < m → j ≤ 8 → V X 0 0 (wMod cI ad vc vr vn ne vs li ba de qp qt ql qs qc ch ap un ro pi si pl rq dy en th) 4 [(0, .ref (ad 0)), (1, .int (nI q)), (2, .int (nI (apS ap q j))), (3, .int (nI j))] [] := by
  intro m
  induction m with
  | zero => intro j h1; exact absurd h1 (Nat.not_lt_zero _)
  | succ m ih =>
    intro j h1 h2
    refine V_iload_n (pc := 4) o dX9_approvals_4 rfl ?_
    refine V_bipush (pc := 5) o 8 dX9_approvals_5 (by decide) ?_
    refine V_icmp_geN (pc := 7) o 38 j 8 rfl rfl (by omega) (by omega) dX9_approvals_7 (by decide) (fun c7 => ?_) (fun c7 => ?_)
    · have e1 : j = 8 := by omega
      rw [e1]
      exact V_sub (lc2 := [(0, .ref (ad 0)), (1, .int (nI q)), (2, .int (nI (apS ap q 8))), (3, .int (nI 8))]) ⟨rfl, rfl, rfl, rfl, trivial⟩ kk
    · refine V_iload_n (pc := 10) o dX9_approvals_10 rfl ?_
      refine V_aload_n (pc := 11) o dX9_approvals_11 rfl ?_
      refine V_get (pc := 12) o 0 14 hiX9_approvals rfl rfl (by decide) lkX9_approvals_52 rfl rfl dX9_approvals_12 ?_
      refine V_bipush (pc := 15) o 8 dX9_approvals_15 (by decide) ?_
      refine V_iload_n (pc := 17) o dX9_approvals_17 rfl ?_
      refine V_imulN (pc := 18) o 8 q rfl rfl dX9_approvals_18 ?_
      refine V_iload_n (pc := 19) o dX9_approvals_19 rfl ?_
      refine V_iaddN (pc := 20) o (8 * q) j rfl rfl dX9_approvals_20 ?_
      refine V_ialdN (pc := 21) o 15 ap ((8 * q) + j) rfl ht rfl (by omega) (by decide) dX9_approvals_21 ?_
      refine V_if_leN (pc := 22) o 29 (ap ((8 * q) + j)) rfl (by have := hap (8 * q + j); omega) dX9_approvals_22 (by decide) (fun c22 => ?_) (fun c22 => ?_)
      · refine V_iconst (pc := 29) o 0 dX9_approvals_29 (by decide) ?_
        refine V_iaddN (pc := 30) o (apS ap q j) 0 rfl rfl dX9_approvals_30 ?_
        refine V_istore_n (pc := 31) o dX9_approvals_31 (by rw [hn]; decide) ?_
        refine V_iincN (pc := 32) o j 1 rfl dX9_approvals_32 (by rw [hn]; decide) rfl (by decide) ?_
        refine V_goto (pc := 35) o 4 dX9_approvals_35 (by decide) ?_
        refine V_eq (ws2 := wMod cI ad vc vr vn ne vs li ba de qp qt ql qs qc ch ap un ro pi si pl rq dy en th) (by rfl) rfl ?_
        refine V_sub (lc2 := [(0, .ref (ad 0)), (1, .int (nI q)), (2, .int (nI (apS ap q (j + 1)))), (3, .int (nI ((j + 1))))]) ⟨rfl, rfl, lc_e (by first | (rw [apS, if_neg (by omega)]; done) | (rw [apS, if_pos (by omega)]; done)), lc_e (by rfl), trivial⟩ ?_
        exact ih (j + 1) (by omega) (by omega)
      · refine V_iconst (pc := 25) o 1 dX9_approvals_25 (by decide) ?_
        refine V_goto (pc := 26) o 30 dX9_approvals_26 (by decide) ?_
        refine V_iaddN (pc := 30) o (apS ap q j) 1 rfl rfl dX9_approvals_30 ?_
        refine V_istore_n (pc := 31) o dX9_approvals_31 (by rw [hn]; decide) ?_
        refine V_iincN (pc := 32) o j 1 rfl dX9_approvals_32 (by rw [hn]; decide) rfl (by decide) ?_
        refine V_goto (pc := 35) o 4 dX9_approvals_35 (by decide) ?_
        refine V_eq (ws2 := wMod cI ad vc vr vn ne vs li ba de qp qt ql qs qc ch ap un ro pi si pl rq dy en th) (by rfl) rfl ?_
        refine V_sub (lc2 := [(0, .ref (ad 0)), (1, .int (nI q)), (2, .int (nI (apS ap q (j + 1)))), (3, .int (nI ((j + 1))))]) ⟨rfl, rfl, lc_e (by first | (rw [apS, if_neg (by omega)]; done) | (rw [apS, if_pos (by omega)]; done)), lc_e (by rfl), trivial⟩ ?_
        exact ih (j + 1) (by omega) (by omega)
theorem hdX9_approvals : yX9_approvals.cls = RX9 ∧ yX9_approvals.cls ≠ "java/lang/invoke/MethodHandle" ∧ yX9_approvals.cls ≠ "java/lang/invoke/VarHandle" ∧ (parseMethodDescriptor yX9_approvals.desc).map (fun d => d.parameters.length) = some 1 := by decide +kernel
set_option maxHeartbeats 4000000 in
set_option maxRecDepth 100000 in
/-- reference: approvals -/
theorem k9_approvals (l : Launch) (D : va_G) (tys : List (ClassId × FieldType)) (cI : ClassId) (ht : tys[0]? = some (cI, .int)) (ad : Nat → Nat) (vc : Nat → Nat) (vr : Nat → Nat) (vn : Nat → Nat) (ne : Nat → Nat) (vs : Nat → Nat) (li : Nat → Nat) (ba : Nat → Nat) (de : Nat → Nat) (qp : Nat → Nat) (qt : Nat → Nat) (ql : Nat → Nat) (qs : Nat → Nat) (qc : Nat → Nat) (ch : Nat → Nat) (ap : Nat → Nat) (un : Nat → Int32) (ro : Nat → Nat) (pi : Nat → Nat) (si : Nat → Nat) (pl : Nat → Int32) (rq : Nat) (dy : Nat) (en : Nat) (th : Int32) (q : Nat) (hq : q < 30) (hap : ∀ k, ap k ≤ 8) : CId l yX9_approvals wsX9_approvals 0 D tys [.ref (ad 0), .int (nI q)] (wMod cI ad vc vr vn ne vs li ba de qp qt ql qs qc ch ap un ro pi si pl rq dy en th) (nI (apS ap q 8)) (wMod cI ad vc vr vn ne vs li ba de qp qt ql qs qc ch ap un ro pi si pl rq dy en th) := by
  refine CI_of (maxL := 4) (cc := cX9_approvals) (y := yX9_approvals) rfl rfl (Nat.le_of_ble_eq_true rfl) (fun X hl hD hk hn hcz hsz o fin => ?_)
  subst hl; subst hD; subst hk
  refine V_iconst (pc := 0) o 0 dX9_approvals_0 (by decide) ?_
  refine V_istore_n (pc := 1) o dX9_approvals_1 (by rw [hn]; decide) ?_
  refine V_iconst (pc := 2) o 0 dX9_approvals_2 (by decide) ?_
  refine V_istore_n (pc := 3) o dX9_approvals_3 (by rw [hn]; decide) ?_
  exact V_sub (lc2 := [(0, .ref (ad 0)), (1, .int (nI q)), (2, .int (nI (apS ap q 0))), (3, .int (nI 0))]) ⟨rfl, rfl, rfl, rfl, trivial⟩ (lpX9_approvals o hn cI ht ad vc vr vn ne vs li ba de qp qt ql qs qc ch ap un ro pi si pl rq dy en th q hq hap (V_iload_n (pc := 38) o dX9_approvals_38 rfl (fin 39 _ _ () dX9_approvals_39 rfl rfl)) 9 0 (by omega) (by omega))
theorem apS_le (ap : Nat → Nat) (q : Nat) : ∀ j, apS ap q j ≤ j
  | 0 => Nat.le_refl _
  | j + 1 => by
    unfold apS
    have := apS_le ap q j
    split <;> omega
def cov9 (c n : Nat) : Prop := (if c ≤ 500 then 1 else 2) ≤ n
theorem cov9_n {c n : Nat} (h : ¬ cov9 c n) : n < (if c ≤ 500 then 1 else 2) := Nat.not_le.mp h
theorem hdX9_covered : yX9_covered.cls = RX9 ∧ yX9_covered.cls ≠ "java/lang/invoke/MethodHandle" ∧ yX9_covered.cls ≠ "java/lang/invoke/VarHandle" ∧ (parseMethodDescriptor yX9_covered.desc).map (fun d => d.parameters.length) = some 1 := by decide +kernel
theorem hiX9_covered : ∀ w ∈ wsX90, w ∈ wsX9_covered := by decide +kernel
theorem lkX9_covered_46 : Cond.fieldLink RX9 46 RX9 "qc" "[I" ∈ wsX9_covered := by decide +kernel
set_option maxHeartbeats 4000000 in
set_option maxRecDepth 100000 in
/-- reference: covT -/
theorem k9_covT (l : Launch) (D : va_G) (tys : List (ClassId × FieldType)) (cI : ClassId) (ht : tys[0]? = some (cI, .int)) (ad : Nat → Nat) (vc : Nat → Nat) (vr : Nat → Nat) (vn : Nat → Nat) (ne : Nat → Nat) (vs : Nat → Nat) (li : Nat → Nat) (ba : Nat → Nat) (de : Nat → Nat) (qp : Nat → Nat) (qt : Nat → Nat) (ql : Nat → Nat) (qs : Nat → Nat) (qc : Nat → Nat) (ch : Nat → Nat) (ap : Nat → Nat) (un : Nat → Int32) (ro : Nat → Nat) (pi : Nat → Nat) (si : Nat → Nat) (pl : Nat → Int32) (rq : Nat) (dy : Nat) (en : Nat) (th : Int32) (q : Nat) (hq : q < 30) (hap : ∀ k, ap k ≤ 8) (hqc : ∀ k, qc k ≤ 8000) (h : cov9 (qc q) (apS ap q 8)) : CId l yX9_covered wsX9_covered 1 D tys [.ref (ad 0), .int (nI q)] (wMod cI ad vc vr vn ne vs li ba de qp qt ql qs qc ch ap un ro pi si pl rq dy en th) 1 (wMod cI ad vc vr vn ne vs li ba de qp qt ql qs qc ch ap un ro pi si pl rq dy en th) := by
  refine CI_of (maxL := 2) (cc := cX9_covered) (y := yX9_covered) rfl rfl (Nat.le_of_ble_eq_true rfl) (fun X hl hD hk hn hcz hsz o fin => ?_)
  subst hl; subst hD; subst hk
  refine V_aload_n (pc := 0) o dX9_covered_0 rfl ?_
  refine V_iload_n (pc := 1) o dX9_covered_1 rfl ?_
  refine V_rVi (pc := 2) o (k9_approvals _ _ _ cI ht ad vc vr vn ne vs li ba de qp qt ql qs qc ch ap un ro pi si pl rq dy en th q (by omega) hap) 0 21 gX9_covered_X9_approvals rfl hdX9_approvals ⟨by omega, by decide⟩ rfl rfl rfl (Nat.le_of_ble_eq_true rfl) dX9_covered_2 rfl ?_
  refine V_aload_n (pc := 5) o dX9_covered_5 rfl ?_
  refine V_get (pc := 6) o 0 12 hiX9_covered rfl rfl (by decide) lkX9_covered_46 rfl rfl dX9_covered_6 ?_
  refine V_iload_n (pc := 9) o dX9_covered_9 rfl ?_
  refine V_ialdN (pc := 10) o 13 qc q rfl ht rfl (by omega) (by decide) dX9_covered_10 ?_
  refine V_sipush (pc := 11) o 500 dX9_covered_11 (by decide) ?_
  refine V_icmp_leN (pc := 14) o 21 (qc q) 500 rfl rfl (by have := hqc q; omega) (by have := hqc q; omega) dX9_covered_14 (by decide) (fun c14 => ?_) (fun c14 => ?_)
  · refine V_iconst (pc := 21) o 1 dX9_covered_21 (by decide) ?_
    refine V_icmp_ltN (pc := 22) o 29 (apS ap q 8) 1 rfl rfl (by have := apS_le ap q 8; omega) (by have := apS_le ap q 8; omega) dX9_covered_22 (by decide) (fun c22 => ?_) (fun c22 => ?_)
    · refine V_iconst (pc := 29) o 0 dX9_covered_29 (by decide) ?_
      first | exact fin 30 _ _ () dX9_covered_30 rfl rfl | (unfold cov9 at h; first | (rw [if_pos (by omega)] at h; omega) | (rw [if_neg (by omega)] at h; omega))
    · refine V_iconst (pc := 25) o 1 dX9_covered_25 (by decide) ?_
      refine V_goto (pc := 26) o 30 dX9_covered_26 (by decide) ?_
      first | exact fin 30 _ _ () dX9_covered_30 rfl rfl | (unfold cov9 at h; first | (rw [if_pos (by omega)] at h; omega) | (rw [if_neg (by omega)] at h; omega))
  · refine V_iconst (pc := 17) o 2 dX9_covered_17 (by decide) ?_
    refine V_goto (pc := 18) o 22 dX9_covered_18 (by decide) ?_
    refine V_icmp_ltN (pc := 22) o 29 (apS ap q 8) 2 rfl rfl (by have := apS_le ap q 8; omega) (by have := apS_le ap q 8; omega) dX9_covered_22 (by decide) (fun c22 => ?_) (fun c22 => ?_)
    · refine V_iconst (pc := 29) o 0 dX9_covered_29 (by decide) ?_
      first | exact fin 30 _ _ () dX9_covered_30 rfl rfl | (unfold cov9 at h; first | (rw [if_pos (by omega)] at h; omega) | (rw [if_neg (by omega)] at h; omega))
    · refine V_iconst (pc := 25) o 1 dX9_covered_25 (by decide) ?_
      refine V_goto (pc := 26) o 30 dX9_covered_26 (by decide) ?_
      first | exact fin 30 _ _ () dX9_covered_30 rfl rfl | (unfold cov9 at h; first | (rw [if_pos (by omega)] at h; omega) | (rw [if_neg (by omega)] at h; omega))
set_option maxHeartbeats 4000000 in
set_option maxRecDepth 100000 in
/-- reference: covF -/
theorem k9_covF (l : Launch) (D : va_G) (tys : List (ClassId × FieldType)) (cI : ClassId) (ht : tys[0]? = some (cI, .int)) (ad : Nat → Nat) (vc : Nat → Nat) (vr : Nat → Nat) (vn : Nat → Nat) (ne : Nat → Nat) (vs : Nat → Nat) (li : Nat → Nat) (ba : Nat → Nat) (de : Nat → Nat) (qp : Nat → Nat) (qt : Nat → Nat) (ql : Nat → Nat) (qs : Nat → Nat) (qc : Nat → Nat) (ch : Nat → Nat) (ap : Nat → Nat) (un : Nat → Int32) (ro : Nat → Nat) (pi : Nat → Nat) (si : Nat → Nat) (pl : Nat → Int32) (rq : Nat) (dy : Nat) (en : Nat) (th : Int32) (q : Nat) (hq : q < 30) (hap : ∀ k, ap k ≤ 8) (hqc : ∀ k, qc k ≤ 8000) (h : ¬ cov9 (qc q) (apS ap q 8)) : CId l yX9_covered wsX9_covered 1 D tys [.ref (ad 0), .int (nI q)] (wMod cI ad vc vr vn ne vs li ba de qp qt ql qs qc ch ap un ro pi si pl rq dy en th) 0 (wMod cI ad vc vr vn ne vs li ba de qp qt ql qs qc ch ap un ro pi si pl rq dy en th) := by
  refine CI_of (maxL := 2) (cc := cX9_covered) (y := yX9_covered) rfl rfl (Nat.le_of_ble_eq_true rfl) (fun X hl hD hk hn hcz hsz o fin => ?_)
  subst hl; subst hD; subst hk
  refine V_aload_n (pc := 0) o dX9_covered_0 rfl ?_
  refine V_iload_n (pc := 1) o dX9_covered_1 rfl ?_
  refine V_rVi (pc := 2) o (k9_approvals _ _ _ cI ht ad vc vr vn ne vs li ba de qp qt ql qs qc ch ap un ro pi si pl rq dy en th q (by omega) hap) 0 21 gX9_covered_X9_approvals rfl hdX9_approvals ⟨by omega, by decide⟩ rfl rfl rfl (Nat.le_of_ble_eq_true rfl) dX9_covered_2 rfl ?_
  refine V_aload_n (pc := 5) o dX9_covered_5 rfl ?_
  refine V_get (pc := 6) o 0 12 hiX9_covered rfl rfl (by decide) lkX9_covered_46 rfl rfl dX9_covered_6 ?_
  refine V_iload_n (pc := 9) o dX9_covered_9 rfl ?_
  refine V_ialdN (pc := 10) o 13 qc q rfl ht rfl (by omega) (by decide) dX9_covered_10 ?_
  refine V_sipush (pc := 11) o 500 dX9_covered_11 (by decide) ?_
  refine V_icmp_leN (pc := 14) o 21 (qc q) 500 rfl rfl (by have := hqc q; omega) (by have := hqc q; omega) dX9_covered_14 (by decide) (fun c14 => ?_) (fun c14 => ?_)
  · refine V_iconst (pc := 21) o 1 dX9_covered_21 (by decide) ?_
    refine V_icmp_ltN (pc := 22) o 29 (apS ap q 8) 1 rfl rfl (by have := apS_le ap q 8; omega) (by have := apS_le ap q 8; omega) dX9_covered_22 (by decide) (fun c22 => ?_) (fun c22 => ?_)
    · refine V_iconst (pc := 29) o 0 dX9_covered_29 (by decide) ?_
      first | exact fin 30 _ _ () dX9_covered_30 rfl rfl | (have h2 := cov9_n h; first | (rw [if_pos (by omega)] at h2; omega) | (rw [if_neg (by omega)] at h2; omega))
    · refine V_iconst (pc := 25) o 1 dX9_covered_25 (by decide) ?_
      refine V_goto (pc := 26) o 30 dX9_covered_26 (by decide) ?_
      first | exact fin 30 _ _ () dX9_covered_30 rfl rfl | (have h2 := cov9_n h; first | (rw [if_pos (by omega)] at h2; omega) | (rw [if_neg (by omega)] at h2; omega))
  · refine V_iconst (pc := 17) o 2 dX9_covered_17 (by decide) ?_
    refine V_goto (pc := 18) o 22 dX9_covered_18 (by decide) ?_
    refine V_icmp_ltN (pc := 22) o 29 (apS ap q 8) 2 rfl rfl (by have := apS_le ap q 8; omega) (by have := apS_le ap q 8; omega) dX9_covered_22 (by decide) (fun c22 => ?_) (fun c22 => ?_)
    · refine V_iconst (pc := 29) o 0 dX9_covered_29 (by decide) ?_
      first | exact fin 30 _ _ () dX9_covered_30 rfl rfl | (have h2 := cov9_n h; first | (rw [if_pos (by omega)] at h2; omega) | (rw [if_neg (by omega)] at h2; omega))
    · refine V_iconst (pc := 25) o 1 dX9_covered_25 (by decide) ?_
      refine V_goto (pc := 26) o 30 dX9_covered_26 (by decide) ?_
      first | exact fin 30 _ _ () dX9_covered_30 rfl rfl | (have h2 := cov9_n h; first | (rw [if_pos (by omega)] at h2; omega) | (rw [if_neg (by omega)] at h2; omega))
theorem hdX9_isAway : yX9_isAway.cls = RX9 ∧ yX9_isAway.cls ≠ "java/lang/invoke/MethodHandle" ∧ yX9_isAway.cls ≠ "java/lang/invoke/VarHandle" ∧ (parseMethodDescriptor yX9_isAway.desc).map (fun d => d.parameters.length) = some 1 := by decide +kernel
theorem hiX9_isAway : ∀ w ∈ wsX90, w ∈ wsX9_isAway := by decide +kernel
theorem lkX9_isAway_119 : Cond.fieldLink RX9 119 RX9 "day" "I" ∈ wsX9_isAway := by decide +kernel
theorem lkX9_isAway_28 : Cond.fieldLink RX9 28 RX9 "back" "[I" ∈ wsX9_isAway := by decide +kernel
set_option maxHeartbeats 4000000 in
set_option maxRecDepth 100000 in
/-- reference: awayT -/
theorem k9_awayT (l : Launch) (D : va_G) (tys : List (ClassId × FieldType)) (cI : ClassId) (ht : tys[0]? = some (cI, .int)) (ad : Nat → Nat) (vc : Nat → Nat) (vr : Nat → Nat) (vn : Nat → Nat) (ne : Nat → Nat) (vs : Nat → Nat) (li : Nat → Nat) (ba : Nat → Nat) (de : Nat → Nat) (qp : Nat → Nat) (qt : Nat → Nat) (ql : Nat → Nat) (qs : Nat → Nat) (qc : Nat → Nat) (ch : Nat → Nat) (ap : Nat → Nat) (un : Nat → Int32) (ro : Nat → Nat) (pi : Nat → Nat) (si : Nat → Nat) (pl : Nat → Int32) (rq : Nat) (dy : Nat) (en : Nat) (th : Int32) (p : Nat) (hp : p < 8) (hba : ∀ k, ba k ≤ 40000) (hdy : dy ≤ 40000) (h : dy < ba p) : CId l yX9_isAway wsX9_isAway 0 D tys [.ref (ad 0), .int (nI p)] (wMod cI ad vc vr vn ne vs li ba de qp qt ql qs qc ch ap un ro pi si pl rq dy en th) 1 (wMod cI ad vc vr vn ne vs li ba de qp qt ql qs qc ch ap un ro pi si pl rq dy en th) := by
  refine CI_of (maxL := 2) (cc := cX9_isAway) (y := yX9_isAway) rfl rfl (Nat.le_of_ble_eq_true rfl) (fun X hl hD hk hn hcz hsz o fin => ?_)
  subst hl; subst hD; subst hk
  refine V_aload_n (pc := 0) o dX9_isAway_0 rfl ?_
  refine V_get (pc := 1) o 0 17 hiX9_isAway rfl rfl (by decide) lkX9_isAway_119 rfl rfl dX9_isAway_1 ?_
  refine V_aload_n (pc := 4) o dX9_isAway_4 rfl ?_
  refine V_get (pc := 5) o 0 6 hiX9_isAway rfl rfl (by decide) lkX9_isAway_28 rfl rfl dX9_isAway_5 ?_
  refine V_iload_n (pc := 8) o dX9_isAway_8 rfl ?_
  refine V_ialdN (pc := 9) o 7 ba p rfl ht rfl (by omega) (by decide) dX9_isAway_9 ?_
  refine V_icmp_geN (pc := 10) o 17 dy (ba p) rfl rfl (by have := hba p; omega) (by have := hba p; omega) dX9_isAway_10 (by decide) (fun c10 => absurd c10 (by omega)) (fun c10 => ?_)
  refine V_iconst (pc := 13) o 1 dX9_isAway_13 (by decide) ?_
  refine V_goto (pc := 14) o 18 dX9_isAway_14 (by decide) ?_
  exact fin 18 _ _ () dX9_isAway_18 rfl rfl
set_option maxHeartbeats 4000000 in
set_option maxRecDepth 100000 in
/-- reference: awayF -/
theorem k9_awayF (l : Launch) (D : va_G) (tys : List (ClassId × FieldType)) (cI : ClassId) (ht : tys[0]? = some (cI, .int)) (ad : Nat → Nat) (vc : Nat → Nat) (vr : Nat → Nat) (vn : Nat → Nat) (ne : Nat → Nat) (vs : Nat → Nat) (li : Nat → Nat) (ba : Nat → Nat) (de : Nat → Nat) (qp : Nat → Nat) (qt : Nat → Nat) (ql : Nat → Nat) (qs : Nat → Nat) (qc : Nat → Nat) (ch : Nat → Nat) (ap : Nat → Nat) (un : Nat → Int32) (ro : Nat → Nat) (pi : Nat → Nat) (si : Nat → Nat) (pl : Nat → Int32) (rq : Nat) (dy : Nat) (en : Nat) (th : Int32) (p : Nat) (hp : p < 8) (hba : ∀ k, ba k ≤ 40000) (hdy : dy ≤ 40000) (h : ba p ≤ dy) : CId l yX9_isAway wsX9_isAway 0 D tys [.ref (ad 0), .int (nI p)] (wMod cI ad vc vr vn ne vs li ba de qp qt ql qs qc ch ap un ro pi si pl rq dy en th) 0 (wMod cI ad vc vr vn ne vs li ba de qp qt ql qs qc ch ap un ro pi si pl rq dy en th) := by
  refine CI_of (maxL := 2) (cc := cX9_isAway) (y := yX9_isAway) rfl rfl (Nat.le_of_ble_eq_true rfl) (fun X hl hD hk hn hcz hsz o fin => ?_)
  subst hl; subst hD; subst hk
  refine V_aload_n (pc := 0) o dX9_isAway_0 rfl ?_
  refine V_get (pc := 1) o 0 17 hiX9_isAway rfl rfl (by decide) lkX9_isAway_119 rfl rfl dX9_isAway_1 ?_
  refine V_aload_n (pc := 4) o dX9_isAway_4 rfl ?_
  refine V_get (pc := 5) o 0 6 hiX9_isAway rfl rfl (by decide) lkX9_isAway_28 rfl rfl dX9_isAway_5 ?_
  refine V_iload_n (pc := 8) o dX9_isAway_8 rfl ?_
  refine V_ialdN (pc := 9) o 7 ba p rfl ht rfl (by omega) (by decide) dX9_isAway_9 ?_
  refine V_icmp_geN (pc := 10) o 17 dy (ba p) rfl rfl (by have := hba p; omega) (by have := hba p; omega) dX9_isAway_10 (by decide) (fun c10 => ?_) (fun c10 => absurd c10 (by omega))
  refine V_iconst (pc := 17) o 0 dX9_isAway_17 (by decide) ?_
  exact fin 18 _ _ () dX9_isAway_18 rfl rfl
