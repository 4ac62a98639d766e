/-! The reference: forWhom, approve, pass, strain. -/
def fwN (li ba de : Nat → Nat) (dy c p : Nat) : Nat → Int32
  | 0 => -1
  | n + 1 => if dy < ba (8 - (n + 1)) ∧ de (8 - (n + 1)) = p ∧ c ≤ li (8 - (n + 1)) ∧ c ≤ 2 * li p then nI (8 - (n + 1)) else fwN li ba de dy c p n
def fwF (li ba de qp qc : Nat → Nat) (dy q p : Nat) : Int32 := if p = qp q ∨ dy < ba p then -1 else if qc q ≤ li p then nI p else fwN li ba de dy (qc q) p 8
theorem hiX9_forWhom : ∀ w ∈ wsX90, w ∈ wsX9_forWhom := by decide +kernel
theorem lkX9_forWhom_31 : Cond.fieldLink RX9 31 RX9 "deputy" "[I" ∈ wsX9_forWhom := by decide +kernel
theorem lkX9_forWhom_25 : Cond.fieldLink RX9 25 RX9 "lim" "[I" ∈ wsX9_forWhom := by decide +kernel
theorem lkX9_forWhom_46 : Cond.fieldLink RX9 46 RX9 "qc" "[I" ∈ wsX9_forWhom := by decide +kernel
set_option maxHeartbeats 4000000 in
set_option maxRecDepth 100000 in
theorem lpX9_forWhom {X : XT} (o : OkX X cX9_forWhom RX9 wsX9_forWhom 3) (hn : XN X = 4) (cI : ClassId) (ht : (XK X)[0]? = some (cI, .int)) (ad : Nat → Nat) (vc : Nat → Nat) (vr : Nat → Nat) (vn : Nat → Nat) (ne : Nat → Nat) (vs : Nat → Nat) (li : Nat → Nat) (ba : Nat → Nat) (de : Nat → Nat) (qp : Nat → Nat) (qt : Nat → Nat) (ql : Nat → Nat) (qs : Nat → Nat) (qc : Nat → Nat) (ch : Nat → Nat) (ap : Nat → Nat) (un : Nat → Int32) (ro : Nat → Nat) (pi : Nat → Nat) (si : Nat → Nat) (pl : Nat → Int32) (rq : Nat) (dy : Nat) (en : Nat) (th : Int32) (q p : Nat) (hq : q < 30) (hp : p < 8) (hba : ∀ k, ba k ≤ 40000) (hdy : dy ≤ 40000) (hli : ∀ k, li k ≤ 10000) (hqc : ∀ k, qc k ≤ 8000) (hqp : ∀ k, qp k ≤ 7) (hde : ∀ k, de k ≤ 7) : ∀ n : Nat, n ≤ 8 → (∀ pc lc v, decode cX9_forWhom pc = .ok (.ireturn, 1) → v = fwN li ba de dy (qc q) p n → V X 0 0 (wMod cI ad vc vr vn ne vs li ba de qp qt ql qs qc ch ap un ro pi si pl rq dy en th) pc lc [.int v]) → V X 0 0 (wMod cI ad vc vr vn ne vs li ba de qp qt ql qs qc ch ap un ro pi si pl rq dy en th) 39 [(0, .ref (ad 0)), (1, .int (nI q)), (2, .int (nI p)), (3, .int (nI (8 - n)))] [] := by
  intro n
  induction n with
  | zero =>
    intro h1 fin
    refine V_iload_n (pc := 39) o dX9_forWhom_39 rfl ?_
    refine V_bipush (pc := 40) o 8 dX9_forWhom_40 (by decide) ?_
    refine V_icmp_geN (pc := 42) o 103 (8 - 0) 8 rfl rfl (by omega) (by omega) dX9_forWhom_42 (by decide) (fun c42 => ?_) (fun c42 => absurd c42 (by omega))
    refine V_iconst (pc := 103) o (-1) dX9_forWhom_103 (by decide) ?_
    exact fin 104 _ _ dX9_forWhom_104 rfl
  | succ n ih =>
    intro h1 fin
    rcases Nat.lt_or_ge dy (ba (8 - (n + 1))) with ha | ha
    · refine V_iload_n (pc := 39) o dX9_forWhom_39 rfl ?_
      refine V_bipush (pc := 40) o 8 dX9_forWhom_40 (by decide) ?_
      refine V_icmp_geN (pc := 42) o 103 (8 - (n + 1)) 8 rfl rfl (by have := hli (8 - (n + 1)); have := hqc q; have := hde (8 - (n + 1)); have := hli p; omega) (by have := hli (8 - (n + 1)); have := hqc q; have := hde (8 - (n + 1)); have := hli p; omega) dX9_forWhom_42 (by decide) (fun c42 => absurd c42 (by omega)) (fun c42 => ?_)
      refine V_aload_n (pc := 45) o dX9_forWhom_45 rfl ?_
      refine V_iload_n (pc := 46) o dX9_forWhom_46 rfl ?_
      refine V_rVi (pc := 47) o (k9_awayT _ _ _ cI ht ad vc vr vn ne vs li ba de qp qt ql qs qc ch ap un ro pi si pl rq dy en th (8 - (n + 1)) (by omega) hba hdy (by omega)) 0 21 gX9_forWhom_X9_isAway rfl hdX9_isAway ⟨by omega, by decide⟩ rfl rfl rfl (Nat.le_of_ble_eq_true rfl) dX9_forWhom_47 rfl ?_
      refine V_if_eq (pc := 50) o 97 dX9_forWhom_50 (by decide) (fun c50 => absurd c50 (by decide)) (fun _ => ?_)
      refine V_aload_n (pc := 53) o dX9_forWhom_53 rfl ?_
      refine V_get (pc := 54) o 0 7 hiX9_forWhom rfl rfl (by decide) lkX9_forWhom_31 rfl rfl dX9_forWhom_54 ?_
      refine V_iload_n (pc := 57) o dX9_forWhom_57 rfl ?_
      refine V_ialdN (pc := 58) o 8 de (8 - (n + 1)) rfl ht rfl (by have := hli (8 - (n + 1)); have := hqc q; have := hde (8 - (n + 1)); have := hli p; omega) (by decide) dX9_forWhom_58 ?_
      refine V_iload_n (pc := 59) o dX9_forWhom_59 rfl ?_
      refine V_icmp_neN (pc := 60) o 97 (de (8 - (n + 1))) p rfl rfl (by have := hli (8 - (n + 1)); have := hqc q; have := hde (8 - (n + 1)); have := hli p; omega) (by have := hli (8 - (n + 1)); have := hqc q; have := hde (8 - (n + 1)); have := hli p; omega) dX9_forWhom_60 (by decide) (fun c60 => ?_) (fun c60 => ?_)
      · refine V_iincN (pc := 97) o (8 - (n + 1)) 1 rfl dX9_forWhom_97 (by rw [hn]; decide) rfl (by decide) ?_
        refine V_goto (pc := 100) o 39 dX9_forWhom_100 (by decide) ?_
        refine V_sub (lc2 := [(0, .ref (ad 0)), (1, .int (nI q)), (2, .int (nI p)), (3, .int (nI (8 - n)))]) ⟨rfl, rfl, rfl, lc_e (by congr 1; omega), trivial⟩ ?_
        exact ih (by omega) (fun pc lc v dg e => fin pc lc v dg (by rw [e, fwN, if_neg (by omega)]))
      · refine V_aload_n (pc := 63) o dX9_forWhom_63 rfl ?_
        refine V_get (pc := 64) o 0 5 hiX9_forWhom rfl rfl (by decide) lkX9_forWhom_25 rfl rfl dX9_forWhom_64 ?_
        refine V_iload_n (pc := 67) o dX9_forWhom_67 rfl ?_
        refine V_ialdN (pc := 68) o 6 li (8 - (n + 1)) rfl ht rfl (by have := hli (8 - (n + 1)); have := hqc q; have := hde (8 - (n + 1)); have := hli p; omega) (by decide) dX9_forWhom_68 ?_
        refine V_aload_n (pc := 69) o dX9_forWhom_69 rfl ?_
        refine V_get (pc := 70) o 0 12 hiX9_forWhom rfl rfl (by decide) lkX9_forWhom_46 rfl rfl dX9_forWhom_70 ?_
        refine V_iload_n (pc := 73) o dX9_forWhom_73 rfl ?_
        refine V_ialdN (pc := 74) o 13 qc q rfl ht rfl (by have := hli (8 - (n + 1)); have := hqc q; have := hde (8 - (n + 1)); have := hli p; omega) (by decide) dX9_forWhom_74 ?_
        refine V_icmp_ltN (pc := 75) o 97 (li (8 - (n + 1))) (qc q) rfl rfl (by have := hli (8 - (n + 1)); have := hqc q; have := hde (8 - (n + 1)); have := hli p; omega) (by have := hli (8 - (n + 1)); have := hqc q; have := hde (8 - (n + 1)); have := hli p; omega) dX9_forWhom_75 (by decide) (fun c75 => ?_) (fun c75 => ?_)
        · refine V_iincN (pc := 97) o (8 - (n + 1)) 1 rfl dX9_forWhom_97 (by rw [hn]; decide) rfl (by decide) ?_
          refine V_goto (pc := 100) o 39 dX9_forWhom_100 (by decide) ?_
          refine V_sub (lc2 := [(0, .ref (ad 0)), (1, .int (nI q)), (2, .int (nI p)), (3, .int (nI (8 - n)))]) ⟨rfl, rfl, rfl, lc_e (by congr 1; omega), trivial⟩ ?_
          exact ih (by omega) (fun pc lc v dg e => fin pc lc v dg (by rw [e, fwN, if_neg (by omega)]))
        · refine V_aload_n (pc := 78) o dX9_forWhom_78 rfl ?_
          refine V_get (pc := 79) o 0 12 hiX9_forWhom rfl rfl (by decide) lkX9_forWhom_46 rfl rfl dX9_forWhom_79 ?_
          refine V_iload_n (pc := 82) o dX9_forWhom_82 rfl ?_
          refine V_ialdN (pc := 83) o 13 qc q rfl ht rfl (by have := hli (8 - (n + 1)); have := hqc q; have := hde (8 - (n + 1)); have := hli p; omega) (by decide) dX9_forWhom_83 ?_
          refine V_iconst (pc := 84) o 2 dX9_forWhom_84 (by decide) ?_
          refine V_aload_n (pc := 85) o dX9_forWhom_85 rfl ?_
          refine V_get (pc := 86) o 0 5 hiX9_forWhom rfl rfl (by decide) lkX9_forWhom_25 rfl rfl dX9_forWhom_86 ?_
          refine V_iload_n (pc := 89) o dX9_forWhom_89 rfl ?_
          refine V_ialdN (pc := 90) o 6 li p rfl ht rfl (by have := hli (8 - (n + 1)); have := hqc q; have := hde (8 - (n + 1)); have := hli p; omega) (by decide) dX9_forWhom_90 ?_
          refine V_imulN (pc := 91) o 2 (li p) rfl rfl dX9_forWhom_91 ?_
          refine V_icmp_gtN (pc := 92) o 97 (qc q) (2 * (li p)) rfl rfl (by have := hli (8 - (n + 1)); have := hqc q; have := hde (8 - (n + 1)); have := hli p; omega) (by have := hli (8 - (n + 1)); have := hqc q; have := hde (8 - (n + 1)); have := hli p; omega) dX9_forWhom_92 (by decide) (fun c92 => ?_) (fun c92 => ?_)
          · refine V_iincN (pc := 97) o (8 - (n + 1)) 1 rfl dX9_forWhom_97 (by rw [hn]; decide) rfl (by decide) ?_
            refine V_goto (pc := 100) o 39 dX9_forWhom_100 (by decide) ?_
            refine V_sub (lc2 := [(0, .ref (ad 0)), (1, .int (nI q)), (2, .int (nI p)), (3, .int (nI (8 - n)))]) ⟨rfl, rfl, rfl, lc_e (by congr 1; omega), trivial⟩ ?_
            exact ih (by omega) (fun pc lc v dg e => fin pc lc v dg (by rw [e, fwN, if_neg (by omega)]))
          · refine V_iload_n (pc := 95) o dX9_forWhom_95 rfl ?_
            exact fin 96 _ _ dX9_forWhom_96 (by rw [fwN, if_pos ⟨by omega, by omega, by omega, by omega⟩])
    · refine V_iload_n (pc := 39) o dX9_forWhom_39 rfl ?_
      refine V_bipush (pc := 40) o 8 dX9_forWhom_40 (by decide) ?_
      refine V_icmp_geN (pc := 42) o 103 (8 - (n + 1)) 8 rfl rfl (by have := hli (8 - (n + 1)); have := hqc q; have := hde (8 - (n + 1)); have := hli p; omega) (by have := hli (8 - (n + 1)); have := hqc q; have := hde (8 - (n + 1)); have := hli p; omega) dX9_forWhom_42 (by decide) (fun c42 => absurd c42 (by omega)) (fun c42 => ?_)
      refine V_aload_n (pc := 45) o dX9_forWhom_45 rfl ?_
      refine V_iload_n (pc := 46) o dX9_forWhom_46 rfl ?_
      refine V_rVi (pc := 47) o (k9_awayF _ _ _ cI ht ad vc vr vn ne vs li ba de qp qt ql qs qc ch ap un ro pi si pl rq dy en th (8 - (n + 1)) (by omega) hba hdy (by omega)) 0 21 gX9_forWhom_X9_isAway rfl hdX9_isAway ⟨by omega, by decide⟩ rfl rfl rfl (Nat.le_of_ble_eq_true rfl) dX9_forWhom_47 rfl ?_
      refine V_if_eq (pc := 50) o 97 dX9_forWhom_50 (by decide) (fun _ => ?_) (fun c50 => absurd c50 (by decide))
      refine V_iincN (pc := 97) o (8 - (n + 1)) 1 rfl dX9_forWhom_97 (by rw [hn]; decide) rfl (by decide) ?_
      refine V_goto (pc := 100) o 39 dX9_forWhom_100 (by decide) ?_
      refine V_sub (lc2 := [(0, .ref (ad 0)), (1, .int (nI q)), (2, .int (nI p)), (3, .int (nI (8 - n)))]) ⟨rfl, rfl, rfl, lc_e (by congr 1; omega), trivial⟩ ?_
      exact ih (by omega) (fun pc lc v dg e => fin pc lc v dg (by rw [e, fwN, if_neg (by omega)]))
theorem hdX9_forWhom : yX9_forWhom.cls = RX9 ∧ yX9_forWhom.cls ≠ "java/lang/invoke/MethodHandle" ∧ yX9_forWhom.cls ≠ "java/lang/invoke/VarHandle" ∧ (parseMethodDescriptor yX9_forWhom.desc).map (fun d => d.parameters.length) = some 2 := by decide +kernel
theorem lkX9_forWhom_34 : Cond.fieldLink RX9 34 RX9 "qp" "[I" ∈ wsX9_forWhom := by decide +kernel
set_option maxHeartbeats 4000000 in
set_option maxRecDepth 100000 in
/-- reference: fw1 -/
theorem k9_fw1 (l : Launch) (D : va_G) (tys : List (ClassId × FieldType)) (cI : ClassId) (ht : tys[0]? = some (cI, .int)) (ad : Nat → Nat) (vc : Nat → Nat) (vr : Nat → Nat) (vn : Nat → Nat) (ne : Nat → Nat) (vs : Nat → Nat) (li : Nat → Nat) (ba : Nat → Nat) (de : Nat → Nat) (qp : Nat → Nat) (qt : Nat → Nat) (ql : Nat → Nat) (qs : Nat → Nat) (qc : Nat → Nat) (ch : Nat → Nat) (ap : Nat → Nat) (un : Nat → Int32) (ro : Nat → Nat) (pi : Nat → Nat) (si : Nat → Nat) (pl : Nat → Int32) (rq : Nat) (dy : Nat) (en : Nat) (th : Int32) (q p : Nat) (hq : q < 30) (hp : p < 8) (hba : ∀ k, ba k ≤ 40000) (hdy : dy ≤ 40000) (hli : ∀ k, li k ≤ 10000) (hqc : ∀ k, qc k ≤ 8000) (hqp : ∀ k, qp k ≤ 7) (hde : ∀ k, de k ≤ 7) (h : p = qp q) : CId l yX9_forWhom wsX9_forWhom 3 D tys [.ref (ad 0), .int (nI q), .int (nI p)] (wMod cI ad vc vr vn ne vs li ba de qp qt ql qs qc ch ap un ro pi si pl rq dy en th) (fwF li ba de qp qc dy q p) (wMod cI ad vc vr vn ne vs li ba de qp qt ql qs qc ch ap un ro pi si pl rq dy en th) := by
  refine CI_of (maxL := 4) (cc := cX9_forWhom) (y := yX9_forWhom) rfl rfl (Nat.le_of_ble_eq_true rfl) (fun X hl hD hk hn hcz hsz o fin => ?_)
  subst hl; subst hD; subst hk
  refine V_iload_n (pc := 0) o dX9_forWhom_0 rfl ?_
  refine V_aload_n (pc := 1) o dX9_forWhom_1 rfl ?_
  refine V_get (pc := 2) o 0 8 hiX9_forWhom rfl rfl (by decide) lkX9_forWhom_34 rfl rfl dX9_forWhom_2 ?_
  refine V_iload_n (pc := 5) o dX9_forWhom_5 rfl ?_
  refine V_ialdN (pc := 6) o 9 qp q rfl ht rfl (by have := hqp q; have := hli p; have := hqc q; have := hba p; omega) (by decide) dX9_forWhom_6 ?_
  refine V_icmp_eqN (pc := 7) o 18 p (qp q) rfl rfl (by have := hqp q; have := hli p; have := hqc q; have := hba p; omega) (by have := hqp q; have := hli p; have := hqc q; have := hba p; omega) dX9_forWhom_7 (by decide) (fun c7 => ?_) (fun c7 => absurd c7 (by omega))
  refine V_iconst (pc := 18) o (-1) dX9_forWhom_18 (by decide) ?_
  exact fin 19 _ _ () dX9_forWhom_19 rfl (by unfold fwF; first | (rw [if_pos (by omega)]; done) | (rw [if_neg (by omega), if_pos (by omega)]; done))
set_option maxHeartbeats 4000000 in
set_option maxRecDepth 100000 in
/-- reference: fw2 -/
theorem k9_fw2 (l : Launch) (D : va_G) (tys : List (ClassId × FieldType)) (cI : ClassId) (ht : tys[0]? = some (cI, .int)) (ad : Nat → Nat) (vc : Nat → Nat) (vr : Nat → Nat) (vn : Nat → Nat) (ne : Nat → Nat) (vs : Nat → Nat) (li : Nat → Nat) (ba : Nat → Nat) (de : Nat → Nat) (qp : Nat → Nat) (qt : Nat → Nat) (ql : Nat → Nat) (qs : Nat → Nat) (qc : Nat → Nat) (ch : Nat → Nat) (ap : Nat → Nat) (un : Nat → Int32) (ro : Nat → Nat) (pi : Nat → Nat) (si : Nat → Nat) (pl : Nat → Int32) (rq : Nat) (dy : Nat) (en : Nat) (th : Int32) (q p : Nat) (hq : q < 30) (hp : p < 8) (hba : ∀ k, ba k ≤ 40000) (hdy : dy ≤ 40000) (hli : ∀ k, li k ≤ 10000) (hqc : ∀ k, qc k ≤ 8000) (hqp : ∀ k, qp k ≤ 7) (hde : ∀ k, de k ≤ 7) (h : ¬ p = qp q) (h2 : dy < ba p) : CId l yX9_forWhom wsX9_forWhom 3 D tys [.ref (ad 0), .int (nI q), .int (nI p)] (wMod cI ad vc vr vn ne vs li ba de qp qt ql qs qc ch ap un ro pi si pl rq dy en th) (fwF li ba de qp qc dy q p) (wMod cI ad vc vr vn ne vs li ba de qp qt ql qs qc ch ap un ro pi si pl rq dy en th) := by
  refine CI_of (maxL := 4) (cc := cX9_forWhom) (y := yX9_forWhom) rfl rfl (Nat.le_of_ble_eq_true rfl) (fun X hl hD hk hn hcz hsz o fin => ?_)
  subst hl; subst hD; subst hk
  refine V_iload_n (pc := 0) o dX9_forWhom_0 rfl ?_
  refine V_aload_n (pc := 1) o dX9_forWhom_1 rfl ?_
  refine V_get (pc := 2) o 0 8 hiX9_forWhom rfl rfl (by decide) lkX9_forWhom_34 rfl rfl dX9_forWhom_2 ?_
  refine V_iload_n (pc := 5) o dX9_forWhom_5 rfl ?_
  refine V_ialdN (pc := 6) o 9 qp q rfl ht rfl (by have := hqp q; have := hli p; have := hqc q; have := hba p; omega) (by decide) dX9_forWhom_6 ?_
  refine V_icmp_eqN (pc := 7) o 18 p (qp q) rfl rfl (by have := hqp q; have := hli p; have := hqc q; have := hba p; omega) (by have := hqp q; have := hli p; have := hqc q; have := hba p; omega) dX9_forWhom_7 (by decide) (fun c7 => absurd c7 (by omega)) (fun c7 => ?_)
  refine V_aload_n (pc := 10) o dX9_forWhom_10 rfl ?_
  refine V_iload_n (pc := 11) o dX9_forWhom_11 rfl ?_
  refine V_rVi (pc := 12) o (k9_awayT _ _ _ cI ht ad vc vr vn ne vs li ba de qp qt ql qs qc ch ap un ro pi si pl rq dy en th p (by omega) hba hdy (by omega)) 0 21 gX9_forWhom_X9_isAway rfl hdX9_isAway ⟨by omega, by decide⟩ rfl rfl rfl (Nat.le_of_ble_eq_true rfl) dX9_forWhom_12 rfl ?_
  refine V_if_eq (pc := 15) o 20 dX9_forWhom_15 (by decide) (fun c15 => absurd c15 (by decide)) (fun _ => ?_)
  refine V_iconst (pc := 18) o (-1) dX9_forWhom_18 (by decide) ?_
  exact fin 19 _ _ () dX9_forWhom_19 rfl (by unfold fwF; first | (rw [if_pos (by omega)]; done) | (rw [if_neg (by omega), if_pos (by omega)]; done))
set_option maxHeartbeats 4000000 in
set_option maxRecDepth 100000 in
/-- reference: fw3 -/
theorem k9_fw3 (l : Launch) (D : va_G) (tys : List (ClassId × FieldType)) (cI : ClassId) (ht : tys[0]? = some (cI, .int)) (ad : Nat → Nat) (vc : Nat → Nat) (vr : Nat → Nat) (vn : Nat → Nat) (ne : Nat → Nat) (vs : Nat → Nat) (li : Nat → Nat) (ba : Nat → Nat) (de : Nat → Nat) (qp : Nat → Nat) (qt : Nat → Nat) (ql : Nat → Nat) (qs : Nat → Nat) (qc : Nat → Nat) (ch : Nat → Nat) (ap : Nat → Nat) (un : Nat → Int32) (ro : Nat → Nat) (pi : Nat → Nat) (si : Nat → Nat) (pl : Nat → Int32) (rq : Nat) (dy : Nat) (en : Nat) (th : Int32) (q p : Nat) (hq : q < 30) (hp : p < 8) (hba : ∀ k, ba k ≤ 40000) (hdy : dy ≤ 40000) (hli : ∀ k, li k ≤ 10000) (hqc : ∀ k, qc k ≤ 8000) (hqp : ∀ k, qp k ≤ 7) (hde : ∀ k, de k ≤ 7) (h : ¬ p = qp q) (h2 : ba p ≤ dy) : CId l yX9_forWhom wsX9_forWhom 3 D tys [.ref (ad 0), .int (nI q), .int (nI p)] (wMod cI ad vc vr vn ne vs li ba de qp qt ql qs qc ch ap un ro pi si pl rq dy en th) (fwF li ba de qp qc dy q p) (wMod cI ad vc vr vn ne vs li ba de qp qt ql qs qc ch ap un ro pi si pl rq dy en th) := by
  refine CI_of (maxL := 4) (cc := cX9_forWhom) (y := yX9_forWhom) rfl rfl (Nat.le_of_ble_eq_true rfl) (fun X hl hD hk hn hcz hsz o fin => ?_)
  subst hl; subst hD; subst hk
  refine V_iload_n (pc := 0) o dX9_forWhom_0 rfl ?_
  refine V_aload_n (pc := 1) o dX9_forWhom_1 rfl ?_
  refine V_get (pc := 2) o 0 8 hiX9_forWhom rfl rfl (by decide) lkX9_forWhom_34 rfl rfl dX9_forWhom_2 ?_
  refine V_iload_n (pc := 5) o dX9_forWhom_5 rfl ?_
  refine V_ialdN (pc := 6) o 9 qp q rfl ht rfl (by have := hqp q; have := hli p; have := hqc q; have := hba p; omega) (by decide) dX9_forWhom_6 ?_
  refine V_icmp_eqN (pc := 7) o 18 p (qp q) rfl rfl (by have := hqp q; have := hli p; have := hqc q; have := hba p; omega) (by have := hqp q; have := hli p; have := hqc q; have := hba p; omega) dX9_forWhom_7 (by decide) (fun c7 => absurd c7 (by omega)) (fun c7 => ?_)
  refine V_aload_n (pc := 10) o dX9_forWhom_10 rfl ?_
  refine V_iload_n (pc := 11) o dX9_forWhom_11 rfl ?_
  refine V_rVi (pc := 12) o (k9_awayF _ _ _ cI ht ad vc vr vn ne vs li ba de qp qt ql qs qc ch ap un ro pi si pl rq dy en th p (by omega) hba hdy (by omega)) 0 21 gX9_forWhom_X9_isAway rfl hdX9_isAway ⟨by omega, by decide⟩ rfl rfl rfl (Nat.le_of_ble_eq_true rfl) dX9_forWhom_12 rfl ?_
  refine V_if_eq (pc := 15) o 20 dX9_forWhom_15 (by decide) (fun _ => ?_) (fun c15 => absurd c15 (by decide))
  refine V_aload_n (pc := 20) o dX9_forWhom_20 rfl ?_
  refine V_get (pc := 21) o 0 5 hiX9_forWhom rfl rfl (by decide) lkX9_forWhom_25 rfl rfl dX9_forWhom_21 ?_
  refine V_iload_n (pc := 24) o dX9_forWhom_24 rfl ?_
  refine V_ialdN (pc := 25) o 6 li p rfl ht rfl (by have := hqp q; have := hli p; have := hqc q; have := hba p; omega) (by decide) dX9_forWhom_25 ?_
  refine V_aload_n (pc := 26) o dX9_forWhom_26 rfl ?_
  refine V_get (pc := 27) o 0 12 hiX9_forWhom rfl rfl (by decide) lkX9_forWhom_46 rfl rfl dX9_forWhom_27 ?_
  refine V_iload_n (pc := 30) o dX9_forWhom_30 rfl ?_
  refine V_ialdN (pc := 31) o 13 qc q rfl ht rfl (by have := hqp q; have := hli p; have := hqc q; have := hba p; omega) (by decide) dX9_forWhom_31 ?_
  refine V_icmp_ltN (pc := 32) o 37 (li p) (qc q) rfl rfl (by have := hqp q; have := hli p; have := hqc q; have := hba p; omega) (by have := hqp q; have := hli p; have := hqc q; have := hba p; omega) dX9_forWhom_32 (by decide) (fun c32 => ?_) (fun c32 => ?_)
  · refine V_iconst (pc := 37) o 0 dX9_forWhom_37 (by decide) ?_
    refine V_istore_n (pc := 38) o dX9_forWhom_38 (by rw [hn]; decide) ?_
    refine V_sub (lc2 := [(0, .ref (ad 0)), (1, .int (nI q)), (2, .int (nI p)), (3, .int (nI (8 - 8)))]) ⟨rfl, rfl, rfl, rfl, trivial⟩ ?_
    exact lpX9_forWhom o hn cI ht ad vc vr vn ne vs li ba de qp qt ql qs qc ch ap un ro pi si pl rq dy en th q p hq hp hba hdy hli hqc hqp hde 8 (by omega) (fun pc lc v dg e => fin pc lc v () dg rfl (by rw [e]; unfold fwF; rw [if_neg (by omega), if_neg (by omega)]))
  · refine V_iload_n (pc := 35) o dX9_forWhom_35 rfl ?_
    exact fin 36 _ _ () dX9_forWhom_36 rfl (by unfold fwF; first | (rw [if_pos (by omega)]; done) | (rw [if_neg (by omega), if_pos (by omega)]; done))
theorem k9_forWhom (l : Launch) (D : va_G) (tys : List (ClassId × FieldType)) (cI : ClassId) (ht : tys[0]? = some (cI, .int)) (ad : Nat → Nat) (vc : Nat → Nat) (vr : Nat → Nat) (vn : Nat → Nat) (ne : Nat → Nat) (vs : Nat → Nat) (li : Nat → Nat) (ba : Nat → Nat) (de : Nat → Nat) (qp : Nat → Nat) (qt : Nat → Nat) (ql : Nat → Nat) (qs : Nat → Nat) (qc : Nat → Nat) (ch : Nat → Nat) (ap : Nat → Nat) (un : Nat → Int32) (ro : Nat → Nat) (pi : Nat → Nat) (si : Nat → Nat) (pl : Nat → Int32) (rq : Nat) (dy : Nat) (en : Nat) (th : Int32) (q p : Nat) (hq : q < 30) (hp : p < 8) (hba : ∀ k, ba k ≤ 40000) (hdy : dy ≤ 40000) (hli : ∀ k, li k ≤ 10000) (hqc : ∀ k, qc k ≤ 8000) (hqp : ∀ k, qp k ≤ 7) (hde : ∀ k, de k ≤ 7) : CId l yX9_forWhom wsX9_forWhom 3 D tys [.ref (ad 0), .int (nI q), .int (nI p)] (wMod cI ad vc vr vn ne vs li ba de qp qt ql qs qc ch ap un ro pi si pl rq dy en th) (fwF li ba de qp qc dy q p) (wMod cI ad vc vr vn ne vs li ba de qp qt ql qs qc ch ap un ro pi si pl rq dy en th) := by
  by_cases h : p = qp q
  · exact k9_fw1 l D tys cI ht ad vc vr vn ne vs li ba de qp qt ql qs qc ch ap un ro pi si pl rq dy en th q p hq hp hba hdy hli hqc hqp hde h
  · rcases Nat.lt_or_ge dy (ba p) with h2 | h2
    · exact k9_fw2 l D tys cI ht ad vc vr vn ne vs li ba de qp qt ql qs qc ch ap un ro pi si pl rq dy en th q p hq hp hba hdy hli hqc hqp hde h h2
    · exact k9_fw3 l D tys cI ht ad vc vr vn ne vs li ba de qp qt ql qs qc ch ap un ro pi si pl rq dy en th q p hq hp hba hdy hli hqc hqp hde h h2
theorem fwN_b (li ba de : Nat → Nat) (dy c p : Nat) : ∀ n, n ≤ 8 → fwN li ba de dy c p n = -1 ∨ ∃ w, w < 8 ∧ fwN li ba de dy c p n = nI w
  | 0, _ => Or.inl rfl
  | n + 1, h => by
    unfold fwN
    split
    · exact Or.inr ⟨8 - (n + 1), by omega, rfl⟩
    · exact fwN_b li ba de dy c p n (by omega)
theorem fwF_b (li ba de qp qc : Nat → Nat) (dy q : Nat) {p : Nat} (hp : p < 8) : fwF li ba de qp qc dy q p = -1 ∨ ∃ w, w < 8 ∧ fwF li ba de qp qc dy q p = nI w := by
  unfold fwF
  split
  · exact Or.inl rfl
  · split
    · exact Or.inr ⟨p, hp, rfl⟩
    · exact fwN_b _ _ _ _ _ _ 8 (Nat.le_refl _)
theorem hdX9_approve : yX9_approve.cls = RX9 ∧ yX9_approve.cls ≠ "java/lang/invoke/MethodHandle" ∧ yX9_approve.cls ≠ "java/lang/invoke/VarHandle" ∧ (parseMethodDescriptor yX9_approve.desc).map (fun d => d.parameters.length) = some 2 := by decide +kernel
set_option maxHeartbeats 4000000 in
set_option maxRecDepth 100000 in
/-- reference: approve1a -/
theorem k9_approve1a (l : Launch) (D : va_G) (tys : List (ClassId × FieldType)) (cI : ClassId) (ht : tys[0]? = some (cI, .int)) (ad : Nat → Nat) (vc : Nat → Nat) (vr : Nat → Nat) (vn : Nat → Nat) (ne : Nat → Nat) (vs : Nat → Nat) (li : Nat → Nat) (ba : Nat → Nat) (de : Nat → Nat) (qp : Nat → Nat) (qt : Nat → Nat) (ql : Nat → Nat) (qs : Nat → Nat) (qc : Nat → Nat) (ch : Nat → Nat) (ap : Nat → Nat) (un : Nat → Int32) (ro : Nat → Nat) (pi : Nat → Nat) (si : Nat → Nat) (pl : Nat → Int32) (rq : Nat) (dy : Nat) (en : Nat) (th : Int32) (q p : Int32) (h : q < 0 ∨ nI rq ≤ q) (hrq : rq ≤ 30) : CId l yX9_approve wsX9_approve 2 D tys [.ref (ad 0), .int q, .int p] (wMod cI ad vc vr vn ne vs li ba de qp qt ql qs qc ch ap un ro pi si pl rq dy en th) (-1) (wMod cI ad vc vr vn ne vs li ba de qp qt ql qs qc ch ap un ro pi si pl rq dy en 1) := by
  refine CI_of (maxL := 6) (cc := cX9_approve) (y := yX9_approve) rfl rfl (Nat.le_of_ble_eq_true rfl) (fun X hl hD hk hn hcz hsz o fin => ?_)
  subst hl; subst hD; subst hk
  refine V_aload_n (pc := 0) o dX9_approve_0 rfl ?_
  refine V_iload_n (pc := 1) o dX9_approve_1 rfl ?_
  refine V_rVi (pc := 2) o (k9_reqF _ _ _ cI ht ad vc vr vn ne vs li ba de qp qt ql qs qc ch ap un ro pi si pl rq dy en th q h hrq) 0 21 gX9_approve_X9_isRequest rfl hdX9_isRequest ⟨by omega, by decide⟩ rfl rfl rfl (Nat.le_of_ble_eq_true rfl) dX9_approve_2 rfl ?_
  refine V_if_eq (pc := 5) o 20 dX9_approve_5 (by decide) (fun _ => ?_) (fun c5 => absurd c5 (by decide))
  refine V_iconst (pc := 20) o 0 dX9_approve_20 (by decide) ?_
  refine V_istore_n (pc := 21) o dX9_approve_21 (by rw [hn]; decide) ?_
  refine V_iload_n (pc := 22) o dX9_approve_22 rfl ?_
  refine V_if_eq (pc := 23) o 63 dX9_approve_23 (by decide) (fun _ => ?_) (fun c23 => absurd c23 (by decide))
  refine V_iconst (pc := 63) o 0 dX9_approve_63 (by decide) ?_
  refine V_istore (pc := 64) o dX9_approve_64 (by rw [hn]; decide) ?_
  refine V_aload_n (pc := 66) o dX9_approve_66 rfl ?_
  refine V_iload_n (pc := 67) o dX9_approve_67 rfl ?_
  refine V_if_ne (pc := 68) o 75 dX9_approve_68 (by decide) (fun c68 => absurd c68 (by decide)) (fun _ => ?_)
  refine V_iconst (pc := 71) o 1 dX9_approve_71 (by decide) ?_
  refine V_goto (pc := 72) o 85 dX9_approve_72 (by decide) ?_
  refine V_wVi (pc := 85) o (k9_holds _ _ _ cI ht ad vc vr vn ne vs li ba de qp qt ql qs qc ch ap un ro pi si pl rq dy en th 1) 0 21 (wMod cI ad vc vr vn ne vs li ba de qp qt ql qs qc ch ap un ro pi si pl rq dy en 1) gX9_approve_X9_holds rfl hdX9_holds ⟨by omega, by decide⟩ rfl rfl rfl (Nat.le_of_ble_eq_true rfl) dX9_approve_85 rfl rfl ?_
  refine V_ifT (by decide) ?_
  refine V_if_eq (pc := 88) o 93 dX9_approve_88 (by decide) (fun c88 => absurd c88 (by decide)) (fun _ => ?_)
  refine V_iconst (pc := 91) o (-1) dX9_approve_91 (by decide) ?_
  exact fin 92 _ _ () dX9_approve_92 rfl rfl
set_option maxHeartbeats 4000000 in
set_option maxRecDepth 100000 in
/-- reference: approve1b -/
theorem k9_approve1b (l : Launch) (D : va_G) (tys : List (ClassId × FieldType)) (cI : ClassId) (ht : tys[0]? = some (cI, .int)) (ad : Nat → Nat) (vc : Nat → Nat) (vr : Nat → Nat) (vn : Nat → Nat) (ne : Nat → Nat) (vs : Nat → Nat) (li : Nat → Nat) (ba : Nat → Nat) (de : Nat → Nat) (qp : Nat → Nat) (qt : Nat → Nat) (ql : Nat → Nat) (qs : Nat → Nat) (qc : Nat → Nat) (ch : Nat → Nat) (ap : Nat → Nat) (un : Nat → Int32) (ro : Nat → Nat) (pi : Nat → Nat) (si : Nat → Nat) (pl : Nat → Int32) (rq : Nat) (dy : Nat) (en : Nat) (th : Int32) (q : Nat) (hq : q < rq) (p : Int32) (hrq : rq ≤ 30) (h : ¬ ((0 : Int32) ≤ p ∧ p ≤ 7)) : CId l yX9_approve wsX9_approve 2 D tys [.ref (ad 0), .int (nI q), .int p] (wMod cI ad vc vr vn ne vs li ba de qp qt ql qs qc ch ap un ro pi si pl rq dy en th) (-1) (wMod cI ad vc vr vn ne vs li ba de qp qt ql qs qc ch ap un ro pi si pl rq dy en 1) := by
  refine CI_of (maxL := 6) (cc := cX9_approve) (y := yX9_approve) rfl rfl (Nat.le_of_ble_eq_true rfl) (fun X hl hD hk hn hcz hsz o fin => ?_)
  subst hl; subst hD; subst hk
  refine V_aload_n (pc := 0) o dX9_approve_0 rfl ?_
  refine V_iload_n (pc := 1) o dX9_approve_1 rfl ?_
  refine V_rVi (pc := 2) o (k9_reqT _ _ _ cI ht ad vc vr vn ne vs li ba de qp qt ql qs qc ch ap un ro pi si pl rq dy en th q (by omega) hrq) 0 21 gX9_approve_X9_isRequest rfl hdX9_isRequest ⟨by omega, by decide⟩ rfl rfl rfl (Nat.le_of_ble_eq_true rfl) dX9_approve_2 rfl ?_
  refine V_if_eq (pc := 5) o 20 dX9_approve_5 (by decide) (fun c5 => absurd c5 (by decide)) (fun _ => ?_)
  refine V_aload_n (pc := 8) o dX9_approve_8 rfl ?_
  refine V_iload_n (pc := 9) o dX9_approve_9 rfl ?_
  refine V_rVi (pc := 10) o (k9_eightF _ _ _ cI ht ad vc vr vn ne vs li ba de qp qt ql qs qc ch ap un ro pi si pl rq dy en th p h) 0 21 gX9_approve_X9_isEight rfl hdX9_isEight ⟨by omega, by decide⟩ rfl rfl rfl (Nat.le_of_ble_eq_true rfl) dX9_approve_10 rfl ?_
  refine V_if_eq (pc := 13) o 20 dX9_approve_13 (by decide) (fun _ => ?_) (fun c13 => absurd c13 (by decide))
  refine V_iconst (pc := 20) o 0 dX9_approve_20 (by decide) ?_
  refine V_istore_n (pc := 21) o dX9_approve_21 (by rw [hn]; decide) ?_
  refine V_iload_n (pc := 22) o dX9_approve_22 rfl ?_
  refine V_if_eq (pc := 23) o 63 dX9_approve_23 (by decide) (fun _ => ?_) (fun c23 => absurd c23 (by decide))
  refine V_iconst (pc := 63) o 0 dX9_approve_63 (by decide) ?_
  refine V_istore (pc := 64) o dX9_approve_64 (by rw [hn]; decide) ?_
  refine V_aload_n (pc := 66) o dX9_approve_66 rfl ?_
  refine V_iload_n (pc := 67) o dX9_approve_67 rfl ?_
  refine V_if_ne (pc := 68) o 75 dX9_approve_68 (by decide) (fun c68 => absurd c68 (by decide)) (fun _ => ?_)
  refine V_iconst (pc := 71) o 1 dX9_approve_71 (by decide) ?_
  refine V_goto (pc := 72) o 85 dX9_approve_72 (by decide) ?_
  refine V_wVi (pc := 85) o (k9_holds _ _ _ cI ht ad vc vr vn ne vs li ba de qp qt ql qs qc ch ap un ro pi si pl rq dy en th 1) 0 21 (wMod cI ad vc vr vn ne vs li ba de qp qt ql qs qc ch ap un ro pi si pl rq dy en 1) gX9_approve_X9_holds rfl hdX9_holds ⟨by omega, by decide⟩ rfl rfl rfl (Nat.le_of_ble_eq_true rfl) dX9_approve_85 rfl rfl ?_
  refine V_ifT (by decide) ?_
  refine V_if_eq (pc := 88) o 93 dX9_approve_88 (by decide) (fun c88 => absurd c88 (by decide)) (fun _ => ?_)
  refine V_iconst (pc := 91) o (-1) dX9_approve_91 (by decide) ?_
  exact fin 92 _ _ () dX9_approve_92 rfl rfl
theorem hiX9_approve : ∀ w ∈ wsX90, w ∈ wsX9_approve := by decide +kernel
theorem lkX9_approve_43 : Cond.fieldLink RX9 43 RX9 "qs" "[I" ∈ wsX9_approve := by decide +kernel
set_option maxHeartbeats 4000000 in
set_option maxRecDepth 100000 in
/-- reference: approve2a -/
theorem k9_approve2a (l : Launch) (D : va_G) (tys : List (ClassId × FieldType)) (cI : ClassId) (ht : tys[0]? = some (cI, .int)) (ad : Nat → Nat) (vc : Nat → Nat) (vr : Nat → Nat) (vn : Nat → Nat) (ne : Nat → Nat) (vs : Nat → Nat) (li : Nat → Nat) (ba : Nat → Nat) (de : Nat → Nat) (qp : Nat → Nat) (qt : Nat → Nat) (ql : Nat → Nat) (qs : Nat → Nat) (qc : Nat → Nat) (ch : Nat → Nat) (ap : Nat → Nat) (un : Nat → Int32) (ro : Nat → Nat) (pi : Nat → Nat) (si : Nat → Nat) (pl : Nat → Int32) (rq : Nat) (dy : Nat) (en : Nat) (th : Int32) (q p : Nat) (hq : q < rq) (hp : p < 8) (hrq : rq ≤ 30) (hqs : ∀ k, qs k ≤ 2) (hap : ∀ k, ap k ≤ 8) (hba : ∀ k, ba k ≤ 40000) (hdy : dy ≤ 40000) (hli : ∀ k, li k ≤ 10000) (hqc : ∀ k, qc k ≤ 8000) (hqp : ∀ k, qp k ≤ 7) (hde : ∀ k, de k ≤ 7) (h : ¬ qs q = 1) : CId l yX9_approve wsX9_approve 2 D tys [.ref (ad 0), .int (nI q), .int (nI p)] (wMod cI ad vc vr vn ne vs li ba de qp qt ql qs qc ch ap un ro pi si pl rq dy en th) (-1) (wMod cI ad vc vr vn ne vs li ba de qp qt ql qs qc ch ap un ro pi si pl rq dy en 2) := by
  refine CI_of (maxL := 6) (cc := cX9_approve) (y := yX9_approve) rfl rfl (Nat.le_of_ble_eq_true rfl) (fun X hl hD hk hn hcz hsz o fin => ?_)
  subst hl; subst hD; subst hk
  refine V_aload_n (pc := 0) o dX9_approve_0 rfl ?_
  refine V_iload_n (pc := 1) o dX9_approve_1 rfl ?_
  refine V_rVi (pc := 2) o (k9_reqT _ _ _ cI ht ad vc vr vn ne vs li ba de qp qt ql qs qc ch ap un ro pi si pl rq dy en th q (by omega) hrq) 0 21 gX9_approve_X9_isRequest rfl hdX9_isRequest ⟨by omega, by decide⟩ rfl rfl rfl (Nat.le_of_ble_eq_true rfl) dX9_approve_2 rfl ?_
  refine V_if_eq (pc := 5) o 20 dX9_approve_5 (by decide) (fun c5 => absurd c5 (by decide)) (fun _ => ?_)
  refine V_aload_n (pc := 8) o dX9_approve_8 rfl ?_
  refine V_iload_n (pc := 9) o dX9_approve_9 rfl ?_
  refine V_rVi (pc := 10) o (k9_eightT _ _ _ cI ht ad vc vr vn ne vs li ba de qp qt ql qs qc ch ap un ro pi si pl rq dy en th p (by omega)) 0 21 gX9_approve_X9_isEight rfl hdX9_isEight ⟨by omega, by decide⟩ rfl rfl rfl (Nat.le_of_ble_eq_true rfl) dX9_approve_10 rfl ?_
  refine V_if_eq (pc := 13) o 20 dX9_approve_13 (by decide) (fun c13 => absurd c13 (by decide)) (fun _ => ?_)
  refine V_iconst (pc := 16) o 1 dX9_approve_16 (by decide) ?_
  refine V_goto (pc := 17) o 21 dX9_approve_17 (by decide) ?_
  refine V_istore_n (pc := 21) o dX9_approve_21 (by rw [hn]; decide) ?_
  refine V_iload_n (pc := 22) o dX9_approve_22 rfl ?_
  refine V_if_eq (pc := 23) o 63 dX9_approve_23 (by decide) (fun c23 => absurd c23 (by decide)) (fun _ => ?_)
  refine V_aload_n (pc := 26) o dX9_approve_26 rfl ?_
  refine V_get (pc := 27) o 0 11 hiX9_approve rfl rfl (by decide) lkX9_approve_43 rfl rfl dX9_approve_27 ?_
  refine V_iload_n (pc := 30) o dX9_approve_30 rfl ?_
  refine V_ialdN (pc := 31) o 12 qs q rfl ht rfl (by have := hqs q; have := hap (8 * q + p); omega) (by decide) dX9_approve_31 ?_
  refine V_iconst (pc := 32) o 1 dX9_approve_32 (by decide) ?_
  refine V_icmp_neN (pc := 33) o 59 (qs q) 1 rfl rfl (by have := hqs q; have := hap (8 * q + p); omega) (by have := hqs q; have := hap (8 * q + p); omega) dX9_approve_33 (by decide) (fun c33 => ?_) (fun c33 => absurd c33 (by omega))
  refine V_iconst (pc := 59) o 1 dX9_approve_59 (by decide) ?_
  refine V_goto (pc := 60) o 64 dX9_approve_60 (by decide) ?_
  refine V_istore (pc := 64) o dX9_approve_64 (by rw [hn]; decide) ?_
  refine V_aload_n (pc := 66) o dX9_approve_66 rfl ?_
  refine V_iload_n (pc := 67) o dX9_approve_67 rfl ?_
  refine V_if_ne (pc := 68) o 75 dX9_approve_68 (by decide) (fun _ => ?_) (fun c68 => absurd c68 (by decide))
  refine V_iload (pc := 75) o dX9_approve_75 rfl ?_
  refine V_if_eq (pc := 77) o 84 dX9_approve_77 (by decide) (fun c77 => absurd c77 (by decide)) (fun _ => ?_)
  refine V_iconst (pc := 80) o 2 dX9_approve_80 (by decide) ?_
  refine V_goto (pc := 81) o 85 dX9_approve_81 (by decide) ?_
  refine V_wVi (pc := 85) o (k9_holds _ _ _ cI ht ad vc vr vn ne vs li ba de qp qt ql qs qc ch ap un ro pi si pl rq dy en th 2) 0 21 (wMod cI ad vc vr vn ne vs li ba de qp qt ql qs qc ch ap un ro pi si pl rq dy en 2) gX9_approve_X9_holds rfl hdX9_holds ⟨by omega, by decide⟩ rfl rfl rfl (Nat.le_of_ble_eq_true rfl) dX9_approve_85 rfl rfl ?_
  refine V_ifT (by decide) ?_
  refine V_if_eq (pc := 88) o 93 dX9_approve_88 (by decide) (fun c88 => absurd c88 (by decide)) (fun _ => ?_)
  refine V_iconst (pc := 91) o (-1) dX9_approve_91 (by decide) ?_
  exact fin 92 _ _ () dX9_approve_92 rfl rfl
theorem lkX9_approve_52 : Cond.fieldLink RX9 52 RX9 "by" "[I" ∈ wsX9_approve := by decide +kernel
set_option maxHeartbeats 4000000 in
set_option maxRecDepth 100000 in
/-- reference: approve2b -/
theorem k9_approve2b (l : Launch) (D : va_G) (tys : List (ClassId × FieldType)) (cI : ClassId) (ht : tys[0]? = some (cI, .int)) (ad : Nat → Nat) (vc : Nat → Nat) (vr : Nat → Nat) (vn : Nat → Nat) (ne : Nat → Nat) (vs : Nat → Nat) (li : Nat → Nat) (ba : Nat → Nat) (de : Nat → Nat) (qp : Nat → Nat) (qt : Nat → Nat) (ql : Nat → Nat) (qs : Nat → Nat) (qc : Nat → Nat) (ch : Nat → Nat) (ap : Nat → Nat) (un : Nat → Int32) (ro : Nat → Nat) (pi : Nat → Nat) (si : Nat → Nat) (pl : Nat → Int32) (rq : Nat) (dy : Nat) (en : Nat) (th : Int32) (q p : Nat) (hq : q < rq) (hp : p < 8) (hrq : rq ≤ 30) (hqs : ∀ k, qs k ≤ 2) (hap : ∀ k, ap k ≤ 8) (hba : ∀ k, ba k ≤ 40000) (hdy : dy ≤ 40000) (hli : ∀ k, li k ≤ 10000) (hqc : ∀ k, qc k ≤ 8000) (hqp : ∀ k, qp k ≤ 7) (hde : ∀ k, de k ≤ 7) (h1 : qs q = 1) (h : 0 < ap (8 * q + p)) : CId l yX9_approve wsX9_approve 2 D tys [.ref (ad 0), .int (nI q), .int (nI p)] (wMod cI ad vc vr vn ne vs li ba de qp qt ql qs qc ch ap un ro pi si pl rq dy en th) (-1) (wMod cI ad vc vr vn ne vs li ba de qp qt ql qs qc ch ap un ro pi si pl rq dy en 2) := by
  refine CI_of (maxL := 6) (cc := cX9_approve) (y := yX9_approve) rfl rfl (Nat.le_of_ble_eq_true rfl) (fun X hl hD hk hn hcz hsz o fin => ?_)
  subst hl; subst hD; subst hk
  refine V_aload_n (pc := 0) o dX9_approve_0 rfl ?_
  refine V_iload_n (pc := 1) o dX9_approve_1 rfl ?_
  refine V_rVi (pc := 2) o (k9_reqT _ _ _ cI ht ad vc vr vn ne vs li ba de qp qt ql qs qc ch ap un ro pi si pl rq dy en th q (by omega) hrq) 0 21 gX9_approve_X9_isRequest rfl hdX9_isRequest ⟨by omega, by decide⟩ rfl rfl rfl (Nat.le_of_ble_eq_true rfl) dX9_approve_2 rfl ?_
  refine V_if_eq (pc := 5) o 20 dX9_approve_5 (by decide) (fun c5 => absurd c5 (by decide)) (fun _ => ?_)
  refine V_aload_n (pc := 8) o dX9_approve_8 rfl ?_
  refine V_iload_n (pc := 9) o dX9_approve_9 rfl ?_
  refine V_rVi (pc := 10) o (k9_eightT _ _ _ cI ht ad vc vr vn ne vs li ba de qp qt ql qs qc ch ap un ro pi si pl rq dy en th p (by omega)) 0 21 gX9_approve_X9_isEight rfl hdX9_isEight ⟨by omega, by decide⟩ rfl rfl rfl (Nat.le_of_ble_eq_true rfl) dX9_approve_10 rfl ?_
  refine V_if_eq (pc := 13) o 20 dX9_approve_13 (by decide) (fun c13 => absurd c13 (by decide)) (fun _ => ?_)
  refine V_iconst (pc := 16) o 1 dX9_approve_16 (by decide) ?_
  refine V_goto (pc := 17) o 21 dX9_approve_17 (by decide) ?_
  refine V_istore_n (pc := 21) o dX9_approve_21 (by rw [hn]; decide) ?_
  refine V_iload_n (pc := 22) o dX9_approve_22 rfl ?_
  refine V_if_eq (pc := 23) o 63 dX9_approve_23 (by decide) (fun c23 => absurd c23 (by decide)) (fun _ => ?_)
  refine V_aload_n (pc := 26) o dX9_approve_26 rfl ?_
  refine V_get (pc := 27) o 0 11 hiX9_approve rfl rfl (by decide) lkX9_approve_43 rfl rfl dX9_approve_27 ?_
  refine V_iload_n (pc := 30) o dX9_approve_30 rfl ?_
  refine V_ialdN (pc := 31) o 12 qs q rfl ht rfl (by have := hqs q; have := hap (8 * q + p); omega) (by decide) dX9_approve_31 ?_
  refine V_iconst (pc := 32) o 1 dX9_approve_32 (by decide) ?_
  refine V_icmp_neN (pc := 33) o 59 (qs q) 1 rfl rfl (by have := hqs q; have := hap (8 * q + p); omega) (by have := hqs q; have := hap (8 * q + p); omega) dX9_approve_33 (by decide) (fun c33 => absurd c33 (by omega)) (fun c33 => ?_)
  refine V_aload_n (pc := 36) o dX9_approve_36 rfl ?_
  refine V_get (pc := 37) o 0 14 hiX9_approve rfl rfl (by decide) lkX9_approve_52 rfl rfl dX9_approve_37 ?_
  refine V_bipush (pc := 40) o 8 dX9_approve_40 (by decide) ?_
  refine V_iload_n (pc := 42) o dX9_approve_42 rfl ?_
  refine V_imulN (pc := 43) o 8 q rfl rfl dX9_approve_43 ?_
  refine V_iload_n (pc := 44) o dX9_approve_44 rfl ?_
  refine V_iaddN (pc := 45) o (8 * q) p rfl rfl dX9_approve_45 ?_
  refine V_ialdN (pc := 46) o 15 ap ((8 * q) + p) rfl ht rfl (by have := hqs q; have := hap (8 * q + p); omega) (by decide) dX9_approve_46 ?_
  refine V_if_gtN (pc := 47) o 59 (ap ((8 * q) + p)) rfl (by have := hqs q; have := hap (8 * q + p); omega) dX9_approve_47 (by decide) (fun c47 => ?_) (fun c47 => absurd c47 (by omega))
  refine V_iconst (pc := 59) o 1 dX9_approve_59 (by decide) ?_
  refine V_goto (pc := 60) o 64 dX9_approve_60 (by decide) ?_
  refine V_istore (pc := 64) o dX9_approve_64 (by rw [hn]; decide) ?_
  refine V_aload_n (pc := 66) o dX9_approve_66 rfl ?_
  refine V_iload_n (pc := 67) o dX9_approve_67 rfl ?_
  refine V_if_ne (pc := 68) o 75 dX9_approve_68 (by decide) (fun _ => ?_) (fun c68 => absurd c68 (by decide))
  refine V_iload (pc := 75) o dX9_approve_75 rfl ?_
  refine V_if_eq (pc := 77) o 84 dX9_approve_77 (by decide) (fun c77 => absurd c77 (by decide)) (fun _ => ?_)
  refine V_iconst (pc := 80) o 2 dX9_approve_80 (by decide) ?_
  refine V_goto (pc := 81) o 85 dX9_approve_81 (by decide) ?_
  refine V_wVi (pc := 85) o (k9_holds _ _ _ cI ht ad vc vr vn ne vs li ba de qp qt ql qs qc ch ap un ro pi si pl rq dy en th 2) 0 21 (wMod cI ad vc vr vn ne vs li ba de qp qt ql qs qc ch ap un ro pi si pl rq dy en 2) gX9_approve_X9_holds rfl hdX9_holds ⟨by omega, by decide⟩ rfl rfl rfl (Nat.le_of_ble_eq_true rfl) dX9_approve_85 rfl rfl ?_
  refine V_ifT (by decide) ?_
  refine V_if_eq (pc := 88) o 93 dX9_approve_88 (by decide) (fun c88 => absurd c88 (by decide)) (fun _ => ?_)
  refine V_iconst (pc := 91) o (-1) dX9_approve_91 (by decide) ?_
  exact fin 92 _ _ () dX9_approve_92 rfl rfl
set_option maxHeartbeats 4000000 in
set_option maxRecDepth 100000 in
/-- reference: approve2c -/
theorem k9_approve2c (l : Launch) (D : va_G) (tys : List (ClassId × FieldType)) (cI : ClassId) (ht : tys[0]? = some (cI, .int)) (ad : Nat → Nat) (vc : Nat → Nat) (vr : Nat → Nat) (vn : Nat → Nat) (ne : Nat → Nat) (vs : Nat → Nat) (li : Nat → Nat) (ba : Nat → Nat) (de : Nat → Nat) (qp : Nat → Nat) (qt : Nat → Nat) (ql : Nat → Nat) (qs : Nat → Nat) (qc : Nat → Nat) (ch : Nat → Nat) (ap : Nat → Nat) (un : Nat → Int32) (ro : Nat → Nat) (pi : Nat → Nat) (si : Nat → Nat) (pl : Nat → Int32) (rq : Nat) (dy : Nat) (en : Nat) (th : Int32) (q p : Nat) (hq : q < rq) (hp : p < 8) (hrq : rq ≤ 30) (hqs : ∀ k, qs k ≤ 2) (hap : ∀ k, ap k ≤ 8) (hba : ∀ k, ba k ≤ 40000) (hdy : dy ≤ 40000) (hli : ∀ k, li k ≤ 10000) (hqc : ∀ k, qc k ≤ 8000) (hqp : ∀ k, qp k ≤ 7) (hde : ∀ k, de k ≤ 7) (h1 : qs q = 1) (h2 : ap (8 * q + p) = 0) (h : fwF li ba de qp qc dy q p = -1) : CId l yX9_approve wsX9_approve 4 D tys [.ref (ad 0), .int (nI q), .int (nI p)] (wMod cI ad vc vr vn ne vs li ba de qp qt ql qs qc ch ap un ro pi si pl rq dy en th) (-1) (wMod cI ad vc vr vn ne vs li ba de qp qt ql qs qc ch ap un ro pi si pl rq dy en 2) := by
  refine CI_of (maxL := 6) (cc := cX9_approve) (y := yX9_approve) rfl rfl (Nat.le_of_ble_eq_true rfl) (fun X hl hD hk hn hcz hsz o fin => ?_)
  subst hl; subst hD; subst hk
  refine V_aload_n (pc := 0) o dX9_approve_0 rfl ?_
  refine V_iload_n (pc := 1) o dX9_approve_1 rfl ?_
  refine V_rVi (pc := 2) o (k9_reqT _ _ _ cI ht ad vc vr vn ne vs li ba de qp qt ql qs qc ch ap un ro pi si pl rq dy en th q (by omega) hrq) 0 21 gX9_approve_X9_isRequest rfl hdX9_isRequest ⟨by omega, by decide⟩ rfl rfl rfl (Nat.le_of_ble_eq_true rfl) dX9_approve_2 rfl ?_
  refine V_if_eq (pc := 5) o 20 dX9_approve_5 (by decide) (fun c5 => absurd c5 (by decide)) (fun _ => ?_)
  refine V_aload_n (pc := 8) o dX9_approve_8 rfl ?_
  refine V_iload_n (pc := 9) o dX9_approve_9 rfl ?_
  refine V_rVi (pc := 10) o (k9_eightT _ _ _ cI ht ad vc vr vn ne vs li ba de qp qt ql qs qc ch ap un ro pi si pl rq dy en th p (by omega)) 0 21 gX9_approve_X9_isEight rfl hdX9_isEight ⟨by omega, by decide⟩ rfl rfl rfl (Nat.le_of_ble_eq_true rfl) dX9_approve_10 rfl ?_
  refine V_if_eq (pc := 13) o 20 dX9_approve_13 (by decide) (fun c13 => absurd c13 (by decide)) (fun _ => ?_)
  refine V_iconst (pc := 16) o 1 dX9_approve_16 (by decide) ?_
  refine V_goto (pc := 17) o 21 dX9_approve_17 (by decide) ?_
  refine V_istore_n (pc := 21) o dX9_approve_21 (by rw [hn]; decide) ?_
  refine V_iload_n (pc := 22) o dX9_approve_22 rfl ?_
  refine V_if_eq (pc := 23) o 63 dX9_approve_23 (by decide) (fun c23 => absurd c23 (by decide)) (fun _ => ?_)
  refine V_aload_n (pc := 26) o dX9_approve_26 rfl ?_
  refine V_get (pc := 27) o 0 11 hiX9_approve rfl rfl (by decide) lkX9_approve_43 rfl rfl dX9_approve_27 ?_
  refine V_iload_n (pc := 30) o dX9_approve_30 rfl ?_
  refine V_ialdN (pc := 31) o 12 qs q rfl ht rfl (by have := hqs q; have := hap (8 * q + p); omega) (by decide) dX9_approve_31 ?_
  refine V_iconst (pc := 32) o 1 dX9_approve_32 (by decide) ?_
  refine V_icmp_neN (pc := 33) o 59 (qs q) 1 rfl rfl (by have := hqs q; have := hap (8 * q + p); omega) (by have := hqs q; have := hap (8 * q + p); omega) dX9_approve_33 (by decide) (fun c33 => absurd c33 (by omega)) (fun c33 => ?_)
  refine V_aload_n (pc := 36) o dX9_approve_36 rfl ?_
  refine V_get (pc := 37) o 0 14 hiX9_approve rfl rfl (by decide) lkX9_approve_52 rfl rfl dX9_approve_37 ?_
  refine V_bipush (pc := 40) o 8 dX9_approve_40 (by decide) ?_
  refine V_iload_n (pc := 42) o dX9_approve_42 rfl ?_
  refine V_imulN (pc := 43) o 8 q rfl rfl dX9_approve_43 ?_
  refine V_iload_n (pc := 44) o dX9_approve_44 rfl ?_
  refine V_iaddN (pc := 45) o (8 * q) p rfl rfl dX9_approve_45 ?_
  refine V_ialdN (pc := 46) o 15 ap ((8 * q) + p) rfl ht rfl (by have := hqs q; have := hap (8 * q + p); omega) (by decide) dX9_approve_46 ?_
  refine V_if_gtN (pc := 47) o 59 (ap ((8 * q) + p)) rfl (by have := hqs q; have := hap (8 * q + p); omega) dX9_approve_47 (by decide) (fun c47 => absurd c47 (by omega)) (fun c47 => ?_)
  refine V_aload_n (pc := 50) o dX9_approve_50 rfl ?_
  refine V_iload_n (pc := 51) o dX9_approve_51 rfl ?_
  refine V_iload_n (pc := 52) o dX9_approve_52 rfl ?_
  refine V_rVi (pc := 53) o (k9_forWhom _ _ _ cI ht ad vc vr vn ne vs li ba de qp qt ql qs qc ch ap un ro pi si pl rq dy en th q p (by omega) (by omega) hba hdy hli hqc hqp hde) 0 21 gX9_approve_X9_forWhom rfl hdX9_forWhom ⟨by omega, by decide⟩ rfl rfl rfl (Nat.le_of_ble_eq_true rfl) dX9_approve_53 rfl ?_
  refine V_eq (st2 := .int ((-1)) :: []) rfl (by rw [h]) ?_
  refine V_if_ge (pc := 56) o 63 dX9_approve_56 (by decide) (fun c56 => absurd c56 (by decide)) (fun _ => ?_)
  refine V_iconst (pc := 59) o 1 dX9_approve_59 (by decide) ?_
  refine V_goto (pc := 60) o 64 dX9_approve_60 (by decide) ?_
  refine V_istore (pc := 64) o dX9_approve_64 (by rw [hn]; decide) ?_
  refine V_aload_n (pc := 66) o dX9_approve_66 rfl ?_
  refine V_iload_n (pc := 67) o dX9_approve_67 rfl ?_
  refine V_if_ne (pc := 68) o 75 dX9_approve_68 (by decide) (fun _ => ?_) (fun c68 => absurd c68 (by decide))
  refine V_iload (pc := 75) o dX9_approve_75 rfl ?_
  refine V_if_eq (pc := 77) o 84 dX9_approve_77 (by decide) (fun c77 => absurd c77 (by decide)) (fun _ => ?_)
  refine V_iconst (pc := 80) o 2 dX9_approve_80 (by decide) ?_
  refine V_goto (pc := 81) o 85 dX9_approve_81 (by decide) ?_
  refine V_wVi (pc := 85) o (k9_holds _ _ _ cI ht ad vc vr vn ne vs li ba de qp qt ql qs qc ch ap un ro pi si pl rq dy en th 2) 0 21 (wMod cI ad vc vr vn ne vs li ba de qp qt ql qs qc ch ap un ro pi si pl rq dy en 2) gX9_approve_X9_holds rfl hdX9_holds ⟨by omega, by decide⟩ rfl rfl rfl (Nat.le_of_ble_eq_true rfl) dX9_approve_85 rfl rfl ?_
  refine V_ifT (by decide) ?_
  refine V_if_eq (pc := 88) o 93 dX9_approve_88 (by decide) (fun c88 => absurd c88 (by decide)) (fun _ => ?_)
  refine V_iconst (pc := 91) o (-1) dX9_approve_91 (by decide) ?_
  exact fin 92 _ _ () dX9_approve_92 rfl rfl
theorem lkX9_approve_55 : Cond.fieldLink RX9 55 RX9 "until" "[I" ∈ wsX9_approve := by decide +kernel
theorem lkX9_approve_28 : Cond.fieldLink RX9 28 RX9 "back" "[I" ∈ wsX9_approve := by decide +kernel
theorem lkX9_approve_88 : Cond.fieldLink RX9 88 RX9 "entries" "I" ∈ wsX9_approve := by decide +kernel
set_option maxHeartbeats 4000000 in
set_option maxRecDepth 100000 in
/-- reference: approveK -/
theorem k9_approveK (l : Launch) (D : va_G) (tys : List (ClassId × FieldType)) (cI : ClassId) (ht : tys[0]? = some (cI, .int)) (ad : Nat → Nat) (vc : Nat → Nat) (vr : Nat → Nat) (vn : Nat → Nat) (ne : Nat → Nat) (vs : Nat → Nat) (li : Nat → Nat) (ba : Nat → Nat) (de : Nat → Nat) (qp : Nat → Nat) (qt : Nat → Nat) (ql : Nat → Nat) (qs : Nat → Nat) (qc : Nat → Nat) (ch : Nat → Nat) (ap : Nat → Nat) (un : Nat → Int32) (ro : Nat → Nat) (pi : Nat → Nat) (si : Nat → Nat) (pl : Nat → Int32) (rq : Nat) (dy : Nat) (en : Nat) (th : Int32) (q p : Nat) (hq : q < rq) (hp : p < 8) (hrq : rq ≤ 30) (hqs : ∀ k, qs k ≤ 2) (hap : ∀ k, ap k ≤ 8) (hba : ∀ k, ba k ≤ 40000) (hdy : dy ≤ 40000) (hli : ∀ k, li k ≤ 10000) (hqc : ∀ k, qc k ≤ 8000) (hqp : ∀ k, qp k ≤ 7) (hde : ∀ k, de k ≤ 7) (h1 : qs q = 1) (h2 : ap (8 * q + p) = 0) (w : Nat) (hw : w < 8) (h : fwF li ba de qp qc dy q p = nI w) : CId l yX9_approve wsX9_approve 4 D tys [.ref (ad 0), .int (nI q), .int (nI p)] (wMod cI ad vc vr vn ne vs li ba de qp qt ql qs qc ch ap un ro pi si pl rq dy en th) (nI w) (wMod cI ad vc vr vn ne vs li ba de qp qt ql qs qc ch (va_up ap (8 * q + p) (w + 1)) (va_up un (8 * q + p) (if w = p then -1 else nI (ba w))) ro pi si pl rq dy (en + 1) 0) := by
  refine CI_of (maxL := 6) (cc := cX9_approve) (y := yX9_approve) rfl rfl (Nat.le_of_ble_eq_true rfl) (fun X hl hD hk hn hcz hsz o fin => ?_)
  subst hl; subst hD; subst hk
  refine V_aload_n (pc := 0) o dX9_approve_0 rfl ?_
  refine V_iload_n (pc := 1) o dX9_approve_1 rfl ?_
  refine V_rVi (pc := 2) o (k9_reqT _ _ _ cI ht ad vc vr vn ne vs li ba de qp qt ql qs qc ch ap un ro pi si pl rq dy en th q (by omega) hrq) 0 21 gX9_approve_X9_isRequest rfl hdX9_isRequest ⟨by omega, by decide⟩ rfl rfl rfl (Nat.le_of_ble_eq_true rfl) dX9_approve_2 rfl ?_
  refine V_if_eq (pc := 5) o 20 dX9_approve_5 (by decide) (fun c5 => absurd c5 (by decide)) (fun _ => ?_)
  refine V_aload_n (pc := 8) o dX9_approve_8 rfl ?_
  refine V_iload_n (pc := 9) o dX9_approve_9 rfl ?_
  refine V_rVi (pc := 10) o (k9_eightT _ _ _ cI ht ad vc vr vn ne vs li ba de qp qt ql qs qc ch ap un ro pi si pl rq dy en th p (by omega)) 0 21 gX9_approve_X9_isEight rfl hdX9_isEight ⟨by omega, by decide⟩ rfl rfl rfl (Nat.le_of_ble_eq_true rfl) dX9_approve_10 rfl ?_
  refine V_if_eq (pc := 13) o 20 dX9_approve_13 (by decide) (fun c13 => absurd c13 (by decide)) (fun _ => ?_)
  refine V_iconst (pc := 16) o 1 dX9_approve_16 (by decide) ?_
  refine V_goto (pc := 17) o 21 dX9_approve_17 (by decide) ?_
  refine V_istore_n (pc := 21) o dX9_approve_21 (by rw [hn]; decide) ?_
  refine V_iload_n (pc := 22) o dX9_approve_22 rfl ?_
  refine V_if_eq (pc := 23) o 63 dX9_approve_23 (by decide) (fun c23 => absurd c23 (by decide)) (fun _ => ?_)
  refine V_aload_n (pc := 26) o dX9_approve_26 rfl ?_
  refine V_get (pc := 27) o 0 11 hiX9_approve rfl rfl (by decide) lkX9_approve_43 rfl rfl dX9_approve_27 ?_
  refine V_iload_n (pc := 30) o dX9_approve_30 rfl ?_
  refine V_ialdN (pc := 31) o 12 qs q rfl ht rfl (by have := hqs q; have := hap (8 * q + p); omega) (by decide) dX9_approve_31 ?_
  refine V_iconst (pc := 32) o 1 dX9_approve_32 (by decide) ?_
  refine V_icmp_neN (pc := 33) o 59 (qs q) 1 rfl rfl (by have := hqs q; have := hap (8 * q + p); omega) (by have := hqs q; have := hap (8 * q + p); omega) dX9_approve_33 (by decide) (fun c33 => absurd c33 (by omega)) (fun c33 => ?_)
  refine V_aload_n (pc := 36) o dX9_approve_36 rfl ?_
  refine V_get (pc := 37) o 0 14 hiX9_approve rfl rfl (by decide) lkX9_approve_52 rfl rfl dX9_approve_37 ?_
  refine V_bipush (pc := 40) o 8 dX9_approve_40 (by decide) ?_
  refine V_iload_n (pc := 42) o dX9_approve_42 rfl ?_
  refine V_imulN (pc := 43) o 8 q rfl rfl dX9_approve_43 ?_
  refine V_iload_n (pc := 44) o dX9_approve_44 rfl ?_
  refine V_iaddN (pc := 45) o (8 * q) p rfl rfl dX9_approve_45 ?_
  refine V_ialdN (pc := 46) o 15 ap ((8 * q) + p) rfl ht rfl (by have := hqs q; have := hap (8 * q + p); omega) (by decide) dX9_approve_46 ?_
  refine V_if_gtN (pc := 47) o 59 (ap ((8 * q) + p)) rfl (by have := hqs q; have := hap (8 * q + p); omega) dX9_approve_47 (by decide) (fun c47 => absurd c47 (by omega)) (fun c47 => ?_)
  refine V_aload_n (pc := 50) o dX9_approve_50 rfl ?_
  refine V_iload_n (pc := 51) o dX9_approve_51 rfl ?_
  refine V_iload_n (pc := 52) o dX9_approve_52 rfl ?_
  refine V_rVi (pc := 53) o (k9_forWhom _ _ _ cI ht ad vc vr vn ne vs li ba de qp qt ql qs qc ch ap un ro pi si pl rq dy en th q p (by omega) (by omega) hba hdy hli hqc hqp hde) 0 21 gX9_approve_X9_forWhom rfl hdX9_forWhom ⟨by omega, by decide⟩ rfl rfl rfl (Nat.le_of_ble_eq_true rfl) dX9_approve_53 rfl ?_
  refine V_eq (st2 := .int (nI w) :: []) rfl (by rw [h]) ?_
  refine V_if_ge (pc := 56) o 63 dX9_approve_56 (by decide) (fun c56 => ?_) (fun c56 => absurd c56 (fun h => h (nI_pos' (by omega))))
  refine V_iconst (pc := 63) o 0 dX9_approve_63 (by decide) ?_
  refine V_istore (pc := 64) o dX9_approve_64 (by rw [hn]; decide) ?_
  refine V_aload_n (pc := 66) o dX9_approve_66 rfl ?_
  refine V_iload_n (pc := 67) o dX9_approve_67 rfl ?_
  refine V_if_ne (pc := 68) o 75 dX9_approve_68 (by decide) (fun _ => ?_) (fun c68 => absurd c68 (by decide))
  refine V_iload (pc := 75) o dX9_approve_75 rfl ?_
  refine V_if_eq (pc := 77) o 84 dX9_approve_77 (by decide) (fun _ => ?_) (fun c77 => absurd c77 (by decide))
  refine V_iconst (pc := 84) o 0 dX9_approve_84 (by decide) ?_
  refine V_wVi (pc := 85) o (k9_holds _ _ _ cI ht ad vc vr vn ne vs li ba de qp qt ql qs qc ch ap un ro pi si pl rq dy en th 0) 0 21 (wMod cI ad vc vr vn ne vs li ba de qp qt ql qs qc ch ap un ro pi si pl rq dy en 0) gX9_approve_X9_holds rfl hdX9_holds ⟨by omega, by decide⟩ rfl rfl rfl (Nat.le_of_ble_eq_true rfl) dX9_approve_85 rfl rfl ?_
  refine V_ifF (by decide) ?_
  refine V_if_eq (pc := 88) o 93 dX9_approve_88 (by decide) (fun _ => ?_) (fun c88 => absurd c88 (by decide))
  refine V_aload_n (pc := 93) o dX9_approve_93 rfl ?_
  refine V_iload_n (pc := 94) o dX9_approve_94 rfl ?_
  refine V_iload_n (pc := 95) o dX9_approve_95 rfl ?_
  refine V_rVi (pc := 96) o (k9_forWhom _ _ _ cI ht ad vc vr vn ne vs li ba de qp qt ql qs qc ch ap un ro pi si pl rq dy en 0 q p (by omega) (by omega) hba hdy hli hqc hqp hde) 0 21 gX9_approve_X9_forWhom rfl hdX9_forWhom ⟨by omega, by decide⟩ rfl rfl rfl (Nat.le_of_ble_eq_true rfl) dX9_approve_96 rfl ?_
  refine V_eq (st2 := .int (nI w) :: []) rfl (by rw [h]) ?_
  refine V_istore (pc := 99) o dX9_approve_99 (by rw [hn]; decide) ?_
  refine V_aload_n (pc := 101) o dX9_approve_101 rfl ?_
  refine V_get (pc := 102) o 0 14 hiX9_approve rfl rfl (by decide) lkX9_approve_52 rfl rfl dX9_approve_102 ?_
  refine V_bipush (pc := 105) o 8 dX9_approve_105 (by decide) ?_
  refine V_iload_n (pc := 107) o dX9_approve_107 rfl ?_
  refine V_imulN (pc := 108) o 8 q rfl rfl dX9_approve_108 ?_
  refine V_iload_n (pc := 109) o dX9_approve_109 rfl ?_
  refine V_iaddN (pc := 110) o (8 * q) p rfl rfl dX9_approve_110 ?_
  refine V_iload (pc := 111) o dX9_approve_111 rfl ?_
  refine V_iconst (pc := 113) o 1 dX9_approve_113 (by decide) ?_
  refine V_iaddN (pc := 114) o w 1 rfl rfl dX9_approve_114 ?_
  refine V_iastN (pc := 115) o 15 ap ((8 * q) + p) (w + 1) rfl ht rfl rfl (by have := hqs q; have := hap (8 * q + p); omega) (by decide) dX9_approve_115 ?_
  refine V_eq (ws2 := wMod cI ad vc vr vn ne vs li ba de qp qt ql qs qc ch (va_up ap ((8 * q) + p) (w + 1)) un ro pi si pl rq dy en 0) rfl rfl ?_
  refine V_aload_n (pc := 116) o dX9_approve_116 rfl ?_
  refine V_get (pc := 117) o 0 15 hiX9_approve rfl rfl (by decide) lkX9_approve_55 rfl rfl dX9_approve_117 ?_
  refine V_bipush (pc := 120) o 8 dX9_approve_120 (by decide) ?_
  refine V_iload_n (pc := 122) o dX9_approve_122 rfl ?_
  refine V_imulN (pc := 123) o 8 q rfl rfl dX9_approve_123 ?_
  refine V_iload_n (pc := 124) o dX9_approve_124 rfl ?_
  refine V_iaddN (pc := 125) o (8 * q) p rfl rfl dX9_approve_125 ?_
  refine V_iload (pc := 126) o dX9_approve_126 rfl ?_
  refine V_iload_n (pc := 128) o dX9_approve_128 rfl ?_
  refine V_icmp_neN (pc := 129) o 136 w p rfl rfl (by have := hqs q; have := hap (8 * q + p); omega) (by have := hqs q; have := hap (8 * q + p); omega) dX9_approve_129 (by decide) (fun c129 => ?_) (fun c129 => ?_)
  · refine V_aload_n (pc := 136) o dX9_approve_136 rfl ?_
    refine V_get (pc := 137) o 0 6 hiX9_approve rfl rfl (by decide) lkX9_approve_28 rfl rfl dX9_approve_137 ?_
    refine V_iload (pc := 140) o dX9_approve_140 rfl ?_
    refine V_ialdN (pc := 142) o 7 ba w rfl ht rfl (by have := hqs q; have := hap (8 * q + p); omega) (by decide) dX9_approve_142 ?_
    refine V_iastI (pc := 143) o 16 un ((8 * q) + p) rfl ht rfl (by have := hqs q; have := hap (8 * q + p); omega) (by decide) dX9_approve_143 ?_
    refine V_eq (ws2 := wMod cI ad vc vr vn ne vs li ba de qp qt ql qs qc ch (va_up ap ((8 * q) + p) (w + 1)) (va_up un ((8 * q) + p) (nI (ba w))) ro pi si pl rq dy en 0) rfl rfl ?_
    refine V_aload_n (pc := 144) o dX9_approve_144 rfl ?_
    refine V_dup (pc := 145) o rfl dX9_approve_145 ?_
    refine V_get (pc := 146) o 0 18 hiX9_approve rfl rfl (by decide) lkX9_approve_88 rfl rfl dX9_approve_146 ?_
    refine V_iconst (pc := 149) o 1 dX9_approve_149 (by decide) ?_
    refine V_iaddN (pc := 150) o en 1 rfl rfl dX9_approve_150 ?_
    refine V_put (pc := 151) o 0 18 hiX9_approve tyX9 tyX9_ok nmX9 rfl rfl (by decide) lkX9_approve_88 rfl rfl rfl rfl rfl (Nat.le_of_ble_eq_true rfl) dX9_approve_151 ?_
    refine V_eq (ws2 := wMod cI ad vc vr vn ne vs li ba de qp qt ql qs qc ch (va_up ap ((8 * q) + p) (w + 1)) (va_up un ((8 * q) + p) (nI (ba w))) ro pi si pl rq dy (en + 1) 0) rfl rfl ?_
    refine V_iload (pc := 154) o dX9_approve_154 rfl ?_
    first | exact fin 156 _ _ () dX9_approve_156 rfl rfl | exact V_eq (by rw [if_pos (by omega)]) rfl (fin 156 _ _ () dX9_approve_156 rfl rfl) | exact V_eq (by rw [if_neg (by omega)]) rfl (fin 156 _ _ () dX9_approve_156 rfl rfl)
  · refine V_iconst (pc := 132) o (-1) dX9_approve_132 (by decide) ?_
    refine V_goto (pc := 133) o 143 dX9_approve_133 (by decide) ?_
    refine V_iastI (pc := 143) o 16 un ((8 * q) + p) rfl ht rfl (by have := hqs q; have := hap (8 * q + p); omega) (by decide) dX9_approve_143 ?_
    refine V_eq (ws2 := wMod cI ad vc vr vn ne vs li ba de qp qt ql qs qc ch (va_up ap ((8 * q) + p) (w + 1)) (va_up un ((8 * q) + p) ((-1))) ro pi si pl rq dy en 0) rfl rfl ?_
    refine V_aload_n (pc := 144) o dX9_approve_144 rfl ?_
    refine V_dup (pc := 145) o rfl dX9_approve_145 ?_
    refine V_get (pc := 146) o 0 18 hiX9_approve rfl rfl (by decide) lkX9_approve_88 rfl rfl dX9_approve_146 ?_
    refine V_iconst (pc := 149) o 1 dX9_approve_149 (by decide) ?_
    refine V_iaddN (pc := 150) o en 1 rfl rfl dX9_approve_150 ?_
    refine V_put (pc := 151) o 0 18 hiX9_approve tyX9 tyX9_ok nmX9 rfl rfl (by decide) lkX9_approve_88 rfl rfl rfl rfl rfl (Nat.le_of_ble_eq_true rfl) dX9_approve_151 ?_
    refine V_eq (ws2 := wMod cI ad vc vr vn ne vs li ba de qp qt ql qs qc ch (va_up ap ((8 * q) + p) (w + 1)) (va_up un ((8 * q) + p) ((-1))) ro pi si pl rq dy (en + 1) 0) rfl rfl ?_
    refine V_iload (pc := 154) o dX9_approve_154 rfl ?_
    first | exact fin 156 _ _ () dX9_approve_156 rfl rfl | exact V_eq (by rw [if_pos (by omega)]) rfl (fin 156 _ _ () dX9_approve_156 rfl rfl) | exact V_eq (by rw [if_neg (by omega)]) rfl (fin 156 _ _ () dX9_approve_156 rfl rfl)
theorem hdX9_pass : yX9_pass.cls = RX9 ∧ yX9_pass.cls ≠ "java/lang/invoke/MethodHandle" ∧ yX9_pass.cls ≠ "java/lang/invoke/VarHandle" ∧ (parseMethodDescriptor yX9_pass.desc).map (fun d => d.parameters.length) = some 1 := by decide +kernel
set_option maxHeartbeats 4000000 in
set_option maxRecDepth 100000 in
/-- reference: pass1 -/
theorem k9_pass1 (l : Launch) (D : va_G) (tys : List (ClassId × FieldType)) (cI : ClassId) (ht : tys[0]? = some (cI, .int)) (ad : Nat → Nat) (vc : Nat → Nat) (vr : Nat → Nat) (vn : Nat → Nat) (ne : Nat → Nat) (vs : Nat → Nat) (li : Nat → Nat) (ba : Nat → Nat) (de : Nat → Nat) (qp : Nat → Nat) (qt : Nat → Nat) (ql : Nat → Nat) (qs : Nat → Nat) (qc : Nat → Nat) (ch : Nat → Nat) (ap : Nat → Nat) (un : Nat → Int32) (ro : Nat → Nat) (pi : Nat → Nat) (si : Nat → Nat) (pl : Nat → Int32) (rq : Nat) (dy : Nat) (en : Nat) (th : Int32) (g : Int32) (h : ¬ ((1 : Int32) ≤ g ∧ g ≤ 60)) : CId l yX9_pass wsX9_pass 1 D tys [.ref (ad 0), .int g] (wMod cI ad vc vr vn ne vs li ba de qp qt ql qs qc ch ap un ro pi si pl rq dy en th) (-1) (wMod cI ad vc vr vn ne vs li ba de qp qt ql qs qc ch ap un ro pi si pl rq dy en 1) := by
  refine CI_of (maxL := 3) (cc := cX9_pass) (y := yX9_pass) rfl rfl (Nat.le_of_ble_eq_true rfl) (fun X hl hD hk hn hcz hsz o fin => ?_)
  subst hl; subst hD; subst hk
  refine V_aload_n (pc := 0) o dX9_pass_0 rfl ?_
  refine V_aload_n (pc := 1) o dX9_pass_1 rfl ?_
  refine V_iload_n (pc := 2) o dX9_pass_2 rfl ?_
  refine V_iconst (pc := 3) o 1 dX9_pass_3 (by decide) ?_
  refine V_bipush (pc := 4) o 60 dX9_pass_4 (by decide) ?_
  refine V_rVi (pc := 6) o (k9_in _ _ _ cI ht ad vc vr vn ne vs li ba de qp qt ql qs qc ch ap un ro pi si pl rq dy en th g 1 60) 0 21 gX9_pass_X9_in rfl hdX9_in ⟨by omega, by decide⟩ rfl rfl rfl (Nat.le_of_ble_eq_true rfl) dX9_pass_6 rfl ?_
  refine V_ifF (h) ?_
  refine V_if_eq (pc := 9) o 16 dX9_pass_9 (by decide) (fun _ => ?_) (fun c9 => absurd c9 (by decide))
  refine V_iconst (pc := 16) o 1 dX9_pass_16 (by decide) ?_
  refine V_wVi (pc := 17) o (k9_holds _ _ _ cI ht ad vc vr vn ne vs li ba de qp qt ql qs qc ch ap un ro pi si pl rq dy en th 1) 0 21 (wMod cI ad vc vr vn ne vs li ba de qp qt ql qs qc ch ap un ro pi si pl rq dy en 1) gX9_pass_X9_holds rfl hdX9_holds ⟨by omega, by decide⟩ rfl rfl rfl (Nat.le_of_ble_eq_true rfl) dX9_pass_17 rfl rfl ?_
  refine V_ifT (by decide) ?_
  refine V_if_eq (pc := 20) o 25 dX9_pass_20 (by decide) (fun c20 => absurd c20 (by decide)) (fun _ => ?_)
  refine V_iconst (pc := 23) o (-1) dX9_pass_23 (by decide) ?_
  exact fin 24 _ _ () dX9_pass_24 rfl rfl
def paV (ap : Nat → Nat) (un : Nat → Int32) (dy k : Nat) : Nat := if 0 < ap k ∧ (0 : Int32) ≤ un k ∧ un k ≤ nI dy then 0 else ap k
def paA (ap : Nat → Nat) (un : Nat → Int32) (dy : Nat) : Nat → Nat → Nat
  | 0 => ap
  | j + 1 => va_up (paA ap un dy j) j (paV (paA ap un dy j) un dy j)
theorem paA_le {ap : Nat → Nat} (h : ∀ k, ap k ≤ 8) (un : Nat → Int32) (dy : Nat) : ∀ j k, paA ap un dy j k ≤ 8
  | 0, k => h k
  | j + 1, k => by
    unfold paA
    refine up_le (paA_le h un dy j) ?_ k
    unfold paV
    split
    · omega
    · exact paA_le h un dy j j
theorem hiX9_pass : ∀ w ∈ wsX90, w ∈ wsX9_pass := by decide +kernel
theorem lkX9_pass_82 : Cond.fieldLink RX9 82 RX9 "requests" "I" ∈ wsX9_pass := by decide +kernel
theorem lkX9_pass_52 : Cond.fieldLink RX9 52 RX9 "by" "[I" ∈ wsX9_pass := by decide +kernel
theorem lkX9_pass_55 : Cond.fieldLink RX9 55 RX9 "until" "[I" ∈ wsX9_pass := by decide +kernel
theorem lkX9_pass_119 : Cond.fieldLink RX9 119 RX9 "day" "I" ∈ wsX9_pass := by decide +kernel
set_option maxHeartbeats 4000000 in
set_option maxRecDepth 100000 in
theorem lpX9_pass {X : XT} (o : OkX X cX9_pass RX9 wsX9_pass 1) (hn : XN X = 3) (cI : ClassId) (ht : (XK X)[0]? = some (cI, .int)) (ad : Nat → Nat) (vc : Nat → Nat) (vr : Nat → Nat) (vn : Nat → Nat) (ne : Nat → Nat) (vs : Nat → Nat) (li : Nat → Nat) (ba : Nat → Nat) (de : Nat → Nat) (qp : Nat → Nat) (qt : Nat → Nat) (ql : Nat → Nat) (qs : Nat → Nat) (qc : Nat → Nat) (ch : Nat → Nat) (ap : Nat → Nat) (un : Nat → Int32) (ro : Nat → Nat) (pi : Nat → Nat) (si : Nat → Nat) (pl : Nat → Int32) (rq : Nat) (dy : Nat) (en : Nat) (th : Int32) (g : Nat) (hap : ∀ k, ap k ≤ 8) (hrq : rq ≤ 30) (kk : V X 0 0 (wMod cI ad vc vr vn ne vs li ba de qp qt ql qs qc ch (paA ap un dy (8 * rq)) un ro pi si pl rq dy en th) 101 [(0, .ref (ad 0)), (1, .int (nI g)), (2, .int (nI ((8 * rq))))] []) : ∀ (m j : Nat), (8 * rq) - j < m → j ≤ (8 * rq) → V X 0 0 (wMod cI ad vc vr vn ne vs li ba de qp qt ql qs qc ch (paA ap un dy j) un ro pi si pl rq dy en th) 37 [(0, .ref (ad 0)), (1, .int (nI g)), (2, .int (nI j))] [] := by
  intro m
  induction m with
  | zero => intro j h1; exact absurd h1 (Nat.not_lt_zero _)
  | succ m ih =>
    intro j h1 h2
    refine V_iload_n (pc := 37) o dX9_pass_37 rfl ?_
    refine V_bipush (pc := 38) o 8 dX9_pass_38 (by decide) ?_
    refine V_aload_n (pc := 40) o dX9_pass_40 rfl ?_
    refine V_get (pc := 41) o 0 16 hiX9_pass rfl rfl (by decide) lkX9_pass_82 rfl rfl dX9_pass_41 ?_
    refine V_imulN (pc := 44) o 8 rq rfl rfl dX9_pass_44 ?_
    refine V_icmp_geN (pc := 45) o 101 j (8 * rq) rfl rfl (by have := paA_le hap un dy j j; omega) (by have := paA_le hap un dy j j; omega) dX9_pass_45 (by decide) (fun c45 => ?_) (fun c45 => ?_)
    · have e1 : j = (8 * rq) := by omega
      rw [e1]
      exact V_sub (lc2 := [(0, .ref (ad 0)), (1, .int (nI g)), (2, .int (nI ((8 * rq))))]) ⟨rfl, rfl, rfl, trivial⟩ kk
    · refine V_aload_n (pc := 48) o dX9_pass_48 rfl ?_
      refine V_get (pc := 49) o 0 14 hiX9_pass rfl rfl (by decide) lkX9_pass_52 rfl rfl dX9_pass_49 ?_
      refine V_iload_n (pc := 52) o dX9_pass_52 rfl ?_
      refine V_aload_n (pc := 53) o dX9_pass_53 rfl ?_
      refine V_get (pc := 54) o 0 14 hiX9_pass rfl rfl (by decide) lkX9_pass_52 rfl rfl dX9_pass_54 ?_
      refine V_iload_n (pc := 57) o dX9_pass_57 rfl ?_
      refine V_ialdN (pc := 58) o 15 (paA ap un dy j) j rfl ht rfl (by have := paA_le hap un dy j j; omega) (by decide) dX9_pass_58 ?_
      refine V_if_leN (pc := 59) o 88 ((paA ap un dy j) j) rfl (by have := paA_le hap un dy j j; omega) dX9_pass_59 (by decide) (fun c59 => ?_) (fun c59 => ?_)
      · refine V_aload_n (pc := 88) o dX9_pass_88 rfl ?_
        refine V_get (pc := 89) o 0 14 hiX9_pass rfl rfl (by decide) lkX9_pass_52 rfl rfl dX9_pass_89 ?_
        refine V_iload_n (pc := 92) o dX9_pass_92 rfl ?_
        refine V_ialdN (pc := 93) o 15 (paA ap un dy j) j rfl ht rfl (by have := paA_le hap un dy j j; omega) (by decide) dX9_pass_93 ?_
        refine V_iastN (pc := 94) o 15 (paA ap un dy j) j ((paA ap un dy j) j) rfl ht rfl rfl (by have := paA_le hap un dy j j; omega) (by decide) dX9_pass_94 ?_
        refine V_eq (ws2 := wMod cI ad vc vr vn ne vs li ba de qp qt ql qs qc ch (va_up (paA ap un dy j) j ((paA ap un dy j) j)) un ro pi si pl rq dy en th) rfl rfl ?_
        refine V_iincN (pc := 95) o j 1 rfl dX9_pass_95 (by rw [hn]; decide) rfl (by decide) ?_
        refine V_goto (pc := 98) o 37 dX9_pass_98 (by decide) ?_
        refine V_eq (ws2 := wMod cI ad vc vr vn ne vs li ba de qp qt ql qs qc ch (paA ap un dy (j + 1)) un ro pi si pl rq dy en th) (by first | (rw [paA, paV, if_pos ⟨by omega, i_nlt (by assumption), i_nlt (by assumption)⟩]; done) | (rw [paA, paV, if_neg (fun q => by first | omega | exact absurd q.2.1 (Int32.not_le.mpr (by assumption)) | exact absurd q.2.2 (Int32.not_le.mpr (by assumption)))]; done)) rfl ?_
        refine V_sub (lc2 := [(0, .ref (ad 0)), (1, .int (nI g)), (2, .int (nI ((j + 1))))]) ⟨rfl, rfl, lc_e (by rfl), trivial⟩ ?_
        exact ih (j + 1) (by omega) (by omega)
      · refine V_aload_n (pc := 62) o dX9_pass_62 rfl ?_
        refine V_get (pc := 63) o 0 15 hiX9_pass rfl rfl (by decide) lkX9_pass_55 rfl rfl dX9_pass_63 ?_
        refine V_iload_n (pc := 66) o dX9_pass_66 rfl ?_
        refine V_ialdI (pc := 67) o 16 un j rfl ht rfl (by have := paA_le hap un dy j j; omega) (by decide) dX9_pass_67 ?_
        refine V_if_lt (pc := 68) o 88 dX9_pass_68 (by decide) (fun c68 => ?_) (fun c68 => ?_)
        · refine V_aload_n (pc := 88) o dX9_pass_88 rfl ?_
          refine V_get (pc := 89) o 0 14 hiX9_pass rfl rfl (by decide) lkX9_pass_52 rfl rfl dX9_pass_89 ?_
          refine V_iload_n (pc := 92) o dX9_pass_92 rfl ?_
          refine V_ialdN (pc := 93) o 15 (paA ap un dy j) j rfl ht rfl (by have := paA_le hap un dy j j; omega) (by decide) dX9_pass_93 ?_
          refine V_iastN (pc := 94) o 15 (paA ap un dy j) j ((paA ap un dy j) j) rfl ht rfl rfl (by have := paA_le hap un dy j j; omega) (by decide) dX9_pass_94 ?_
          refine V_eq (ws2 := wMod cI ad vc vr vn ne vs li ba de qp qt ql qs qc ch (va_up (paA ap un dy j) j ((paA ap un dy j) j)) un ro pi si pl rq dy en th) rfl rfl ?_
          refine V_iincN (pc := 95) o j 1 rfl dX9_pass_95 (by rw [hn]; decide) rfl (by decide) ?_
          refine V_goto (pc := 98) o 37 dX9_pass_98 (by decide) ?_
          refine V_eq (ws2 := wMod cI ad vc vr vn ne vs li ba de qp qt ql qs qc ch (paA ap un dy (j + 1)) un ro pi si pl rq dy en th) (by first | (rw [paA, paV, if_pos ⟨by omega, i_nlt (by assumption), i_nlt (by assumption)⟩]; done) | (rw [paA, paV, if_neg (fun q => by first | omega | exact absurd q.2.1 (Int32.not_le.mpr (by assumption)) | exact absurd q.2.2 (Int32.not_le.mpr (by assumption)))]; done)) rfl ?_
          refine V_sub (lc2 := [(0, .ref (ad 0)), (1, .int (nI g)), (2, .int (nI ((j + 1))))]) ⟨rfl, rfl, lc_e (by rfl), trivial⟩ ?_
          exact ih (j + 1) (by omega) (by omega)
        · refine V_aload_n (pc := 71) o dX9_pass_71 rfl ?_
          refine V_get (pc := 72) o 0 17 hiX9_pass rfl rfl (by decide) lkX9_pass_119 rfl rfl dX9_pass_72 ?_
          refine V_aload_n (pc := 75) o dX9_pass_75 rfl ?_
          refine V_get (pc := 76) o 0 15 hiX9_pass rfl rfl (by decide) lkX9_pass_55 rfl rfl dX9_pass_76 ?_
          refine V_iload_n (pc := 79) o dX9_pass_79 rfl ?_
          refine V_ialdI (pc := 80) o 16 un j rfl ht rfl (by have := paA_le hap un dy j j; omega) (by decide) dX9_pass_80 ?_
          refine V_icmp_lt (pc := 81) o 88 dX9_pass_81 (by decide) (fun c81 => ?_) (fun c81 => ?_)
          · refine V_aload_n (pc := 88) o dX9_pass_88 rfl ?_
            refine V_get (pc := 89) o 0 14 hiX9_pass rfl rfl (by decide) lkX9_pass_52 rfl rfl dX9_pass_89 ?_
            refine V_iload_n (pc := 92) o dX9_pass_92 rfl ?_
            refine V_ialdN (pc := 93) o 15 (paA ap un dy j) j rfl ht rfl (by have := paA_le hap un dy j j; omega) (by decide) dX9_pass_93 ?_
            refine V_iastN (pc := 94) o 15 (paA ap un dy j) j ((paA ap un dy j) j) rfl ht rfl rfl (by have := paA_le hap un dy j j; omega) (by decide) dX9_pass_94 ?_
            refine V_eq (ws2 := wMod cI ad vc vr vn ne vs li ba de qp qt ql qs qc ch (va_up (paA ap un dy j) j ((paA ap un dy j) j)) un ro pi si pl rq dy en th) rfl rfl ?_
            refine V_iincN (pc := 95) o j 1 rfl dX9_pass_95 (by rw [hn]; decide) rfl (by decide) ?_
            refine V_goto (pc := 98) o 37 dX9_pass_98 (by decide) ?_
            refine V_eq (ws2 := wMod cI ad vc vr vn ne vs li ba de qp qt ql qs qc ch (paA ap un dy (j + 1)) un ro pi si pl rq dy en th) (by first | (rw [paA, paV, if_pos ⟨by omega, i_nlt (by assumption), i_nlt (by assumption)⟩]; done) | (rw [paA, paV, if_neg (fun q => by first | omega | exact absurd q.2.1 (Int32.not_le.mpr (by assumption)) | exact absurd q.2.2 (Int32.not_le.mpr (by assumption)))]; done)) rfl ?_
            refine V_sub (lc2 := [(0, .ref (ad 0)), (1, .int (nI g)), (2, .int (nI ((j + 1))))]) ⟨rfl, rfl, lc_e (by rfl), trivial⟩ ?_
            exact ih (j + 1) (by omega) (by omega)
          · refine V_iconst (pc := 84) o 0 dX9_pass_84 (by decide) ?_
            refine V_goto (pc := 85) o 94 dX9_pass_85 (by decide) ?_
            refine V_iastN (pc := 94) o 15 (paA ap un dy j) j 0 rfl ht rfl rfl (by have := paA_le hap un dy j j; omega) (by decide) dX9_pass_94 ?_
            refine V_eq (ws2 := wMod cI ad vc vr vn ne vs li ba de qp qt ql qs qc ch (va_up (paA ap un dy j) j 0) un ro pi si pl rq dy en th) rfl rfl ?_
            refine V_iincN (pc := 95) o j 1 rfl dX9_pass_95 (by rw [hn]; decide) rfl (by decide) ?_
            refine V_goto (pc := 98) o 37 dX9_pass_98 (by decide) ?_
            refine V_eq (ws2 := wMod cI ad vc vr vn ne vs li ba de qp qt ql qs qc ch (paA ap un dy (j + 1)) un ro pi si pl rq dy en th) (by first | (rw [paA, paV, if_pos ⟨by omega, i_nlt (by assumption), i_nlt (by assumption)⟩]; done) | (rw [paA, paV, if_neg (fun q => by first | omega | exact absurd q.2.1 (Int32.not_le.mpr (by assumption)) | exact absurd q.2.2 (Int32.not_le.mpr (by assumption)))]; done)) rfl ?_
            refine V_sub (lc2 := [(0, .ref (ad 0)), (1, .int (nI g)), (2, .int (nI ((j + 1))))]) ⟨rfl, rfl, lc_e (by rfl), trivial⟩ ?_
            exact ih (j + 1) (by omega) (by omega)
theorem lkX9_pass_88 : Cond.fieldLink RX9 88 RX9 "entries" "I" ∈ wsX9_pass := by decide +kernel
set_option maxHeartbeats 4000000 in
set_option maxRecDepth 100000 in
/-- reference: passK -/
theorem k9_passK (l : Launch) (D : va_G) (tys : List (ClassId × FieldType)) (cI : ClassId) (ht : tys[0]? = some (cI, .int)) (ad : Nat → Nat) (vc : Nat → Nat) (vr : Nat → Nat) (vn : Nat → Nat) (ne : Nat → Nat) (vs : Nat → Nat) (li : Nat → Nat) (ba : Nat → Nat) (de : Nat → Nat) (qp : Nat → Nat) (qt : Nat → Nat) (ql : Nat → Nat) (qs : Nat → Nat) (qc : Nat → Nat) (ch : Nat → Nat) (ap : Nat → Nat) (un : Nat → Int32) (ro : Nat → Nat) (pi : Nat → Nat) (si : Nat → Nat) (pl : Nat → Int32) (rq : Nat) (dy : Nat) (en : Nat) (th : Int32) (g : Nat) (hm : 1 ≤ g ∧ g ≤ 60) (hap : ∀ k, ap k ≤ 8) (hrq : rq ≤ 30) : CId l yX9_pass wsX9_pass 1 D tys [.ref (ad 0), .int (nI g)] (wMod cI ad vc vr vn ne vs li ba de qp qt ql qs qc ch ap un ro pi si pl rq dy en th) (nI (dy + g)) (wMod cI ad vc vr vn ne vs li ba de qp qt ql qs qc ch (paA ap un (dy + g) (8 * rq)) un ro pi si pl rq (dy + g) (en + 1) 0) := by
  refine CI_of (maxL := 3) (cc := cX9_pass) (y := yX9_pass) rfl rfl (Nat.le_of_ble_eq_true rfl) (fun X hl hD hk hn hcz hsz o fin => ?_)
  subst hl; subst hD; subst hk
  refine V_aload_n (pc := 0) o dX9_pass_0 rfl ?_
  refine V_aload_n (pc := 1) o dX9_pass_1 rfl ?_
  refine V_iload_n (pc := 2) o dX9_pass_2 rfl ?_
  refine V_iconst (pc := 3) o 1 dX9_pass_3 (by decide) ?_
  refine V_bipush (pc := 4) o 60 dX9_pass_4 (by decide) ?_
  refine V_rVi (pc := 6) o (k9_in _ _ _ cI ht ad vc vr vn ne vs li ba de qp qt ql qs qc ch ap un ro pi si pl rq dy en th (nI g) 1 60) 0 21 gX9_pass_X9_in rfl hdX9_in ⟨by omega, by decide⟩ rfl rfl rfl (Nat.le_of_ble_eq_true rfl) dX9_pass_6 rfl ?_
  refine V_ifT (⟨nI_le (a := 1) (by omega) (by omega), nI_le (b := 60) (by omega) (by omega)⟩) ?_
  refine V_if_eq (pc := 9) o 16 dX9_pass_9 (by decide) (fun c9 => absurd c9 (by decide)) (fun _ => ?_)
  refine V_iconst (pc := 12) o 0 dX9_pass_12 (by decide) ?_
  refine V_goto (pc := 13) o 17 dX9_pass_13 (by decide) ?_
  refine V_wVi (pc := 17) o (k9_holds _ _ _ cI ht ad vc vr vn ne vs li ba de qp qt ql qs qc ch ap un ro pi si pl rq dy en th 0) 0 21 (wMod cI ad vc vr vn ne vs li ba de qp qt ql qs qc ch ap un ro pi si pl rq dy en 0) gX9_pass_X9_holds rfl hdX9_holds ⟨by omega, by decide⟩ rfl rfl rfl (Nat.le_of_ble_eq_true rfl) dX9_pass_17 rfl rfl ?_
  refine V_ifF (by decide) ?_
  refine V_if_eq (pc := 20) o 25 dX9_pass_20 (by decide) (fun _ => ?_) (fun c20 => absurd c20 (by decide))
  refine V_aload_n (pc := 25) o dX9_pass_25 rfl ?_
  refine V_dup (pc := 26) o rfl dX9_pass_26 ?_
  refine V_get (pc := 27) o 0 17 hiX9_pass rfl rfl (by decide) lkX9_pass_119 rfl rfl dX9_pass_27 ?_
  refine V_iload_n (pc := 30) o dX9_pass_30 rfl ?_
  refine V_iaddN (pc := 31) o dy g rfl rfl dX9_pass_31 ?_
  refine V_put (pc := 32) o 0 17 hiX9_pass tyX9 tyX9_ok nmX9 rfl rfl (by decide) lkX9_pass_119 rfl rfl rfl rfl rfl (Nat.le_of_ble_eq_true rfl) dX9_pass_32 ?_
  refine V_eq (ws2 := wMod cI ad vc vr vn ne vs li ba de qp qt ql qs qc ch ap un ro pi si pl rq (dy + g) en 0) rfl rfl ?_
  refine V_iconst (pc := 35) o 0 dX9_pass_35 (by decide) ?_
  refine V_istore_n (pc := 36) o dX9_pass_36 (by rw [hn]; decide) ?_
  refine V_eq (ws2 := wMod cI ad vc vr vn ne vs li ba de qp qt ql qs qc ch (paA ap un (dy + g) 0) un ro pi si pl rq (dy + g) en 0) rfl rfl ?_
  refine V_sub (lc2 := [(0, .ref (ad 0)), (1, .int (nI g)), (2, .int (nI 0))]) ⟨rfl, rfl, rfl, trivial⟩ ?_
  refine lpX9_pass o hn cI ht ad vc vr vn ne vs li ba de qp qt ql qs qc ch ap un ro pi si pl rq (dy + g) en 0 g hap hrq ?_ (8 * rq + 1) 0 (by omega) (by omega)
  refine V_aload_n (pc := 101) o dX9_pass_101 rfl ?_
  refine V_dup (pc := 102) o rfl dX9_pass_102 ?_
  refine V_get (pc := 103) o 0 18 hiX9_pass rfl rfl (by decide) lkX9_pass_88 rfl rfl dX9_pass_103 ?_
  refine V_iconst (pc := 106) o 1 dX9_pass_106 (by decide) ?_
  refine V_iaddN (pc := 107) o en 1 rfl rfl dX9_pass_107 ?_
  refine V_put (pc := 108) o 0 18 hiX9_pass tyX9 tyX9_ok nmX9 rfl rfl (by decide) lkX9_pass_88 rfl rfl rfl rfl rfl (Nat.le_of_ble_eq_true rfl) dX9_pass_108 ?_
  refine V_eq (ws2 := wMod cI ad vc vr vn ne vs li ba de qp qt ql qs qc ch (paA ap un (dy + g) (8 * rq)) un ro pi si pl rq (dy + g) (en + 1) 0) rfl rfl ?_
  refine V_aload_n (pc := 111) o dX9_pass_111 rfl ?_
  refine V_get (pc := 112) o 0 17 hiX9_pass rfl rfl (by decide) lkX9_pass_119 rfl rfl dX9_pass_112 ?_
  exact fin 115 _ _ () dX9_pass_115 rfl rfl
