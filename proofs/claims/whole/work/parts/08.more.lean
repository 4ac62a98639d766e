def prN (L0 L1 L2 : Nat → Int32) (dy p c : Int32) : Nat → Int32
  | 0 => -1
  | n + 1 => if dy < rat 8 L2 (nI (8 - (n + 1))) ∧ rat 8 L1 (nI (8 - (n + 1))) = p ∧ c ≤ rat 8 L0 (nI (8 - (n + 1))) then nI (8 - (n + 1)) else prN L0 L1 L2 dy p c n
def prF (L0 L1 L2 : Nat → Int32) (dy p c : Int32) : Int32 := if dy < rat 8 L2 p then -1 else if c ≤ rat 8 L0 p then p else if 2 * rat 8 L0 p < c then -1 else prN L0 L1 L2 dy p c 8
theorem hiX4_principalOf_X4 : ∀ w ∈ wsX40, w ∈ wsX4_principalOf := by decide +kernel
theorem lkX4_principalOf_20 : Cond.fieldLink RX4 20 RX4 "delegates" "LApprovalyard$Row;" ∈ wsX4_principalOf := by decide +kernel
theorem lkX4_principalOf_14 : Cond.fieldLink RX4 14 RX4 "limits" "LApprovalyard$Row;" ∈ wsX4_principalOf := by decide +kernel
set_option maxHeartbeats 4000000 in
set_option maxRecDepth 100000 in
theorem lpX4_principalOf {X : XT} (o : OkX X cX4_principalOf RX4 wsX4_principalOf 2) (hn : XN X = 4) (cI : ClassId) (ht : (XK X)[0]? = some (cI, .int)) (ad : Nat → Nat) (L0 L1 L2 : Nat → Int32) (dy p c : Int32) : ∀ n : Nat, n ≤ 8 → (∀ pc lc v, decode cX4_principalOf pc = .ok (.ireturn, 1) → v = prN L0 L1 L2 dy p c n → V X 0 0 (wPeople cI ad L0 L1 L2 dy) pc lc [.int v]) → V X 0 0 (wPeople cI ad L0 L1 L2 dy) 42 [(0, .ref (ad 0)), (1, .int p), (2, .int c), (3, .int (nI (8 - n)))] [] := by
  intro n
  induction n with
  | zero =>
    intro h1 fin
    refine V_iload_n (pc := 42) o dX4_principalOf_42 rfl ?_
    refine V_bipush (pc := 43) o 8 dX4_principalOf_43 (by decide) ?_
    refine V_icmp_ge (pc := 45) o 88 dX4_principalOf_45 (by decide) (fun c45 => ?_) (fun c45 => ?_)
    · refine V_iconst (pc := 88) o (-1) dX4_principalOf_88 (by decide) ?_
      exact fin 89 _ _ dX4_principalOf_89 rfl
    · exact absurd (show (8 : Int32) ≤ nI (8 - 0) by decide) c45
  | succ n ih =>
    intro h1 fin
    refine V_iload_n (pc := 42) o dX4_principalOf_42 rfl ?_
    refine V_bipush (pc := 43) o 8 dX4_principalOf_43 (by decide) ?_
    refine V_icmp_ge (pc := 45) o 88 dX4_principalOf_45 (by decide) (fun c45 => ?_) (fun c45 => ?_)
    · refine V_iconst (pc := 88) o (-1) dX4_principalOf_88 (by decide) ?_
      exact absurd (le_of_nI (K := 8) c45) (by omega)
    · refine V_aload_n (pc := 48) o dX4_principalOf_48 rfl ?_
      refine V_iload_n (pc := 49) o dX4_principalOf_49 rfl ?_
      refine V_rVi (pc := 50) o (cX4_isAway_met _ _ _ cI ht ad L0 L1 L2 dy (nI (8 - (n + 1)))) 0 7 gX4_principalOf_X4_isAway rfl hdX4_isAway (by decide) rfl rfl rfl (Nat.le_of_ble_eq_true rfl) dX4_principalOf_50 rfl ?_
      refine V_ite (fun b50 => ?_) (fun b50 => ?_)
      · refine V_if_eq (pc := 53) o 82 dX4_principalOf_53 (by decide) (fun c53 => absurd c53 (by decide)) (fun _ => ?_)
        refine V_aload_n (pc := 56) o dX4_principalOf_56 rfl ?_
        refine V_get (pc := 57) o 0 1 hiX4_principalOf_X4 rfl rfl (by decide) lkX4_principalOf_20 rfl rfl dX4_principalOf_57 ?_
        refine V_iload_n (pc := 60) o dX4_principalOf_60 rfl ?_
        refine V_rVi (pc := 61) o (cX6_at_met _ _ _ cI ht _ _ 8 L1 (by decide) _) 3 2 gX4_principalOf_X6_at rfl hdX6_at (by decide) rfl rfl rfl (Nat.le_of_ble_eq_true rfl) dX4_principalOf_61 rfl ?_
        refine V_iload_n (pc := 64) o dX4_principalOf_64 rfl ?_
        refine V_icmp_ne (pc := 65) o 82 dX4_principalOf_65 (by decide) (fun c65 => ?_) (fun c65 => ?_)
        · refine V_iinc (pc := 82) o 1 dX4_principalOf_82 (by rw [hn]; decide) rfl (by decide) ?_
          refine V_goto (pc := 85) o 42 dX4_principalOf_85 (by decide) ?_
          refine V_sub (lc2 := [(0, .ref (ad 0)), (1, .int p), (2, .int c), (3, .int (nI (8 - n)))]) ⟨rfl, rfl, rfl, lc_e (by rw [nI_1]; congr 1; omega), trivial⟩ ?_
          refine ih (by omega) (fun pc lc v dg e => fin pc lc v dg (by rw [e, prN]; exact (if_neg (fun q => by first | exact absurd (by assumption) q.1 | exact absurd q.1 (by assumption) | exact absurd q.2.1 (by assumption) | exact absurd q.2.2 (Int32.not_le.mpr (by assumption)))).symm))
        · refine V_aload_n (pc := 68) o dX4_principalOf_68 rfl ?_
          refine V_get (pc := 69) o 0 0 hiX4_principalOf_X4 rfl rfl (by decide) lkX4_principalOf_14 rfl rfl dX4_principalOf_69 ?_
          refine V_iload_n (pc := 72) o dX4_principalOf_72 rfl ?_
          refine V_rVi (pc := 73) o (cX6_at_met _ _ _ cI ht _ _ 8 L0 (by decide) _) 1 2 gX4_principalOf_X6_at rfl hdX6_at (by decide) rfl rfl rfl (Nat.le_of_ble_eq_true rfl) dX4_principalOf_73 rfl ?_
          refine V_iload_n (pc := 76) o dX4_principalOf_76 rfl ?_
          refine V_icmp_lt (pc := 77) o 82 dX4_principalOf_77 (by decide) (fun c77 => ?_) (fun c77 => ?_)
          · refine V_iinc (pc := 82) o 1 dX4_principalOf_82 (by rw [hn]; decide) rfl (by decide) ?_
            refine V_goto (pc := 85) o 42 dX4_principalOf_85 (by decide) ?_
            refine V_sub (lc2 := [(0, .ref (ad 0)), (1, .int p), (2, .int c), (3, .int (nI (8 - n)))]) ⟨rfl, rfl, rfl, lc_e (by rw [nI_1]; congr 1; omega), trivial⟩ ?_
            refine ih (by omega) (fun pc lc v dg e => fin pc lc v dg (by rw [e, prN]; exact (if_neg (fun q => by first | exact absurd (by assumption) q.1 | exact absurd q.1 (by assumption) | exact absurd q.2.1 (by assumption) | exact absurd q.2.2 (Int32.not_le.mpr (by assumption)))).symm))
          · refine V_iload_n (pc := 80) o dX4_principalOf_80 rfl ?_
            exact fin 81 _ _ dX4_principalOf_81 (by rw [prN]; exact (if_pos ⟨by assumption, by assumption, i_nlt (by assumption)⟩).symm)
      · refine V_if_eq (pc := 53) o 82 dX4_principalOf_53 (by decide) (fun _ => ?_) (fun c53 => absurd c53 (by decide))
        refine V_iinc (pc := 82) o 1 dX4_principalOf_82 (by rw [hn]; decide) rfl (by decide) ?_
        refine V_goto (pc := 85) o 42 dX4_principalOf_85 (by decide) ?_
        refine V_sub (lc2 := [(0, .ref (ad 0)), (1, .int p), (2, .int c), (3, .int (nI (8 - n)))]) ⟨rfl, rfl, rfl, lc_e (by rw [nI_1]; congr 1; omega), trivial⟩ ?_
        refine ih (by omega) (fun pc lc v dg e => fin pc lc v dg (by rw [e, prN]; exact (if_neg (fun q => by first | exact absurd (by assumption) q.1 | exact absurd q.1 (by assumption) | exact absurd q.2.1 (by assumption) | exact absurd q.2.2 (Int32.not_le.mpr (by assumption)))).symm))
theorem hdX4_principalOf : yX4_principalOf.cls = RX4 ∧ yX4_principalOf.cls ≠ "java/lang/invoke/MethodHandle" ∧ yX4_principalOf.cls ≠ "java/lang/invoke/VarHandle" ∧ (parseMethodDescriptor yX4_principalOf.desc).map (fun d => d.parameters.length) = some 2 := by decide +kernel
set_option maxHeartbeats 4000000 in
set_option maxRecDepth 100000 in
/-- X4.principalOf -/
theorem cX4_principalOf_met (l : Launch) (D : va_G) (tys : List (ClassId × FieldType)) (cI : ClassId) (ht : tys[0]? = some (cI, .int)) (ad : Nat → Nat) (L0 L1 L2 : Nat → Int32) (dy : Int32) (p c : Int32) : CId l yX4_principalOf wsX4_principalOf 2 D tys [.ref (ad 0), .int p, .int c] (wPeople cI ad L0 L1 L2 dy) (prF L0 L1 L2 dy p c) (wPeople cI ad L0 L1 L2 dy) := by
  refine CI_of (maxL := 4) (cc := cX4_principalOf) (y := yX4_principalOf) rfl rfl (Nat.le_of_ble_eq_true rfl) (fun X hl hD hk hn hcz hsz o fin => ?_)
  subst hl; subst hD; subst hk
  refine V_aload_n (pc := 0) o dX4_principalOf_0 rfl ?_
  refine V_iload_n (pc := 1) o dX4_principalOf_1 rfl ?_
  refine V_rVi (pc := 2) o (cX4_isAway_met _ _ _ cI ht ad L0 L1 L2 dy p) 0 7 gX4_principalOf_X4_isAway rfl hdX4_isAway (by decide) rfl rfl rfl (Nat.le_of_ble_eq_true rfl) dX4_principalOf_2 rfl ?_
  refine V_ite (fun b2 => ?_) (fun b2 => ?_)
  · refine V_if_eq (pc := 5) o 10 dX4_principalOf_5 (by decide) (fun c5 => absurd c5 (by decide)) (fun _ => ?_)
    refine V_iconst (pc := 8) o (-1) dX4_principalOf_8 (by decide) ?_
    exact fin 9 _ _ () dX4_principalOf_9 rfl (by unfold prF; exact (if_pos (by assumption)).symm)
  · refine V_if_eq (pc := 5) o 10 dX4_principalOf_5 (by decide) (fun _ => ?_) (fun c5 => absurd c5 (by decide))
    refine V_aload_n (pc := 10) o dX4_principalOf_10 rfl ?_
    refine V_get (pc := 11) o 0 0 hiX4_principalOf_X4 rfl rfl (by decide) lkX4_principalOf_14 rfl rfl dX4_principalOf_11 ?_
    refine V_iload_n (pc := 14) o dX4_principalOf_14 rfl ?_
    refine V_rVi (pc := 15) o (cX6_at_met _ _ _ cI ht _ _ 8 L0 (by decide) _) 1 2 gX4_principalOf_X6_at rfl hdX6_at (by decide) rfl rfl rfl (Nat.le_of_ble_eq_true rfl) dX4_principalOf_15 rfl ?_
    refine V_iload_n (pc := 18) o dX4_principalOf_18 rfl ?_
    refine V_icmp_lt (pc := 19) o 24 dX4_principalOf_19 (by decide) (fun c19 => ?_) (fun c19 => ?_)
    · refine V_iload_n (pc := 24) o dX4_principalOf_24 rfl ?_
      refine V_iconst (pc := 25) o 2 dX4_principalOf_25 (by decide) ?_
      refine V_aload_n (pc := 26) o dX4_principalOf_26 rfl ?_
      refine V_get (pc := 27) o 0 0 hiX4_principalOf_X4 rfl rfl (by decide) lkX4_principalOf_14 rfl rfl dX4_principalOf_27 ?_
      refine V_iload_n (pc := 30) o dX4_principalOf_30 rfl ?_
      refine V_rVi (pc := 31) o (cX6_at_met _ _ _ cI ht _ _ 8 L0 (by decide) _) 1 2 gX4_principalOf_X6_at rfl hdX6_at (by decide) rfl rfl rfl (Nat.le_of_ble_eq_true rfl) dX4_principalOf_31 rfl ?_
      refine V_imul (pc := 34) o dX4_principalOf_34 ?_
      refine V_icmp_le (pc := 35) o 40 dX4_principalOf_35 (by decide) (fun c35 => ?_) (fun c35 => ?_)
      · refine V_iconst (pc := 40) o 0 dX4_principalOf_40 (by decide) ?_
        refine V_istore_n (pc := 41) o dX4_principalOf_41 (by rw [hn]; decide) ?_
        refine V_sub (lc2 := [(0, .ref (ad 0)), (1, .int p), (2, .int c), (3, .int (nI (8 - 8)))]) ⟨rfl, rfl, rfl, rfl, trivial⟩ ?_
        refine lpX4_principalOf o hn cI ht ad L0 L1 L2 dy p c 8 (by omega) (fun pc lc v dg e => fin pc lc v () dg rfl ?_)
        rw [e]; unfold prF; rw [if_neg (by assumption), if_neg (fun q => absurd q (Int32.not_le.mpr (by assumption))), if_neg (Int32.not_lt.mpr (by assumption))]
      · refine V_iconst (pc := 38) o (-1) dX4_principalOf_38 (by decide) ?_
        exact fin 39 _ _ () dX4_principalOf_39 rfl (by unfold prF; rw [if_neg (by assumption), if_neg (fun q => absurd q (Int32.not_le.mpr (by assumption))), if_pos (i_nle (by assumption))])
    · refine V_iload_n (pc := 22) o dX4_principalOf_22 rfl ?_
      exact fin 23 _ _ () dX4_principalOf_23 rfl (by unfold prF; rw [if_neg (by assumption), if_pos (i_nlt (by assumption))])
abbrev T4 : Type := (Nat → Int32) × (Nat → Int32) × (Nat → Int32) × (Nat → Int32)
def lvS (T : T4) (p v q : Int32) : T4 := if chv (rat 30 T.2.1 q) p = v then (if rat 30 T.1 q = 1 then (rup 30 T.1 q 0, rup 30 T.2.1 q 0, rup 30 T.2.2.1 q 0, erN T.2.2.2 q 8) else (T.1, T.2.1, T.2.2.1, erN T.2.2.2 q 8)) else T
def lvT (T : T4) (p v : Int32) : Nat → T4
  | 0 => T
  | n + 1 => lvS (lvT T p v n) p v (nI n)
def lvE (T : T4) (p v dy : Int32) : Nat → Int32
  | 0 => 0
  | n + 1 => if chv (rat 30 (lvT T p v n).2.1 (nI n)) p = v then lvE T p v dy n + apN (lvT T p v n).2.2.2 (nI n) dy 8 else lvE T p v dy n
theorem tcn_le {x : Int32} {j : Nat} (h : x ≤ nI j) (hj : j < 2 ^ 31) : x.toNatClampNeg ≤ j := by
  rcases Int32.lt_or_le x 0 with q | q
  · have : x.toNatClampNeg = 0 := by
      have h1 : x.toInt < 0 := by simpa using Int32.lt_iff_toInt_lt.mp q
      show x.toInt.toNat = 0
      omega
    omega
  · obtain ⟨k, hk, rfl⟩ := nI_of (Int32.not_lt.mpr q)
    rw [nI_clamp hk]
    exact (nI_leI hk hj).mp h
theorem tcn_lt {x : Int32} {j : Nat} (h : ¬ x ≤ nI j) (hj : j < 2 ^ 31) : j < x.toNatClampNeg := by
  have h0 : ¬ x < 0 := fun q => h (Int32.le_trans (Int32.le_of_lt q) (nI_pos' hj))
  obtain ⟨k, hk, rfl⟩ := nI_of h0
  rw [nI_clamp hk]
  rcases Nat.lt_or_ge j k with q | q
  · exact q
  · exact absurd (nI_le q hj) h
theorem tcn_b (x : Int32) : x.toNatClampNeg < 2 ^ 31 := by
  have := Int32.toInt_lt x
  show x.toInt.toNat < 2 ^ 31
  omega
theorem hiX5_loseVersion_X5 : ∀ w ∈ wsX50, w ∈ wsX5_loseVersion := by decide +kernel
theorem lkX5_loseVersion_38 : Cond.fieldLink RX5 38 RX5 "number" "I" ∈ wsX5_loseVersion := by decide +kernel
theorem lkX5_loseVersion_29 : Cond.fieldLink RX5 29 RX5 "choices" "LApprovalyard$Row;" ∈ wsX5_loseVersion := by decide +kernel
theorem lkX5_loseVersion_26 : Cond.fieldLink RX5 26 RX5 "states" "LApprovalyard$Row;" ∈ wsX5_loseVersion := by decide +kernel
set_option maxHeartbeats 4000000 in
set_option maxRecDepth 100000 in
theorem lpX5_loseVersion {X : XT} (o : OkX X cX5_loseVersion RX5 wsX5_loseVersion 3) (hn : XN X = 6) (cI : ClassId) (ht : (XK X)[0]? = some (cI, .int)) (ad : Nat → Nat) (Q0 Q1 Q2 Q3 Q4 Q5 Q6 : Nat → Int32) (nm : Int32) (p v dy : Int32) (kk : V X 0 0 (wReqs cI ad Q0 Q1 Q2 ((lvT (Q3, Q4, Q5, Q6) p v nm.toNatClampNeg).1) ((lvT (Q3, Q4, Q5, Q6) p v nm.toNatClampNeg).2.1) ((lvT (Q3, Q4, Q5, Q6) p v nm.toNatClampNeg).2.2.1) ((lvT (Q3, Q4, Q5, Q6) p v nm.toNatClampNeg).2.2.2) nm) 75 [(0, .ref (ad 0)), (1, .int (p)), (2, .int (v)), (3, .int (dy)), (4, .int (lvE (Q3, Q4, Q5, Q6) p v dy nm.toNatClampNeg)), (5, .int (nI nm.toNatClampNeg))] []) : ∀ (m j : Nat), nm.toNatClampNeg - j < m → j ≤ nm.toNatClampNeg → V X 0 0 (wReqs cI ad Q0 Q1 Q2 ((lvT (Q3, Q4, Q5, Q6) p v j).1) ((lvT (Q3, Q4, Q5, Q6) p v j).2.1) ((lvT (Q3, Q4, Q5, Q6) p v j).2.2.1) ((lvT (Q3, Q4, Q5, Q6) p v j).2.2.2) nm) 6 [(0, .ref (ad 0)), (1, .int (p)), (2, .int (v)), (3, .int (dy)), (4, .int (lvE (Q3, Q4, Q5, Q6) p v dy j)), (5, .int (nI j))] [] := by
  intro m
  induction m with
  | zero => intro j h1; exact absurd h1 (Nat.not_lt_zero _)
  | succ m ih =>
    intro j h1 h2
    refine V_iload (pc := 6) o dX5_loseVersion_6 rfl ?_
    refine V_aload_n (pc := 8) o dX5_loseVersion_8 rfl ?_
    refine V_get (pc := 9) o 0 7 hiX5_loseVersion_X5 rfl rfl (by decide) lkX5_loseVersion_38 rfl rfl dX5_loseVersion_9 ?_
    refine V_icmp_ge (pc := 12) o 75 dX5_loseVersion_12 (by decide) (fun c12 => ?_) (fun c12 => ?_)
    · have e1 : j = nm.toNatClampNeg := Nat.le_antisymm h2 (tcn_le c12 (Nat.lt_of_le_of_lt h2 (tcn_b nm)))
      rw [← e1] at kk
      exact V_sub (lc2 := [(0, .ref (ad 0)), (1, .int p), (2, .int v), (3, .int dy), (4, .int (lvE (Q3, Q4, Q5, Q6) p v dy j)), (5, .int (nI j))]) ⟨rfl, rfl, rfl, rfl, rfl, rfl, trivial⟩ kk
    · have q1 : j < nm.toNatClampNeg := tcn_lt c12 (Nat.lt_of_le_of_lt h2 (tcn_b nm))
      refine V_aload_n (pc := 15) o dX5_loseVersion_15 rfl ?_
      refine V_get (pc := 16) o 0 4 hiX5_loseVersion_X5 rfl rfl (by decide) lkX5_loseVersion_29 rfl rfl dX5_loseVersion_16 ?_
      refine V_iload (pc := 19) o dX5_loseVersion_19 rfl ?_
      refine V_rVi (pc := 21) o (cX6_at_met _ _ _ cI ht _ _ 30 ((lvT (Q3, Q4, Q5, Q6) p v j).2.1) (by decide) _) 9 2 gX5_loseVersion_X6_at rfl hdX6_at (by decide) rfl rfl rfl (Nat.le_of_ble_eq_true rfl) dX5_loseVersion_21 rfl ?_
      refine V_iload_n (pc := 24) o dX5_loseVersion_24 rfl ?_
      refine V_rSi (pc := 25) o (cX1_versionOf_met _ _ _ (rat 30 ((lvT (Q3, Q4, Q5, Q6) p v j).2.1) (nI j)) p) 0 0 gX5_loseVersion_X1_versionOf rfl hdX1_versionOf (by decide) rfl (Nat.le_of_ble_eq_true rfl) dX5_loseVersion_25 rfl ?_
      refine V_iload_n (pc := 28) o dX5_loseVersion_28 rfl ?_
      refine V_icmp_ne (pc := 29) o 69 dX5_loseVersion_29 (by decide) (fun c29 => ?_) (fun c29 => ?_)
      · refine V_iinc (pc := 69) o 1 dX5_loseVersion_69 (by rw [hn]; decide) rfl (by decide) ?_
        refine V_goto (pc := 72) o 6 dX5_loseVersion_72 (by decide) ?_
        refine V_eq (ws2 := wReqs cI ad Q0 Q1 Q2 ((lvT (Q3, Q4, Q5, Q6) p v (j + 1)).1) ((lvT (Q3, Q4, Q5, Q6) p v (j + 1)).2.1) ((lvT (Q3, Q4, Q5, Q6) p v (j + 1)).2.2.1) ((lvT (Q3, Q4, Q5, Q6) p v (j + 1)).2.2.2) nm) (by first | (rw [lvT, lvS, if_pos (by first | assumption | exact Decidable.not_not.mp (by assumption)), if_pos (by first | assumption | exact Decidable.not_not.mp (by assumption))]; done) | (rw [lvT, lvS, if_pos (by first | assumption | exact Decidable.not_not.mp (by assumption)), if_neg (by assumption)]; done) | (rw [lvT, lvS, if_neg (by assumption)]; done)) rfl ?_
        refine V_sub (lc2 := [(0, .ref (ad 0)), (1, .int (p)), (2, .int (v)), (3, .int (dy)), (4, .int (lvE (Q3, Q4, Q5, Q6) p v dy (j + 1))), (5, .int (nI (j + 1)))]) ⟨rfl, rfl, rfl, rfl, lc_e (by first | rfl | exact nI_1 _ | (simp only [lvE]; first | (rw [if_pos (by first | assumption | exact Decidable.not_not.mp (by assumption))]; done) | (rw [if_neg (by assumption)]; done))), lc_e (by first | rfl | exact nI_1 _ | (simp only [lvE]; first | (rw [if_pos (by first | assumption | exact Decidable.not_not.mp (by assumption))]; done) | (rw [if_neg (by assumption)]; done))), trivial⟩ ?_
        exact ih (j + 1) (by omega) (by omega)
      · refine V_iload (pc := 32) o dX5_loseVersion_32 rfl ?_
        refine V_aload_n (pc := 34) o dX5_loseVersion_34 rfl ?_
        refine V_iload (pc := 35) o dX5_loseVersion_35 rfl ?_
        refine V_iload_n (pc := 37) o dX5_loseVersion_37 rfl ?_
        refine V_rVi (pc := 38) o (cX5_approvalsOf_met _ _ _ cI ht ad Q0 Q1 Q2 ((lvT (Q3, Q4, Q5, Q6) p v j).1) ((lvT (Q3, Q4, Q5, Q6) p v j).2.1) ((lvT (Q3, Q4, Q5, Q6) p v j).2.2.1) ((lvT (Q3, Q4, Q5, Q6) p v j).2.2.2) nm (nI j) dy) 0 15 gX5_loseVersion_X5_approvalsOf rfl hdX5_approvalsOf (by decide) rfl rfl rfl (Nat.le_of_ble_eq_true rfl) dX5_loseVersion_38 rfl ?_
        refine V_iadd (pc := 41) o dX5_loseVersion_41 ?_
        refine V_istore (pc := 42) o dX5_loseVersion_42 (by rw [hn]; decide) ?_
        refine V_aload_n (pc := 44) o dX5_loseVersion_44 rfl ?_
        refine V_iload (pc := 45) o dX5_loseVersion_45 rfl ?_
        refine V_wVv (pc := 47) o (cX5_endApprovals_met _ _ _ cI ht ad Q0 Q1 Q2 ((lvT (Q3, Q4, Q5, Q6) p v j).1) ((lvT (Q3, Q4, Q5, Q6) p v j).2.1) ((lvT (Q3, Q4, Q5, Q6) p v j).2.2.1) ((lvT (Q3, Q4, Q5, Q6) p v j).2.2.2) nm (nI j)) 0 15 (wReqs cI ad Q0 Q1 Q2 ((lvT (Q3, Q4, Q5, Q6) p v j).1) ((lvT (Q3, Q4, Q5, Q6) p v j).2.1) ((lvT (Q3, Q4, Q5, Q6) p v j).2.2.1) (erN ((lvT (Q3, Q4, Q5, Q6) p v j).2.2.2) (nI j) 8) nm) gX5_loseVersion_X5_endApprovals rfl hdX5_endApprovals (by decide) rfl rfl rfl (Nat.le_of_ble_eq_true rfl) dX5_loseVersion_47 rfl rfl ?_
        refine V_aload_n (pc := 50) o dX5_loseVersion_50 rfl ?_
        refine V_get (pc := 51) o 0 3 hiX5_loseVersion_X5 rfl rfl (by decide) lkX5_loseVersion_26 rfl rfl dX5_loseVersion_51 ?_
        refine V_iload (pc := 54) o dX5_loseVersion_54 rfl ?_
        refine V_rVi (pc := 56) o (cX6_at_met _ _ _ cI ht _ _ 30 ((lvT (Q3, Q4, Q5, Q6) p v j).1) (by decide) _) 7 2 gX5_loseVersion_X6_at rfl hdX6_at (by decide) rfl rfl rfl (Nat.le_of_ble_eq_true rfl) dX5_loseVersion_56 rfl ?_
        refine V_iconst (pc := 59) o 1 dX5_loseVersion_59 (by decide) ?_
        refine V_icmp_ne (pc := 60) o 69 dX5_loseVersion_60 (by decide) (fun c60 => ?_) (fun c60 => ?_)
        · refine V_iinc (pc := 69) o 1 dX5_loseVersion_69 (by rw [hn]; decide) rfl (by decide) ?_
          refine V_goto (pc := 72) o 6 dX5_loseVersion_72 (by decide) ?_
          refine V_eq (ws2 := wReqs cI ad Q0 Q1 Q2 ((lvT (Q3, Q4, Q5, Q6) p v (j + 1)).1) ((lvT (Q3, Q4, Q5, Q6) p v (j + 1)).2.1) ((lvT (Q3, Q4, Q5, Q6) p v (j + 1)).2.2.1) ((lvT (Q3, Q4, Q5, Q6) p v (j + 1)).2.2.2) nm) (by first | (rw [lvT, lvS, if_pos (by first | assumption | exact Decidable.not_not.mp (by assumption)), if_pos (by first | assumption | exact Decidable.not_not.mp (by assumption))]; done) | (rw [lvT, lvS, if_pos (by first | assumption | exact Decidable.not_not.mp (by assumption)), if_neg (by assumption)]; done) | (rw [lvT, lvS, if_neg (by assumption)]; done)) rfl ?_
          refine V_sub (lc2 := [(0, .ref (ad 0)), (1, .int (p)), (2, .int (v)), (3, .int (dy)), (4, .int (lvE (Q3, Q4, Q5, Q6) p v dy (j + 1))), (5, .int (nI (j + 1)))]) ⟨rfl, rfl, rfl, rfl, lc_e (by first | rfl | exact nI_1 _ | (simp only [lvE]; first | (rw [if_pos (by first | assumption | exact Decidable.not_not.mp (by assumption))]; done) | (rw [if_neg (by assumption)]; done))), lc_e (by first | rfl | exact nI_1 _ | (simp only [lvE]; first | (rw [if_pos (by first | assumption | exact Decidable.not_not.mp (by assumption))]; done) | (rw [if_neg (by assumption)]; done))), trivial⟩ ?_
          exact ih (j + 1) (by omega) (by omega)
        · refine V_aload_n (pc := 63) o dX5_loseVersion_63 rfl ?_
          refine V_iload (pc := 64) o dX5_loseVersion_64 rfl ?_
          refine V_wVv (pc := 66) o (cX5_reopen_met _ _ _ cI ht ad Q0 Q1 Q2 ((lvT (Q3, Q4, Q5, Q6) p v j).1) ((lvT (Q3, Q4, Q5, Q6) p v j).2.1) ((lvT (Q3, Q4, Q5, Q6) p v j).2.2.1) (erN ((lvT (Q3, Q4, Q5, Q6) p v j).2.2.2) (nI j) 8) nm (nI j)) 0 15 (wReqs cI ad Q0 Q1 Q2 (rup 30 ((lvT (Q3, Q4, Q5, Q6) p v j).1) (nI j) 0) (rup 30 ((lvT (Q3, Q4, Q5, Q6) p v j).2.1) (nI j) 0) (rup 30 ((lvT (Q3, Q4, Q5, Q6) p v j).2.2.1) (nI j) 0) (erN ((lvT (Q3, Q4, Q5, Q6) p v j).2.2.2) (nI j) 8) nm) gX5_loseVersion_X5_reopen rfl hdX5_reopen (by decide) rfl rfl rfl (Nat.le_of_ble_eq_true rfl) dX5_loseVersion_66 rfl rfl ?_
          refine V_iinc (pc := 69) o 1 dX5_loseVersion_69 (by rw [hn]; decide) rfl (by decide) ?_
          refine V_goto (pc := 72) o 6 dX5_loseVersion_72 (by decide) ?_
          refine V_eq (ws2 := wReqs cI ad Q0 Q1 Q2 ((lvT (Q3, Q4, Q5, Q6) p v (j + 1)).1) ((lvT (Q3, Q4, Q5, Q6) p v (j + 1)).2.1) ((lvT (Q3, Q4, Q5, Q6) p v (j + 1)).2.2.1) ((lvT (Q3, Q4, Q5, Q6) p v (j + 1)).2.2.2) nm) (by first | (rw [lvT, lvS, if_pos (by first | assumption | exact Decidable.not_not.mp (by assumption)), if_pos (by first | assumption | exact Decidable.not_not.mp (by assumption))]; done) | (rw [lvT, lvS, if_pos (by first | assumption | exact Decidable.not_not.mp (by assumption)), if_neg (by assumption)]; done) | (rw [lvT, lvS, if_neg (by assumption)]; done)) rfl ?_
          refine V_sub (lc2 := [(0, .ref (ad 0)), (1, .int (p)), (2, .int (v)), (3, .int (dy)), (4, .int (lvE (Q3, Q4, Q5, Q6) p v dy (j + 1))), (5, .int (nI (j + 1)))]) ⟨rfl, rfl, rfl, rfl, lc_e (by first | rfl | exact nI_1 _ | (simp only [lvE]; first | (rw [if_pos (by first | assumption | exact Decidable.not_not.mp (by assumption))]; done) | (rw [if_neg (by assumption)]; done))), lc_e (by first | rfl | exact nI_1 _ | (simp only [lvE]; first | (rw [if_pos (by first | assumption | exact Decidable.not_not.mp (by assumption))]; done) | (rw [if_neg (by assumption)]; done))), trivial⟩ ?_
          exact ih (j + 1) (by omega) (by omega)
theorem hdX5_loseVersion : yX5_loseVersion.cls = RX5 ∧ yX5_loseVersion.cls ≠ "java/lang/invoke/MethodHandle" ∧ yX5_loseVersion.cls ≠ "java/lang/invoke/VarHandle" ∧ (parseMethodDescriptor yX5_loseVersion.desc).map (fun d => d.parameters.length) = some 3 := by decide +kernel
set_option maxHeartbeats 4000000 in
set_option maxRecDepth 100000 in
/-- X5.loseVersion -/
theorem cX5_loseVersion_met (l : Launch) (D : va_G) (tys : List (ClassId × FieldType)) (cI : ClassId) (ht : tys[0]? = some (cI, .int)) (ad : Nat → Nat) (Q0 Q1 Q2 Q3 Q4 Q5 Q6 : Nat → Int32) (nm : Int32) (p v dy : Int32) : CId l yX5_loseVersion wsX5_loseVersion 3 D tys [.ref (ad 0), .int p, .int v, .int dy] (wReqs cI ad Q0 Q1 Q2 Q3 Q4 Q5 Q6 nm) (lvE (Q3, Q4, Q5, Q6) p v dy nm.toNatClampNeg) (wReqs cI ad Q0 Q1 Q2 ((lvT (Q3, Q4, Q5, Q6) p v nm.toNatClampNeg).1) ((lvT (Q3, Q4, Q5, Q6) p v nm.toNatClampNeg).2.1) ((lvT (Q3, Q4, Q5, Q6) p v nm.toNatClampNeg).2.2.1) ((lvT (Q3, Q4, Q5, Q6) p v nm.toNatClampNeg).2.2.2) nm) := by
  refine CI_of (maxL := 6) (cc := cX5_loseVersion) (y := yX5_loseVersion) rfl rfl (Nat.le_of_ble_eq_true rfl) (fun X hl hD hk hn hcz hsz o fin => ?_)
  subst hl; subst hD; subst hk
  refine V_iconst (pc := 0) o 0 dX5_loseVersion_0 (by decide) ?_
  refine V_istore (pc := 1) o dX5_loseVersion_1 (by rw [hn]; decide) ?_
  refine V_iconst (pc := 3) o 0 dX5_loseVersion_3 (by decide) ?_
  refine V_istore (pc := 4) o dX5_loseVersion_4 (by rw [hn]; decide) ?_
  exact V_sub (lc2 := [(0, .ref (ad 0)), (1, .int p), (2, .int v), (3, .int dy), (4, .int (lvE (Q3, Q4, Q5, Q6) p v dy 0)), (5, .int (nI 0))]) ⟨rfl, rfl, rfl, rfl, rfl, rfl, trivial⟩ (lpX5_loseVersion o hn cI ht ad Q0 Q1 Q2 Q3 Q4 Q5 Q6 nm p v dy (V_iload (pc := 75) o dX5_loseVersion_75 rfl (fin 77 _ _ () dX5_loseVersion_77 rfl rfl)) (nm.toNatClampNeg + 1) 0 (by omega) (by omega))
def pcN (P0 P2 : Nat → Int32) (p : Int32) : Nat → Int32 → Int32
  | 0, s => s
  | n + 1, s => if rat 8 P0 p < nI (4 - (n + 1)) then s else if rat 24 P2 (plc p (nI (4 - (n + 1)))) = 0 then pcN P0 P2 p n (s ||| vset (nI (4 - (n + 1))) (nI (4 - (n + 1)))) else pcN P0 P2 p n s
def pcur (P0 P2 : Nat → Int32) (p : Int32) : Int32 := pcN P0 P2 p 3 0
theorem hiX3_current_X3 : ∀ w ∈ wsX30, w ∈ wsX3_current := by decide +kernel
theorem lkX3_current_14 : Cond.fieldLink RX3 14 RX3 "counts" "LApprovalyard$Row;" ∈ wsX3_current := by decide +kernel
set_option maxHeartbeats 4000000 in
set_option maxRecDepth 100000 in
theorem lpX3_current {X : XT} (o : OkX X cX3_current RX3 wsX3_current 2) (hn : XN X = 4) (cI : ClassId) (ht : (XK X)[0]? = some (cI, .int)) (ad : Nat → Nat) (P0 P1 P2 P3 P4 P5 : Nat → Int32) (p : Int32) : ∀ (n : Nat) (s : Int32), n ≤ 3 → (∀ pc lc v, decode cX3_current pc = .ok (.ireturn, 1) → v = pcN P0 P2 p n s → V X 0 0 (wParts cI ad P0 P1 P2 P3 P4 P5) pc lc [.int v]) → V X 0 0 (wParts cI ad P0 P1 P2 P3 P4 P5) 4 [(0, .ref (ad 0)), (1, .int p), (2, .int s), (3, .int (nI (4 - n)))] [] := by
  intro n
  induction n with
  | zero =>
    intro s h1 fin
    refine V_iload_n (pc := 4) o dX3_current_4 rfl ?_
    refine V_aload_n (pc := 5) o dX3_current_5 rfl ?_
    refine V_get (pc := 6) o 0 0 hiX3_current_X3 rfl rfl (by decide) lkX3_current_14 rfl rfl dX3_current_6 ?_
    refine V_iload_n (pc := 9) o dX3_current_9 rfl ?_
    refine V_rVi (pc := 10) o (cX6_at_met _ _ _ cI ht _ _ 8 P0 (by decide) _) 1 2 gX3_current_X6_at rfl hdX6_at (by decide) rfl rfl rfl (Nat.le_of_ble_eq_true rfl) dX3_current_10 rfl ?_
    refine V_icmp_gt (pc := 13) o 44 dX3_current_13 (by decide) (fun c13 => ?_) (fun c13 => ?_)
    · refine V_iload_n (pc := 44) o dX3_current_44 rfl ?_
      exact fin 45 _ _ dX3_current_45 (by first | exact absurd (by assumption) h9 | rfl | (rw [pcN, if_pos (by assumption)]))
    · refine V_iload_n (pc := 16) o dX3_current_16 rfl ?_
      refine V_iconst (pc := 17) o 3 dX3_current_17 (by decide) ?_
      refine V_icmp_gt (pc := 18) o 44 dX3_current_18 (by decide) (fun c18 => ?_) (fun c18 => ?_)
      · refine V_iload_n (pc := 44) o dX3_current_44 rfl ?_
        exact fin 45 _ _ dX3_current_45 (by first | exact absurd (by assumption) h9 | rfl | (rw [pcN, if_pos (by assumption)]))
      · exact absurd (show (3 : Int32) < nI (4 - 0) by decide) c18
  | succ n ih =>
    intro s h1 fin
    have h9 : ¬ (3 : Int32) < nI (4 - (n + 1)) := Int32.not_lt.mpr (nI_le (b := 3) (by omega) (by decide))
    refine V_iload_n (pc := 4) o dX3_current_4 rfl ?_
    refine V_aload_n (pc := 5) o dX3_current_5 rfl ?_
    refine V_get (pc := 6) o 0 0 hiX3_current_X3 rfl rfl (by decide) lkX3_current_14 rfl rfl dX3_current_6 ?_
    refine V_iload_n (pc := 9) o dX3_current_9 rfl ?_
    refine V_rVi (pc := 10) o (cX6_at_met _ _ _ cI ht _ _ 8 P0 (by decide) _) 1 2 gX3_current_X6_at rfl hdX6_at (by decide) rfl rfl rfl (Nat.le_of_ble_eq_true rfl) dX3_current_10 rfl ?_
    refine V_icmp_gt (pc := 13) o 44 dX3_current_13 (by decide) (fun c13 => ?_) (fun c13 => ?_)
    · refine V_iload_n (pc := 44) o dX3_current_44 rfl ?_
      exact fin 45 _ _ dX3_current_45 (by first | exact absurd (by assumption) h9 | rfl | (rw [pcN, if_pos (by assumption)]))
    · refine V_iload_n (pc := 16) o dX3_current_16 rfl ?_
      refine V_iconst (pc := 17) o 3 dX3_current_17 (by decide) ?_
      refine V_icmp_gt (pc := 18) o 44 dX3_current_18 (by decide) (fun c18 => ?_) (fun c18 => ?_)
      · refine V_iload_n (pc := 44) o dX3_current_44 rfl ?_
        exact fin 45 _ _ dX3_current_45 (by first | exact absurd (by assumption) h9 | rfl | (rw [pcN, if_pos (by assumption)]))
      · refine V_aload_n (pc := 21) o dX3_current_21 rfl ?_
        refine V_iload_n (pc := 22) o dX3_current_22 rfl ?_
        refine V_iload_n (pc := 23) o dX3_current_23 rfl ?_
        refine V_rVi (pc := 24) o (cX3_isReplaced_met _ _ _ cI ht ad P0 P1 P2 P3 P4 P5 p (nI (4 - (n + 1)))) 0 13 gX3_current_X3_isReplaced rfl hdX3_isReplaced (by decide) rfl rfl rfl (Nat.le_of_ble_eq_true rfl) dX3_current_24 rfl ?_
        refine V_ite (fun b24 => ?_) (fun b24 => ?_)
        · refine V_if_ne (pc := 27) o 38 dX3_current_27 (by decide) (fun _ => ?_) (fun c27 => absurd c27 (by decide))
          refine V_iinc (pc := 38) o 1 dX3_current_38 (by rw [hn]; decide) rfl (by decide) ?_
          refine V_goto (pc := 41) o 4 dX3_current_41 (by decide) ?_
          refine V_sub (lc2 := [(0, .ref (ad 0)), (1, .int p), (2, .int (s)), (3, .int (nI (4 - n)))]) ⟨rfl, rfl, rfl, lc_e (by rw [nI_1]; congr 1; omega), trivial⟩ ?_
          refine ih _ (by omega) (fun pc lc v dg e => fin pc lc v dg (by rw [e, pcN, if_neg (by assumption)]; first | (rw [if_pos (by first | assumption | exact Decidable.not_not.mp (by assumption))]; done) | (rw [if_neg (by assumption)]; done)))
        · refine V_if_ne (pc := 27) o 38 dX3_current_27 (by decide) (fun c27 => absurd c27 (by decide)) (fun _ => ?_)
          refine V_iload_n (pc := 30) o dX3_current_30 rfl ?_
          refine V_iload_n (pc := 31) o dX3_current_31 rfl ?_
          refine V_iload_n (pc := 32) o dX3_current_32 rfl ?_
          refine V_rSi (pc := 33) o (cX3_versionSet_met _ _ _ (nI (4 - (n + 1))) (nI (4 - (n + 1)))) 0 0 gX3_current_X3_versionSet rfl hdX3_versionSet (by decide) rfl (Nat.le_of_ble_eq_true rfl) dX3_current_33 rfl ?_
          refine V_ior (pc := 36) o dX3_current_36 ?_
          refine V_istore_n (pc := 37) o dX3_current_37 (by rw [hn]; decide) ?_
          refine V_iinc (pc := 38) o 1 dX3_current_38 (by rw [hn]; decide) rfl (by decide) ?_
          refine V_goto (pc := 41) o 4 dX3_current_41 (by decide) ?_
          refine V_sub (lc2 := [(0, .ref (ad 0)), (1, .int p), (2, .int (s ||| (vset (nI (4 - (n + 1))) (nI (4 - (n + 1)))))), (3, .int (nI (4 - n)))]) ⟨rfl, rfl, rfl, lc_e (by rw [nI_1]; congr 1; omega), trivial⟩ ?_
          refine ih _ (by omega) (fun pc lc v dg e => fin pc lc v dg (by rw [e, pcN, if_neg (by assumption)]; first | (rw [if_pos (by first | assumption | exact Decidable.not_not.mp (by assumption))]; done) | (rw [if_neg (by assumption)]; done)))
theorem hdX3_current : yX3_current.cls = RX3 ∧ yX3_current.cls ≠ "java/lang/invoke/MethodHandle" ∧ yX3_current.cls ≠ "java/lang/invoke/VarHandle" ∧ (parseMethodDescriptor yX3_current.desc).map (fun d => d.parameters.length) = some 1 := by decide +kernel
set_option maxHeartbeats 4000000 in
set_option maxRecDepth 100000 in
/-- X3.current -/
theorem cX3_current_met (l : Launch) (D : va_G) (tys : List (ClassId × FieldType)) (cI : ClassId) (ht : tys[0]? = some (cI, .int)) (ad : Nat → Nat) (P0 P1 P2 P3 P4 P5 : Nat → Int32) (p : Int32) : CId l yX3_current wsX3_current 2 D tys [.ref (ad 0), .int p] (wParts cI ad P0 P1 P2 P3 P4 P5) (pcur P0 P2 p) (wParts cI ad P0 P1 P2 P3 P4 P5) := by
  refine CI_of (maxL := 4) (cc := cX3_current) (y := yX3_current) rfl rfl (Nat.le_of_ble_eq_true rfl) (fun X hl hD hk hn hcz hsz o fin => ?_)
  subst hl; subst hD; subst hk
  refine V_iconst (pc := 0) o 0 dX3_current_0 (by decide) ?_
  refine V_istore_n (pc := 1) o dX3_current_1 (by rw [hn]; decide) ?_
  refine V_iconst (pc := 2) o 1 dX3_current_2 (by decide) ?_
  refine V_istore_n (pc := 3) o dX3_current_3 (by rw [hn]; decide) ?_
  refine V_sub (lc2 := [(0, .ref (ad 0)), (1, .int p), (2, .int 0), (3, .int (nI (4 - 3)))]) ⟨rfl, rfl, rfl, rfl, trivial⟩ ?_
  exact lpX3_current o hn cI ht ad P0 P1 P2 P3 P4 P5 p 3 0 (by omega) (fun pc lc v dg e => fin pc lc v () dg rfl e)
theorem hdX5_add : yX5_add.cls = RX5 ∧ yX5_add.cls ≠ "java/lang/invoke/MethodHandle" ∧ yX5_add.cls ≠ "java/lang/invoke/VarHandle" ∧ (parseMethodDescriptor yX5_add.desc).map (fun d => d.parameters.length) = some 3 := by decide +kernel
theorem hiX5_add_X5 : ∀ w ∈ wsX50, w ∈ wsX5_add := by decide +kernel
theorem lkX5_add_38 : Cond.fieldLink RX5 38 RX5 "number" "I" ∈ wsX5_add := by decide +kernel
theorem lkX5_add_14 : Cond.fieldLink RX5 14 RX5 "people" "LApprovalyard$Row;" ∈ wsX5_add := by decide +kernel
theorem lkX5_add_20 : Cond.fieldLink RX5 20 RX5 "parts" "LApprovalyard$Row;" ∈ wsX5_add := by decide +kernel
theorem lkX5_add_23 : Cond.fieldLink RX5 23 RX5 "leasts" "LApprovalyard$Row;" ∈ wsX5_add := by decide +kernel
set_option maxHeartbeats 4000000 in
set_option maxRecDepth 100000 in
/-- X5.add -/
theorem cX5_add_met (l : Launch) (D : va_G) (tys : List (ClassId × FieldType)) (cI : ClassId) (ht : tys[0]? = some (cI, .int)) (ad : Nat → Nat) (Q0 Q1 Q2 Q3 Q4 Q5 Q6 : Nat → Int32) (nm : Int32) (p t e : Int32) : CId l yX5_add wsX5_add 2 D tys [.ref (ad 0), .int p, .int t, .int e] (wReqs cI ad Q0 Q1 Q2 Q3 Q4 Q5 Q6 nm) nm (wReqs cI ad (rup 30 Q0 nm p) (rup 30 Q1 nm t) (rup 30 Q2 nm e) (rup 30 Q3 nm 0) (rup 30 Q4 nm 0) (rup 30 Q5 nm 0) (erN Q6 nm 8) (nm + 1)) := by
  refine CI_of (maxL := 5) (cc := cX5_add) (y := yX5_add) rfl rfl (Nat.le_of_ble_eq_true rfl) (fun X hl hD hk hn hcz hsz o fin => ?_)
  subst hl; subst hD; subst hk
  refine V_aload_n (pc := 0) o dX5_add_0 rfl ?_
  refine V_get (pc := 1) o 0 7 hiX5_add_X5 rfl rfl (by decide) lkX5_add_38 rfl rfl dX5_add_1 ?_
  refine V_istore (pc := 4) o dX5_add_4 (by rw [hn]; decide) ?_
  refine V_aload_n (pc := 6) o dX5_add_6 rfl ?_
  refine V_dup (pc := 7) o rfl dX5_add_7 ?_
  refine V_get (pc := 8) o 0 7 hiX5_add_X5 rfl rfl (by decide) lkX5_add_38 rfl rfl dX5_add_8 ?_
  refine V_iconst (pc := 11) o 1 dX5_add_11 (by decide) ?_
  refine V_iadd (pc := 12) o dX5_add_12 ?_
  refine V_put (pc := 13) o 0 7 hiX5_add_X5 tyX5 tyX5_ok nmX5 rfl rfl (by decide) lkX5_add_38 rfl rfl rfl rfl rfl (Nat.le_of_ble_eq_true rfl) dX5_add_13 ?_
  refine V_eq (ws2 := wReqs cI ad Q0 Q1 Q2 Q3 Q4 Q5 Q6 (nm + 1)) rfl rfl ?_
  refine V_aload_n (pc := 16) o dX5_add_16 rfl ?_
  refine V_get (pc := 17) o 0 0 hiX5_add_X5 rfl rfl (by decide) lkX5_add_14 rfl rfl dX5_add_17 ?_
  refine V_iload (pc := 20) o dX5_add_20 rfl ?_
  refine V_iload_n (pc := 22) o dX5_add_22 rfl ?_
  refine V_wVv (pc := 23) o (cX6_put_met _ _ _ cI ht _ _ 30 Q0 (by decide) _ _) 1 2 (wReqs cI ad (rup 30 Q0 nm p) Q1 Q2 Q3 Q4 Q5 Q6 (nm + 1)) gX5_add_X6_put rfl hdX6_put (by decide) rfl rfl rfl (Nat.le_of_ble_eq_true rfl) dX5_add_23 rfl rfl ?_
  refine V_aload_n (pc := 26) o dX5_add_26 rfl ?_
  refine V_get (pc := 27) o 0 1 hiX5_add_X5 rfl rfl (by decide) lkX5_add_20 rfl rfl dX5_add_27 ?_
  refine V_iload (pc := 30) o dX5_add_30 rfl ?_
  refine V_iload_n (pc := 32) o dX5_add_32 rfl ?_
  refine V_wVv (pc := 33) o (cX6_put_met _ _ _ cI ht _ _ 30 Q1 (by decide) _ _) 3 2 (wReqs cI ad (rup 30 Q0 nm p) (rup 30 Q1 nm t) Q2 Q3 Q4 Q5 Q6 (nm + 1)) gX5_add_X6_put rfl hdX6_put (by decide) rfl rfl rfl (Nat.le_of_ble_eq_true rfl) dX5_add_33 rfl rfl ?_
  refine V_aload_n (pc := 36) o dX5_add_36 rfl ?_
  refine V_get (pc := 37) o 0 2 hiX5_add_X5 rfl rfl (by decide) lkX5_add_23 rfl rfl dX5_add_37 ?_
  refine V_iload (pc := 40) o dX5_add_40 rfl ?_
  refine V_iload_n (pc := 42) o dX5_add_42 rfl ?_
  refine V_wVv (pc := 43) o (cX6_put_met _ _ _ cI ht _ _ 30 Q2 (by decide) _ _) 5 2 (wReqs cI ad (rup 30 Q0 nm p) (rup 30 Q1 nm t) (rup 30 Q2 nm e) Q3 Q4 Q5 Q6 (nm + 1)) gX5_add_X6_put rfl hdX6_put (by decide) rfl rfl rfl (Nat.le_of_ble_eq_true rfl) dX5_add_43 rfl rfl ?_
  refine V_aload_n (pc := 46) o dX5_add_46 rfl ?_
  refine V_iload (pc := 47) o dX5_add_47 rfl ?_
  refine V_wVv (pc := 49) o (cX5_reopen_met _ _ _ cI ht ad (rup 30 Q0 nm p) (rup 30 Q1 nm t) (rup 30 Q2 nm e) Q3 Q4 Q5 Q6 (nm + 1) nm) 0 15 (wReqs cI ad (rup 30 Q0 nm p) (rup 30 Q1 nm t) (rup 30 Q2 nm e) (rup 30 Q3 nm 0) (rup 30 Q4 nm 0) (rup 30 Q5 nm 0) Q6 (nm + 1)) gX5_add_X5_reopen rfl hdX5_reopen (by decide) rfl rfl rfl (Nat.le_of_ble_eq_true rfl) dX5_add_49 rfl rfl ?_
  refine V_aload_n (pc := 52) o dX5_add_52 rfl ?_
  refine V_iload (pc := 53) o dX5_add_53 rfl ?_
  refine V_wVv (pc := 55) o (cX5_endApprovals_met _ _ _ cI ht ad (rup 30 Q0 nm p) (rup 30 Q1 nm t) (rup 30 Q2 nm e) (rup 30 Q3 nm 0) (rup 30 Q4 nm 0) (rup 30 Q5 nm 0) Q6 (nm + 1) nm) 0 15 (wReqs cI ad (rup 30 Q0 nm p) (rup 30 Q1 nm t) (rup 30 Q2 nm e) (rup 30 Q3 nm 0) (rup 30 Q4 nm 0) (rup 30 Q5 nm 0) (erN Q6 nm 8) (nm + 1)) gX5_add_X5_endApprovals rfl hdX5_endApprovals (by decide) rfl rfl rfl (Nat.le_of_ble_eq_true rfl) dX5_add_55 rfl rfl ?_
  refine V_iload (pc := 58) o dX5_add_58 rfl ?_
  exact fin 60 _ _ () dX5_add_60 rfl rfl
theorem hdX5_settle : yX5_settle.cls = RX5 ∧ yX5_settle.cls ≠ "java/lang/invoke/MethodHandle" ∧ yX5_settle.cls ≠ "java/lang/invoke/VarHandle" ∧ (parseMethodDescriptor yX5_settle.desc).map (fun d => d.parameters.length) = some 3 := by decide +kernel
theorem hiX5_settle_X5 : ∀ w ∈ wsX50, w ∈ wsX5_settle := by decide +kernel
theorem lkX5_settle_26 : Cond.fieldLink RX5 26 RX5 "states" "LApprovalyard$Row;" ∈ wsX5_settle := by decide +kernel
theorem lkX5_settle_29 : Cond.fieldLink RX5 29 RX5 "choices" "LApprovalyard$Row;" ∈ wsX5_settle := by decide +kernel
theorem lkX5_settle_32 : Cond.fieldLink RX5 32 RX5 "costs" "LApprovalyard$Row;" ∈ wsX5_settle := by decide +kernel
set_option maxHeartbeats 4000000 in
set_option maxRecDepth 100000 in
/-- X5.settle -/
theorem cX5_settle_met (l : Launch) (D : va_G) (tys : List (ClassId × FieldType)) (cI : ClassId) (ht : tys[0]? = some (cI, .int)) (ad : Nat → Nat) (Q0 Q1 Q2 Q3 Q4 Q5 Q6 : Nat → Int32) (nm : Int32) (q c n : Int32) : CId l yX5_settle wsX5_settle 2 D tys [.ref (ad 0), .int q, .int c, .int n] (wReqs cI ad Q0 Q1 Q2 Q3 Q4 Q5 Q6 nm) n (wReqs cI ad Q0 Q1 Q2 (rup 30 Q3 q 1) (rup 30 Q4 q c) (rup 30 Q5 q n) (erN Q6 q 8) nm) := by
  refine CI_of (maxL := 4) (cc := cX5_settle) (y := yX5_settle) rfl rfl (Nat.le_of_ble_eq_true rfl) (fun X hl hD hk hn hcz hsz o fin => ?_)
  subst hl; subst hD; subst hk
  refine V_aload_n (pc := 0) o dX5_settle_0 rfl ?_
  refine V_get (pc := 1) o 0 3 hiX5_settle_X5 rfl rfl (by decide) lkX5_settle_26 rfl rfl dX5_settle_1 ?_
  refine V_iload_n (pc := 4) o dX5_settle_4 rfl ?_
  refine V_iconst (pc := 5) o 1 dX5_settle_5 (by decide) ?_
  refine V_wVv (pc := 6) o (cX6_put_met _ _ _ cI ht _ _ 30 Q3 (by decide) _ _) 7 2 (wReqs cI ad Q0 Q1 Q2 (rup 30 Q3 q 1) Q4 Q5 Q6 nm) gX5_settle_X6_put rfl hdX6_put (by decide) rfl rfl rfl (Nat.le_of_ble_eq_true rfl) dX5_settle_6 rfl rfl ?_
  refine V_aload_n (pc := 9) o dX5_settle_9 rfl ?_
  refine V_get (pc := 10) o 0 4 hiX5_settle_X5 rfl rfl (by decide) lkX5_settle_29 rfl rfl dX5_settle_10 ?_
  refine V_iload_n (pc := 13) o dX5_settle_13 rfl ?_
  refine V_iload_n (pc := 14) o dX5_settle_14 rfl ?_
  refine V_wVv (pc := 15) o (cX6_put_met _ _ _ cI ht _ _ 30 Q4 (by decide) _ _) 9 2 (wReqs cI ad Q0 Q1 Q2 (rup 30 Q3 q 1) (rup 30 Q4 q c) Q5 Q6 nm) gX5_settle_X6_put rfl hdX6_put (by decide) rfl rfl rfl (Nat.le_of_ble_eq_true rfl) dX5_settle_15 rfl rfl ?_
  refine V_aload_n (pc := 18) o dX5_settle_18 rfl ?_
  refine V_get (pc := 19) o 0 5 hiX5_settle_X5 rfl rfl (by decide) lkX5_settle_32 rfl rfl dX5_settle_19 ?_
  refine V_iload_n (pc := 22) o dX5_settle_22 rfl ?_
  refine V_iload_n (pc := 23) o dX5_settle_23 rfl ?_
  refine V_wVv (pc := 24) o (cX6_put_met _ _ _ cI ht _ _ 30 Q5 (by decide) _ _) 11 2 (wReqs cI ad Q0 Q1 Q2 (rup 30 Q3 q 1) (rup 30 Q4 q c) (rup 30 Q5 q n) Q6 nm) gX5_settle_X6_put rfl hdX6_put (by decide) rfl rfl rfl (Nat.le_of_ble_eq_true rfl) dX5_settle_24 rfl rfl ?_
  refine V_aload_n (pc := 27) o dX5_settle_27 rfl ?_
  refine V_iload_n (pc := 28) o dX5_settle_28 rfl ?_
  refine V_wVv (pc := 29) o (cX5_endApprovals_met _ _ _ cI ht ad Q0 Q1 Q2 (rup 30 Q3 q 1) (rup 30 Q4 q c) (rup 30 Q5 q n) Q6 nm q) 0 15 (wReqs cI ad Q0 Q1 Q2 (rup 30 Q3 q 1) (rup 30 Q4 q c) (rup 30 Q5 q n) (erN Q6 q 8) nm) gX5_settle_X5_endApprovals rfl hdX5_endApprovals (by decide) rfl rfl rfl (Nat.le_of_ble_eq_true rfl) dX5_settle_29 rfl rfl ?_
  refine V_iload_n (pc := 32) o dX5_settle_32 rfl ?_
  exact fin 33 _ _ () dX5_settle_33 rfl rfl
