/-! Loops of the leaves. -/
theorem lc_e {a b : Int32} (h : a = b) : some (Value.int a) = some (Value.int b) := by rw [h]
theorem le_of_nI {K j : Nat} (h : nI K ≤ nI j) (hj : j ≤ 4000 := by omega) (hK : K ≤ 4000 := by omega) : K ≤ j := (nI_leI (by omega) (by omega)).mp h
theorem lt_of_nI {K j : Nat} (h : ¬ nI K ≤ nI j) (hj : j ≤ 4000 := by omega) (hK : K ≤ 4000 := by omega) : j < K := by
  rcases Nat.lt_or_ge j K with q | q
  · exact q
  · exact absurd (nI_le q (by omega)) h
def pcostN (P1 : Nat → Int32) (c : Int32) : Nat → Int32
  | 0 => 0
  | n + 1 => if chv c (nI n) = 0 then pcostN P1 c n else pcostN P1 c n + rat 24 P1 (plc (nI n) (chv c (nI n)))
def apN (Q6 : Nat → Int32) (q dy : Int32) : Nat → Int32
  | 0 => 0
  | n + 1 => if dy < rat 240 Q6 (q * 8 + nI n) then apN Q6 q dy n + 1 else apN Q6 q dy n
def erN (Q6 : Nat → Int32) (q : Int32) : Nat → Nat → Int32
  | 0 => Q6
  | n + 1 => rup 240 (erN Q6 q n) (q * 8 + nI n) 0
def glN (L0 L2 : Nat → Int32) (dy a c : Int32) : Nat → Int32
  | 0 => -1
  | n + 1 => if ¬ nI n = a ∧ ¬ dy < rat 8 L2 (nI n) ∧ c ≤ rat 8 L0 (nI n) ∧ glN L0 L2 dy a c n < rat 8 L0 (nI n) then rat 8 L0 (nI n) else glN L0 L2 dy a c n
theorem hiX3_costOf_X3 : ∀ w ∈ wsX30, w ∈ wsX3_costOf := by decide +kernel
theorem lkX3_costOf_20 : Cond.fieldLink RX3 20 RX3 "costs" "LApprovalyard$Row;" ∈ wsX3_costOf := by decide +kernel
set_option maxHeartbeats 4000000 in
set_option maxRecDepth 100000 in
theorem lpX3_costOf {X : XT} (o : OkX X cX3_costOf RX3 wsX3_costOf 1) (hn : XN X = 5) (cI : ClassId) (ht : (XK X)[0]? = some (cI, .int)) (ad : Nat → Nat) (P0 P1 P2 P3 P4 P5 : Nat → Int32) (c : Int32) (kk : V X 0 0 (wParts cI ad P0 P1 P2 P3 P4 P5) 44 [(0, .ref (ad 0)), (1, .int (c)), (2, .int (pcostN P1 c 8)), (3, .int (nI 8))] []) : ∀ (m j : Nat), 8 - j < m → j ≤ 8 → V X 0 0 (wParts cI ad P0 P1 P2 P3 P4 P5) 4 [(0, .ref (ad 0)), (1, .int (c)), (2, .int (pcostN P1 c j)), (3, .int (nI j))] [] := by
  intro m
  induction m with
  | zero => intro j h1; exact absurd h1 (Nat.not_lt_zero _)
  | succ m ih =>
    intro j h1 h2
    refine V_iload_n (pc := 4) o dX3_costOf_4 rfl ?_
    refine V_bipush (pc := 5) o 8 dX3_costOf_5 (by decide) ?_
    refine V_icmp_ge (pc := 7) o 44 dX3_costOf_7 (by decide) (fun c7 => ?_) (fun c7 => ?_)
    · have e1 : j = 8 := Nat.le_antisymm h2 (le_of_nI (by first | exact c7 | exact i_nlt c7))
      rw [e1]
      exact V_sub (lc2 := [(0, .ref (ad 0)), (1, .int (c)), (2, .int (pcostN P1 c 8)), (3, .int (nI 8))]) ⟨rfl, rfl, rfl, rfl, trivial⟩ kk
    · refine V_iload_n (pc := 10) o dX3_costOf_10 rfl ?_
      refine V_iload_n (pc := 11) o dX3_costOf_11 rfl ?_
      refine V_rSi (pc := 12) o (cX1_versionOf_met _ _ _ c (nI j)) 0 0 gX3_costOf_X1_versionOf rfl hdX1_versionOf (by decide) rfl (Nat.le_of_ble_eq_true rfl) dX3_costOf_12 rfl ?_
      refine V_istore (pc := 15) o dX3_costOf_15 (by rw [hn]; decide) ?_
      refine V_iload (pc := 17) o dX3_costOf_17 rfl ?_
      refine V_if_eq (pc := 19) o 38 dX3_costOf_19 (by decide) (fun c19 => ?_) (fun c19 => ?_)
      · refine V_iinc (pc := 38) o 1 dX3_costOf_38 (by rw [hn]; decide) rfl (by decide) ?_
        refine V_goto (pc := 41) o 4 dX3_costOf_41 (by decide) ?_
        have q1 : j < 8 := lt_of_nI (K := 8) c7
        refine V_eq (ws2 := wParts cI ad P0 P1 P2 P3 P4 P5) (by first | rfl | (simp only [pcostN]; first | rfl | (rw [if_pos (by assumption)]; rfl) | (rw [if_neg (by assumption)]; rfl) | (split <;> first | rfl | (exfalso; simp_all; done)) | simp_all)) rfl ?_
        refine V_sub (lc2 := [(0, .ref (ad 0)), (1, .int (c)), (2, .int (pcostN P1 c (j + 1))), (3, .int (nI (j + 1)))]) ⟨rfl, rfl, lc_e (by first | rfl | exact nI_1 _ | (simp only [pcostN]; first | rfl | (rw [if_pos (by assumption)]; done) | (rw [if_neg (by assumption)]; done) | (split <;> first | rfl | (exfalso; simp_all; done) | simp_all))), lc_e (by first | rfl | exact nI_1 _ | (simp only [pcostN]; first | rfl | (rw [if_pos (by assumption)]; done) | (rw [if_neg (by assumption)]; done) | (split <;> first | rfl | (exfalso; simp_all; done) | simp_all))), trivial⟩ ?_
        exact ih (j + 1) (by omega) (by omega)
      · refine V_iload_n (pc := 22) o dX3_costOf_22 rfl ?_
        refine V_aload_n (pc := 23) o dX3_costOf_23 rfl ?_
        refine V_get (pc := 24) o 0 1 hiX3_costOf_X3 rfl rfl (by decide) lkX3_costOf_20 rfl rfl dX3_costOf_24 ?_
        refine V_iload_n (pc := 27) o dX3_costOf_27 rfl ?_
        refine V_iload (pc := 28) o dX3_costOf_28 rfl ?_
        refine V_rSi (pc := 30) o (cX3_placeOf_met _ _ _ (nI j) (chv c (nI j))) 0 0 gX3_costOf_X3_placeOf rfl hdX3_placeOf (by decide) rfl (Nat.le_of_ble_eq_true rfl) dX3_costOf_30 rfl ?_
        refine V_rVi (pc := 33) o (cX6_at_met _ _ _ cI ht _ _ 24 P1 (by decide) _) 3 2 gX3_costOf_X6_at rfl hdX6_at (by decide) rfl rfl rfl (Nat.le_of_ble_eq_true rfl) dX3_costOf_33 rfl ?_
        refine V_iadd (pc := 36) o dX3_costOf_36 ?_
        refine V_istore_n (pc := 37) o dX3_costOf_37 (by rw [hn]; decide) ?_
        refine V_iinc (pc := 38) o 1 dX3_costOf_38 (by rw [hn]; decide) rfl (by decide) ?_
        refine V_goto (pc := 41) o 4 dX3_costOf_41 (by decide) ?_
        have q1 : j < 8 := lt_of_nI (K := 8) c7
        refine V_eq (ws2 := wParts cI ad P0 P1 P2 P3 P4 P5) (by first | rfl | (simp only [pcostN]; first | rfl | (rw [if_pos (by assumption)]; rfl) | (rw [if_neg (by assumption)]; rfl) | (split <;> first | rfl | (exfalso; simp_all; done)) | simp_all)) rfl ?_
        refine V_sub (lc2 := [(0, .ref (ad 0)), (1, .int (c)), (2, .int (pcostN P1 c (j + 1))), (3, .int (nI (j + 1)))]) ⟨rfl, rfl, lc_e (by first | rfl | exact nI_1 _ | (simp only [pcostN]; first | rfl | (rw [if_pos (by assumption)]; done) | (rw [if_neg (by assumption)]; done) | (split <;> first | rfl | (exfalso; simp_all; done) | simp_all))), lc_e (by first | rfl | exact nI_1 _ | (simp only [pcostN]; first | rfl | (rw [if_pos (by assumption)]; done) | (rw [if_neg (by assumption)]; done) | (split <;> first | rfl | (exfalso; simp_all; done) | simp_all))), trivial⟩ ?_
        exact ih (j + 1) (by omega) (by omega)
theorem hdX3_costOf : yX3_costOf.cls = RX3 ∧ yX3_costOf.cls ≠ "java/lang/invoke/MethodHandle" ∧ yX3_costOf.cls ≠ "java/lang/invoke/VarHandle" ∧ (parseMethodDescriptor yX3_costOf.desc).map (fun d => d.parameters.length) = some 1 := by decide +kernel
set_option maxHeartbeats 4000000 in
set_option maxRecDepth 100000 in
/-- X3.costOf -/
theorem cX3_costOf_met (l : Launch) (D : va_G) (tys : List (ClassId × FieldType)) (cI : ClassId) (ht : tys[0]? = some (cI, .int)) (ad : Nat → Nat) (P0 P1 P2 P3 P4 P5 : Nat → Int32) (c : Int32) : CId l yX3_costOf wsX3_costOf 1 D tys [.ref (ad 0), .int c] (wParts cI ad P0 P1 P2 P3 P4 P5) (pcostN P1 c 8) (wParts cI ad P0 P1 P2 P3 P4 P5) := by
  refine CI_of (maxL := 5) (cc := cX3_costOf) (y := yX3_costOf) rfl rfl (Nat.le_of_ble_eq_true rfl) (fun X hl hD hk hn hcz hsz o fin => ?_)
  subst hl; subst hD; subst hk
  refine V_iconst (pc := 0) o 0 dX3_costOf_0 (by decide) ?_
  refine V_istore_n (pc := 1) o dX3_costOf_1 (by rw [hn]; decide) ?_
  refine V_iconst (pc := 2) o 0 dX3_costOf_2 (by decide) ?_
  refine V_istore_n (pc := 3) o dX3_costOf_3 (by rw [hn]; decide) ?_
  exact V_sub (lc2 := [(0, .ref (ad 0)), (1, .int c), (2, .int (pcostN P1 c 0)), (3, .int (nI 0))]) ⟨rfl, rfl, rfl, rfl, trivial⟩ (lpX3_costOf o hn cI ht ad P0 P1 P2 P3 P4 P5 c (V_iload_n (pc := 44) o dX3_costOf_44 rfl (fin 45 _ _ () dX3_costOf_45 rfl rfl)) 9 0 (by omega) (by omega))
set_option maxHeartbeats 4000000 in
set_option maxRecDepth 100000 in
theorem lpX5_approvalsOf {X : XT} (o : OkX X cX5_approvalsOf RX5 wsX5_approvalsOf 2) (hn : XN X = 5) (cI : ClassId) (ht : (XK X)[0]? = some (cI, .int)) (ad : Nat → Nat) (Q0 Q1 Q2 Q3 Q4 Q5 Q6 : Nat → Int32) (nm : Int32) (q dy : Int32) (kk : V X 0 0 (wReqs cI ad Q0 Q1 Q2 Q3 Q4 Q5 Q6 nm) 32 [(0, .ref (ad 0)), (1, .int (q)), (2, .int (dy)), (3, .int (apN Q6 q dy 8)), (4, .int (nI 8))] []) : ∀ (m j : Nat), 8 - j < m → j ≤ 8 → V X 0 0 (wReqs cI ad Q0 Q1 Q2 Q3 Q4 Q5 Q6 nm) 5 [(0, .ref (ad 0)), (1, .int (q)), (2, .int (dy)), (3, .int (apN Q6 q dy j)), (4, .int (nI j))] [] := by
  intro m
  induction m with
  | zero => intro j h1; exact absurd h1 (Nat.not_lt_zero _)
  | succ m ih =>
    intro j h1 h2
    refine V_iload (pc := 5) o dX5_approvalsOf_5 rfl ?_
    refine V_bipush (pc := 7) o 8 dX5_approvalsOf_7 (by decide) ?_
    refine V_icmp_ge (pc := 9) o 32 dX5_approvalsOf_9 (by decide) (fun c9 => ?_) (fun c9 => ?_)
    · have e1 : j = 8 := Nat.le_antisymm h2 (le_of_nI (by first | exact c9 | exact i_nlt c9))
      rw [e1]
      exact V_sub (lc2 := [(0, .ref (ad 0)), (1, .int (q)), (2, .int (dy)), (3, .int (apN Q6 q dy 8)), (4, .int (nI 8))]) ⟨rfl, rfl, rfl, rfl, rfl, trivial⟩ kk
    · refine V_aload_n (pc := 12) o dX5_approvalsOf_12 rfl ?_
      refine V_iload_n (pc := 13) o dX5_approvalsOf_13 rfl ?_
      refine V_iload (pc := 14) o dX5_approvalsOf_14 rfl ?_
      refine V_iload_n (pc := 16) o dX5_approvalsOf_16 rfl ?_
      refine V_rVi (pc := 17) o (cX5_hasApproval_met _ _ _ cI ht ad Q0 Q1 Q2 Q3 Q4 Q5 Q6 nm q (nI j) dy) 0 15 gX5_approvalsOf_X5_hasApproval rfl hdX5_hasApproval (by decide) rfl rfl rfl (Nat.le_of_ble_eq_true rfl) dX5_approvalsOf_17 rfl ?_
      refine V_ite (fun b17 => ?_) (fun b17 => ?_)
      · refine V_if_eq (pc := 20) o 26 dX5_approvalsOf_20 (by decide) (fun c20 => absurd c20 (by decide)) (fun _ => ?_)
        refine V_iinc (pc := 23) o 1 dX5_approvalsOf_23 (by rw [hn]; decide) rfl (by decide) ?_
        refine V_iinc (pc := 26) o 1 dX5_approvalsOf_26 (by rw [hn]; decide) rfl (by decide) ?_
        refine V_goto (pc := 29) o 5 dX5_approvalsOf_29 (by decide) ?_
        have q1 : j < 8 := lt_of_nI (K := 8) c9
        refine V_eq (ws2 := wReqs cI ad Q0 Q1 Q2 Q3 Q4 Q5 Q6 nm) (by first | rfl | (simp only [apN]; first | rfl | (rw [if_pos (by assumption)]; rfl) | (rw [if_neg (by assumption)]; rfl) | (split <;> first | rfl | (exfalso; simp_all; done)) | simp_all)) rfl ?_
        refine V_sub (lc2 := [(0, .ref (ad 0)), (1, .int (q)), (2, .int (dy)), (3, .int (apN Q6 q dy (j + 1))), (4, .int (nI (j + 1)))]) ⟨rfl, rfl, rfl, lc_e (by first | rfl | exact nI_1 _ | (simp only [apN]; first | rfl | (rw [if_pos (by assumption)]; done) | (rw [if_neg (by assumption)]; done) | (split <;> first | rfl | (exfalso; simp_all; done) | simp_all))), lc_e (by first | rfl | exact nI_1 _ | (simp only [apN]; first | rfl | (rw [if_pos (by assumption)]; done) | (rw [if_neg (by assumption)]; done) | (split <;> first | rfl | (exfalso; simp_all; done) | simp_all))), trivial⟩ ?_
        exact ih (j + 1) (by omega) (by omega)
      · refine V_if_eq (pc := 20) o 26 dX5_approvalsOf_20 (by decide) (fun _ => ?_) (fun c20 => absurd c20 (by decide))
        refine V_iinc (pc := 26) o 1 dX5_approvalsOf_26 (by rw [hn]; decide) rfl (by decide) ?_
        refine V_goto (pc := 29) o 5 dX5_approvalsOf_29 (by decide) ?_
        have q1 : j < 8 := lt_of_nI (K := 8) c9
        refine V_eq (ws2 := wReqs cI ad Q0 Q1 Q2 Q3 Q4 Q5 Q6 nm) (by first | rfl | (simp only [apN]; first | rfl | (rw [if_pos (by assumption)]; rfl) | (rw [if_neg (by assumption)]; rfl) | (split <;> first | rfl | (exfalso; simp_all; done)) | simp_all)) rfl ?_
        refine V_sub (lc2 := [(0, .ref (ad 0)), (1, .int (q)), (2, .int (dy)), (3, .int (apN Q6 q dy (j + 1))), (4, .int (nI (j + 1)))]) ⟨rfl, rfl, rfl, lc_e (by first | rfl | exact nI_1 _ | (simp only [apN]; first | rfl | (rw [if_pos (by assumption)]; done) | (rw [if_neg (by assumption)]; done) | (split <;> first | rfl | (exfalso; simp_all; done) | simp_all))), lc_e (by first | rfl | exact nI_1 _ | (simp only [apN]; first | rfl | (rw [if_pos (by assumption)]; done) | (rw [if_neg (by assumption)]; done) | (split <;> first | rfl | (exfalso; simp_all; done) | simp_all))), trivial⟩ ?_
        exact ih (j + 1) (by omega) (by omega)
theorem hdX5_approvalsOf : yX5_approvalsOf.cls = RX5 ∧ yX5_approvalsOf.cls ≠ "java/lang/invoke/MethodHandle" ∧ yX5_approvalsOf.cls ≠ "java/lang/invoke/VarHandle" ∧ (parseMethodDescriptor yX5_approvalsOf.desc).map (fun d => d.parameters.length) = some 2 := by decide +kernel
set_option maxHeartbeats 4000000 in
set_option maxRecDepth 100000 in
/-- X5.approvalsOf -/
theorem cX5_approvalsOf_met (l : Launch) (D : va_G) (tys : List (ClassId × FieldType)) (cI : ClassId) (ht : tys[0]? = some (cI, .int)) (ad : Nat → Nat) (Q0 Q1 Q2 Q3 Q4 Q5 Q6 : Nat → Int32) (nm : Int32) (q dy : Int32) : CId l yX5_approvalsOf wsX5_approvalsOf 2 D tys [.ref (ad 0), .int q, .int dy] (wReqs cI ad Q0 Q1 Q2 Q3 Q4 Q5 Q6 nm) (apN Q6 q dy 8) (wReqs cI ad Q0 Q1 Q2 Q3 Q4 Q5 Q6 nm) := by
  refine CI_of (maxL := 5) (cc := cX5_approvalsOf) (y := yX5_approvalsOf) rfl rfl (Nat.le_of_ble_eq_true rfl) (fun X hl hD hk hn hcz hsz o fin => ?_)
  subst hl; subst hD; subst hk
  refine V_iconst (pc := 0) o 0 dX5_approvalsOf_0 (by decide) ?_
  refine V_istore_n (pc := 1) o dX5_approvalsOf_1 (by rw [hn]; decide) ?_
  refine V_iconst (pc := 2) o 0 dX5_approvalsOf_2 (by decide) ?_
  refine V_istore (pc := 3) o dX5_approvalsOf_3 (by rw [hn]; decide) ?_
  exact V_sub (lc2 := [(0, .ref (ad 0)), (1, .int q), (2, .int dy), (3, .int (apN Q6 q dy 0)), (4, .int (nI 0))]) ⟨rfl, rfl, rfl, rfl, rfl, trivial⟩ (lpX5_approvalsOf o hn cI ht ad Q0 Q1 Q2 Q3 Q4 Q5 Q6 nm q dy (V_iload_n (pc := 32) o dX5_approvalsOf_32 rfl (fin 33 _ _ () dX5_approvalsOf_33 rfl rfl)) 9 0 (by omega) (by omega))
theorem hiX5_endApprovals_X5 : ∀ w ∈ wsX50, w ∈ wsX5_endApprovals := by decide +kernel
theorem lkX5_endApprovals_35 : Cond.fieldLink RX5 35 RX5 "ends" "LApprovalyard$Row;" ∈ wsX5_endApprovals := by decide +kernel
set_option maxHeartbeats 4000000 in
set_option maxRecDepth 100000 in
theorem lpX5_endApprovals {X : XT} (o : OkX X cX5_endApprovals RX5 wsX5_endApprovals 1) (hn : XN X = 3) (cI : ClassId) (ht : (XK X)[0]? = some (cI, .int)) (ad : Nat → Nat) (Q0 Q1 Q2 Q3 Q4 Q5 Q6 : Nat → Int32) (nm : Int32) (q : Int32) (kk : V X 0 0 (wReqs cI ad Q0 Q1 Q2 Q3 Q4 Q5 (erN Q6 q 8) nm) 28 [(0, .ref (ad 0)), (1, .int (q)), (2, .int (nI 8))] []) : ∀ (m j : Nat), 8 - j < m → j ≤ 8 → V X 0 0 (wReqs cI ad Q0 Q1 Q2 Q3 Q4 Q5 (erN Q6 q j) nm) 2 [(0, .ref (ad 0)), (1, .int (q)), (2, .int (nI j))] [] := by
  intro m
  induction m with
  | zero => intro j h1; exact absurd h1 (Nat.not_lt_zero _)
  | succ m ih =>
    intro j h1 h2
    refine V_iload_n (pc := 2) o dX5_endApprovals_2 rfl ?_
    refine V_bipush (pc := 3) o 8 dX5_endApprovals_3 (by decide) ?_
    refine V_icmp_ge (pc := 5) o 28 dX5_endApprovals_5 (by decide) (fun c5 => ?_) (fun c5 => ?_)
    · have e1 : j = 8 := Nat.le_antisymm h2 (le_of_nI (by first | exact c5 | exact i_nlt c5))
      rw [e1]
      exact V_sub (lc2 := [(0, .ref (ad 0)), (1, .int (q)), (2, .int (nI 8))]) ⟨rfl, rfl, rfl, trivial⟩ kk
    · refine V_aload_n (pc := 8) o dX5_endApprovals_8 rfl ?_
      refine V_get (pc := 9) o 0 6 hiX5_endApprovals_X5 rfl rfl (by decide) lkX5_endApprovals_35 rfl rfl dX5_endApprovals_9 ?_
      refine V_iload_n (pc := 12) o dX5_endApprovals_12 rfl ?_
      refine V_bipush (pc := 13) o 8 dX5_endApprovals_13 (by decide) ?_
      refine V_imul (pc := 15) o dX5_endApprovals_15 ?_
      refine V_iload_n (pc := 16) o dX5_endApprovals_16 rfl ?_
      refine V_iadd (pc := 17) o dX5_endApprovals_17 ?_
      refine V_iconst (pc := 18) o 0 dX5_endApprovals_18 (by decide) ?_
      refine V_wVv (pc := 19) o (cX6_put_met _ _ _ cI ht _ _ 240 (erN Q6 q j) (by decide) _ _) 13 2 (wReqs cI ad Q0 Q1 Q2 Q3 Q4 Q5 (rup 240 (erN Q6 q j) ((q * 8) + (nI j)) 0) nm) gX5_endApprovals_X6_put rfl hdX6_put (by decide) rfl rfl rfl (Nat.le_of_ble_eq_true rfl) dX5_endApprovals_19 rfl rfl ?_
      refine V_iinc (pc := 22) o 1 dX5_endApprovals_22 (by rw [hn]; decide) rfl (by decide) ?_
      refine V_goto (pc := 25) o 2 dX5_endApprovals_25 (by decide) ?_
      have q1 : j < 8 := lt_of_nI (K := 8) c5
      refine V_eq (ws2 := wReqs cI ad Q0 Q1 Q2 Q3 Q4 Q5 (erN Q6 q (j + 1)) nm) (by first | rfl | (simp only [erN]; first | rfl | (rw [if_pos (by assumption)]; rfl) | (rw [if_neg (by assumption)]; rfl) | (split <;> first | rfl | (exfalso; simp_all; done)) | simp_all)) rfl ?_
      refine V_sub (lc2 := [(0, .ref (ad 0)), (1, .int (q)), (2, .int (nI (j + 1)))]) ⟨rfl, rfl, lc_e (by first | rfl | exact nI_1 _ | (simp only [erN]; first | rfl | (rw [if_pos (by assumption)]; done) | (rw [if_neg (by assumption)]; done) | (split <;> first | rfl | (exfalso; simp_all; done) | simp_all))), trivial⟩ ?_
      exact ih (j + 1) (by omega) (by omega)
theorem hdX5_endApprovals : yX5_endApprovals.cls = RX5 ∧ yX5_endApprovals.cls ≠ "java/lang/invoke/MethodHandle" ∧ yX5_endApprovals.cls ≠ "java/lang/invoke/VarHandle" ∧ (parseMethodDescriptor yX5_endApprovals.desc).map (fun d => d.parameters.length) = some 1 := by decide +kernel
set_option maxHeartbeats 4000000 in
set_option maxRecDepth 100000 in
/-- X5.endApprovals -/
theorem cX5_endApprovals_met (l : Launch) (D : va_G) (tys : List (ClassId × FieldType)) (cI : ClassId) (ht : tys[0]? = some (cI, .int)) (ad : Nat → Nat) (Q0 Q1 Q2 Q3 Q4 Q5 Q6 : Nat → Int32) (nm : Int32) (q : Int32) : CVd l yX5_endApprovals wsX5_endApprovals 1 D tys [.ref (ad 0), .int q] (wReqs cI ad Q0 Q1 Q2 Q3 Q4 Q5 Q6 nm) (wReqs cI ad Q0 Q1 Q2 Q3 Q4 Q5 (erN Q6 q 8) nm) := by
  refine CV_of (maxL := 3) (cc := cX5_endApprovals) (y := yX5_endApprovals) rfl rfl (Nat.le_of_ble_eq_true rfl) (fun X hl hD hk hn hcz hsz o fin => ?_)
  subst hl; subst hD; subst hk
  refine V_iconst (pc := 0) o 0 dX5_endApprovals_0 (by decide) ?_
  refine V_istore_n (pc := 1) o dX5_endApprovals_1 (by rw [hn]; decide) ?_
  refine V_eq (ws2 := wReqs cI ad Q0 Q1 Q2 Q3 Q4 Q5 (erN Q6 q 0) nm) rfl rfl ?_
  exact V_sub (lc2 := [(0, .ref (ad 0)), (1, .int q), (2, .int (nI 0))]) ⟨rfl, rfl, rfl, trivial⟩ (lpX5_endApprovals o hn cI ht ad Q0 Q1 Q2 Q3 Q4 Q5 Q6 nm q (fin 28 _ () dX5_endApprovals_28 trivial) 9 0 (by omega) (by omega))
theorem hiX4_greatestLimit_X4 : ∀ w ∈ wsX40, w ∈ wsX4_greatestLimit := by decide +kernel
theorem lkX4_greatestLimit_14 : Cond.fieldLink RX4 14 RX4 "limits" "LApprovalyard$Row;" ∈ wsX4_greatestLimit := by decide +kernel
set_option maxHeartbeats 4000000 in
set_option maxRecDepth 100000 in
theorem lpX4_greatestLimit {X : XT} (o : OkX X cX4_greatestLimit RX4 wsX4_greatestLimit 2) (hn : XN X = 6) (cI : ClassId) (ht : (XK X)[0]? = some (cI, .int)) (ad : Nat → Nat) (L0 L1 L2 : Nat → Int32) (dy : Int32) (a c : Int32) (kk : V X 0 0 (wPeople cI ad L0 L1 L2 dy) 59 [(0, .ref (ad 0)), (1, .int (a)), (2, .int (c)), (3, .int (glN L0 L2 dy a c 8)), (4, .int (nI 8))] []) : ∀ (m j : Nat), 8 - j < m → j ≤ 8 → V X 0 0 (wPeople cI ad L0 L1 L2 dy) 5 [(0, .ref (ad 0)), (1, .int (a)), (2, .int (c)), (3, .int (glN L0 L2 dy a c j)), (4, .int (nI j))] [] := by
  intro m
  induction m with
  | zero => intro j h1; exact absurd h1 (Nat.not_lt_zero _)
  | succ m ih =>
    intro j h1 h2
    refine V_iload (pc := 5) o dX4_greatestLimit_5 rfl ?_
    refine V_bipush (pc := 7) o 8 dX4_greatestLimit_7 (by decide) ?_
    refine V_icmp_ge (pc := 9) o 59 dX4_greatestLimit_9 (by decide) (fun c9 => ?_) (fun c9 => ?_)
    · have e1 : j = 8 := Nat.le_antisymm h2 (le_of_nI (by first | exact c9 | exact i_nlt c9))
      rw [e1]
      exact V_sub (lc2 := [(0, .ref (ad 0)), (1, .int (a)), (2, .int (c)), (3, .int (glN L0 L2 dy a c 8)), (4, .int (nI 8))]) ⟨rfl, rfl, rfl, rfl, rfl, trivial⟩ kk
    · refine V_aload_n (pc := 12) o dX4_greatestLimit_12 rfl ?_
      refine V_get (pc := 13) o 0 0 hiX4_greatestLimit_X4 rfl rfl (by decide) lkX4_greatestLimit_14 rfl rfl dX4_greatestLimit_13 ?_
      refine V_iload (pc := 16) o dX4_greatestLimit_16 rfl ?_
      refine V_rVi (pc := 18) o (cX6_at_met _ _ _ cI ht _ _ 8 L0 (by decide) _) 1 2 gX4_greatestLimit_X6_at rfl hdX6_at (by decide) rfl rfl rfl (Nat.le_of_ble_eq_true rfl) dX4_greatestLimit_18 rfl ?_
      refine V_istore (pc := 21) o dX4_greatestLimit_21 (by rw [hn]; decide) ?_
      refine V_iload (pc := 23) o dX4_greatestLimit_23 rfl ?_
      refine V_iload_n (pc := 25) o dX4_greatestLimit_25 rfl ?_
      refine V_icmp_eq (pc := 26) o 53 dX4_greatestLimit_26 (by decide) (fun c26 => ?_) (fun c26 => ?_)
      · refine V_iinc (pc := 53) o 1 dX4_greatestLimit_53 (by rw [hn]; decide) rfl (by decide) ?_
        refine V_goto (pc := 56) o 5 dX4_greatestLimit_56 (by decide) ?_
        have q1 : j < 8 := lt_of_nI (K := 8) c9
        refine V_eq (ws2 := wPeople cI ad L0 L1 L2 dy) (by first | rfl | (simp only [glN]; first | rfl | (rw [if_pos (by assumption)]; rfl) | (rw [if_neg (by assumption)]; rfl) | (split <;> first | rfl | (exfalso; simp_all; done)) | simp_all)) rfl ?_
        refine V_sub (lc2 := [(0, .ref (ad 0)), (1, .int (a)), (2, .int (c)), (3, .int (glN L0 L2 dy a c (j + 1))), (4, .int (nI (j + 1)))]) ⟨rfl, rfl, rfl, lc_e (by first | rfl | exact nI_1 _ | (simp only [glN]; first | (rw [if_pos (by refine ⟨?_, ?_, ?_, ?_⟩ <;> first | assumption | exact i_nlt (by assumption) | exact i_nle (by assumption))]; done) | (rw [if_neg (fun q => by first | exact absurd (by assumption) q.1 | exact absurd (by assumption) q.2.1 | exact absurd q.2.2.1 (Int32.not_le.mpr (by assumption)) | exact absurd q.2.2.2 (Int32.not_lt.mpr (by assumption)))]; done))), lc_e (by first | rfl | exact nI_1 _ | (simp only [glN]; first | (rw [if_pos (by refine ⟨?_, ?_, ?_, ?_⟩ <;> first | assumption | exact i_nlt (by assumption) | exact i_nle (by assumption))]; done) | (rw [if_neg (fun q => by first | exact absurd (by assumption) q.1 | exact absurd (by assumption) q.2.1 | exact absurd q.2.2.1 (Int32.not_le.mpr (by assumption)) | exact absurd q.2.2.2 (Int32.not_lt.mpr (by assumption)))]; done))), trivial⟩ ?_
        exact ih (j + 1) (by omega) (by omega)
      · refine V_aload_n (pc := 29) o dX4_greatestLimit_29 rfl ?_
        refine V_iload (pc := 30) o dX4_greatestLimit_30 rfl ?_
        refine V_rVi (pc := 32) o (cX4_isAway_met _ _ _ cI ht ad L0 L1 L2 dy (nI j)) 0 7 gX4_greatestLimit_X4_isAway rfl hdX4_isAway (by decide) rfl rfl rfl (Nat.le_of_ble_eq_true rfl) dX4_greatestLimit_32 rfl ?_
        refine V_ite (fun b32 => ?_) (fun b32 => ?_)
        · refine V_if_ne (pc := 35) o 53 dX4_greatestLimit_35 (by decide) (fun _ => ?_) (fun c35 => absurd c35 (by decide))
          refine V_iinc (pc := 53) o 1 dX4_greatestLimit_53 (by rw [hn]; decide) rfl (by decide) ?_
          refine V_goto (pc := 56) o 5 dX4_greatestLimit_56 (by decide) ?_
          have q1 : j < 8 := lt_of_nI (K := 8) c9
          refine V_eq (ws2 := wPeople cI ad L0 L1 L2 dy) (by first | rfl | (simp only [glN]; first | rfl | (rw [if_pos (by assumption)]; rfl) | (rw [if_neg (by assumption)]; rfl) | (split <;> first | rfl | (exfalso; simp_all; done)) | simp_all)) rfl ?_
          refine V_sub (lc2 := [(0, .ref (ad 0)), (1, .int (a)), (2, .int (c)), (3, .int (glN L0 L2 dy a c (j + 1))), (4, .int (nI (j + 1)))]) ⟨rfl, rfl, rfl, lc_e (by first | rfl | exact nI_1 _ | (simp only [glN]; first | (rw [if_pos (by refine ⟨?_, ?_, ?_, ?_⟩ <;> first | assumption | exact i_nlt (by assumption) | exact i_nle (by assumption))]; done) | (rw [if_neg (fun q => by first | exact absurd (by assumption) q.1 | exact absurd (by assumption) q.2.1 | exact absurd q.2.2.1 (Int32.not_le.mpr (by assumption)) | exact absurd q.2.2.2 (Int32.not_lt.mpr (by assumption)))]; done))), lc_e (by first | rfl | exact nI_1 _ | (simp only [glN]; first | (rw [if_pos (by refine ⟨?_, ?_, ?_, ?_⟩ <;> first | assumption | exact i_nlt (by assumption) | exact i_nle (by assumption))]; done) | (rw [if_neg (fun q => by first | exact absurd (by assumption) q.1 | exact absurd (by assumption) q.2.1 | exact absurd q.2.2.1 (Int32.not_le.mpr (by assumption)) | exact absurd q.2.2.2 (Int32.not_lt.mpr (by assumption)))]; done))), trivial⟩ ?_
          exact ih (j + 1) (by omega) (by omega)
        · refine V_if_ne (pc := 35) o 53 dX4_greatestLimit_35 (by decide) (fun c35 => absurd c35 (by decide)) (fun _ => ?_)
          refine V_iload (pc := 38) o dX4_greatestLimit_38 rfl ?_
          refine V_iload_n (pc := 40) o dX4_greatestLimit_40 rfl ?_
          refine V_icmp_lt (pc := 41) o 53 dX4_greatestLimit_41 (by decide) (fun c41 => ?_) (fun c41 => ?_)
          · refine V_iinc (pc := 53) o 1 dX4_greatestLimit_53 (by rw [hn]; decide) rfl (by decide) ?_
            refine V_goto (pc := 56) o 5 dX4_greatestLimit_56 (by decide) ?_
            have q1 : j < 8 := lt_of_nI (K := 8) c9
            refine V_eq (ws2 := wPeople cI ad L0 L1 L2 dy) (by first | rfl | (simp only [glN]; first | rfl | (rw [if_pos (by assumption)]; rfl) | (rw [if_neg (by assumption)]; rfl) | (split <;> first | rfl | (exfalso; simp_all; done)) | simp_all)) rfl ?_
            refine V_sub (lc2 := [(0, .ref (ad 0)), (1, .int (a)), (2, .int (c)), (3, .int (glN L0 L2 dy a c (j + 1))), (4, .int (nI (j + 1)))]) ⟨rfl, rfl, rfl, lc_e (by first | rfl | exact nI_1 _ | (simp only [glN]; first | (rw [if_pos (by refine ⟨?_, ?_, ?_, ?_⟩ <;> first | assumption | exact i_nlt (by assumption) | exact i_nle (by assumption))]; done) | (rw [if_neg (fun q => by first | exact absurd (by assumption) q.1 | exact absurd (by assumption) q.2.1 | exact absurd q.2.2.1 (Int32.not_le.mpr (by assumption)) | exact absurd q.2.2.2 (Int32.not_lt.mpr (by assumption)))]; done))), lc_e (by first | rfl | exact nI_1 _ | (simp only [glN]; first | (rw [if_pos (by refine ⟨?_, ?_, ?_, ?_⟩ <;> first | assumption | exact i_nlt (by assumption) | exact i_nle (by assumption))]; done) | (rw [if_neg (fun q => by first | exact absurd (by assumption) q.1 | exact absurd (by assumption) q.2.1 | exact absurd q.2.2.1 (Int32.not_le.mpr (by assumption)) | exact absurd q.2.2.2 (Int32.not_lt.mpr (by assumption)))]; done))), trivial⟩ ?_
            exact ih (j + 1) (by omega) (by omega)
          · refine V_iload (pc := 44) o dX4_greatestLimit_44 rfl ?_
            refine V_iload_n (pc := 46) o dX4_greatestLimit_46 rfl ?_
            refine V_icmp_le (pc := 47) o 53 dX4_greatestLimit_47 (by decide) (fun c47 => ?_) (fun c47 => ?_)
            · refine V_iinc (pc := 53) o 1 dX4_greatestLimit_53 (by rw [hn]; decide) rfl (by decide) ?_
              refine V_goto (pc := 56) o 5 dX4_greatestLimit_56 (by decide) ?_
              have q1 : j < 8 := lt_of_nI (K := 8) c9
              refine V_eq (ws2 := wPeople cI ad L0 L1 L2 dy) (by first | rfl | (simp only [glN]; first | rfl | (rw [if_pos (by assumption)]; rfl) | (rw [if_neg (by assumption)]; rfl) | (split <;> first | rfl | (exfalso; simp_all; done)) | simp_all)) rfl ?_
              refine V_sub (lc2 := [(0, .ref (ad 0)), (1, .int (a)), (2, .int (c)), (3, .int (glN L0 L2 dy a c (j + 1))), (4, .int (nI (j + 1)))]) ⟨rfl, rfl, rfl, lc_e (by first | rfl | exact nI_1 _ | (simp only [glN]; first | (rw [if_pos (by refine ⟨?_, ?_, ?_, ?_⟩ <;> first | assumption | exact i_nlt (by assumption) | exact i_nle (by assumption))]; done) | (rw [if_neg (fun q => by first | exact absurd (by assumption) q.1 | exact absurd (by assumption) q.2.1 | exact absurd q.2.2.1 (Int32.not_le.mpr (by assumption)) | exact absurd q.2.2.2 (Int32.not_lt.mpr (by assumption)))]; done))), lc_e (by first | rfl | exact nI_1 _ | (simp only [glN]; first | (rw [if_pos (by refine ⟨?_, ?_, ?_, ?_⟩ <;> first | assumption | exact i_nlt (by assumption) | exact i_nle (by assumption))]; done) | (rw [if_neg (fun q => by first | exact absurd (by assumption) q.1 | exact absurd (by assumption) q.2.1 | exact absurd q.2.2.1 (Int32.not_le.mpr (by assumption)) | exact absurd q.2.2.2 (Int32.not_lt.mpr (by assumption)))]; done))), trivial⟩ ?_
              exact ih (j + 1) (by omega) (by omega)
            · refine V_iload (pc := 50) o dX4_greatestLimit_50 rfl ?_
              refine V_istore_n (pc := 52) o dX4_greatestLimit_52 (by rw [hn]; decide) ?_
              refine V_iinc (pc := 53) o 1 dX4_greatestLimit_53 (by rw [hn]; decide) rfl (by decide) ?_
              refine V_goto (pc := 56) o 5 dX4_greatestLimit_56 (by decide) ?_
              have q1 : j < 8 := lt_of_nI (K := 8) c9
              refine V_eq (ws2 := wPeople cI ad L0 L1 L2 dy) (by first | rfl | (simp only [glN]; first | rfl | (rw [if_pos (by assumption)]; rfl) | (rw [if_neg (by assumption)]; rfl) | (split <;> first | rfl | (exfalso; simp_all; done)) | simp_all)) rfl ?_
              refine V_sub (lc2 := [(0, .ref (ad 0)), (1, .int (a)), (2, .int (c)), (3, .int (glN L0 L2 dy a c (j + 1))), (4, .int (nI (j + 1)))]) ⟨rfl, rfl, rfl, lc_e (by first | rfl | exact nI_1 _ | (simp only [glN]; first | (rw [if_pos (by refine ⟨?_, ?_, ?_, ?_⟩ <;> first | assumption | exact i_nlt (by assumption) | exact i_nle (by assumption))]; done) | (rw [if_neg (fun q => by first | exact absurd (by assumption) q.1 | exact absurd (by assumption) q.2.1 | exact absurd q.2.2.1 (Int32.not_le.mpr (by assumption)) | exact absurd q.2.2.2 (Int32.not_lt.mpr (by assumption)))]; done))), lc_e (by first | rfl | exact nI_1 _ | (simp only [glN]; first | (rw [if_pos (by refine ⟨?_, ?_, ?_, ?_⟩ <;> first | assumption | exact i_nlt (by assumption) | exact i_nle (by assumption))]; done) | (rw [if_neg (fun q => by first | exact absurd (by assumption) q.1 | exact absurd (by assumption) q.2.1 | exact absurd q.2.2.1 (Int32.not_le.mpr (by assumption)) | exact absurd q.2.2.2 (Int32.not_lt.mpr (by assumption)))]; done))), trivial⟩ ?_
              exact ih (j + 1) (by omega) (by omega)
theorem hdX4_greatestLimit : yX4_greatestLimit.cls = RX4 ∧ yX4_greatestLimit.cls ≠ "java/lang/invoke/MethodHandle" ∧ yX4_greatestLimit.cls ≠ "java/lang/invoke/VarHandle" ∧ (parseMethodDescriptor yX4_greatestLimit.desc).map (fun d => d.parameters.length) = some 2 := by decide +kernel
set_option maxHeartbeats 4000000 in
set_option maxRecDepth 100000 in
/-- X4.greatestLimit -/
theorem cX4_greatestLimit_met (l : Launch) (D : va_G) (tys : List (ClassId × FieldType)) (cI : ClassId) (ht : tys[0]? = some (cI, .int)) (ad : Nat → Nat) (L0 L1 L2 : Nat → Int32) (dy : Int32) (a c : Int32) : CId l yX4_greatestLimit wsX4_greatestLimit 2 D tys [.ref (ad 0), .int a, .int c] (wPeople cI ad L0 L1 L2 dy) (glN L0 L2 dy a c 8) (wPeople cI ad L0 L1 L2 dy) := by
  refine CI_of (maxL := 6) (cc := cX4_greatestLimit) (y := yX4_greatestLimit) rfl rfl (Nat.le_of_ble_eq_true rfl) (fun X hl hD hk hn hcz hsz o fin => ?_)
  subst hl; subst hD; subst hk
  refine V_iconst (pc := 0) o (-1) dX4_greatestLimit_0 (by decide) ?_
  refine V_istore_n (pc := 1) o dX4_greatestLimit_1 (by rw [hn]; decide) ?_
  refine V_iconst (pc := 2) o 0 dX4_greatestLimit_2 (by decide) ?_
  refine V_istore (pc := 3) o dX4_greatestLimit_3 (by rw [hn]; decide) ?_
  exact V_sub (lc2 := [(0, .ref (ad 0)), (1, .int a), (2, .int c), (3, .int (glN L0 L2 dy a c 0)), (4, .int (nI 0))]) ⟨rfl, rfl, rfl, rfl, rfl, trivial⟩ (lpX4_greatestLimit o hn cI ht ad L0 L1 L2 dy a c (V_iload_n (pc := 59) o dX4_greatestLimit_59 rfl (fin 60 _ _ () dX4_greatestLimit_60 rfl rfl)) 9 0 (by omega) (by omega))
