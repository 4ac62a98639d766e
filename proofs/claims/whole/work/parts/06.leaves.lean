/-! Worlds of the classes: ad k is the address of the k-th cell, P, L, Q, O, B the rows, by their places. -/
def wBook (cI : ClassId) (ad : Nat → Nat) (B0 : Nat → Int32) (bn : Int32) : va_W := [(ad 0, .inr (0, [.ref (ad 1), .int bn])), (ad 1, .inr (5, [.ref (ad 2)])), (ad 2, .inl (cI, 3072, .inl B0))]
def wParts (cI : ClassId) (ad : Nat → Nat) (P0 P1 P2 P3 P4 P5 : Nat → Int32) : va_W := [(ad 0, .inr (2, [.ref (ad 1), .ref (ad 3), .ref (ad 5), .ref (ad 7), .ref (ad 9), .ref (ad 11)])), (ad 1, .inr (5, [.ref (ad 2)])), (ad 2, .inl (cI, 8, .inl P0)), (ad 3, .inr (5, [.ref (ad 4)])), (ad 4, .inl (cI, 24, .inl P1)), (ad 5, .inr (5, [.ref (ad 6)])), (ad 6, .inl (cI, 24, .inl P2)), (ad 7, .inr (5, [.ref (ad 8)])), (ad 8, .inl (cI, 24, .inl P3)), (ad 9, .inr (5, [.ref (ad 10)])), (ad 10, .inl (cI, 96, .inl P4)), (ad 11, .inr (5, [.ref (ad 12)])), (ad 12, .inl (cI, 96, .inl P5))]
def wPeople (cI : ClassId) (ad : Nat → Nat) (L0 L1 L2 : Nat → Int32) (dy : Int32) : va_W := [(ad 0, .inr (3, [.ref (ad 1), .ref (ad 3), .ref (ad 5), .int dy])), (ad 1, .inr (5, [.ref (ad 2)])), (ad 2, .inl (cI, 8, .inl L0)), (ad 3, .inr (5, [.ref (ad 4)])), (ad 4, .inl (cI, 8, .inl L1)), (ad 5, .inr (5, [.ref (ad 6)])), (ad 6, .inl (cI, 8, .inl L2))]
def wReqs (cI : ClassId) (ad : Nat → Nat) (Q0 Q1 Q2 Q3 Q4 Q5 Q6 : Nat → Int32) (nm : Int32) : va_W := [(ad 0, .inr (4, [.ref (ad 1), .ref (ad 3), .ref (ad 5), .ref (ad 7), .ref (ad 9), .ref (ad 11), .ref (ad 13), .int nm])), (ad 1, .inr (5, [.ref (ad 2)])), (ad 2, .inl (cI, 30, .inl Q0)), (ad 3, .inr (5, [.ref (ad 4)])), (ad 4, .inl (cI, 30, .inl Q1)), (ad 5, .inr (5, [.ref (ad 6)])), (ad 6, .inl (cI, 30, .inl Q2)), (ad 7, .inr (5, [.ref (ad 8)])), (ad 8, .inl (cI, 30, .inl Q3)), (ad 9, .inr (5, [.ref (ad 10)])), (ad 10, .inl (cI, 30, .inl Q4)), (ad 11, .inr (5, [.ref (ad 12)])), (ad 12, .inl (cI, 30, .inl Q5)), (ad 13, .inr (5, [.ref (ad 14)])), (ad 14, .inl (cI, 240, .inl Q6))]
def wSearch (cI : ClassId) (ad : Nat → Nat) (O0 O1 : Nat → Int32) (on oc : Int32) : va_W := [(ad 0, .inr (6, [.ref (ad 1), .ref (ad 3), .int on, .int oc])), (ad 1, .inr (5, [.ref (ad 2)])), (ad 2, .inl (cI, 8, .inl O0)), (ad 3, .inr (5, [.ref (ad 4)])), (ad 4, .inl (cI, 72, .inl O1))]
def wDesk (cI : ClassId) (ad : Nat → Nat) (P0 P1 P2 P3 P4 P5 : Nat → Int32) (L0 L1 L2 : Nat → Int32) (dy : Int32) (Q0 Q1 Q2 Q3 Q4 Q5 Q6 : Nat → Int32) (nm : Int32) : va_W := (ad 0, .inr (1, [.ref (ad 1), .ref (ad 14), .ref (ad 21)])) :: (wParts cI (fun k => ad (1 + k)) P0 P1 P2 P3 P4 P5 ++ (wPeople cI (fun k => ad (14 + k)) L0 L1 L2 dy ++ wReqs cI (fun k => ad (21 + k)) Q0 Q1 Q2 Q3 Q4 Q5 Q6 nm))
def wApp (cI : ClassId) (ad : Nat → Nat) (B0 : Nat → Int32) (bn : Int32) (P0 P1 P2 P3 P4 P5 : Nat → Int32) (L0 L1 L2 : Nat → Int32) (dy : Int32) (Q0 Q1 Q2 Q3 Q4 Q5 Q6 : Nat → Int32) (nm : Int32) (P'0 P'1 P'2 P'3 P'4 P'5 : Nat → Int32) (L'0 L'1 L'2 : Nat → Int32) (dy2 : Int32) (Q'0 Q'1 Q'2 Q'3 Q'4 Q'5 Q'6 : Nat → Int32) (nm2 : Int32) (O0 O1 : Nat → Int32) (on oc : Int32) : va_W := (ad 0, .inr (7, [.ref (ad 1), .ref (ad 4), .ref (ad 40), .ref (ad 76)])) :: (wBook cI (fun k => ad (1 + k)) B0 bn ++ (wDesk cI (fun k => ad (4 + k)) P0 P1 P2 P3 P4 P5 L0 L1 L2 dy Q0 Q1 Q2 Q3 Q4 Q5 Q6 nm ++ (wDesk cI (fun k => ad (40 + k)) P'0 P'1 P'2 P'3 P'4 P'5 L'0 L'1 L'2 dy2 Q'0 Q'1 Q'2 Q'3 Q'4 Q'5 Q'6 nm2 ++ wSearch cI (fun k => ad (76 + k)) O0 O1 on oc)))
def chv (c p : Int32) : Int32 := (c >>> ((2 * p) &&& 31)) &&& 3
def chw (c p v : Int32) : Int32 := c ||| (v <<< ((2 * p) &&& 31))
def vset (l g : Int32) : Int32 := (2 <<< (g &&& 31)) - (1 <<< (l &&& 31))
def plc (p v : Int32) : Int32 := (p * 3 + v) - 1
theorem V_ite {X : XT} {k z : Nat} {ws : va_W} {pc : Nat} {lc : List (Nat × Value)} {st : List Value} {c : Prop} [Decidable c] (k1 : c → V X k z ws pc lc (.int 1 :: st)) (k0 : ¬ c → V X k z ws pc lc (.int 0 :: st)) : V X k z ws pc lc (.int (if c then 1 else 0) :: st) := by
  by_cases h : c
  · rw [if_pos h]; exact k1 h
  · rw [if_neg h]; exact k0 h
theorem hdX1_versionOf : yX1_versionOf.cls ≠ "java/lang/invoke/MethodHandle" ∧ yX1_versionOf.cls ≠ "java/lang/invoke/VarHandle" ∧ (parseMethodDescriptor yX1_versionOf.desc).map (fun d => d.parameters.length) = some 2 := by decide +kernel
set_option maxHeartbeats 4000000 in
set_option maxRecDepth 100000 in
/-- X1.versionOf -/
theorem cX1_versionOf_met (l : Launch) (D : va_G) (tys : List (ClassId × FieldType)) (c p : Int32) : CId l yX1_versionOf wsX1_versionOf 0 D tys [.int c, .int p] [] (chv c p) [] := by
  refine CI_of (maxL := 2) (cc := cX1_versionOf) (y := yX1_versionOf) rfl rfl (Nat.le_of_ble_eq_true rfl) (fun X hl hD hk hn hcz hsz o fin => ?_)
  subst hl; subst hD; subst hk
  refine V_iload_n (pc := 0) o dX1_versionOf_0 rfl ?_
  refine V_iconst (pc := 1) o 2 dX1_versionOf_1 (by decide) ?_
  refine V_iload_n (pc := 2) o dX1_versionOf_2 rfl ?_
  refine V_imul (pc := 3) o dX1_versionOf_3 ?_
  refine V_ishr (pc := 4) o dX1_versionOf_4 ?_
  refine V_iconst (pc := 5) o 3 dX1_versionOf_5 (by decide) ?_
  refine V_iand (pc := 6) o dX1_versionOf_6 ?_
  exact fin 7 _ _ () dX1_versionOf_7 rfl rfl
theorem hdX1_with : yX1_with.cls ≠ "java/lang/invoke/MethodHandle" ∧ yX1_with.cls ≠ "java/lang/invoke/VarHandle" ∧ (parseMethodDescriptor yX1_with.desc).map (fun d => d.parameters.length) = some 3 := by decide +kernel
set_option maxHeartbeats 4000000 in
set_option maxRecDepth 100000 in
/-- X1.with -/
theorem cX1_with_met (l : Launch) (D : va_G) (tys : List (ClassId × FieldType)) (c p v : Int32) : CId l yX1_with wsX1_with 0 D tys [.int c, .int p, .int v] [] (chw c p v) [] := by
  refine CI_of (maxL := 3) (cc := cX1_with) (y := yX1_with) rfl rfl (Nat.le_of_ble_eq_true rfl) (fun X hl hD hk hn hcz hsz o fin => ?_)
  subst hl; subst hD; subst hk
  refine V_iload_n (pc := 0) o dX1_with_0 rfl ?_
  refine V_iload_n (pc := 1) o dX1_with_1 rfl ?_
  refine V_iconst (pc := 2) o 2 dX1_with_2 (by decide) ?_
  refine V_iload_n (pc := 3) o dX1_with_3 rfl ?_
  refine V_imul (pc := 4) o dX1_with_4 ?_
  refine V_ishl (pc := 5) o dX1_with_5 ?_
  refine V_ior (pc := 6) o dX1_with_6 ?_
  exact fin 7 _ _ () dX1_with_7 rfl rfl
theorem hdX3_versionSet : yX3_versionSet.cls ≠ "java/lang/invoke/MethodHandle" ∧ yX3_versionSet.cls ≠ "java/lang/invoke/VarHandle" ∧ (parseMethodDescriptor yX3_versionSet.desc).map (fun d => d.parameters.length) = some 2 := by decide +kernel
set_option maxHeartbeats 4000000 in
set_option maxRecDepth 100000 in
/-- X3.versionSet -/
theorem cX3_versionSet_met (l : Launch) (D : va_G) (tys : List (ClassId × FieldType)) (a b : Int32) : CId l yX3_versionSet wsX3_versionSet 0 D tys [.int a, .int b] [] (vset a b) [] := by
  refine CI_of (maxL := 2) (cc := cX3_versionSet) (y := yX3_versionSet) rfl rfl (Nat.le_of_ble_eq_true rfl) (fun X hl hD hk hn hcz hsz o fin => ?_)
  subst hl; subst hD; subst hk
  refine V_iconst (pc := 0) o 2 dX3_versionSet_0 (by decide) ?_
  refine V_iload_n (pc := 1) o dX3_versionSet_1 rfl ?_
  refine V_ishl (pc := 2) o dX3_versionSet_2 ?_
  refine V_iconst (pc := 3) o 1 dX3_versionSet_3 (by decide) ?_
  refine V_iload_n (pc := 4) o dX3_versionSet_4 rfl ?_
  refine V_ishl (pc := 5) o dX3_versionSet_5 ?_
  refine V_isub (pc := 6) o dX3_versionSet_6 ?_
  exact fin 7 _ _ () dX3_versionSet_7 rfl rfl
theorem hdX3_placeOf : yX3_placeOf.cls ≠ "java/lang/invoke/MethodHandle" ∧ yX3_placeOf.cls ≠ "java/lang/invoke/VarHandle" ∧ (parseMethodDescriptor yX3_placeOf.desc).map (fun d => d.parameters.length) = some 2 := by decide +kernel
set_option maxHeartbeats 4000000 in
set_option maxRecDepth 100000 in
/-- X3.placeOf -/
theorem cX3_placeOf_met (l : Launch) (D : va_G) (tys : List (ClassId × FieldType)) (p v : Int32) : CId l yX3_placeOf wsX3_placeOf 0 D tys [.int p, .int v] [] (plc p v) [] := by
  refine CI_of (maxL := 2) (cc := cX3_placeOf) (y := yX3_placeOf) rfl rfl (Nat.le_of_ble_eq_true rfl) (fun X hl hD hk hn hcz hsz o fin => ?_)
  subst hl; subst hD; subst hk
  refine V_iload_n (pc := 0) o dX3_placeOf_0 rfl ?_
  refine V_iconst (pc := 1) o 3 dX3_placeOf_1 (by decide) ?_
  refine V_imul (pc := 2) o dX3_placeOf_2 ?_
  refine V_iload_n (pc := 3) o dX3_placeOf_3 rfl ?_
  refine V_iadd (pc := 4) o dX3_placeOf_4 ?_
  refine V_iconst (pc := 5) o 1 dX3_placeOf_5 (by decide) ?_
  refine V_isub (pc := 6) o dX3_placeOf_6 ?_
  exact fin 7 _ _ () dX3_placeOf_7 rfl rfl
theorem hdX0_count : yX0_count.cls = RX0 ∧ yX0_count.cls ≠ "java/lang/invoke/MethodHandle" ∧ yX0_count.cls ≠ "java/lang/invoke/VarHandle" ∧ (parseMethodDescriptor yX0_count.desc).map (fun d => d.parameters.length) = some 0 := by decide +kernel
theorem hiX0_count_X0 : ∀ w ∈ wsX00, w ∈ wsX0_count := by decide +kernel
theorem lkX0_count_20 : Cond.fieldLink RX0 20 RX0 "number" "I" ∈ wsX0_count := by decide +kernel
set_option maxHeartbeats 4000000 in
set_option maxRecDepth 100000 in
/-- X0.count -/
theorem cX0_count_met (l : Launch) (D : va_G) (tys : List (ClassId × FieldType)) (cI : ClassId) (ht : tys[0]? = some (cI, .int)) (ad : Nat → Nat) (B0 : Nat → Int32) (bn : Int32) : CId l yX0_count wsX0_count 0 D tys [.ref (ad 0)] (wBook cI ad B0 bn) bn (wBook cI ad B0 bn) := by
  refine CI_of (maxL := 1) (cc := cX0_count) (y := yX0_count) rfl rfl (Nat.le_of_ble_eq_true rfl) (fun X hl hD hk hn hcz hsz o fin => ?_)
  subst hl; subst hD; subst hk
  refine V_aload_n (pc := 0) o dX0_count_0 rfl ?_
  refine V_get (pc := 1) o 0 1 hiX0_count_X0 rfl rfl (by decide) lkX0_count_20 rfl rfl dX0_count_1 ?_
  exact fin 4 _ _ () dX0_count_4 rfl rfl
theorem hdX0_wordOf : yX0_wordOf.cls = RX0 ∧ yX0_wordOf.cls ≠ "java/lang/invoke/MethodHandle" ∧ yX0_wordOf.cls ≠ "java/lang/invoke/VarHandle" ∧ (parseMethodDescriptor yX0_wordOf.desc).map (fun d => d.parameters.length) = some 2 := by decide +kernel
theorem hiX0_wordOf_X0 : ∀ w ∈ wsX00, w ∈ wsX0_wordOf := by decide +kernel
theorem lkX0_wordOf_16 : Cond.fieldLink RX0 16 RX0 "words" "LApprovalyard$Row;" ∈ wsX0_wordOf := by decide +kernel
set_option maxHeartbeats 4000000 in
set_option maxRecDepth 100000 in
/-- X0.wordOf -/
theorem cX0_wordOf_met (l : Launch) (D : va_G) (tys : List (ClassId × FieldType)) (cI : ClassId) (ht : tys[0]? = some (cI, .int)) (ad : Nat → Nat) (B0 : Nat → Int32) (bn : Int32) (n i : Int32) : CId l yX0_wordOf wsX0_wordOf 1 D tys [.ref (ad 0), .int n, .int i] (wBook cI ad B0 bn) (rat 3072 B0 (n * 6 + i)) (wBook cI ad B0 bn) := by
  refine CI_of (maxL := 3) (cc := cX0_wordOf) (y := yX0_wordOf) rfl rfl (Nat.le_of_ble_eq_true rfl) (fun X hl hD hk hn hcz hsz o fin => ?_)
  subst hl; subst hD; subst hk
  refine V_aload_n (pc := 0) o dX0_wordOf_0 rfl ?_
  refine V_get (pc := 1) o 0 0 hiX0_wordOf_X0 rfl rfl (by decide) lkX0_wordOf_16 rfl rfl dX0_wordOf_1 ?_
  refine V_iload_n (pc := 4) o dX0_wordOf_4 rfl ?_
  refine V_bipush (pc := 5) o 6 dX0_wordOf_5 (by decide) ?_
  refine V_imul (pc := 7) o dX0_wordOf_7 ?_
  refine V_iload_n (pc := 8) o dX0_wordOf_8 rfl ?_
  refine V_iadd (pc := 9) o dX0_wordOf_9 ?_
  refine V_rVi (pc := 10) o (cX6_at_met _ _ _ cI ht _ _ 3072 B0 (by decide) _) 1 2 gX0_wordOf_X6_at rfl hdX6_at (by decide) rfl rfl rfl (Nat.le_of_ble_eq_true rfl) dX0_wordOf_10 rfl ?_
  exact fin 13 _ _ () dX0_wordOf_13 rfl rfl
theorem hdX3_countOf : yX3_countOf.cls = RX3 ∧ yX3_countOf.cls ≠ "java/lang/invoke/MethodHandle" ∧ yX3_countOf.cls ≠ "java/lang/invoke/VarHandle" ∧ (parseMethodDescriptor yX3_countOf.desc).map (fun d => d.parameters.length) = some 1 := by decide +kernel
theorem hiX3_countOf_X3 : ∀ w ∈ wsX30, w ∈ wsX3_countOf := by decide +kernel
theorem lkX3_countOf_14 : Cond.fieldLink RX3 14 RX3 "counts" "LApprovalyard$Row;" ∈ wsX3_countOf := by decide +kernel
set_option maxHeartbeats 4000000 in
set_option maxRecDepth 100000 in
/-- X3.countOf -/
theorem cX3_countOf_met (l : Launch) (D : va_G) (tys : List (ClassId × FieldType)) (cI : ClassId) (ht : tys[0]? = some (cI, .int)) (ad : Nat → Nat) (P0 P1 P2 P3 P4 P5 : Nat → Int32) (p : Int32) : CId l yX3_countOf wsX3_countOf 1 D tys [.ref (ad 0), .int p] (wParts cI ad P0 P1 P2 P3 P4 P5) (rat 8 P0 p) (wParts cI ad P0 P1 P2 P3 P4 P5) := by
  refine CI_of (maxL := 2) (cc := cX3_countOf) (y := yX3_countOf) rfl rfl (Nat.le_of_ble_eq_true rfl) (fun X hl hD hk hn hcz hsz o fin => ?_)
  subst hl; subst hD; subst hk
  refine V_aload_n (pc := 0) o dX3_countOf_0 rfl ?_
  refine V_get (pc := 1) o 0 0 hiX3_countOf_X3 rfl rfl (by decide) lkX3_countOf_14 rfl rfl dX3_countOf_1 ?_
  refine V_iload_n (pc := 4) o dX3_countOf_4 rfl ?_
  refine V_rVi (pc := 5) o (cX6_at_met _ _ _ cI ht _ _ 8 P0 (by decide) _) 1 2 gX3_countOf_X6_at rfl hdX6_at (by decide) rfl rfl rfl (Nat.le_of_ble_eq_true rfl) dX3_countOf_5 rfl ?_
  exact fin 8 _ _ () dX3_countOf_8 rfl rfl
theorem hdX3_clear : yX3_clear.cls = RX3 ∧ yX3_clear.cls ≠ "java/lang/invoke/MethodHandle" ∧ yX3_clear.cls ≠ "java/lang/invoke/VarHandle" ∧ (parseMethodDescriptor yX3_clear.desc).map (fun d => d.parameters.length) = some 0 := by decide +kernel
theorem hiX3_clear_X3 : ∀ w ∈ wsX30, w ∈ wsX3_clear := by decide +kernel
theorem lkX3_clear_14 : Cond.fieldLink RX3 14 RX3 "counts" "LApprovalyard$Row;" ∈ wsX3_clear := by decide +kernel
set_option maxHeartbeats 4000000 in
set_option maxRecDepth 100000 in
/-- X3.clear -/
theorem cX3_clear_met (l : Launch) (D : va_G) (tys : List (ClassId × FieldType)) (cI : ClassId) (ht : tys[0]? = some (cI, .int)) (ad : Nat → Nat) (P0 P1 P2 P3 P4 P5 : Nat → Int32) : CVd l yX3_clear wsX3_clear 1 D tys [.ref (ad 0)] (wParts cI ad P0 P1 P2 P3 P4 P5) (wParts cI ad (rfi 8 P0 0) P1 P2 P3 P4 P5) := by
  refine CV_of (maxL := 1) (cc := cX3_clear) (y := yX3_clear) rfl rfl (Nat.le_of_ble_eq_true rfl) (fun X hl hD hk hn hcz hsz o fin => ?_)
  subst hl; subst hD; subst hk
  refine V_aload_n (pc := 0) o dX3_clear_0 rfl ?_
  refine V_get (pc := 1) o 0 0 hiX3_clear_X3 rfl rfl (by decide) lkX3_clear_14 rfl rfl dX3_clear_1 ?_
  refine V_iconst (pc := 4) o 0 dX3_clear_4 (by decide) ?_
  refine V_wVv (pc := 5) o (cX6_fill_met _ _ _ cI ht _ _ 8 P0 (by decide) _) 1 2 (wParts cI ad (rfi 8 P0 0) P1 P2 P3 P4 P5) gX3_clear_X6_fill rfl hdX6_fill (by decide) rfl rfl rfl (Nat.le_of_ble_eq_true rfl) dX3_clear_5 rfl rfl ?_
  exact fin 8 _ () dX3_clear_8 trivial
theorem hdX3_addVersion : yX3_addVersion.cls = RX3 ∧ yX3_addVersion.cls ≠ "java/lang/invoke/MethodHandle" ∧ yX3_addVersion.cls ≠ "java/lang/invoke/VarHandle" ∧ (parseMethodDescriptor yX3_addVersion.desc).map (fun d => d.parameters.length) = some 2 := by decide +kernel
theorem hiX3_addVersion_X3 : ∀ w ∈ wsX30, w ∈ wsX3_addVersion := by decide +kernel
theorem lkX3_addVersion_14 : Cond.fieldLink RX3 14 RX3 "counts" "LApprovalyard$Row;" ∈ wsX3_addVersion := by decide +kernel
theorem lkX3_addVersion_20 : Cond.fieldLink RX3 20 RX3 "costs" "LApprovalyard$Row;" ∈ wsX3_addVersion := by decide +kernel
theorem lkX3_addVersion_23 : Cond.fieldLink RX3 23 RX3 "replaced" "LApprovalyard$Row;" ∈ wsX3_addVersion := by decide +kernel
theorem lkX3_addVersion_26 : Cond.fieldLink RX3 26 RX3 "needCounts" "LApprovalyard$Row;" ∈ wsX3_addVersion := by decide +kernel
set_option maxHeartbeats 4000000 in
set_option maxRecDepth 100000 in
/-- X3.addVersion -/
theorem cX3_addVersion_met (l : Launch) (D : va_G) (tys : List (ClassId × FieldType)) (cI : ClassId) (ht : tys[0]? = some (cI, .int)) (ad : Nat → Nat) (P0 P1 P2 P3 P4 P5 : Nat → Int32) (p c : Int32) : CId l yX3_addVersion wsX3_addVersion 1 D tys [.ref (ad 0), .int p, .int c] (wParts cI ad P0 P1 P2 P3 P4 P5) (rat 8 P0 p + 1) (wParts cI ad (rup 8 P0 p (rat 8 P0 p + 1)) (rup 24 P1 (plc p (rat 8 P0 p + 1)) c) (rup 24 P2 (plc p (rat 8 P0 p + 1)) 0) (rup 24 P3 (plc p (rat 8 P0 p + 1)) 0) P4 P5) := by
  refine CI_of (maxL := 5) (cc := cX3_addVersion) (y := yX3_addVersion) rfl rfl (Nat.le_of_ble_eq_true rfl) (fun X hl hD hk hn hcz hsz o fin => ?_)
  subst hl; subst hD; subst hk
  refine V_aload_n (pc := 0) o dX3_addVersion_0 rfl ?_
  refine V_get (pc := 1) o 0 0 hiX3_addVersion_X3 rfl rfl (by decide) lkX3_addVersion_14 rfl rfl dX3_addVersion_1 ?_
  refine V_iload_n (pc := 4) o dX3_addVersion_4 rfl ?_
  refine V_rVi (pc := 5) o (cX6_at_met _ _ _ cI ht _ _ 8 P0 (by decide) _) 1 2 gX3_addVersion_X6_at rfl hdX6_at (by decide) rfl rfl rfl (Nat.le_of_ble_eq_true rfl) dX3_addVersion_5 rfl ?_
  refine V_iconst (pc := 8) o 1 dX3_addVersion_8 (by decide) ?_
  refine V_iadd (pc := 9) o dX3_addVersion_9 ?_
  refine V_istore_n (pc := 10) o dX3_addVersion_10 (by rw [hn]; decide) ?_
  refine V_iload_n (pc := 11) o dX3_addVersion_11 rfl ?_
  refine V_iload_n (pc := 12) o dX3_addVersion_12 rfl ?_
  refine V_rSi (pc := 13) o (cX3_placeOf_met _ _ _ p ((rat 8 P0 p) + 1)) 0 0 gX3_addVersion_X3_placeOf rfl hdX3_placeOf (by decide) rfl (Nat.le_of_ble_eq_true rfl) dX3_addVersion_13 rfl ?_
  refine V_istore (pc := 16) o dX3_addVersion_16 (by rw [hn]; decide) ?_
  refine V_aload_n (pc := 18) o dX3_addVersion_18 rfl ?_
  refine V_get (pc := 19) o 0 0 hiX3_addVersion_X3 rfl rfl (by decide) lkX3_addVersion_14 rfl rfl dX3_addVersion_19 ?_
  refine V_iload_n (pc := 22) o dX3_addVersion_22 rfl ?_
  refine V_iload_n (pc := 23) o dX3_addVersion_23 rfl ?_
  refine V_wVv (pc := 24) o (cX6_put_met _ _ _ cI ht _ _ 8 P0 (by decide) _ _) 1 2 (wParts cI ad (rup 8 P0 p ((rat 8 P0 p) + 1)) P1 P2 P3 P4 P5) gX3_addVersion_X6_put rfl hdX6_put (by decide) rfl rfl rfl (Nat.le_of_ble_eq_true rfl) dX3_addVersion_24 rfl rfl ?_
  refine V_aload_n (pc := 27) o dX3_addVersion_27 rfl ?_
  refine V_get (pc := 28) o 0 1 hiX3_addVersion_X3 rfl rfl (by decide) lkX3_addVersion_20 rfl rfl dX3_addVersion_28 ?_
  refine V_iload (pc := 31) o dX3_addVersion_31 rfl ?_
  refine V_iload_n (pc := 33) o dX3_addVersion_33 rfl ?_
  refine V_wVv (pc := 34) o (cX6_put_met _ _ _ cI ht _ _ 24 P1 (by decide) _ _) 3 2 (wParts cI ad (rup 8 P0 p ((rat 8 P0 p) + 1)) (rup 24 P1 (plc p ((rat 8 P0 p) + 1)) c) P2 P3 P4 P5) gX3_addVersion_X6_put rfl hdX6_put (by decide) rfl rfl rfl (Nat.le_of_ble_eq_true rfl) dX3_addVersion_34 rfl rfl ?_
  refine V_aload_n (pc := 37) o dX3_addVersion_37 rfl ?_
  refine V_get (pc := 38) o 0 2 hiX3_addVersion_X3 rfl rfl (by decide) lkX3_addVersion_23 rfl rfl dX3_addVersion_38 ?_
  refine V_iload (pc := 41) o dX3_addVersion_41 rfl ?_
  refine V_iconst (pc := 43) o 0 dX3_addVersion_43 (by decide) ?_
  refine V_wVv (pc := 44) o (cX6_put_met _ _ _ cI ht _ _ 24 P2 (by decide) _ _) 5 2 (wParts cI ad (rup 8 P0 p ((rat 8 P0 p) + 1)) (rup 24 P1 (plc p ((rat 8 P0 p) + 1)) c) (rup 24 P2 (plc p ((rat 8 P0 p) + 1)) 0) P3 P4 P5) gX3_addVersion_X6_put rfl hdX6_put (by decide) rfl rfl rfl (Nat.le_of_ble_eq_true rfl) dX3_addVersion_44 rfl rfl ?_
  refine V_aload_n (pc := 47) o dX3_addVersion_47 rfl ?_
  refine V_get (pc := 48) o 0 3 hiX3_addVersion_X3 rfl rfl (by decide) lkX3_addVersion_26 rfl rfl dX3_addVersion_48 ?_
  refine V_iload (pc := 51) o dX3_addVersion_51 rfl ?_
  refine V_iconst (pc := 53) o 0 dX3_addVersion_53 (by decide) ?_
  refine V_wVv (pc := 54) o (cX6_put_met _ _ _ cI ht _ _ 24 P3 (by decide) _ _) 7 2 (wParts cI ad (rup 8 P0 p ((rat 8 P0 p) + 1)) (rup 24 P1 (plc p ((rat 8 P0 p) + 1)) c) (rup 24 P2 (plc p ((rat 8 P0 p) + 1)) 0) (rup 24 P3 (plc p ((rat 8 P0 p) + 1)) 0) P4 P5) gX3_addVersion_X6_put rfl hdX6_put (by decide) rfl rfl rfl (Nat.le_of_ble_eq_true rfl) dX3_addVersion_54 rfl rfl ?_
  refine V_iload_n (pc := 57) o dX3_addVersion_57 rfl ?_
  exact fin 58 _ _ () dX3_addVersion_58 rfl rfl
theorem hdX3_needsOf : yX3_needsOf.cls = RX3 ∧ yX3_needsOf.cls ≠ "java/lang/invoke/MethodHandle" ∧ yX3_needsOf.cls ≠ "java/lang/invoke/VarHandle" ∧ (parseMethodDescriptor yX3_needsOf.desc).map (fun d => d.parameters.length) = some 2 := by decide +kernel
theorem hiX3_needsOf_X3 : ∀ w ∈ wsX30, w ∈ wsX3_needsOf := by decide +kernel
theorem lkX3_needsOf_26 : Cond.fieldLink RX3 26 RX3 "needCounts" "LApprovalyard$Row;" ∈ wsX3_needsOf := by decide +kernel
set_option maxHeartbeats 4000000 in
set_option maxRecDepth 100000 in
/-- X3.needsOf -/
theorem cX3_needsOf_met (l : Launch) (D : va_G) (tys : List (ClassId × FieldType)) (cI : ClassId) (ht : tys[0]? = some (cI, .int)) (ad : Nat → Nat) (P0 P1 P2 P3 P4 P5 : Nat → Int32) (p v : Int32) : CId l yX3_needsOf wsX3_needsOf 1 D tys [.ref (ad 0), .int p, .int v] (wParts cI ad P0 P1 P2 P3 P4 P5) (rat 24 P3 (plc p v)) (wParts cI ad P0 P1 P2 P3 P4 P5) := by
  refine CI_of (maxL := 3) (cc := cX3_needsOf) (y := yX3_needsOf) rfl rfl (Nat.le_of_ble_eq_true rfl) (fun X hl hD hk hn hcz hsz o fin => ?_)
  subst hl; subst hD; subst hk
  refine V_aload_n (pc := 0) o dX3_needsOf_0 rfl ?_
  refine V_get (pc := 1) o 0 3 hiX3_needsOf_X3 rfl rfl (by decide) lkX3_needsOf_26 rfl rfl dX3_needsOf_1 ?_
  refine V_iload_n (pc := 4) o dX3_needsOf_4 rfl ?_
  refine V_iload_n (pc := 5) o dX3_needsOf_5 rfl ?_
  refine V_rSi (pc := 6) o (cX3_placeOf_met _ _ _ p v) 0 0 gX3_needsOf_X3_placeOf rfl hdX3_placeOf (by decide) rfl (Nat.le_of_ble_eq_true rfl) dX3_needsOf_6 rfl ?_
  refine V_rVi (pc := 9) o (cX6_at_met _ _ _ cI ht _ _ 24 P3 (by decide) _) 7 2 gX3_needsOf_X6_at rfl hdX6_at (by decide) rfl rfl rfl (Nat.le_of_ble_eq_true rfl) dX3_needsOf_9 rfl ?_
  exact fin 12 _ _ () dX3_needsOf_12 rfl rfl
theorem hdX3_addNeed : yX3_addNeed.cls = RX3 ∧ yX3_addNeed.cls ≠ "java/lang/invoke/MethodHandle" ∧ yX3_addNeed.cls ≠ "java/lang/invoke/VarHandle" ∧ (parseMethodDescriptor yX3_addNeed.desc).map (fun d => d.parameters.length) = some 5 := by decide +kernel
theorem hiX3_addNeed_X3 : ∀ w ∈ wsX30, w ∈ wsX3_addNeed := by decide +kernel
theorem lkX3_addNeed_26 : Cond.fieldLink RX3 26 RX3 "needCounts" "LApprovalyard$Row;" ∈ wsX3_addNeed := by decide +kernel
theorem lkX3_addNeed_29 : Cond.fieldLink RX3 29 RX3 "needParts" "LApprovalyard$Row;" ∈ wsX3_addNeed := by decide +kernel
theorem lkX3_addNeed_32 : Cond.fieldLink RX3 32 RX3 "needVersions" "LApprovalyard$Row;" ∈ wsX3_addNeed := by decide +kernel
set_option maxHeartbeats 4000000 in
set_option maxRecDepth 100000 in
/-- X3.addNeed -/
theorem cX3_addNeed_met (l : Launch) (D : va_G) (tys : List (ClassId × FieldType)) (cI : ClassId) (ht : tys[0]? = some (cI, .int)) (ad : Nat → Nat) (P0 P1 P2 P3 P4 P5 : Nat → Int32) (p v q a b : Int32) : CId l yX3_addNeed wsX3_addNeed 1 D tys [.ref (ad 0), .int p, .int v, .int q, .int a, .int b] (wParts cI ad P0 P1 P2 P3 P4 P5) ((rat 24 P3 (plc p v)) + 1) (wParts cI ad P0 P1 P2 (rup 24 P3 (plc p v) ((rat 24 P3 (plc p v)) + 1)) (rup 96 P4 (plc p v * 4 + (rat 24 P3 (plc p v))) q) (rup 96 P5 (plc p v * 4 + (rat 24 P3 (plc p v))) (vset a b))) := by
  refine CI_of (maxL := 8) (cc := cX3_addNeed) (y := yX3_addNeed) rfl rfl (Nat.le_of_ble_eq_true rfl) (fun X hl hD hk hn hcz hsz o fin => ?_)
  subst hl; subst hD; subst hk
  refine V_iload_n (pc := 0) o dX3_addNeed_0 rfl ?_
  refine V_iload_n (pc := 1) o dX3_addNeed_1 rfl ?_
  refine V_rSi (pc := 2) o (cX3_placeOf_met _ _ _ p v) 0 0 gX3_addNeed_X3_placeOf rfl hdX3_placeOf (by decide) rfl (Nat.le_of_ble_eq_true rfl) dX3_addNeed_2 rfl ?_
  refine V_istore (pc := 5) o dX3_addNeed_5 (by rw [hn]; decide) ?_
  refine V_aload_n (pc := 7) o dX3_addNeed_7 rfl ?_
  refine V_get (pc := 8) o 0 3 hiX3_addNeed_X3 rfl rfl (by decide) lkX3_addNeed_26 rfl rfl dX3_addNeed_8 ?_
  refine V_iload (pc := 11) o dX3_addNeed_11 rfl ?_
  refine V_rVi (pc := 13) o (cX6_at_met _ _ _ cI ht _ _ 24 P3 (by decide) _) 7 2 gX3_addNeed_X6_at rfl hdX6_at (by decide) rfl rfl rfl (Nat.le_of_ble_eq_true rfl) dX3_addNeed_13 rfl ?_
  refine V_istore (pc := 16) o dX3_addNeed_16 (by rw [hn]; decide) ?_
  refine V_aload_n (pc := 18) o dX3_addNeed_18 rfl ?_
  refine V_get (pc := 19) o 0 4 hiX3_addNeed_X3 rfl rfl (by decide) lkX3_addNeed_29 rfl rfl dX3_addNeed_19 ?_
  refine V_iload (pc := 22) o dX3_addNeed_22 rfl ?_
  refine V_iconst (pc := 24) o 4 dX3_addNeed_24 (by decide) ?_
  refine V_imul (pc := 25) o dX3_addNeed_25 ?_
  refine V_iload (pc := 26) o dX3_addNeed_26 rfl ?_
  refine V_iadd (pc := 28) o dX3_addNeed_28 ?_
  refine V_iload_n (pc := 29) o dX3_addNeed_29 rfl ?_
  refine V_wVv (pc := 30) o (cX6_put_met _ _ _ cI ht _ _ 96 P4 (by decide) _ _) 9 2 (wParts cI ad P0 P1 P2 P3 (rup 96 P4 (((plc p v) * 4) + (rat 24 P3 (plc p v))) q) P5) gX3_addNeed_X6_put rfl hdX6_put (by decide) rfl rfl rfl (Nat.le_of_ble_eq_true rfl) dX3_addNeed_30 rfl rfl ?_
  refine V_aload_n (pc := 33) o dX3_addNeed_33 rfl ?_
  refine V_get (pc := 34) o 0 5 hiX3_addNeed_X3 rfl rfl (by decide) lkX3_addNeed_32 rfl rfl dX3_addNeed_34 ?_
  refine V_iload (pc := 37) o dX3_addNeed_37 rfl ?_
  refine V_iconst (pc := 39) o 4 dX3_addNeed_39 (by decide) ?_
  refine V_imul (pc := 40) o dX3_addNeed_40 ?_
  refine V_iload (pc := 41) o dX3_addNeed_41 rfl ?_
  refine V_iadd (pc := 43) o dX3_addNeed_43 ?_
  refine V_iload (pc := 44) o dX3_addNeed_44 rfl ?_
  refine V_iload (pc := 46) o dX3_addNeed_46 rfl ?_
  refine V_rSi (pc := 48) o (cX3_versionSet_met _ _ _ a b) 0 0 gX3_addNeed_X3_versionSet rfl hdX3_versionSet (by decide) rfl (Nat.le_of_ble_eq_true rfl) dX3_addNeed_48 rfl ?_
  refine V_wVv (pc := 51) o (cX6_put_met _ _ _ cI ht _ _ 96 P5 (by decide) _ _) 11 2 (wParts cI ad P0 P1 P2 P3 (rup 96 P4 (((plc p v) * 4) + (rat 24 P3 (plc p v))) q) (rup 96 P5 (((plc p v) * 4) + (rat 24 P3 (plc p v))) (vset a b))) gX3_addNeed_X6_put rfl hdX6_put (by decide) rfl rfl rfl (Nat.le_of_ble_eq_true rfl) dX3_addNeed_51 rfl rfl ?_
  refine V_aload_n (pc := 54) o dX3_addNeed_54 rfl ?_
  refine V_get (pc := 55) o 0 3 hiX3_addNeed_X3 rfl rfl (by decide) lkX3_addNeed_26 rfl rfl dX3_addNeed_55 ?_
  refine V_iload (pc := 58) o dX3_addNeed_58 rfl ?_
  refine V_iload (pc := 60) o dX3_addNeed_60 rfl ?_
  refine V_iconst (pc := 62) o 1 dX3_addNeed_62 (by decide) ?_
  refine V_iadd (pc := 63) o dX3_addNeed_63 ?_
  refine V_wVv (pc := 64) o (cX6_put_met _ _ _ cI ht _ _ 24 P3 (by decide) _ _) 7 2 (wParts cI ad P0 P1 P2 (rup 24 P3 (plc p v) ((rat 24 P3 (plc p v)) + 1)) (rup 96 P4 (((plc p v) * 4) + (rat 24 P3 (plc p v))) q) (rup 96 P5 (((plc p v) * 4) + (rat 24 P3 (plc p v))) (vset a b))) gX3_addNeed_X6_put rfl hdX6_put (by decide) rfl rfl rfl (Nat.le_of_ble_eq_true rfl) dX3_addNeed_64 rfl rfl ?_
  refine V_iload (pc := 67) o dX3_addNeed_67 rfl ?_
  refine V_iconst (pc := 69) o 1 dX3_addNeed_69 (by decide) ?_
  refine V_iadd (pc := 70) o dX3_addNeed_70 ?_
  exact fin 71 _ _ () dX3_addNeed_71 rfl rfl
theorem hdX3_neededPart : yX3_neededPart.cls = RX3 ∧ yX3_neededPart.cls ≠ "java/lang/invoke/MethodHandle" ∧ yX3_neededPart.cls ≠ "java/lang/invoke/VarHandle" ∧ (parseMethodDescriptor yX3_neededPart.desc).map (fun d => d.parameters.length) = some 3 := by decide +kernel
theorem hiX3_neededPart_X3 : ∀ w ∈ wsX30, w ∈ wsX3_neededPart := by decide +kernel
theorem lkX3_neededPart_29 : Cond.fieldLink RX3 29 RX3 "needParts" "LApprovalyard$Row;" ∈ wsX3_neededPart := by decide +kernel
set_option maxHeartbeats 4000000 in
set_option maxRecDepth 100000 in
/-- X3.neededPart -/
theorem cX3_neededPart_met (l : Launch) (D : va_G) (tys : List (ClassId × FieldType)) (cI : ClassId) (ht : tys[0]? = some (cI, .int)) (ad : Nat → Nat) (P0 P1 P2 P3 P4 P5 : Nat → Int32) (p v i : Int32) : CId l yX3_neededPart wsX3_neededPart 1 D tys [.ref (ad 0), .int p, .int v, .int i] (wParts cI ad P0 P1 P2 P3 P4 P5) (rat 96 P4 (plc p v * 4 + i)) (wParts cI ad P0 P1 P2 P3 P4 P5) := by
  refine CI_of (maxL := 4) (cc := cX3_neededPart) (y := yX3_neededPart) rfl rfl (Nat.le_of_ble_eq_true rfl) (fun X hl hD hk hn hcz hsz o fin => ?_)
  subst hl; subst hD; subst hk
  refine V_aload_n (pc := 0) o dX3_neededPart_0 rfl ?_
  refine V_get (pc := 1) o 0 4 hiX3_neededPart_X3 rfl rfl (by decide) lkX3_neededPart_29 rfl rfl dX3_neededPart_1 ?_
  refine V_iload_n (pc := 4) o dX3_neededPart_4 rfl ?_
  refine V_iload_n (pc := 5) o dX3_neededPart_5 rfl ?_
  refine V_rSi (pc := 6) o (cX3_placeOf_met _ _ _ p v) 0 0 gX3_neededPart_X3_placeOf rfl hdX3_placeOf (by decide) rfl (Nat.le_of_ble_eq_true rfl) dX3_neededPart_6 rfl ?_
  refine V_iconst (pc := 9) o 4 dX3_neededPart_9 (by decide) ?_
  refine V_imul (pc := 10) o dX3_neededPart_10 ?_
  refine V_iload_n (pc := 11) o dX3_neededPart_11 rfl ?_
  refine V_iadd (pc := 12) o dX3_neededPart_12 ?_
  refine V_rVi (pc := 13) o (cX6_at_met _ _ _ cI ht _ _ 96 P4 (by decide) _) 9 2 gX3_neededPart_X6_at rfl hdX6_at (by decide) rfl rfl rfl (Nat.le_of_ble_eq_true rfl) dX3_neededPart_13 rfl ?_
  exact fin 16 _ _ () dX3_neededPart_16 rfl rfl
theorem hdX3_neededVersions : yX3_neededVersions.cls = RX3 ∧ yX3_neededVersions.cls ≠ "java/lang/invoke/MethodHandle" ∧ yX3_neededVersions.cls ≠ "java/lang/invoke/VarHandle" ∧ (parseMethodDescriptor yX3_neededVersions.desc).map (fun d => d.parameters.length) = some 3 := by decide +kernel
theorem hiX3_neededVersions_X3 : ∀ w ∈ wsX30, w ∈ wsX3_neededVersions := by decide +kernel
theorem lkX3_neededVersions_32 : Cond.fieldLink RX3 32 RX3 "needVersions" "LApprovalyard$Row;" ∈ wsX3_neededVersions := by decide +kernel
set_option maxHeartbeats 4000000 in
set_option maxRecDepth 100000 in
/-- X3.neededVersions -/
theorem cX3_neededVersions_met (l : Launch) (D : va_G) (tys : List (ClassId × FieldType)) (cI : ClassId) (ht : tys[0]? = some (cI, .int)) (ad : Nat → Nat) (P0 P1 P2 P3 P4 P5 : Nat → Int32) (p v i : Int32) : CId l yX3_neededVersions wsX3_neededVersions 1 D tys [.ref (ad 0), .int p, .int v, .int i] (wParts cI ad P0 P1 P2 P3 P4 P5) (rat 96 P5 (plc p v * 4 + i)) (wParts cI ad P0 P1 P2 P3 P4 P5) := by
  refine CI_of (maxL := 4) (cc := cX3_neededVersions) (y := yX3_neededVersions) rfl rfl (Nat.le_of_ble_eq_true rfl) (fun X hl hD hk hn hcz hsz o fin => ?_)
  subst hl; subst hD; subst hk
  refine V_aload_n (pc := 0) o dX3_neededVersions_0 rfl ?_
  refine V_get (pc := 1) o 0 5 hiX3_neededVersions_X3 rfl rfl (by decide) lkX3_neededVersions_32 rfl rfl dX3_neededVersions_1 ?_
  refine V_iload_n (pc := 4) o dX3_neededVersions_4 rfl ?_
  refine V_iload_n (pc := 5) o dX3_neededVersions_5 rfl ?_
  refine V_rSi (pc := 6) o (cX3_placeOf_met _ _ _ p v) 0 0 gX3_neededVersions_X3_placeOf rfl hdX3_placeOf (by decide) rfl (Nat.le_of_ble_eq_true rfl) dX3_neededVersions_6 rfl ?_
  refine V_iconst (pc := 9) o 4 dX3_neededVersions_9 (by decide) ?_
  refine V_imul (pc := 10) o dX3_neededVersions_10 ?_
  refine V_iload_n (pc := 11) o dX3_neededVersions_11 rfl ?_
  refine V_iadd (pc := 12) o dX3_neededVersions_12 ?_
  refine V_rVi (pc := 13) o (cX6_at_met _ _ _ cI ht _ _ 96 P5 (by decide) _) 11 2 gX3_neededVersions_X6_at rfl hdX6_at (by decide) rfl rfl rfl (Nat.le_of_ble_eq_true rfl) dX3_neededVersions_13 rfl ?_
  exact fin 16 _ _ () dX3_neededVersions_16 rfl rfl
theorem hdX3_markReplaced : yX3_markReplaced.cls = RX3 ∧ yX3_markReplaced.cls ≠ "java/lang/invoke/MethodHandle" ∧ yX3_markReplaced.cls ≠ "java/lang/invoke/VarHandle" ∧ (parseMethodDescriptor yX3_markReplaced.desc).map (fun d => d.parameters.length) = some 2 := by decide +kernel
theorem hiX3_markReplaced_X3 : ∀ w ∈ wsX30, w ∈ wsX3_markReplaced := by decide +kernel
theorem lkX3_markReplaced_23 : Cond.fieldLink RX3 23 RX3 "replaced" "LApprovalyard$Row;" ∈ wsX3_markReplaced := by decide +kernel
set_option maxHeartbeats 4000000 in
set_option maxRecDepth 100000 in
/-- X3.markReplaced -/
theorem cX3_markReplaced_met (l : Launch) (D : va_G) (tys : List (ClassId × FieldType)) (cI : ClassId) (ht : tys[0]? = some (cI, .int)) (ad : Nat → Nat) (P0 P1 P2 P3 P4 P5 : Nat → Int32) (p v : Int32) : CVd l yX3_markReplaced wsX3_markReplaced 1 D tys [.ref (ad 0), .int p, .int v] (wParts cI ad P0 P1 P2 P3 P4 P5) (wParts cI ad P0 P1 (rup 24 P2 (plc p v) 1) P3 P4 P5) := by
  refine CV_of (maxL := 3) (cc := cX3_markReplaced) (y := yX3_markReplaced) rfl rfl (Nat.le_of_ble_eq_true rfl) (fun X hl hD hk hn hcz hsz o fin => ?_)
  subst hl; subst hD; subst hk
  refine V_aload_n (pc := 0) o dX3_markReplaced_0 rfl ?_
  refine V_get (pc := 1) o 0 2 hiX3_markReplaced_X3 rfl rfl (by decide) lkX3_markReplaced_23 rfl rfl dX3_markReplaced_1 ?_
  refine V_iload_n (pc := 4) o dX3_markReplaced_4 rfl ?_
  refine V_iload_n (pc := 5) o dX3_markReplaced_5 rfl ?_
  refine V_rSi (pc := 6) o (cX3_placeOf_met _ _ _ p v) 0 0 gX3_markReplaced_X3_placeOf rfl hdX3_placeOf (by decide) rfl (Nat.le_of_ble_eq_true rfl) dX3_markReplaced_6 rfl ?_
  refine V_iconst (pc := 9) o 1 dX3_markReplaced_9 (by decide) ?_
  refine V_wVv (pc := 10) o (cX6_put_met _ _ _ cI ht _ _ 24 P2 (by decide) _ _) 5 2 (wParts cI ad P0 P1 (rup 24 P2 (plc p v) 1) P3 P4 P5) gX3_markReplaced_X6_put rfl hdX6_put (by decide) rfl rfl rfl (Nat.le_of_ble_eq_true rfl) dX3_markReplaced_10 rfl rfl ?_
  exact fin 13 _ () dX3_markReplaced_13 trivial
theorem hdX3_isReplaced : yX3_isReplaced.cls = RX3 ∧ yX3_isReplaced.cls ≠ "java/lang/invoke/MethodHandle" ∧ yX3_isReplaced.cls ≠ "java/lang/invoke/VarHandle" ∧ (parseMethodDescriptor yX3_isReplaced.desc).map (fun d => d.parameters.length) = some 2 := by decide +kernel
theorem hiX3_isReplaced_X3 : ∀ w ∈ wsX30, w ∈ wsX3_isReplaced := by decide +kernel
theorem lkX3_isReplaced_23 : Cond.fieldLink RX3 23 RX3 "replaced" "LApprovalyard$Row;" ∈ wsX3_isReplaced := by decide +kernel
set_option maxHeartbeats 4000000 in
set_option maxRecDepth 100000 in
/-- X3.isReplaced -/
theorem cX3_isReplaced_met (l : Launch) (D : va_G) (tys : List (ClassId × FieldType)) (cI : ClassId) (ht : tys[0]? = some (cI, .int)) (ad : Nat → Nat) (P0 P1 P2 P3 P4 P5 : Nat → Int32) (p v : Int32) : CId l yX3_isReplaced wsX3_isReplaced 1 D tys [.ref (ad 0), .int p, .int v] (wParts cI ad P0 P1 P2 P3 P4 P5) (if ¬ rat 24 P2 (plc p v) = 0 then 1 else 0) (wParts cI ad P0 P1 P2 P3 P4 P5) := by
  refine CI_of (maxL := 3) (cc := cX3_isReplaced) (y := yX3_isReplaced) rfl rfl (Nat.le_of_ble_eq_true rfl) (fun X hl hD hk hn hcz hsz o fin => ?_)
  subst hl; subst hD; subst hk
  refine V_aload_n (pc := 0) o dX3_isReplaced_0 rfl ?_
  refine V_get (pc := 1) o 0 2 hiX3_isReplaced_X3 rfl rfl (by decide) lkX3_isReplaced_23 rfl rfl dX3_isReplaced_1 ?_
  refine V_iload_n (pc := 4) o dX3_isReplaced_4 rfl ?_
  refine V_iload_n (pc := 5) o dX3_isReplaced_5 rfl ?_
  refine V_rSi (pc := 6) o (cX3_placeOf_met _ _ _ p v) 0 0 gX3_isReplaced_X3_placeOf rfl hdX3_placeOf (by decide) rfl (Nat.le_of_ble_eq_true rfl) dX3_isReplaced_6 rfl ?_
  refine V_rVi (pc := 9) o (cX6_at_met _ _ _ cI ht _ _ 24 P2 (by decide) _) 5 2 gX3_isReplaced_X6_at rfl hdX6_at (by decide) rfl rfl rfl (Nat.le_of_ble_eq_true rfl) dX3_isReplaced_9 rfl ?_
  refine V_if_eq (pc := 12) o 19 dX3_isReplaced_12 (by decide) (fun c12 => ?_) (fun c12 => ?_)
  · refine V_iconst (pc := 19) o 0 dX3_isReplaced_19 (by decide) ?_
    exact fin 20 _ _ () dX3_isReplaced_20 rfl (by first | (rw [if_pos (by assumption)]; done) | (rw [if_neg (by assumption)]; done) | simp_all)
  · refine V_iconst (pc := 15) o 1 dX3_isReplaced_15 (by decide) ?_
    refine V_goto (pc := 16) o 20 dX3_isReplaced_16 (by decide) ?_
    exact fin 20 _ _ () dX3_isReplaced_20 rfl (by first | (rw [if_pos (by assumption)]; done) | (rw [if_neg (by assumption)]; done) | simp_all)
theorem hdX4_today : yX4_today.cls = RX4 ∧ yX4_today.cls ≠ "java/lang/invoke/MethodHandle" ∧ yX4_today.cls ≠ "java/lang/invoke/VarHandle" ∧ (parseMethodDescriptor yX4_today.desc).map (fun d => d.parameters.length) = some 0 := by decide +kernel
theorem hiX4_today_X4 : ∀ w ∈ wsX40, w ∈ wsX4_today := by decide +kernel
theorem lkX4_today_29 : Cond.fieldLink RX4 29 RX4 "day" "I" ∈ wsX4_today := by decide +kernel
set_option maxHeartbeats 4000000 in
set_option maxRecDepth 100000 in
/-- X4.today -/
theorem cX4_today_met (l : Launch) (D : va_G) (tys : List (ClassId × FieldType)) (cI : ClassId) (ht : tys[0]? = some (cI, .int)) (ad : Nat → Nat) (L0 L1 L2 : Nat → Int32) (dy : Int32) : CId l yX4_today wsX4_today 0 D tys [.ref (ad 0)] (wPeople cI ad L0 L1 L2 dy) dy (wPeople cI ad L0 L1 L2 dy) := by
  refine CI_of (maxL := 1) (cc := cX4_today) (y := yX4_today) rfl rfl (Nat.le_of_ble_eq_true rfl) (fun X hl hD hk hn hcz hsz o fin => ?_)
  subst hl; subst hD; subst hk
  refine V_aload_n (pc := 0) o dX4_today_0 rfl ?_
  refine V_get (pc := 1) o 0 3 hiX4_today_X4 rfl rfl (by decide) lkX4_today_29 rfl rfl dX4_today_1 ?_
  exact fin 4 _ _ () dX4_today_4 rfl rfl
theorem hdX4_clear : yX4_clear.cls = RX4 ∧ yX4_clear.cls ≠ "java/lang/invoke/MethodHandle" ∧ yX4_clear.cls ≠ "java/lang/invoke/VarHandle" ∧ (parseMethodDescriptor yX4_clear.desc).map (fun d => d.parameters.length) = some 0 := by decide +kernel
theorem hiX4_clear_X4 : ∀ w ∈ wsX40, w ∈ wsX4_clear := by decide +kernel
theorem lkX4_clear_14 : Cond.fieldLink RX4 14 RX4 "limits" "LApprovalyard$Row;" ∈ wsX4_clear := by decide +kernel
theorem lkX4_clear_23 : Cond.fieldLink RX4 23 RX4 "backs" "LApprovalyard$Row;" ∈ wsX4_clear := by decide +kernel
theorem lkX4_clear_29 : Cond.fieldLink RX4 29 RX4 "day" "I" ∈ wsX4_clear := by decide +kernel
set_option maxHeartbeats 4000000 in
set_option maxRecDepth 100000 in
/-- X4.clear -/
theorem cX4_clear_met (l : Launch) (D : va_G) (tys : List (ClassId × FieldType)) (cI : ClassId) (ht : tys[0]? = some (cI, .int)) (ad : Nat → Nat) (L0 L1 L2 : Nat → Int32) (dy : Int32) : CVd l yX4_clear wsX4_clear 1 D tys [.ref (ad 0)] (wPeople cI ad L0 L1 L2 dy) (wPeople cI ad (rfi 8 L0 100) L1 (rfi 8 L2 0) 0) := by
  refine CV_of (maxL := 1) (cc := cX4_clear) (y := yX4_clear) rfl rfl (Nat.le_of_ble_eq_true rfl) (fun X hl hD hk hn hcz hsz o fin => ?_)
  subst hl; subst hD; subst hk
  refine V_aload_n (pc := 0) o dX4_clear_0 rfl ?_
  refine V_get (pc := 1) o 0 0 hiX4_clear_X4 rfl rfl (by decide) lkX4_clear_14 rfl rfl dX4_clear_1 ?_
  refine V_bipush (pc := 4) o 100 dX4_clear_4 (by decide) ?_
  refine V_wVv (pc := 6) o (cX6_fill_met _ _ _ cI ht _ _ 8 L0 (by decide) _) 1 2 (wPeople cI ad (rfi 8 L0 100) L1 L2 dy) gX4_clear_X6_fill rfl hdX6_fill (by decide) rfl rfl rfl (Nat.le_of_ble_eq_true rfl) dX4_clear_6 rfl rfl ?_
  refine V_aload_n (pc := 9) o dX4_clear_9 rfl ?_
  refine V_get (pc := 10) o 0 2 hiX4_clear_X4 rfl rfl (by decide) lkX4_clear_23 rfl rfl dX4_clear_10 ?_
  refine V_iconst (pc := 13) o 0 dX4_clear_13 (by decide) ?_
  refine V_wVv (pc := 14) o (cX6_fill_met _ _ _ cI ht _ _ 8 L2 (by decide) _) 5 2 (wPeople cI ad (rfi 8 L0 100) L1 (rfi 8 L2 0) dy) gX4_clear_X6_fill rfl hdX6_fill (by decide) rfl rfl rfl (Nat.le_of_ble_eq_true rfl) dX4_clear_14 rfl rfl ?_
  refine V_aload_n (pc := 17) o dX4_clear_17 rfl ?_
  refine V_iconst (pc := 18) o 0 dX4_clear_18 (by decide) ?_
  refine V_put (pc := 19) o 0 3 hiX4_clear_X4 tyX4 tyX4_ok nmX4 rfl rfl (by decide) lkX4_clear_29 rfl rfl rfl rfl rfl (Nat.le_of_ble_eq_true rfl) dX4_clear_19 ?_
  refine V_eq (ws2 := wPeople cI ad (rfi 8 L0 100) L1 (rfi 8 L2 0) 0) rfl rfl ?_
  exact fin 22 _ () dX4_clear_22 trivial
theorem hdX4_addDays : yX4_addDays.cls = RX4 ∧ yX4_addDays.cls ≠ "java/lang/invoke/MethodHandle" ∧ yX4_addDays.cls ≠ "java/lang/invoke/VarHandle" ∧ (parseMethodDescriptor yX4_addDays.desc).map (fun d => d.parameters.length) = some 1 := by decide +kernel
theorem hiX4_addDays_X4 : ∀ w ∈ wsX40, w ∈ wsX4_addDays := by decide +kernel
theorem lkX4_addDays_29 : Cond.fieldLink RX4 29 RX4 "day" "I" ∈ wsX4_addDays := by decide +kernel
set_option maxHeartbeats 4000000 in
set_option maxRecDepth 100000 in
/-- X4.addDays -/
theorem cX4_addDays_met (l : Launch) (D : va_G) (tys : List (ClassId × FieldType)) (cI : ClassId) (ht : tys[0]? = some (cI, .int)) (ad : Nat → Nat) (L0 L1 L2 : Nat → Int32) (dy : Int32) (n : Int32) : CId l yX4_addDays wsX4_addDays 0 D tys [.ref (ad 0), .int n] (wPeople cI ad L0 L1 L2 dy) (dy + n) (wPeople cI ad L0 L1 L2 (dy + n)) := by
  refine CI_of (maxL := 2) (cc := cX4_addDays) (y := yX4_addDays) rfl rfl (Nat.le_of_ble_eq_true rfl) (fun X hl hD hk hn hcz hsz o fin => ?_)
  subst hl; subst hD; subst hk
  refine V_aload_n (pc := 0) o dX4_addDays_0 rfl ?_
  refine V_dup (pc := 1) o rfl dX4_addDays_1 ?_
  refine V_get (pc := 2) o 0 3 hiX4_addDays_X4 rfl rfl (by decide) lkX4_addDays_29 rfl rfl dX4_addDays_2 ?_
  refine V_iload_n (pc := 5) o dX4_addDays_5 rfl ?_
  refine V_iadd (pc := 6) o dX4_addDays_6 ?_
  refine V_put (pc := 7) o 0 3 hiX4_addDays_X4 tyX4 tyX4_ok nmX4 rfl rfl (by decide) lkX4_addDays_29 rfl rfl rfl rfl rfl (Nat.le_of_ble_eq_true rfl) dX4_addDays_7 ?_
  refine V_eq (ws2 := wPeople cI ad L0 L1 L2 (dy + n)) rfl rfl ?_
  refine V_aload_n (pc := 10) o dX4_addDays_10 rfl ?_
  refine V_get (pc := 11) o 0 3 hiX4_addDays_X4 rfl rfl (by decide) lkX4_addDays_29 rfl rfl dX4_addDays_11 ?_
  exact fin 14 _ _ () dX4_addDays_14 rfl rfl
theorem hdX4_changeLimit : yX4_changeLimit.cls = RX4 ∧ yX4_changeLimit.cls ≠ "java/lang/invoke/MethodHandle" ∧ yX4_changeLimit.cls ≠ "java/lang/invoke/VarHandle" ∧ (parseMethodDescriptor yX4_changeLimit.desc).map (fun d => d.parameters.length) = some 2 := by decide +kernel
theorem hiX4_changeLimit_X4 : ∀ w ∈ wsX40, w ∈ wsX4_changeLimit := by decide +kernel
theorem lkX4_changeLimit_14 : Cond.fieldLink RX4 14 RX4 "limits" "LApprovalyard$Row;" ∈ wsX4_changeLimit := by decide +kernel
set_option maxHeartbeats 4000000 in
set_option maxRecDepth 100000 in
/-- X4.changeLimit -/
theorem cX4_changeLimit_met (l : Launch) (D : va_G) (tys : List (ClassId × FieldType)) (cI : ClassId) (ht : tys[0]? = some (cI, .int)) (ad : Nat → Nat) (L0 L1 L2 : Nat → Int32) (dy : Int32) (p n : Int32) : CId l yX4_changeLimit wsX4_changeLimit 1 D tys [.ref (ad 0), .int p, .int n] (wPeople cI ad L0 L1 L2 dy) (rat 8 L0 p) (wPeople cI ad (rup 8 L0 p n) L1 L2 dy) := by
  refine CI_of (maxL := 4) (cc := cX4_changeLimit) (y := yX4_changeLimit) rfl rfl (Nat.le_of_ble_eq_true rfl) (fun X hl hD hk hn hcz hsz o fin => ?_)
  subst hl; subst hD; subst hk
  refine V_aload_n (pc := 0) o dX4_changeLimit_0 rfl ?_
  refine V_get (pc := 1) o 0 0 hiX4_changeLimit_X4 rfl rfl (by decide) lkX4_changeLimit_14 rfl rfl dX4_changeLimit_1 ?_
  refine V_iload_n (pc := 4) o dX4_changeLimit_4 rfl ?_
  refine V_rVi (pc := 5) o (cX6_at_met _ _ _ cI ht _ _ 8 L0 (by decide) _) 1 2 gX4_changeLimit_X6_at rfl hdX6_at (by decide) rfl rfl rfl (Nat.le_of_ble_eq_true rfl) dX4_changeLimit_5 rfl ?_
  refine V_istore_n (pc := 8) o dX4_changeLimit_8 (by rw [hn]; decide) ?_
  refine V_aload_n (pc := 9) o dX4_changeLimit_9 rfl ?_
  refine V_get (pc := 10) o 0 0 hiX4_changeLimit_X4 rfl rfl (by decide) lkX4_changeLimit_14 rfl rfl dX4_changeLimit_10 ?_
  refine V_iload_n (pc := 13) o dX4_changeLimit_13 rfl ?_
  refine V_iload_n (pc := 14) o dX4_changeLimit_14 rfl ?_
  refine V_wVv (pc := 15) o (cX6_put_met _ _ _ cI ht _ _ 8 L0 (by decide) _ _) 1 2 (wPeople cI ad (rup 8 L0 p n) L1 L2 dy) gX4_changeLimit_X6_put rfl hdX6_put (by decide) rfl rfl rfl (Nat.le_of_ble_eq_true rfl) dX4_changeLimit_15 rfl rfl ?_
  refine V_iload_n (pc := 18) o dX4_changeLimit_18 rfl ?_
  exact fin 19 _ _ () dX4_changeLimit_19 rfl rfl
theorem hdX4_sendOnLeave : yX4_sendOnLeave.cls = RX4 ∧ yX4_sendOnLeave.cls ≠ "java/lang/invoke/MethodHandle" ∧ yX4_sendOnLeave.cls ≠ "java/lang/invoke/VarHandle" ∧ (parseMethodDescriptor yX4_sendOnLeave.desc).map (fun d => d.parameters.length) = some 3 := by decide +kernel
theorem hiX4_sendOnLeave_X4 : ∀ w ∈ wsX40, w ∈ wsX4_sendOnLeave := by decide +kernel
theorem lkX4_sendOnLeave_20 : Cond.fieldLink RX4 20 RX4 "delegates" "LApprovalyard$Row;" ∈ wsX4_sendOnLeave := by decide +kernel
theorem lkX4_sendOnLeave_23 : Cond.fieldLink RX4 23 RX4 "backs" "LApprovalyard$Row;" ∈ wsX4_sendOnLeave := by decide +kernel
theorem lkX4_sendOnLeave_29 : Cond.fieldLink RX4 29 RX4 "day" "I" ∈ wsX4_sendOnLeave := by decide +kernel
set_option maxHeartbeats 4000000 in
set_option maxRecDepth 100000 in
/-- X4.sendOnLeave -/
theorem cX4_sendOnLeave_met (l : Launch) (D : va_G) (tys : List (ClassId × FieldType)) (cI : ClassId) (ht : tys[0]? = some (cI, .int)) (ad : Nat → Nat) (L0 L1 L2 : Nat → Int32) (dy : Int32) (p q n : Int32) : CId l yX4_sendOnLeave wsX4_sendOnLeave 1 D tys [.ref (ad 0), .int p, .int q, .int n] (wPeople cI ad L0 L1 L2 dy) (rat 8 (rup 8 L2 p (dy + n)) p) (wPeople cI ad L0 (rup 8 L1 p q) (rup 8 L2 p (dy + n)) dy) := by
  refine CI_of (maxL := 4) (cc := cX4_sendOnLeave) (y := yX4_sendOnLeave) rfl rfl (Nat.le_of_ble_eq_true rfl) (fun X hl hD hk hn hcz hsz o fin => ?_)
  subst hl; subst hD; subst hk
  refine V_aload_n (pc := 0) o dX4_sendOnLeave_0 rfl ?_
  refine V_get (pc := 1) o 0 1 hiX4_sendOnLeave_X4 rfl rfl (by decide) lkX4_sendOnLeave_20 rfl rfl dX4_sendOnLeave_1 ?_
  refine V_iload_n (pc := 4) o dX4_sendOnLeave_4 rfl ?_
  refine V_iload_n (pc := 5) o dX4_sendOnLeave_5 rfl ?_
  refine V_wVv (pc := 6) o (cX6_put_met _ _ _ cI ht _ _ 8 L1 (by decide) _ _) 3 2 (wPeople cI ad L0 (rup 8 L1 p q) L2 dy) gX4_sendOnLeave_X6_put rfl hdX6_put (by decide) rfl rfl rfl (Nat.le_of_ble_eq_true rfl) dX4_sendOnLeave_6 rfl rfl ?_
  refine V_aload_n (pc := 9) o dX4_sendOnLeave_9 rfl ?_
  refine V_get (pc := 10) o 0 2 hiX4_sendOnLeave_X4 rfl rfl (by decide) lkX4_sendOnLeave_23 rfl rfl dX4_sendOnLeave_10 ?_
  refine V_iload_n (pc := 13) o dX4_sendOnLeave_13 rfl ?_
  refine V_aload_n (pc := 14) o dX4_sendOnLeave_14 rfl ?_
  refine V_get (pc := 15) o 0 3 hiX4_sendOnLeave_X4 rfl rfl (by decide) lkX4_sendOnLeave_29 rfl rfl dX4_sendOnLeave_15 ?_
  refine V_iload_n (pc := 18) o dX4_sendOnLeave_18 rfl ?_
  refine V_iadd (pc := 19) o dX4_sendOnLeave_19 ?_
  refine V_wVv (pc := 20) o (cX6_put_met _ _ _ cI ht _ _ 8 L2 (by decide) _ _) 5 2 (wPeople cI ad L0 (rup 8 L1 p q) (rup 8 L2 p (dy + n)) dy) gX4_sendOnLeave_X6_put rfl hdX6_put (by decide) rfl rfl rfl (Nat.le_of_ble_eq_true rfl) dX4_sendOnLeave_20 rfl rfl ?_
  refine V_aload_n (pc := 23) o dX4_sendOnLeave_23 rfl ?_
  refine V_get (pc := 24) o 0 2 hiX4_sendOnLeave_X4 rfl rfl (by decide) lkX4_sendOnLeave_23 rfl rfl dX4_sendOnLeave_24 ?_
  refine V_iload_n (pc := 27) o dX4_sendOnLeave_27 rfl ?_
  refine V_rVi (pc := 28) o (cX6_at_met _ _ _ cI ht _ _ 8 (rup 8 L2 p (dy + n)) (by decide) _) 5 2 gX4_sendOnLeave_X6_at rfl hdX6_at (by decide) rfl rfl rfl (Nat.le_of_ble_eq_true rfl) dX4_sendOnLeave_28 rfl ?_
  exact fin 31 _ _ () dX4_sendOnLeave_31 rfl rfl
theorem hdX4_backOf : yX4_backOf.cls = RX4 ∧ yX4_backOf.cls ≠ "java/lang/invoke/MethodHandle" ∧ yX4_backOf.cls ≠ "java/lang/invoke/VarHandle" ∧ (parseMethodDescriptor yX4_backOf.desc).map (fun d => d.parameters.length) = some 1 := by decide +kernel
theorem hiX4_backOf_X4 : ∀ w ∈ wsX40, w ∈ wsX4_backOf := by decide +kernel
theorem lkX4_backOf_23 : Cond.fieldLink RX4 23 RX4 "backs" "LApprovalyard$Row;" ∈ wsX4_backOf := by decide +kernel
set_option maxHeartbeats 4000000 in
set_option maxRecDepth 100000 in
/-- X4.backOf -/
theorem cX4_backOf_met (l : Launch) (D : va_G) (tys : List (ClassId × FieldType)) (cI : ClassId) (ht : tys[0]? = some (cI, .int)) (ad : Nat → Nat) (L0 L1 L2 : Nat → Int32) (dy : Int32) (p : Int32) : CId l yX4_backOf wsX4_backOf 1 D tys [.ref (ad 0), .int p] (wPeople cI ad L0 L1 L2 dy) (rat 8 L2 p) (wPeople cI ad L0 L1 L2 dy) := by
  refine CI_of (maxL := 2) (cc := cX4_backOf) (y := yX4_backOf) rfl rfl (Nat.le_of_ble_eq_true rfl) (fun X hl hD hk hn hcz hsz o fin => ?_)
  subst hl; subst hD; subst hk
  refine V_aload_n (pc := 0) o dX4_backOf_0 rfl ?_
  refine V_get (pc := 1) o 0 2 hiX4_backOf_X4 rfl rfl (by decide) lkX4_backOf_23 rfl rfl dX4_backOf_1 ?_
  refine V_iload_n (pc := 4) o dX4_backOf_4 rfl ?_
  refine V_rVi (pc := 5) o (cX6_at_met _ _ _ cI ht _ _ 8 L2 (by decide) _) 5 2 gX4_backOf_X6_at rfl hdX6_at (by decide) rfl rfl rfl (Nat.le_of_ble_eq_true rfl) dX4_backOf_5 rfl ?_
  exact fin 8 _ _ () dX4_backOf_8 rfl rfl
theorem hdX4_isAway : yX4_isAway.cls = RX4 ∧ yX4_isAway.cls ≠ "java/lang/invoke/MethodHandle" ∧ yX4_isAway.cls ≠ "java/lang/invoke/VarHandle" ∧ (parseMethodDescriptor yX4_isAway.desc).map (fun d => d.parameters.length) = some 1 := by decide +kernel
theorem hiX4_isAway_X4 : ∀ w ∈ wsX40, w ∈ wsX4_isAway := by decide +kernel
theorem lkX4_isAway_29 : Cond.fieldLink RX4 29 RX4 "day" "I" ∈ wsX4_isAway := by decide +kernel
theorem lkX4_isAway_23 : Cond.fieldLink RX4 23 RX4 "backs" "LApprovalyard$Row;" ∈ wsX4_isAway := by decide +kernel
set_option maxHeartbeats 4000000 in
set_option maxRecDepth 100000 in
/-- X4.isAway -/
theorem cX4_isAway_met (l : Launch) (D : va_G) (tys : List (ClassId × FieldType)) (cI : ClassId) (ht : tys[0]? = some (cI, .int)) (ad : Nat → Nat) (L0 L1 L2 : Nat → Int32) (dy : Int32) (p : Int32) : CId l yX4_isAway wsX4_isAway 1 D tys [.ref (ad 0), .int p] (wPeople cI ad L0 L1 L2 dy) (if dy < rat 8 L2 p then 1 else 0) (wPeople cI ad L0 L1 L2 dy) := by
  refine CI_of (maxL := 2) (cc := cX4_isAway) (y := yX4_isAway) rfl rfl (Nat.le_of_ble_eq_true rfl) (fun X hl hD hk hn hcz hsz o fin => ?_)
  subst hl; subst hD; subst hk
  refine V_aload_n (pc := 0) o dX4_isAway_0 rfl ?_
  refine V_get (pc := 1) o 0 3 hiX4_isAway_X4 rfl rfl (by decide) lkX4_isAway_29 rfl rfl dX4_isAway_1 ?_
  refine V_aload_n (pc := 4) o dX4_isAway_4 rfl ?_
  refine V_get (pc := 5) o 0 2 hiX4_isAway_X4 rfl rfl (by decide) lkX4_isAway_23 rfl rfl dX4_isAway_5 ?_
  refine V_iload_n (pc := 8) o dX4_isAway_8 rfl ?_
  refine V_rVi (pc := 9) o (cX6_at_met _ _ _ cI ht _ _ 8 L2 (by decide) _) 5 2 gX4_isAway_X6_at rfl hdX6_at (by decide) rfl rfl rfl (Nat.le_of_ble_eq_true rfl) dX4_isAway_9 rfl ?_
  refine V_icmp_ge (pc := 12) o 19 dX4_isAway_12 (by decide) (fun c12 => ?_) (fun c12 => ?_)
  · refine V_iconst (pc := 19) o 0 dX4_isAway_19 (by decide) ?_
    exact fin 20 _ _ () dX4_isAway_20 rfl (by first | (rw [if_pos (by assumption)]; done) | (rw [if_neg (by assumption)]; done) | simp_all)
  · refine V_iconst (pc := 15) o 1 dX4_isAway_15 (by decide) ?_
    refine V_goto (pc := 16) o 20 dX4_isAway_16 (by decide) ?_
    exact fin 20 _ _ () dX4_isAway_20 rfl (by first | (rw [if_pos (by assumption)]; done) | (rw [if_neg (by assumption)]; done) | simp_all)
theorem hdX5_clear : yX5_clear.cls = RX5 ∧ yX5_clear.cls ≠ "java/lang/invoke/MethodHandle" ∧ yX5_clear.cls ≠ "java/lang/invoke/VarHandle" ∧ (parseMethodDescriptor yX5_clear.desc).map (fun d => d.parameters.length) = some 0 := by decide +kernel
theorem hiX5_clear_X5 : ∀ w ∈ wsX50, w ∈ wsX5_clear := by decide +kernel
theorem lkX5_clear_38 : Cond.fieldLink RX5 38 RX5 "number" "I" ∈ wsX5_clear := by decide +kernel
set_option maxHeartbeats 4000000 in
set_option maxRecDepth 100000 in
/-- X5.clear -/
theorem cX5_clear_met (l : Launch) (D : va_G) (tys : List (ClassId × FieldType)) (cI : ClassId) (ht : tys[0]? = some (cI, .int)) (ad : Nat → Nat) (Q0 Q1 Q2 Q3 Q4 Q5 Q6 : Nat → Int32) (nm : Int32) : CVd l yX5_clear wsX5_clear 0 D tys [.ref (ad 0)] (wReqs cI ad Q0 Q1 Q2 Q3 Q4 Q5 Q6 nm) (wReqs cI ad Q0 Q1 Q2 Q3 Q4 Q5 Q6 0) := by
  refine CV_of (maxL := 1) (cc := cX5_clear) (y := yX5_clear) rfl rfl (Nat.le_of_ble_eq_true rfl) (fun X hl hD hk hn hcz hsz o fin => ?_)
  subst hl; subst hD; subst hk
  refine V_aload_n (pc := 0) o dX5_clear_0 rfl ?_
  refine V_iconst (pc := 1) o 0 dX5_clear_1 (by decide) ?_
  refine V_put (pc := 2) o 0 7 hiX5_clear_X5 tyX5 tyX5_ok nmX5 rfl rfl (by decide) lkX5_clear_38 rfl rfl rfl rfl rfl (Nat.le_of_ble_eq_true rfl) dX5_clear_2 ?_
  refine V_eq (ws2 := wReqs cI ad Q0 Q1 Q2 Q3 Q4 Q5 Q6 0) rfl rfl ?_
  exact fin 5 _ () dX5_clear_5 trivial
theorem hdX5_count : yX5_count.cls = RX5 ∧ yX5_count.cls ≠ "java/lang/invoke/MethodHandle" ∧ yX5_count.cls ≠ "java/lang/invoke/VarHandle" ∧ (parseMethodDescriptor yX5_count.desc).map (fun d => d.parameters.length) = some 0 := by decide +kernel
theorem hiX5_count_X5 : ∀ w ∈ wsX50, w ∈ wsX5_count := by decide +kernel
theorem lkX5_count_38 : Cond.fieldLink RX5 38 RX5 "number" "I" ∈ wsX5_count := by decide +kernel
set_option maxHeartbeats 4000000 in
set_option maxRecDepth 100000 in
/-- X5.count -/
theorem cX5_count_met (l : Launch) (D : va_G) (tys : List (ClassId × FieldType)) (cI : ClassId) (ht : tys[0]? = some (cI, .int)) (ad : Nat → Nat) (Q0 Q1 Q2 Q3 Q4 Q5 Q6 : Nat → Int32) (nm : Int32) : CId l yX5_count wsX5_count 0 D tys [.ref (ad 0)] (wReqs cI ad Q0 Q1 Q2 Q3 Q4 Q5 Q6 nm) nm (wReqs cI ad Q0 Q1 Q2 Q3 Q4 Q5 Q6 nm) := by
  refine CI_of (maxL := 1) (cc := cX5_count) (y := yX5_count) rfl rfl (Nat.le_of_ble_eq_true rfl) (fun X hl hD hk hn hcz hsz o fin => ?_)
  subst hl; subst hD; subst hk
  refine V_aload_n (pc := 0) o dX5_count_0 rfl ?_
  refine V_get (pc := 1) o 0 7 hiX5_count_X5 rfl rfl (by decide) lkX5_count_38 rfl rfl dX5_count_1 ?_
  exact fin 4 _ _ () dX5_count_4 rfl rfl
theorem hdX5_personOf : yX5_personOf.cls = RX5 ∧ yX5_personOf.cls ≠ "java/lang/invoke/MethodHandle" ∧ yX5_personOf.cls ≠ "java/lang/invoke/VarHandle" ∧ (parseMethodDescriptor yX5_personOf.desc).map (fun d => d.parameters.length) = some 1 := by decide +kernel
theorem hiX5_personOf_X5 : ∀ w ∈ wsX50, w ∈ wsX5_personOf := by decide +kernel
theorem lkX5_personOf_14 : Cond.fieldLink RX5 14 RX5 "people" "LApprovalyard$Row;" ∈ wsX5_personOf := by decide +kernel
set_option maxHeartbeats 4000000 in
set_option maxRecDepth 100000 in
/-- X5.personOf -/
theorem cX5_personOf_met (l : Launch) (D : va_G) (tys : List (ClassId × FieldType)) (cI : ClassId) (ht : tys[0]? = some (cI, .int)) (ad : Nat → Nat) (Q0 Q1 Q2 Q3 Q4 Q5 Q6 : Nat → Int32) (nm : Int32) (q : Int32) : CId l yX5_personOf wsX5_personOf 1 D tys [.ref (ad 0), .int q] (wReqs cI ad Q0 Q1 Q2 Q3 Q4 Q5 Q6 nm) (rat 30 Q0 q) (wReqs cI ad Q0 Q1 Q2 Q3 Q4 Q5 Q6 nm) := by
  refine CI_of (maxL := 2) (cc := cX5_personOf) (y := yX5_personOf) rfl rfl (Nat.le_of_ble_eq_true rfl) (fun X hl hD hk hn hcz hsz o fin => ?_)
  subst hl; subst hD; subst hk
  refine V_aload_n (pc := 0) o dX5_personOf_0 rfl ?_
  refine V_get (pc := 1) o 0 0 hiX5_personOf_X5 rfl rfl (by decide) lkX5_personOf_14 rfl rfl dX5_personOf_1 ?_
  refine V_iload_n (pc := 4) o dX5_personOf_4 rfl ?_
  refine V_rVi (pc := 5) o (cX6_at_met _ _ _ cI ht _ _ 30 Q0 (by decide) _) 1 2 gX5_personOf_X6_at rfl hdX6_at (by decide) rfl rfl rfl (Nat.le_of_ble_eq_true rfl) dX5_personOf_5 rfl ?_
  exact fin 8 _ _ () dX5_personOf_8 rfl rfl
theorem hdX5_partOf : yX5_partOf.cls = RX5 ∧ yX5_partOf.cls ≠ "java/lang/invoke/MethodHandle" ∧ yX5_partOf.cls ≠ "java/lang/invoke/VarHandle" ∧ (parseMethodDescriptor yX5_partOf.desc).map (fun d => d.parameters.length) = some 1 := by decide +kernel
theorem hiX5_partOf_X5 : ∀ w ∈ wsX50, w ∈ wsX5_partOf := by decide +kernel
theorem lkX5_partOf_20 : Cond.fieldLink RX5 20 RX5 "parts" "LApprovalyard$Row;" ∈ wsX5_partOf := by decide +kernel
set_option maxHeartbeats 4000000 in
set_option maxRecDepth 100000 in
/-- X5.partOf -/
theorem cX5_partOf_met (l : Launch) (D : va_G) (tys : List (ClassId × FieldType)) (cI : ClassId) (ht : tys[0]? = some (cI, .int)) (ad : Nat → Nat) (Q0 Q1 Q2 Q3 Q4 Q5 Q6 : Nat → Int32) (nm : Int32) (q : Int32) : CId l yX5_partOf wsX5_partOf 1 D tys [.ref (ad 0), .int q] (wReqs cI ad Q0 Q1 Q2 Q3 Q4 Q5 Q6 nm) (rat 30 Q1 q) (wReqs cI ad Q0 Q1 Q2 Q3 Q4 Q5 Q6 nm) := by
  refine CI_of (maxL := 2) (cc := cX5_partOf) (y := yX5_partOf) rfl rfl (Nat.le_of_ble_eq_true rfl) (fun X hl hD hk hn hcz hsz o fin => ?_)
  subst hl; subst hD; subst hk
  refine V_aload_n (pc := 0) o dX5_partOf_0 rfl ?_
  refine V_get (pc := 1) o 0 1 hiX5_partOf_X5 rfl rfl (by decide) lkX5_partOf_20 rfl rfl dX5_partOf_1 ?_
  refine V_iload_n (pc := 4) o dX5_partOf_4 rfl ?_
  refine V_rVi (pc := 5) o (cX6_at_met _ _ _ cI ht _ _ 30 Q1 (by decide) _) 3 2 gX5_partOf_X6_at rfl hdX6_at (by decide) rfl rfl rfl (Nat.le_of_ble_eq_true rfl) dX5_partOf_5 rfl ?_
  exact fin 8 _ _ () dX5_partOf_8 rfl rfl
theorem hdX5_leastOf : yX5_leastOf.cls = RX5 ∧ yX5_leastOf.cls ≠ "java/lang/invoke/MethodHandle" ∧ yX5_leastOf.cls ≠ "java/lang/invoke/VarHandle" ∧ (parseMethodDescriptor yX5_leastOf.desc).map (fun d => d.parameters.length) = some 1 := by decide +kernel
theorem hiX5_leastOf_X5 : ∀ w ∈ wsX50, w ∈ wsX5_leastOf := by decide +kernel
theorem lkX5_leastOf_23 : Cond.fieldLink RX5 23 RX5 "leasts" "LApprovalyard$Row;" ∈ wsX5_leastOf := by decide +kernel
set_option maxHeartbeats 4000000 in
set_option maxRecDepth 100000 in
/-- X5.leastOf -/
theorem cX5_leastOf_met (l : Launch) (D : va_G) (tys : List (ClassId × FieldType)) (cI : ClassId) (ht : tys[0]? = some (cI, .int)) (ad : Nat → Nat) (Q0 Q1 Q2 Q3 Q4 Q5 Q6 : Nat → Int32) (nm : Int32) (q : Int32) : CId l yX5_leastOf wsX5_leastOf 1 D tys [.ref (ad 0), .int q] (wReqs cI ad Q0 Q1 Q2 Q3 Q4 Q5 Q6 nm) (rat 30 Q2 q) (wReqs cI ad Q0 Q1 Q2 Q3 Q4 Q5 Q6 nm) := by
  refine CI_of (maxL := 2) (cc := cX5_leastOf) (y := yX5_leastOf) rfl rfl (Nat.le_of_ble_eq_true rfl) (fun X hl hD hk hn hcz hsz o fin => ?_)
  subst hl; subst hD; subst hk
  refine V_aload_n (pc := 0) o dX5_leastOf_0 rfl ?_
  refine V_get (pc := 1) o 0 2 hiX5_leastOf_X5 rfl rfl (by decide) lkX5_leastOf_23 rfl rfl dX5_leastOf_1 ?_
  refine V_iload_n (pc := 4) o dX5_leastOf_4 rfl ?_
  refine V_rVi (pc := 5) o (cX6_at_met _ _ _ cI ht _ _ 30 Q2 (by decide) _) 5 2 gX5_leastOf_X6_at rfl hdX6_at (by decide) rfl rfl rfl (Nat.le_of_ble_eq_true rfl) dX5_leastOf_5 rfl ?_
  exact fin 8 _ _ () dX5_leastOf_8 rfl rfl
theorem hdX5_stateOf : yX5_stateOf.cls = RX5 ∧ yX5_stateOf.cls ≠ "java/lang/invoke/MethodHandle" ∧ yX5_stateOf.cls ≠ "java/lang/invoke/VarHandle" ∧ (parseMethodDescriptor yX5_stateOf.desc).map (fun d => d.parameters.length) = some 1 := by decide +kernel
theorem hiX5_stateOf_X5 : ∀ w ∈ wsX50, w ∈ wsX5_stateOf := by decide +kernel
theorem lkX5_stateOf_26 : Cond.fieldLink RX5 26 RX5 "states" "LApprovalyard$Row;" ∈ wsX5_stateOf := by decide +kernel
set_option maxHeartbeats 4000000 in
set_option maxRecDepth 100000 in
/-- X5.stateOf -/
theorem cX5_stateOf_met (l : Launch) (D : va_G) (tys : List (ClassId × FieldType)) (cI : ClassId) (ht : tys[0]? = some (cI, .int)) (ad : Nat → Nat) (Q0 Q1 Q2 Q3 Q4 Q5 Q6 : Nat → Int32) (nm : Int32) (q : Int32) : CId l yX5_stateOf wsX5_stateOf 1 D tys [.ref (ad 0), .int q] (wReqs cI ad Q0 Q1 Q2 Q3 Q4 Q5 Q6 nm) (rat 30 Q3 q) (wReqs cI ad Q0 Q1 Q2 Q3 Q4 Q5 Q6 nm) := by
  refine CI_of (maxL := 2) (cc := cX5_stateOf) (y := yX5_stateOf) rfl rfl (Nat.le_of_ble_eq_true rfl) (fun X hl hD hk hn hcz hsz o fin => ?_)
  subst hl; subst hD; subst hk
  refine V_aload_n (pc := 0) o dX5_stateOf_0 rfl ?_
  refine V_get (pc := 1) o 0 3 hiX5_stateOf_X5 rfl rfl (by decide) lkX5_stateOf_26 rfl rfl dX5_stateOf_1 ?_
  refine V_iload_n (pc := 4) o dX5_stateOf_4 rfl ?_
  refine V_rVi (pc := 5) o (cX6_at_met _ _ _ cI ht _ _ 30 Q3 (by decide) _) 7 2 gX5_stateOf_X6_at rfl hdX6_at (by decide) rfl rfl rfl (Nat.le_of_ble_eq_true rfl) dX5_stateOf_5 rfl ?_
  exact fin 8 _ _ () dX5_stateOf_8 rfl rfl
theorem hdX5_choiceOf : yX5_choiceOf.cls = RX5 ∧ yX5_choiceOf.cls ≠ "java/lang/invoke/MethodHandle" ∧ yX5_choiceOf.cls ≠ "java/lang/invoke/VarHandle" ∧ (parseMethodDescriptor yX5_choiceOf.desc).map (fun d => d.parameters.length) = some 1 := by decide +kernel
theorem hiX5_choiceOf_X5 : ∀ w ∈ wsX50, w ∈ wsX5_choiceOf := by decide +kernel
theorem lkX5_choiceOf_29 : Cond.fieldLink RX5 29 RX5 "choices" "LApprovalyard$Row;" ∈ wsX5_choiceOf := by decide +kernel
set_option maxHeartbeats 4000000 in
set_option maxRecDepth 100000 in
/-- X5.choiceOf -/
theorem cX5_choiceOf_met (l : Launch) (D : va_G) (tys : List (ClassId × FieldType)) (cI : ClassId) (ht : tys[0]? = some (cI, .int)) (ad : Nat → Nat) (Q0 Q1 Q2 Q3 Q4 Q5 Q6 : Nat → Int32) (nm : Int32) (q : Int32) : CId l yX5_choiceOf wsX5_choiceOf 1 D tys [.ref (ad 0), .int q] (wReqs cI ad Q0 Q1 Q2 Q3 Q4 Q5 Q6 nm) (rat 30 Q4 q) (wReqs cI ad Q0 Q1 Q2 Q3 Q4 Q5 Q6 nm) := by
  refine CI_of (maxL := 2) (cc := cX5_choiceOf) (y := yX5_choiceOf) rfl rfl (Nat.le_of_ble_eq_true rfl) (fun X hl hD hk hn hcz hsz o fin => ?_)
  subst hl; subst hD; subst hk
  refine V_aload_n (pc := 0) o dX5_choiceOf_0 rfl ?_
  refine V_get (pc := 1) o 0 4 hiX5_choiceOf_X5 rfl rfl (by decide) lkX5_choiceOf_29 rfl rfl dX5_choiceOf_1 ?_
  refine V_iload_n (pc := 4) o dX5_choiceOf_4 rfl ?_
  refine V_rVi (pc := 5) o (cX6_at_met _ _ _ cI ht _ _ 30 Q4 (by decide) _) 9 2 gX5_choiceOf_X6_at rfl hdX6_at (by decide) rfl rfl rfl (Nat.le_of_ble_eq_true rfl) dX5_choiceOf_5 rfl ?_
  exact fin 8 _ _ () dX5_choiceOf_8 rfl rfl
theorem hdX5_costOf : yX5_costOf.cls = RX5 ∧ yX5_costOf.cls ≠ "java/lang/invoke/MethodHandle" ∧ yX5_costOf.cls ≠ "java/lang/invoke/VarHandle" ∧ (parseMethodDescriptor yX5_costOf.desc).map (fun d => d.parameters.length) = some 1 := by decide +kernel
theorem hiX5_costOf_X5 : ∀ w ∈ wsX50, w ∈ wsX5_costOf := by decide +kernel
theorem lkX5_costOf_32 : Cond.fieldLink RX5 32 RX5 "costs" "LApprovalyard$Row;" ∈ wsX5_costOf := by decide +kernel
set_option maxHeartbeats 4000000 in
set_option maxRecDepth 100000 in
/-- X5.costOf -/
theorem cX5_costOf_met (l : Launch) (D : va_G) (tys : List (ClassId × FieldType)) (cI : ClassId) (ht : tys[0]? = some (cI, .int)) (ad : Nat → Nat) (Q0 Q1 Q2 Q3 Q4 Q5 Q6 : Nat → Int32) (nm : Int32) (q : Int32) : CId l yX5_costOf wsX5_costOf 1 D tys [.ref (ad 0), .int q] (wReqs cI ad Q0 Q1 Q2 Q3 Q4 Q5 Q6 nm) (rat 30 Q5 q) (wReqs cI ad Q0 Q1 Q2 Q3 Q4 Q5 Q6 nm) := by
  refine CI_of (maxL := 2) (cc := cX5_costOf) (y := yX5_costOf) rfl rfl (Nat.le_of_ble_eq_true rfl) (fun X hl hD hk hn hcz hsz o fin => ?_)
  subst hl; subst hD; subst hk
  refine V_aload_n (pc := 0) o dX5_costOf_0 rfl ?_
  refine V_get (pc := 1) o 0 5 hiX5_costOf_X5 rfl rfl (by decide) lkX5_costOf_32 rfl rfl dX5_costOf_1 ?_
  refine V_iload_n (pc := 4) o dX5_costOf_4 rfl ?_
  refine V_rVi (pc := 5) o (cX6_at_met _ _ _ cI ht _ _ 30 Q5 (by decide) _) 11 2 gX5_costOf_X6_at rfl hdX6_at (by decide) rfl rfl rfl (Nat.le_of_ble_eq_true rfl) dX5_costOf_5 rfl ?_
  exact fin 8 _ _ () dX5_costOf_8 rfl rfl
theorem hdX5_markReleased : yX5_markReleased.cls = RX5 ∧ yX5_markReleased.cls ≠ "java/lang/invoke/MethodHandle" ∧ yX5_markReleased.cls ≠ "java/lang/invoke/VarHandle" ∧ (parseMethodDescriptor yX5_markReleased.desc).map (fun d => d.parameters.length) = some 1 := by decide +kernel
theorem hiX5_markReleased_X5 : ∀ w ∈ wsX50, w ∈ wsX5_markReleased := by decide +kernel
theorem lkX5_markReleased_26 : Cond.fieldLink RX5 26 RX5 "states" "LApprovalyard$Row;" ∈ wsX5_markReleased := by decide +kernel
set_option maxHeartbeats 4000000 in
set_option maxRecDepth 100000 in
/-- X5.markReleased -/
theorem cX5_markReleased_met (l : Launch) (D : va_G) (tys : List (ClassId × FieldType)) (cI : ClassId) (ht : tys[0]? = some (cI, .int)) (ad : Nat → Nat) (Q0 Q1 Q2 Q3 Q4 Q5 Q6 : Nat → Int32) (nm : Int32) (q : Int32) : CId l yX5_markReleased wsX5_markReleased 1 D tys [.ref (ad 0), .int q] (wReqs cI ad Q0 Q1 Q2 Q3 Q4 Q5 Q6 nm) 2 (wReqs cI ad Q0 Q1 Q2 (rup 30 Q3 q 2) Q4 Q5 Q6 nm) := by
  refine CI_of (maxL := 2) (cc := cX5_markReleased) (y := yX5_markReleased) rfl rfl (Nat.le_of_ble_eq_true rfl) (fun X hl hD hk hn hcz hsz o fin => ?_)
  subst hl; subst hD; subst hk
  refine V_aload_n (pc := 0) o dX5_markReleased_0 rfl ?_
  refine V_get (pc := 1) o 0 3 hiX5_markReleased_X5 rfl rfl (by decide) lkX5_markReleased_26 rfl rfl dX5_markReleased_1 ?_
  refine V_iload_n (pc := 4) o dX5_markReleased_4 rfl ?_
  refine V_iconst (pc := 5) o 2 dX5_markReleased_5 (by decide) ?_
  refine V_wVv (pc := 6) o (cX6_put_met _ _ _ cI ht _ _ 30 Q3 (by decide) _ _) 7 2 (wReqs cI ad Q0 Q1 Q2 (rup 30 Q3 q 2) Q4 Q5 Q6 nm) gX5_markReleased_X6_put rfl hdX6_put (by decide) rfl rfl rfl (Nat.le_of_ble_eq_true rfl) dX5_markReleased_6 rfl rfl ?_
  refine V_iconst (pc := 9) o 2 dX5_markReleased_9 (by decide) ?_
  exact fin 10 _ _ () dX5_markReleased_10 rfl rfl
theorem hdX5_addApproval : yX5_addApproval.cls = RX5 ∧ yX5_addApproval.cls ≠ "java/lang/invoke/MethodHandle" ∧ yX5_addApproval.cls ≠ "java/lang/invoke/VarHandle" ∧ (parseMethodDescriptor yX5_addApproval.desc).map (fun d => d.parameters.length) = some 3 := by decide +kernel
theorem hiX5_addApproval_X5 : ∀ w ∈ wsX50, w ∈ wsX5_addApproval := by decide +kernel
theorem lkX5_addApproval_35 : Cond.fieldLink RX5 35 RX5 "ends" "LApprovalyard$Row;" ∈ wsX5_addApproval := by decide +kernel
set_option maxHeartbeats 4000000 in
set_option maxRecDepth 100000 in
/-- X5.addApproval -/
theorem cX5_addApproval_met (l : Launch) (D : va_G) (tys : List (ClassId × FieldType)) (cI : ClassId) (ht : tys[0]? = some (cI, .int)) (ad : Nat → Nat) (Q0 Q1 Q2 Q3 Q4 Q5 Q6 : Nat → Int32) (nm : Int32) (q p n : Int32) : CVd l yX5_addApproval wsX5_addApproval 1 D tys [.ref (ad 0), .int q, .int p, .int n] (wReqs cI ad Q0 Q1 Q2 Q3 Q4 Q5 Q6 nm) (wReqs cI ad Q0 Q1 Q2 Q3 Q4 Q5 (rup 240 Q6 (q * 8 + p) n) nm) := by
  refine CV_of (maxL := 4) (cc := cX5_addApproval) (y := yX5_addApproval) rfl rfl (Nat.le_of_ble_eq_true rfl) (fun X hl hD hk hn hcz hsz o fin => ?_)
  subst hl; subst hD; subst hk
  refine V_aload_n (pc := 0) o dX5_addApproval_0 rfl ?_
  refine V_get (pc := 1) o 0 6 hiX5_addApproval_X5 rfl rfl (by decide) lkX5_addApproval_35 rfl rfl dX5_addApproval_1 ?_
  refine V_iload_n (pc := 4) o dX5_addApproval_4 rfl ?_
  refine V_bipush (pc := 5) o 8 dX5_addApproval_5 (by decide) ?_
  refine V_imul (pc := 7) o dX5_addApproval_7 ?_
  refine V_iload_n (pc := 8) o dX5_addApproval_8 rfl ?_
  refine V_iadd (pc := 9) o dX5_addApproval_9 ?_
  refine V_iload_n (pc := 10) o dX5_addApproval_10 rfl ?_
  refine V_wVv (pc := 11) o (cX6_put_met _ _ _ cI ht _ _ 240 Q6 (by decide) _ _) 13 2 (wReqs cI ad Q0 Q1 Q2 Q3 Q4 Q5 (rup 240 Q6 ((q * 8) + p) n) nm) gX5_addApproval_X6_put rfl hdX6_put (by decide) rfl rfl rfl (Nat.le_of_ble_eq_true rfl) dX5_addApproval_11 rfl rfl ?_
  exact fin 14 _ () dX5_addApproval_14 trivial
theorem hdX5_hasApproval : yX5_hasApproval.cls = RX5 ∧ yX5_hasApproval.cls ≠ "java/lang/invoke/MethodHandle" ∧ yX5_hasApproval.cls ≠ "java/lang/invoke/VarHandle" ∧ (parseMethodDescriptor yX5_hasApproval.desc).map (fun d => d.parameters.length) = some 3 := by decide +kernel
theorem hiX5_hasApproval_X5 : ∀ w ∈ wsX50, w ∈ wsX5_hasApproval := by decide +kernel
theorem lkX5_hasApproval_35 : Cond.fieldLink RX5 35 RX5 "ends" "LApprovalyard$Row;" ∈ wsX5_hasApproval := by decide +kernel
set_option maxHeartbeats 4000000 in
set_option maxRecDepth 100000 in
/-- X5.hasApproval -/
theorem cX5_hasApproval_met (l : Launch) (D : va_G) (tys : List (ClassId × FieldType)) (cI : ClassId) (ht : tys[0]? = some (cI, .int)) (ad : Nat → Nat) (Q0 Q1 Q2 Q3 Q4 Q5 Q6 : Nat → Int32) (nm : Int32) (q p n : Int32) : CId l yX5_hasApproval wsX5_hasApproval 1 D tys [.ref (ad 0), .int q, .int p, .int n] (wReqs cI ad Q0 Q1 Q2 Q3 Q4 Q5 Q6 nm) (if n < rat 240 Q6 (q * 8 + p) then 1 else 0) (wReqs cI ad Q0 Q1 Q2 Q3 Q4 Q5 Q6 nm) := by
  refine CI_of (maxL := 4) (cc := cX5_hasApproval) (y := yX5_hasApproval) rfl rfl (Nat.le_of_ble_eq_true rfl) (fun X hl hD hk hn hcz hsz o fin => ?_)
  subst hl; subst hD; subst hk
  refine V_iload_n (pc := 0) o dX5_hasApproval_0 rfl ?_
  refine V_aload_n (pc := 1) o dX5_hasApproval_1 rfl ?_
  refine V_get (pc := 2) o 0 6 hiX5_hasApproval_X5 rfl rfl (by decide) lkX5_hasApproval_35 rfl rfl dX5_hasApproval_2 ?_
  refine V_iload_n (pc := 5) o dX5_hasApproval_5 rfl ?_
  refine V_bipush (pc := 6) o 8 dX5_hasApproval_6 (by decide) ?_
  refine V_imul (pc := 8) o dX5_hasApproval_8 ?_
  refine V_iload_n (pc := 9) o dX5_hasApproval_9 rfl ?_
  refine V_iadd (pc := 10) o dX5_hasApproval_10 ?_
  refine V_rVi (pc := 11) o (cX6_at_met _ _ _ cI ht _ _ 240 Q6 (by decide) _) 13 2 gX5_hasApproval_X6_at rfl hdX6_at (by decide) rfl rfl rfl (Nat.le_of_ble_eq_true rfl) dX5_hasApproval_11 rfl ?_
  refine V_icmp_ge (pc := 14) o 21 dX5_hasApproval_14 (by decide) (fun c14 => ?_) (fun c14 => ?_)
  · refine V_iconst (pc := 21) o 0 dX5_hasApproval_21 (by decide) ?_
    exact fin 22 _ _ () dX5_hasApproval_22 rfl (by first | (rw [if_pos (by assumption)]; done) | (rw [if_neg (by assumption)]; done) | simp_all)
  · refine V_iconst (pc := 17) o 1 dX5_hasApproval_17 (by decide) ?_
    refine V_goto (pc := 18) o 22 dX5_hasApproval_18 (by decide) ?_
    exact fin 22 _ _ () dX5_hasApproval_22 rfl (by first | (rw [if_pos (by assumption)]; done) | (rw [if_neg (by assumption)]; done) | simp_all)
theorem hdX5_reopen : yX5_reopen.cls = RX5 ∧ yX5_reopen.cls ≠ "java/lang/invoke/MethodHandle" ∧ yX5_reopen.cls ≠ "java/lang/invoke/VarHandle" ∧ (parseMethodDescriptor yX5_reopen.desc).map (fun d => d.parameters.length) = some 1 := by decide +kernel
theorem hiX5_reopen_X5 : ∀ w ∈ wsX50, w ∈ wsX5_reopen := by decide +kernel
theorem lkX5_reopen_26 : Cond.fieldLink RX5 26 RX5 "states" "LApprovalyard$Row;" ∈ wsX5_reopen := by decide +kernel
theorem lkX5_reopen_29 : Cond.fieldLink RX5 29 RX5 "choices" "LApprovalyard$Row;" ∈ wsX5_reopen := by decide +kernel
theorem lkX5_reopen_32 : Cond.fieldLink RX5 32 RX5 "costs" "LApprovalyard$Row;" ∈ wsX5_reopen := by decide +kernel
set_option maxHeartbeats 4000000 in
set_option maxRecDepth 100000 in
/-- X5.reopen -/
theorem cX5_reopen_met (l : Launch) (D : va_G) (tys : List (ClassId × FieldType)) (cI : ClassId) (ht : tys[0]? = some (cI, .int)) (ad : Nat → Nat) (Q0 Q1 Q2 Q3 Q4 Q5 Q6 : Nat → Int32) (nm : Int32) (q : Int32) : CVd l yX5_reopen wsX5_reopen 1 D tys [.ref (ad 0), .int q] (wReqs cI ad Q0 Q1 Q2 Q3 Q4 Q5 Q6 nm) (wReqs cI ad Q0 Q1 Q2 (rup 30 Q3 q 0) (rup 30 Q4 q 0) (rup 30 Q5 q 0) Q6 nm) := by
  refine CV_of (maxL := 2) (cc := cX5_reopen) (y := yX5_reopen) rfl rfl (Nat.le_of_ble_eq_true rfl) (fun X hl hD hk hn hcz hsz o fin => ?_)
  subst hl; subst hD; subst hk
  refine V_aload_n (pc := 0) o dX5_reopen_0 rfl ?_
  refine V_get (pc := 1) o 0 3 hiX5_reopen_X5 rfl rfl (by decide) lkX5_reopen_26 rfl rfl dX5_reopen_1 ?_
  refine V_iload_n (pc := 4) o dX5_reopen_4 rfl ?_
  refine V_iconst (pc := 5) o 0 dX5_reopen_5 (by decide) ?_
  refine V_wVv (pc := 6) o (cX6_put_met _ _ _ cI ht _ _ 30 Q3 (by decide) _ _) 7 2 (wReqs cI ad Q0 Q1 Q2 (rup 30 Q3 q 0) Q4 Q5 Q6 nm) gX5_reopen_X6_put rfl hdX6_put (by decide) rfl rfl rfl (Nat.le_of_ble_eq_true rfl) dX5_reopen_6 rfl rfl ?_
  refine V_aload_n (pc := 9) o dX5_reopen_9 rfl ?_
  refine V_get (pc := 10) o 0 4 hiX5_reopen_X5 rfl rfl (by decide) lkX5_reopen_29 rfl rfl dX5_reopen_10 ?_
  refine V_iload_n (pc := 13) o dX5_reopen_13 rfl ?_
  refine V_iconst (pc := 14) o 0 dX5_reopen_14 (by decide) ?_
  refine V_wVv (pc := 15) o (cX6_put_met _ _ _ cI ht _ _ 30 Q4 (by decide) _ _) 9 2 (wReqs cI ad Q0 Q1 Q2 (rup 30 Q3 q 0) (rup 30 Q4 q 0) Q5 Q6 nm) gX5_reopen_X6_put rfl hdX6_put (by decide) rfl rfl rfl (Nat.le_of_ble_eq_true rfl) dX5_reopen_15 rfl rfl ?_
  refine V_aload_n (pc := 18) o dX5_reopen_18 rfl ?_
  refine V_get (pc := 19) o 0 5 hiX5_reopen_X5 rfl rfl (by decide) lkX5_reopen_32 rfl rfl dX5_reopen_19 ?_
  refine V_iload_n (pc := 22) o dX5_reopen_22 rfl ?_
  refine V_iconst (pc := 23) o 0 dX5_reopen_23 (by decide) ?_
  refine V_wVv (pc := 24) o (cX6_put_met _ _ _ cI ht _ _ 30 Q5 (by decide) _ _) 11 2 (wReqs cI ad Q0 Q1 Q2 (rup 30 Q3 q 0) (rup 30 Q4 q 0) (rup 30 Q5 q 0) Q6 nm) gX5_reopen_X6_put rfl hdX6_put (by decide) rfl rfl rfl (Nat.le_of_ble_eq_true rfl) dX5_reopen_24 rfl rfl ?_
  exact fin 27 _ () dX5_reopen_27 trivial
