/-! Search: the search as functions of its rows. -/
def wSP (cI : ClassId) (ad ad2 : Nat → Nat) (O0 O1 : Nat → Int32) (on oc : Int32) (P0 P1 P2 P3 P4 P5 : Nat → Int32) : va_W := wSearch cI ad O0 O1 on oc ++ wParts cI ad2 P0 P1 P2 P3 P4 P5
def awH (O0 : Nat → Int32) (p : Int32) : Nat → Bool
  | 0 => false
  | n + 1 => awH O0 p n || decide (rat 8 O0 (nI n) = p)
theorem awH_at {O0 : Nat → Int32} {p : Int32} {j : Nat} (h : rat 8 O0 (nI j) = p) : ∀ n, j < n → awH O0 p n = true
  | n + 1, hj => by
    rcases Nat.lt_or_ge j n with q | q
    · simp [awH, awH_at h n q]
    · have : j = n := by omega
      subst this
      simp [awH, h]
def awO (O0 : Nat → Int32) (on p : Int32) : Nat → Int32 := if awH O0 p on.toNatClampNeg = true then O0 else rup 8 O0 on p
def awn (O0 : Nat → Int32) (on p : Int32) : Int32 := if awH O0 p on.toNatClampNeg = true then on else on + 1
theorem hiX7_await_X7 : ∀ w ∈ wsX70, w ∈ wsX7_await := by decide +kernel
theorem lkX7_await_40 : Cond.fieldLink RX7 40 RX7 "number" "I" ∈ wsX7_await := by decide +kernel
theorem lkX7_await_14 : Cond.fieldLink RX7 14 RX7 "order" "LApprovalyard$Row;" ∈ wsX7_await := by decide +kernel
set_option maxHeartbeats 4000000 in
set_option maxRecDepth 100000 in
theorem lpX7_await {X : XT} (o : OkX X cX7_await RX7 wsX7_await 1) (hn : XN X = 3) (cI : ClassId) (ht : (XK X)[0]? = some (cI, .int)) (ad : Nat → Nat) (O0 O1 : Nat → Int32) (on oc p : Int32) (fin : ∀ (pc : Nat) (lc : List (Nat × Value)) (u : Unit), decode cX7_await pc = .ok (.return_, 1) → True → V X 0 0 (wSearch cI ad (awO O0 on p) O1 (awn O0 on p) oc) pc lc []) : ∀ (m j : Nat), on.toNatClampNeg - j < m → j ≤ on.toNatClampNeg → awH O0 p j = false → V X 0 0 (wSearch cI ad O0 O1 on oc) 2 [(0, .ref (ad 0)), (1, .int p), (2, .int (nI j))] [] := by
  intro m
  induction m with
  | zero => intro j h1; exact absurd h1 (Nat.not_lt_zero _)
  | succ m ih =>
    intro j h1 h2 hf
    refine V_iload_n (pc := 2) o dX7_await_2 rfl ?_
    refine V_aload_n (pc := 3) o dX7_await_3 rfl ?_
    refine V_get (pc := 4) o 0 2 hiX7_await_X7 rfl rfl (by decide) lkX7_await_40 rfl rfl dX7_await_4 ?_
    refine V_icmp_ge (pc := 7) o 29 dX7_await_7 (by decide) (fun c7 => ?_) (fun c7 => ?_)
    · refine V_aload_n (pc := 29) o dX7_await_29 rfl ?_
      refine V_get (pc := 30) o 0 0 hiX7_await_X7 rfl rfl (by decide) lkX7_await_14 rfl rfl dX7_await_30 ?_
      refine V_aload_n (pc := 33) o dX7_await_33 rfl ?_
      refine V_get (pc := 34) o 0 2 hiX7_await_X7 rfl rfl (by decide) lkX7_await_40 rfl rfl dX7_await_34 ?_
      refine V_iload_n (pc := 37) o dX7_await_37 rfl ?_
      refine V_wVv (pc := 38) o (cX6_put_met _ _ _ cI ht _ _ 8 O0 (by decide) _ _) 1 2 (wSearch cI ad (rup 8 O0 on p) O1 on oc) gX7_await_X6_put rfl hdX6_put (by decide) rfl rfl rfl (Nat.le_of_ble_eq_true rfl) dX7_await_38 rfl rfl ?_
      refine V_aload_n (pc := 41) o dX7_await_41 rfl ?_
      refine V_dup (pc := 42) o rfl dX7_await_42 ?_
      refine V_get (pc := 43) o 0 2 hiX7_await_X7 rfl rfl (by decide) lkX7_await_40 rfl rfl dX7_await_43 ?_
      refine V_iconst (pc := 46) o 1 dX7_await_46 (by decide) ?_
      refine V_iadd (pc := 47) o dX7_await_47 ?_
      refine V_put (pc := 48) o 0 2 hiX7_await_X7 tyX7 tyX7_ok nmX7 rfl rfl (by decide) lkX7_await_40 rfl rfl rfl rfl rfl (Nat.le_of_ble_eq_true rfl) dX7_await_48 ?_
      refine V_eq (ws2 := wSearch cI ad (rup 8 O0 on p) O1 (on + 1) oc) rfl rfl ?_
      have e1 : j = on.toNatClampNeg := Nat.le_antisymm h2 (tcn_le c7 (Nat.lt_of_le_of_lt h2 (tcn_b on)))
      have q2 : ¬ awH O0 p on.toNatClampNeg = true := by rw [← e1, hf]; decide
      exact V_eq (by unfold awO awn; rw [if_neg q2, if_neg q2]) rfl (fin 51 _ () dX7_await_51 trivial)
    · have q1 : j < on.toNatClampNeg := tcn_lt c7 (Nat.lt_of_le_of_lt h2 (tcn_b on))
      refine V_aload_n (pc := 10) o dX7_await_10 rfl ?_
      refine V_get (pc := 11) o 0 0 hiX7_await_X7 rfl rfl (by decide) lkX7_await_14 rfl rfl dX7_await_11 ?_
      refine V_iload_n (pc := 14) o dX7_await_14 rfl ?_
      refine V_rVi (pc := 15) o (cX6_at_met _ _ _ cI ht _ _ 8 O0 (by decide) _) 1 2 gX7_await_X6_at rfl hdX6_at (by decide) rfl rfl rfl (Nat.le_of_ble_eq_true rfl) dX7_await_15 rfl ?_
      refine V_iload_n (pc := 18) o dX7_await_18 rfl ?_
      refine V_icmp_ne (pc := 19) o 23 dX7_await_19 (by decide) (fun c19 => ?_) (fun c19 => ?_)
      · refine V_iinc (pc := 23) o 1 dX7_await_23 (by rw [hn]; decide) rfl (by decide) ?_
        refine V_goto (pc := 26) o 2 dX7_await_26 (by decide) ?_
        refine V_sub (lc2 := [(0, .ref (ad 0)), (1, .int p), (2, .int (nI (j + 1)))]) ⟨rfl, rfl, lc_e (nI_1 j), trivial⟩ ?_
        exact ih (j + 1) (by omega) q1 (by rw [awH, hf]; simpa using c19)
      · have q2 := awH_at c19 _ q1
        exact V_eq (by unfold awO awn; rw [if_pos q2, if_pos q2]) rfl (fin 22 _ () dX7_await_22 trivial)
theorem hdX7_await : yX7_await.cls = RX7 ∧ yX7_await.cls ≠ "java/lang/invoke/MethodHandle" ∧ yX7_await.cls ≠ "java/lang/invoke/VarHandle" ∧ (parseMethodDescriptor yX7_await.desc).map (fun d => d.parameters.length) = some 1 := by decide +kernel
set_option maxHeartbeats 4000000 in
set_option maxRecDepth 100000 in
/-- X7.await -/
theorem cX7_await_met (l : Launch) (D : va_G) (tys : List (ClassId × FieldType)) (cI : ClassId) (ht : tys[0]? = some (cI, .int)) (ad : Nat → Nat) (O0 O1 : Nat → Int32) (on : Int32) (oc : Int32) (p : Int32) : CVd l yX7_await wsX7_await 1 D tys [.ref (ad 0), .int p] (wSearch cI ad O0 O1 on oc) (wSearch cI ad (awO O0 on p) O1 (awn O0 on p) oc) := by
  refine CV_of (maxL := 3) (cc := cX7_await) (y := yX7_await) rfl rfl (Nat.le_of_ble_eq_true rfl) (fun X hl hD hk hn hcz hsz o fin => ?_)
  subst hl; subst hD; subst hk
  refine V_iconst (pc := 0) o 0 dX7_await_0 (by decide) ?_
  refine V_istore_n (pc := 1) o dX7_await_1 (by rw [hn]; decide) ?_
  exact V_sub (lc2 := [(0, .ref (ad 0)), (1, .int p), (2, .int (nI 0))]) ⟨rfl, rfl, rfl, trivial⟩ (lpX7_await o hn cI ht ad O0 O1 on oc p fin (on.toNatClampNeg + 1) 0 (by omega) (by omega) rfl)
def tkC (O1 : Nat → Int32) (d : Int32) : Nat → Nat → Int32
  | 0 => O1
  | n + 1 => rup 72 (tkC O1 d n) ((d + 1) * 8 + nI n) (rat 72 (tkC O1 d n) (d * 8 + nI n))
abbrev T3 : Type := (Nat → Int32) × (Nat → Int32) × Int32
def tkL (P4 P5 : Nat → Int32) (part v nx : Int32) (O1 : Nat → Int32) (i : Int32) : Int32 := rat 72 O1 (nx + rat 96 P4 (plc part v * 4 + i)) &&& rat 96 P5 (plc part v * 4 + i)
def tkS (P4 P5 : Nat → Int32) (part v nx : Int32) (T : T3) (i : Int32) : T3 := (awO T.1 T.2.2 (rat 96 P4 (plc part v * 4 + i)), rup 72 T.2.1 (nx + rat 96 P4 (plc part v * 4 + i)) (tkL P4 P5 part v nx T.2.1 i), awn T.1 T.2.2 (rat 96 P4 (plc part v * 4 + i)))
def tkR (P4 P5 : Nat → Int32) (part v nx : Int32) : Nat → Nat → T3 → Int32 × T3
  | 0, _, T => (1, T)
  | n + 1, j, T => if tkL P4 P5 part v nx T.2.1 (nI j) = 0 then (0, T) else tkR P4 P5 part v nx n (j + 1) (tkS P4 P5 part v nx T (nI j))
def tkF (P3 P4 P5 : Nat → Int32) (d v : Int32) (T : T3) : Int32 × T3 :=
  tkR P4 P5 (rat 8 T.1 d) v ((d + 1) * 8) (rat 24 P3 (plc (rat 8 T.1 d) v)).toNatClampNeg 0 (T.1, rup 72 (tkC T.2.1 d 8) ((d + 1) * 8 + rat 8 T.1 d) (vset v v), T.2.2)
theorem hiX7_take_X7 : ∀ w ∈ wsX70, w ∈ wsX7_take := by decide +kernel
theorem lkX7_take_20 : Cond.fieldLink RX7 20 RX7 "wanted" "LApprovalyard$Row;" ∈ wsX7_take := by decide +kernel
set_option maxHeartbeats 4000000 in
set_option maxRecDepth 100000 in
theorem lp1X7_take {X : XT} (o : OkX X cX7_take RX7 wsX7_take 3) (hn : XN X = 10) (cI : ClassId) (ht : (XK X)[0]? = some (cI, .int)) (ad ad2 : Nat → Nat) (P0 P1 P2 P3 P4 P5 : Nat → Int32) (O0 O1 : Nat → Int32) (on oc d v pa : Int32) (kk : V X 0 0 (wSP cI ad ad2 O0 (tkC O1 d 8) on oc P0 P1 P2 P3 P4 P5) 60 [(0, .ref (ad 0)), (1, .ref (ad2 0)), (2, .int d), (3, .int v), (4, .int pa), (5, .int ((d + 1) * 8)), (6, .int (nI 8))] []) : ∀ (m j : Nat), 8 - j < m → j ≤ 8 → V X 0 0 (wSP cI ad ad2 O0 (tkC O1 d j) on oc P0 P1 P2 P3 P4 P5) 21 [(0, .ref (ad 0)), (1, .ref (ad2 0)), (2, .int d), (3, .int v), (4, .int pa), (5, .int ((d + 1) * 8)), (6, .int (nI j))] [] := by
  intro m
  induction m with
  | zero => intro j h1; exact absurd h1 (Nat.not_lt_zero _)
  | succ m ih =>
    intro j h1 h2
    refine V_iload (pc := 21) o dX7_take_21 rfl ?_
    refine V_bipush (pc := 23) o 8 dX7_take_23 (by decide) ?_
    refine V_icmp_ge (pc := 25) o 60 dX7_take_25 (by decide) (fun c25 => ?_) (fun c25 => ?_)
    · have e1 : j = 8 := Nat.le_antisymm h2 (le_of_nI c25)
      rw [e1]
      exact kk
    · refine V_aload_n (pc := 28) o dX7_take_28 rfl ?_
      refine V_get (pc := 29) o 0 1 hiX7_take_X7 rfl rfl (by decide) lkX7_take_20 rfl rfl dX7_take_29 ?_
      refine V_iload (pc := 32) o dX7_take_32 rfl ?_
      refine V_iload (pc := 34) o dX7_take_34 rfl ?_
      refine V_iadd (pc := 36) o dX7_take_36 ?_
      refine V_aload_n (pc := 37) o dX7_take_37 rfl ?_
      refine V_get (pc := 38) o 0 1 hiX7_take_X7 rfl rfl (by decide) lkX7_take_20 rfl rfl dX7_take_38 ?_
      refine V_iload_n (pc := 41) o dX7_take_41 rfl ?_
      refine V_bipush (pc := 42) o 8 dX7_take_42 (by decide) ?_
      refine V_imul (pc := 44) o dX7_take_44 ?_
      refine V_iload (pc := 45) o dX7_take_45 rfl ?_
      refine V_iadd (pc := 47) o dX7_take_47 ?_
      refine V_rVi (pc := 48) o (cX6_at_met _ _ _ cI ht _ _ 72 (tkC O1 d j) (by decide) _) 3 2 gX7_take_X6_at rfl hdX6_at (by decide) rfl rfl rfl (Nat.le_of_ble_eq_true rfl) dX7_take_48 rfl ?_
      refine V_wVv (pc := 51) o (cX6_put_met _ _ _ cI ht _ _ 72 (tkC O1 d j) (by decide) _ _) 3 2 (wSP cI ad ad2 O0 (rup 72 (tkC O1 d j) (((d + 1) * 8) + (nI j)) (rat 72 (tkC O1 d j) ((d * 8) + (nI j)))) on oc P0 P1 P2 P3 P4 P5) gX7_take_X6_put rfl hdX6_put (by decide) rfl rfl rfl (Nat.le_of_ble_eq_true rfl) dX7_take_51 rfl rfl ?_
      refine V_iinc (pc := 54) o 1 dX7_take_54 (by rw [hn]; decide) rfl (by decide) ?_
      refine V_goto (pc := 57) o 21 dX7_take_57 (by decide) ?_
      have q1 : j < 8 := lt_of_nI (K := 8) c25
      refine V_eq (ws2 := wSP cI ad ad2 O0 (tkC O1 d (j + 1)) on oc P0 P1 P2 P3 P4 P5) rfl rfl ?_
      refine V_sub (lc2 := [(0, .ref (ad 0)), (1, .ref (ad2 0)), (2, .int d), (3, .int v), (4, .int pa), (5, .int ((d + 1) * 8)), (6, .int (nI (j + 1)))]) ⟨rfl, rfl, rfl, rfl, rfl, rfl, lc_e (nI_1 j), trivial⟩ ?_
      exact ih (j + 1) (by omega) (by omega)
set_option maxHeartbeats 4000000 in
set_option maxRecDepth 100000 in
theorem lp2X7_take {X : XT} (o : OkX X cX7_take RX7 wsX7_take 3) (hn : XN X = 10) (cI : ClassId) (ht : (XK X)[0]? = some (cI, .int)) (ad ad2 : Nat → Nat) (P0 P1 P2 P3 P4 P5 : Nat → Int32) (oc d v pa nx cn : Int32) : ∀ (n j : Nat) (T : T3), cn.toNatClampNeg = j + n → (∀ (pc : Nat) (lc : List (Nat × Value)) (x : Int32), decode cX7_take pc = .ok (.ireturn, 1) → narrow .boolean (.int x) = .int x → x = (tkR P4 P5 pa v nx n j T).1 → V X 0 0 (wSP cI ad ad2 (tkR P4 P5 pa v nx n j T).2.1 (tkR P4 P5 pa v nx n j T).2.2.1 (tkR P4 P5 pa v nx n j T).2.2.2 oc P0 P1 P2 P3 P4 P5) pc lc [.int x]) → V X 0 0 (wSP cI ad ad2 T.1 T.2.1 T.2.2 oc P0 P1 P2 P3 P4 P5) 89 [(0, .ref (ad 0)), (1, .ref (ad2 0)), (2, .int d), (3, .int v), (4, .int pa), (5, .int nx), (6, .int cn), (7, .int (nI j))] [] := by
  intro n
  induction n with
  | zero =>
    intro j T h1 fin
    refine V_iload (pc := 89) o dX7_take_89 rfl ?_
    refine V_iload (pc := 91) o dX7_take_91 rfl ?_
    refine V_icmp_ge (pc := 93) o 164 dX7_take_93 (by decide) (fun c93 => ?_) (fun c93 => ?_)
    · refine V_iconst (pc := 164) o 1 dX7_take_164 (by decide) ?_
      exact fin 165 _ _ dX7_take_165 rfl rfl
    · exact absurd (tcn_lt c93 (by have := tcn_b cn; omega)) (by omega)
  | succ n ih =>
    intro j T h1 fin
    refine V_iload (pc := 89) o dX7_take_89 rfl ?_
    refine V_iload (pc := 91) o dX7_take_91 rfl ?_
    refine V_icmp_ge (pc := 93) o 164 dX7_take_93 (by decide) (fun c93 => ?_) (fun c93 => ?_)
    · refine V_iconst (pc := 164) o 1 dX7_take_164 (by decide) ?_
      exact absurd (tcn_le c93 (by have := tcn_b cn; omega)) (by omega)
    · refine V_aload_n (pc := 96) o dX7_take_96 rfl ?_
      refine V_iload (pc := 97) o dX7_take_97 rfl ?_
      refine V_iload_n (pc := 99) o dX7_take_99 rfl ?_
      refine V_iload (pc := 100) o dX7_take_100 rfl ?_
      refine V_rVi (pc := 102) o (cX3_neededPart_met _ _ _ cI ht ad2 P0 P1 P2 P3 P4 P5 pa v (nI j)) 5 13 gX7_take_X3_neededPart rfl hdX3_neededPart (by decide) rfl rfl rfl (Nat.le_of_ble_eq_true rfl) dX7_take_102 rfl ?_
      refine V_istore (pc := 105) o dX7_take_105 (by rw [hn]; decide) ?_
      refine V_aload_n (pc := 107) o dX7_take_107 rfl ?_
      refine V_get (pc := 108) o 0 1 hiX7_take_X7 rfl rfl (by decide) lkX7_take_20 rfl rfl dX7_take_108 ?_
      refine V_iload (pc := 111) o dX7_take_111 rfl ?_
      refine V_iload (pc := 113) o dX7_take_113 rfl ?_
      refine V_iadd (pc := 115) o dX7_take_115 ?_
      refine V_rVi (pc := 116) o (cX6_at_met _ _ _ cI ht _ _ 72 T.2.1 (by decide) _) 3 2 gX7_take_X6_at rfl hdX6_at (by decide) rfl rfl rfl (Nat.le_of_ble_eq_true rfl) dX7_take_116 rfl ?_
      refine V_aload_n (pc := 119) o dX7_take_119 rfl ?_
      refine V_iload (pc := 120) o dX7_take_120 rfl ?_
      refine V_iload_n (pc := 122) o dX7_take_122 rfl ?_
      refine V_iload (pc := 123) o dX7_take_123 rfl ?_
      refine V_rVi (pc := 125) o (cX3_neededVersions_met _ _ _ cI ht ad2 P0 P1 P2 P3 P4 P5 pa v (nI j)) 5 13 gX7_take_X3_neededVersions rfl hdX3_neededVersions (by decide) rfl rfl rfl (Nat.le_of_ble_eq_true rfl) dX7_take_125 rfl ?_
      refine V_iand (pc := 128) o dX7_take_128 ?_
      refine V_istore (pc := 129) o dX7_take_129 (by rw [hn]; decide) ?_
      refine V_iload (pc := 131) o dX7_take_131 rfl ?_
      refine V_if_ne (pc := 133) o 138 dX7_take_133 (by decide) (fun c133 => ?_) (fun c133 => ?_)
      · refine V_aload_n (pc := 138) o dX7_take_138 rfl ?_
        refine V_get (pc := 139) o 0 1 hiX7_take_X7 rfl rfl (by decide) lkX7_take_20 rfl rfl dX7_take_139 ?_
        refine V_iload (pc := 142) o dX7_take_142 rfl ?_
        refine V_iload (pc := 144) o dX7_take_144 rfl ?_
        refine V_iadd (pc := 146) o dX7_take_146 ?_
        refine V_iload (pc := 147) o dX7_take_147 rfl ?_
        refine V_wVv (pc := 149) o (cX6_put_met _ _ _ cI ht _ _ 72 T.2.1 (by decide) _ _) 3 2 (wSP cI ad ad2 T.1 (rup 72 T.2.1 (nx + (rat 96 P4 (plc pa v * 4 + (nI j)))) ((rat 72 T.2.1 (nx + (rat 96 P4 (plc pa v * 4 + (nI j))))) &&& (rat 96 P5 (plc pa v * 4 + (nI j))))) T.2.2 oc P0 P1 P2 P3 P4 P5) gX7_take_X6_put rfl hdX6_put (by decide) rfl rfl rfl (Nat.le_of_ble_eq_true rfl) dX7_take_149 rfl rfl ?_
        refine V_aload_n (pc := 152) o dX7_take_152 rfl ?_
        refine V_iload (pc := 153) o dX7_take_153 rfl ?_
        refine V_wVv (pc := 155) o (cX7_await_met _ _ _ cI ht ad T.1 (rup 72 T.2.1 (nx + (rat 96 P4 (plc pa v * 4 + (nI j)))) ((rat 72 T.2.1 (nx + (rat 96 P4 (plc pa v * 4 + (nI j))))) &&& (rat 96 P5 (plc pa v * 4 + (nI j))))) T.2.2 oc (rat 96 P4 (plc pa v * 4 + (nI j)))) 0 5 (wSP cI ad ad2 (awO T.1 T.2.2 (rat 96 P4 (plc pa v * 4 + (nI j)))) (rup 72 T.2.1 (nx + (rat 96 P4 (plc pa v * 4 + (nI j)))) ((rat 72 T.2.1 (nx + (rat 96 P4 (plc pa v * 4 + (nI j))))) &&& (rat 96 P5 (plc pa v * 4 + (nI j))))) (awn T.1 T.2.2 (rat 96 P4 (plc pa v * 4 + (nI j)))) oc P0 P1 P2 P3 P4 P5) gX7_take_X7_await rfl hdX7_await (by decide) rfl rfl rfl (Nat.le_of_ble_eq_true rfl) dX7_take_155 rfl rfl ?_
        refine V_iinc (pc := 158) o 1 dX7_take_158 (by rw [hn]; decide) rfl (by decide) ?_
        refine V_goto (pc := 161) o 89 dX7_take_161 (by decide) ?_
        refine V_sub (lc2 := [(0, .ref (ad 0)), (1, .ref (ad2 0)), (2, .int d), (3, .int v), (4, .int pa), (5, .int nx), (6, .int cn), (7, .int (nI (j + 1)))]) ⟨rfl, rfl, rfl, rfl, rfl, rfl, rfl, lc_e (nI_1 j), trivial⟩ ?_
        exact ih (j + 1) (tkS P4 P5 pa v nx T (nI j)) (by omega) (fun pc lc x dg hb e => by have q := fin pc lc x dg hb; rw [tkR, if_neg (show ¬ tkL P4 P5 pa v nx T.2.1 (nI j) = 0 from c133)] at q; exact q e)
      · refine V_iconst (pc := 136) o 0 dX7_take_136 (by decide) ?_
        rw [show tkR P4 P5 pa v nx (n + 1) j T = (0, T) from by rw [tkR, if_pos (show tkL P4 P5 pa v nx T.2.1 (nI j) = 0 from by first | exact c133 | exact Decidable.not_not.mp c133)]] at fin
        exact fin 137 _ _ dX7_take_137 rfl rfl
theorem hdX7_take : yX7_take.cls = RX7 ∧ yX7_take.cls ≠ "java/lang/invoke/MethodHandle" ∧ yX7_take.cls ≠ "java/lang/invoke/VarHandle" ∧ (parseMethodDescriptor yX7_take.desc).map (fun d => d.parameters.length) = some 3 := by decide +kernel
theorem lkX7_take_14 : Cond.fieldLink RX7 14 RX7 "order" "LApprovalyard$Row;" ∈ wsX7_take := by decide +kernel
set_option maxHeartbeats 4000000 in
set_option maxRecDepth 100000 in
theorem cX7_take_met (l : Launch) (D : va_G) (tys : List (ClassId × FieldType)) (cI : ClassId) (ht : tys[0]? = some (cI, .int)) (ad ad2 : Nat → Nat) (O0 O1 : Nat → Int32) (on oc : Int32) (P0 P1 P2 P3 P4 P5 : Nat → Int32) (d v : Int32) : CId l yX7_take wsX7_take 3 D tys [.ref (ad 0), .ref (ad2 0), .int d, .int v] (wSP cI ad ad2 O0 O1 on oc P0 P1 P2 P3 P4 P5) (tkF P3 P4 P5 d v (O0, O1, on)).1 (wSP cI ad ad2 (tkF P3 P4 P5 d v (O0, O1, on)).2.1 (tkF P3 P4 P5 d v (O0, O1, on)).2.2.1 (tkF P3 P4 P5 d v (O0, O1, on)).2.2.2 oc P0 P1 P2 P3 P4 P5) := by
  refine CI_of (maxL := 10) (cc := cX7_take) (y := yX7_take) rfl rfl (Nat.le_of_ble_eq_true rfl) (fun X hl hD hk hn hcz hsz o fin => ?_)
  subst hl; subst hD; subst hk
  refine V_aload_n (pc := 0) o dX7_take_0 rfl ?_
  refine V_get (pc := 1) o 0 0 hiX7_take_X7 rfl rfl (by decide) lkX7_take_14 rfl rfl dX7_take_1 ?_
  refine V_iload_n (pc := 4) o dX7_take_4 rfl ?_
  refine V_rVi (pc := 5) o (cX6_at_met _ _ _ cI ht _ _ 8 O0 (by decide) _) 1 2 gX7_take_X6_at rfl hdX6_at (by decide) rfl rfl rfl (Nat.le_of_ble_eq_true rfl) dX7_take_5 rfl ?_
  refine V_istore (pc := 8) o dX7_take_8 (by rw [hn]; decide) ?_
  refine V_iload_n (pc := 10) o dX7_take_10 rfl ?_
  refine V_iconst (pc := 11) o 1 dX7_take_11 (by decide) ?_
  refine V_iadd (pc := 12) o dX7_take_12 ?_
  refine V_bipush (pc := 13) o 8 dX7_take_13 (by decide) ?_
  refine V_imul (pc := 15) o dX7_take_15 ?_
  refine V_istore (pc := 16) o dX7_take_16 (by rw [hn]; decide) ?_
  refine V_iconst (pc := 18) o 0 dX7_take_18 (by decide) ?_
  refine V_istore (pc := 19) o dX7_take_19 (by rw [hn]; decide) ?_
  refine V_sub (lc2 := [(0, .ref (ad 0)), (1, .ref (ad2 0)), (2, .int d), (3, .int v), (4, .int (rat 8 O0 d)), (5, .int ((d + 1) * 8)), (6, .int (nI 0))]) ⟨rfl, rfl, rfl, rfl, rfl, rfl, rfl, trivial⟩ ?_
  refine lp1X7_take o hn cI ht ad ad2 P0 P1 P2 P3 P4 P5 O0 O1 on oc d v (rat 8 O0 d) ?_ 9 0 (by omega) (by omega)
  refine V_aload_n (pc := 60) o dX7_take_60 rfl ?_
  refine V_get (pc := 61) o 0 1 hiX7_take_X7 rfl rfl (by decide) lkX7_take_20 rfl rfl dX7_take_61 ?_
  refine V_iload (pc := 64) o dX7_take_64 rfl ?_
  refine V_iload (pc := 66) o dX7_take_66 rfl ?_
  refine V_iadd (pc := 68) o dX7_take_68 ?_
  refine V_iload_n (pc := 69) o dX7_take_69 rfl ?_
  refine V_iload_n (pc := 70) o dX7_take_70 rfl ?_
  refine V_rSi (pc := 71) o (cX3_versionSet_met _ _ _ v v) 0 0 gX7_take_X3_versionSet rfl hdX3_versionSet (by decide) rfl (Nat.le_of_ble_eq_true rfl) dX7_take_71 rfl ?_
  refine V_wVv (pc := 74) o (cX6_put_met _ _ _ cI ht _ _ 72 (tkC O1 d 8) (by decide) _ _) 3 2 (wSP cI ad ad2 O0 (rup 72 (tkC O1 d 8) (((d + 1) * 8) + (rat 8 O0 d)) (vset v v)) on oc P0 P1 P2 P3 P4 P5) gX7_take_X6_put rfl hdX6_put (by decide) rfl rfl rfl (Nat.le_of_ble_eq_true rfl) dX7_take_74 rfl rfl ?_
  refine V_aload_n (pc := 77) o dX7_take_77 rfl ?_
  refine V_iload (pc := 78) o dX7_take_78 rfl ?_
  refine V_iload_n (pc := 80) o dX7_take_80 rfl ?_
  refine V_rVi (pc := 81) o (cX3_needsOf_met _ _ _ cI ht ad2 P0 P1 P2 P3 P4 P5 (rat 8 O0 d) v) 5 13 gX7_take_X3_needsOf rfl hdX3_needsOf (by decide) rfl rfl rfl (Nat.le_of_ble_eq_true rfl) dX7_take_81 rfl ?_
  refine V_istore (pc := 84) o dX7_take_84 (by rw [hn]; decide) ?_
  refine V_iconst (pc := 86) o 0 dX7_take_86 (by decide) ?_
  refine V_istore (pc := 87) o dX7_take_87 (by rw [hn]; decide) ?_
  refine V_sub (lc2 := [(0, .ref (ad 0)), (1, .ref (ad2 0)), (2, .int d), (3, .int v), (4, .int (rat 8 O0 d)), (5, .int ((d + 1) * 8)), (6, .int (rat 24 P3 (plc (rat 8 O0 d) v))), (7, .int (nI 0))]) ⟨rfl, rfl, rfl, rfl, rfl, rfl, rfl, rfl, trivial⟩ ?_
  exact lp2X7_take o hn cI ht ad ad2 P0 P1 P2 P3 P4 P5 oc d v (rat 8 O0 d) ((d + 1) * 8) (rat 24 P3 (plc (rat 8 O0 d) v)) _ 0 (O0, rup 72 (tkC O1 d 8) ((d + 1) * 8 + rat 8 O0 d) (vset v v), on) (Nat.zero_add _).symm (fun pc lc x dg hb e => fin pc lc x () dg hb e)
