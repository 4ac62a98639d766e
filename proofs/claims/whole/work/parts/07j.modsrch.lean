/-! The reference: forget, comes, search. -/
def fgP (pl : Nat → Int32) (m : Nat) : Nat → Nat → Int32
  | 0 => pl
  | j + 1 => va_up (fgP pl m j) j (if nI m ≤ fgP pl m j j then -1 else fgP pl m j j)
abbrev C3 : Type := (Nat → Int32) × (Nat → Nat) × Nat
def cmS (ne : Nat → Nat) (x : Nat) (T : C3) (j : Nat) : C3 := if T.1 (ne (12 * x + 3 * j)) < 0 then (va_up T.1 (ne (12 * x + 3 * j)) (nI T.2.2), va_up T.2.1 T.2.2 (ne (12 * x + 3 * j)), T.2.2 + 1) else T
def cmT (ne : Nat → Nat) (x : Nat) (T : C3) : Nat → C3
  | 0 => T
  | j + 1 => cmS ne x (cmT ne x T j) j
def ipP (pl : Nat → Int32) : Nat → Nat → Int32
  | 0 => pl
  | j + 1 => va_up (ipP pl j) j (-1)
def fdV (go : Nat → Bool) (least : Nat) : Nat → Nat
  | 0 => 0
  | v + 1 => if v + 1 < least then v + 1 else if go (v + 1) = true then v + 1 else fdV go least v
theorem hiX9_forget : ∀ w ∈ wsX90, w ∈ wsX9_forget := by decide +kernel
theorem lkX9_forget_67 : Cond.fieldLink RX9 67 RX9 "place" "[I" ∈ wsX9_forget := by decide +kernel
set_option maxHeartbeats 4000000 in
set_option maxRecDepth 100000 in
theorem lpX9_forget {X : XT} (o : OkX X cX9_forget RX9 wsX9_forget 0) (hn : XN X = 3) (cI : ClassId) (ht : (XK X)[0]? = some (cI, .int)) (ad : Nat → Nat) (vc : Nat → Nat) (vr : Nat → Nat) (vn : Nat → Nat) (ne : Nat → Nat) (vs : Nat → Nat) (li : Nat → Nat) (ba : Nat → Nat) (de : Nat → Nat) (qp : Nat → Nat) (qt : Nat → Nat) (ql : Nat → Nat) (qs : Nat → Nat) (qc : Nat → Nat) (ch : Nat → Nat) (ap : Nat → Nat) (un : Nat → Int32) (ro : Nat → Nat) (pi : Nat → Nat) (si : Nat → Nat) (pl : Nat → Int32) (rq : Nat) (dy : Nat) (en : Nat) (th : Int32) (b : Nat) (kk : V X 0 0 (wMod cI ad vc vr vn ne vs li ba de qp qt ql qs qc ch ap un ro pi si (fgP pl b 8) rq dy en th) 40 [(0, .ref (ad 0)), (1, .int (nI b)), (2, .int (nI 8))] []) : ∀ (m j : Nat), 8 - j < m → j ≤ 8 → V X 0 0 (wMod cI ad vc vr vn ne vs li ba de qp qt ql qs qc ch ap un ro pi si (fgP pl b j) rq dy en th) 2 [(0, .ref (ad 0)), (1, .int (nI b)), (2, .int (nI j))] [] := by
  intro m
  induction m with
  | zero => intro j h1; exact absurd h1 (Nat.not_lt_zero _)
  | succ m ih =>
    intro j h1 h2
    refine V_iload_n (pc := 2) o dX9_forget_2 rfl ?_
    refine V_bipush (pc := 3) o 8 dX9_forget_3 (by decide) ?_
    refine V_icmp_geN (pc := 5) o 40 j 8 rfl rfl (by omega) (by omega) dX9_forget_5 (by decide) (fun c5 => ?_) (fun c5 => ?_)
    · have e1 : j = 8 := by omega
      rw [e1]
      exact V_sub (lc2 := [(0, .ref (ad 0)), (1, .int (nI b)), (2, .int (nI 8))]) ⟨rfl, rfl, rfl, trivial⟩ kk
    · refine V_aload_n (pc := 8) o dX9_forget_8 rfl ?_
      refine V_get (pc := 9) o 0 22 hiX9_forget rfl rfl (by decide) lkX9_forget_67 rfl rfl dX9_forget_9 ?_
      refine V_iload_n (pc := 12) o dX9_forget_12 rfl ?_
      refine V_aload_n (pc := 13) o dX9_forget_13 rfl ?_
      refine V_get (pc := 14) o 0 22 hiX9_forget rfl rfl (by decide) lkX9_forget_67 rfl rfl dX9_forget_14 ?_
      refine V_iload_n (pc := 17) o dX9_forget_17 rfl ?_
      refine V_ialdI (pc := 18) o 20 (fgP pl b j) j rfl ht rfl (by omega) (by decide) dX9_forget_18 ?_
      refine V_iload_n (pc := 19) o dX9_forget_19 rfl ?_
      refine V_icmp_lt (pc := 20) o 27 dX9_forget_20 (by decide) (fun c20 => ?_) (fun c20 => ?_)
      · refine V_aload_n (pc := 27) o dX9_forget_27 rfl ?_
        refine V_get (pc := 28) o 0 22 hiX9_forget rfl rfl (by decide) lkX9_forget_67 rfl rfl dX9_forget_28 ?_
        refine V_iload_n (pc := 31) o dX9_forget_31 rfl ?_
        refine V_ialdI (pc := 32) o 20 (fgP pl b j) j rfl ht rfl (by omega) (by decide) dX9_forget_32 ?_
        refine V_iastI (pc := 33) o 20 (fgP pl b j) j rfl ht rfl (by omega) (by decide) dX9_forget_33 ?_
        refine V_eq (ws2 := wMod cI ad vc vr vn ne vs li ba de qp qt ql qs qc ch ap un ro pi si (va_up (fgP pl b j) j ((fgP pl b j) j)) rq dy en th) rfl rfl ?_
        refine V_iincN (pc := 34) o j 1 rfl dX9_forget_34 (by rw [hn]; decide) rfl (by decide) ?_
        refine V_goto (pc := 37) o 2 dX9_forget_37 (by decide) ?_
        refine V_eq (ws2 := wMod cI ad vc vr vn ne vs li ba de qp qt ql qs qc ch ap un ro pi si (fgP pl b (j + 1)) rq dy en th) (by first | (rw [fgP, if_neg (Int32.not_le.mpr (by assumption))]; done) | (rw [fgP, if_pos (i_nlt (by assumption))]; done)) rfl ?_
        refine V_sub (lc2 := [(0, .ref (ad 0)), (1, .int (nI b)), (2, .int (nI ((j + 1))))]) ⟨rfl, rfl, lc_e (by rfl), trivial⟩ ?_
        exact ih (j + 1) (by omega) (by omega)
      · refine V_iconst (pc := 23) o (-1) dX9_forget_23 (by decide) ?_
        refine V_goto (pc := 24) o 33 dX9_forget_24 (by decide) ?_
        refine V_iastI (pc := 33) o 20 (fgP pl b j) j rfl ht rfl (by omega) (by decide) dX9_forget_33 ?_
        refine V_eq (ws2 := wMod cI ad vc vr vn ne vs li ba de qp qt ql qs qc ch ap un ro pi si (va_up (fgP pl b j) j ((-1))) rq dy en th) rfl rfl ?_
        refine V_iincN (pc := 34) o j 1 rfl dX9_forget_34 (by rw [hn]; decide) rfl (by decide) ?_
        refine V_goto (pc := 37) o 2 dX9_forget_37 (by decide) ?_
        refine V_eq (ws2 := wMod cI ad vc vr vn ne vs li ba de qp qt ql qs qc ch ap un ro pi si (fgP pl b (j + 1)) rq dy en th) (by first | (rw [fgP, if_neg (Int32.not_le.mpr (by assumption))]; done) | (rw [fgP, if_pos (i_nlt (by assumption))]; done)) rfl ?_
        refine V_sub (lc2 := [(0, .ref (ad 0)), (1, .int (nI b)), (2, .int (nI ((j + 1))))]) ⟨rfl, rfl, lc_e (by rfl), trivial⟩ ?_
        exact ih (j + 1) (by omega) (by omega)
theorem hdX9_forget : yX9_forget.cls = RX9 ∧ yX9_forget.cls ≠ "java/lang/invoke/MethodHandle" ∧ yX9_forget.cls ≠ "java/lang/invoke/VarHandle" ∧ (parseMethodDescriptor yX9_forget.desc).map (fun d => d.parameters.length) = some 1 := by decide +kernel
set_option maxHeartbeats 4000000 in
set_option maxRecDepth 100000 in
/-- reference: forget -/
theorem k9_forget (l : Launch) (D : va_G) (tys : List (ClassId × FieldType)) (cI : ClassId) (ht : tys[0]? = some (cI, .int)) (ad : Nat → Nat) (vc : Nat → Nat) (vr : Nat → Nat) (vn : Nat → Nat) (ne : Nat → Nat) (vs : Nat → Nat) (li : Nat → Nat) (ba : Nat → Nat) (de : Nat → Nat) (qp : Nat → Nat) (qt : Nat → Nat) (ql : Nat → Nat) (qs : Nat → Nat) (qc : Nat → Nat) (ch : Nat → Nat) (ap : Nat → Nat) (un : Nat → Int32) (ro : Nat → Nat) (pi : Nat → Nat) (si : Nat → Nat) (pl : Nat → Int32) (rq : Nat) (dy : Nat) (en : Nat) (th : Int32) (b : Nat) : CVd l yX9_forget wsX9_forget 0 D tys [.ref (ad 0), .int (nI b)] (wMod cI ad vc vr vn ne vs li ba de qp qt ql qs qc ch ap un ro pi si pl rq dy en th) (wMod cI ad vc vr vn ne vs li ba de qp qt ql qs qc ch ap un ro pi si (fgP pl b 8) rq dy en th) := by
  refine CV_of (maxL := 3) (cc := cX9_forget) (y := yX9_forget) rfl rfl (Nat.le_of_ble_eq_true rfl) (fun X hl hD hk hn hcz hsz o fin => ?_)
  subst hl; subst hD; subst hk
  refine V_iconst (pc := 0) o 0 dX9_forget_0 (by decide) ?_
  refine V_istore_n (pc := 1) o dX9_forget_1 (by rw [hn]; decide) ?_
  refine V_eq (ws2 := wMod cI ad vc vr vn ne vs li ba de qp qt ql qs qc ch ap un ro pi si (fgP pl b 0) rq dy en th) rfl rfl ?_
  exact V_sub (lc2 := [(0, .ref (ad 0)), (1, .int (nI b)), (2, .int (nI 0))]) ⟨rfl, rfl, rfl, trivial⟩ (lpX9_forget o hn cI ht ad vc vr vn ne vs li ba de qp qt ql qs qc ch ap un ro pi si pl rq dy en th b (fin 40 _ () dX9_forget_40 trivial) 9 0 (by omega) (by omega))
theorem hiX9_comes : ∀ w ∈ wsX90, w ∈ wsX9_comes := by decide +kernel
theorem lkX9_comes_16 : Cond.fieldLink RX9 16 RX9 "vn" "[I" ∈ wsX9_comes := by decide +kernel
theorem lkX9_comes_19 : Cond.fieldLink RX9 19 RX9 "needs" "[I" ∈ wsX9_comes := by decide +kernel
theorem lkX9_comes_67 : Cond.fieldLink RX9 67 RX9 "place" "[I" ∈ wsX9_comes := by decide +kernel
theorem lkX9_comes_58 : Cond.fieldLink RX9 58 RX9 "row" "[I" ∈ wsX9_comes := by decide +kernel
set_option maxHeartbeats 4000000 in
set_option maxRecDepth 100000 in
theorem lpX9_comes {X : XT} (o : OkX X cX9_comes RX9 wsX9_comes 0) (hn : XN X = 7) (cI : ClassId) (ht : (XK X)[0]? = some (cI, .int)) (ad : Nat → Nat) (vc : Nat → Nat) (vr : Nat → Nat) (vn : Nat → Nat) (ne : Nat → Nat) (vs : Nat → Nat) (li : Nat → Nat) (ba : Nat → Nat) (de : Nat → Nat) (qp : Nat → Nat) (qt : Nat → Nat) (ql : Nat → Nat) (qs : Nat → Nat) (qc : Nat → Nat) (ch : Nat → Nat) (ap : Nat → Nat) (un : Nat → Int32) (ro : Nat → Nat) (pi : Nat → Nat) (si : Nat → Nat) (pl : Nat → Int32) (rq : Nat) (dy : Nat) (en : Nat) (th : Int32) (a b x : Nat) (hx : x < 24) (hvn : ∀ k, vn k ≤ 4) (hne : ∀ k, ne k ≤ 7) (hal : ∀ j, j ≤ vn x → (cmT ne x (pl, ro, b) j).2.2 ≤ 8) (kk : V X 0 0 (wMod cI ad vc vr vn ne vs li ba de qp qt ql qs qc ch ap un ((cmT ne x (pl, ro, b) (vn x)).2.1) pi si ((cmT ne x (pl, ro, b) (vn x)).1) rq dy en th) 88 [(0, .ref (ad 0)), (1, .int (nI a)), (2, .int (nI b)), (3, .int (nI ((cmT ne x (pl, ro, b) (vn x)).2.2))), (4, .int (nI x)), (5, .int (nI ((vn x))))] []) : ∀ (m j : Nat), (vn x) - j < m → j ≤ (vn x) → V X 0 0 (wMod cI ad vc vr vn ne vs li ba de qp qt ql qs qc ch ap un ((cmT ne x (pl, ro, b) j).2.1) pi si ((cmT ne x (pl, ro, b) j).1) rq dy en th) 24 [(0, .ref (ad 0)), (1, .int (nI a)), (2, .int (nI b)), (3, .int (nI ((cmT ne x (pl, ro, b) j).2.2))), (4, .int (nI x)), (5, .int (nI j))] [] := by
  intro m
  induction m with
  | zero => intro j h1; exact absurd h1 (Nat.not_lt_zero _)
  | succ m ih =>
    intro j h1 h2
    refine V_iload (pc := 24) o dX9_comes_24 rfl ?_
    refine V_aload_n (pc := 26) o dX9_comes_26 rfl ?_
    refine V_get (pc := 27) o 0 2 hiX9_comes rfl rfl (by decide) lkX9_comes_16 rfl rfl dX9_comes_27 ?_
    refine V_iload (pc := 30) o dX9_comes_30 rfl ?_
    refine V_ialdN (pc := 32) o 3 vn x rfl ht rfl (by have := hvn x; have := hne (12 * x + 3 * j); have := hal j (by omega); omega) (by decide) dX9_comes_32 ?_
    refine V_icmp_geN (pc := 33) o 88 j (vn x) rfl rfl (by have := hvn x; omega) (by have := hvn x; omega) dX9_comes_33 (by decide) (fun c33 => ?_) (fun c33 => ?_)
    · have e1 : j = (vn x) := by omega
      rw [e1]
      exact V_sub (lc2 := [(0, .ref (ad 0)), (1, .int (nI a)), (2, .int (nI b)), (3, .int (nI ((cmT ne x (pl, ro, b) (vn x)).2.2))), (4, .int (nI x)), (5, .int (nI ((vn x))))]) ⟨rfl, rfl, rfl, rfl, rfl, rfl, trivial⟩ kk
    · refine V_aload_n (pc := 36) o dX9_comes_36 rfl ?_
      refine V_get (pc := 37) o 0 3 hiX9_comes rfl rfl (by decide) lkX9_comes_19 rfl rfl dX9_comes_37 ?_
      refine V_bipush (pc := 40) o 12 dX9_comes_40 (by decide) ?_
      refine V_iload (pc := 42) o dX9_comes_42 rfl ?_
      refine V_imulN (pc := 44) o 12 x rfl rfl dX9_comes_44 ?_
      refine V_iconst (pc := 45) o 3 dX9_comes_45 (by decide) ?_
      refine V_iload (pc := 46) o dX9_comes_46 rfl ?_
      refine V_imulN (pc := 48) o 3 j rfl rfl dX9_comes_48 ?_
      refine V_iaddN (pc := 49) o (12 * x) (3 * j) rfl rfl dX9_comes_49 ?_
      refine V_ialdN (pc := 50) o 4 ne ((12 * x) + (3 * j)) rfl ht rfl (by have := hvn x; have := hne (12 * x + 3 * j); have := hal j (by omega); omega) (by decide) dX9_comes_50 ?_
      refine V_istore (pc := 51) o dX9_comes_51 (by rw [hn]; decide) ?_
      refine V_aload_n (pc := 53) o dX9_comes_53 rfl ?_
      refine V_get (pc := 54) o 0 22 hiX9_comes rfl rfl (by decide) lkX9_comes_67 rfl rfl dX9_comes_54 ?_
      refine V_iload (pc := 57) o dX9_comes_57 rfl ?_
      refine V_ialdI (pc := 59) o 20 ((cmT ne x (pl, ro, b) j).1) (ne ((12 * x) + (3 * j))) rfl ht rfl (by have := hvn x; have := hne (12 * x + 3 * j); have := hal j (by omega); omega) (by decide) dX9_comes_59 ?_
      refine V_if_ge (pc := 60) o 82 dX9_comes_60 (by decide) (fun c60 => ?_) (fun c60 => ?_)
      · refine V_iincN (pc := 82) o j 1 rfl dX9_comes_82 (by rw [hn]; decide) rfl (by decide) ?_
        refine V_goto (pc := 85) o 24 dX9_comes_85 (by decide) ?_
        refine V_eq (ws2 := wMod cI ad vc vr vn ne vs li ba de qp qt ql qs qc ch ap un ((cmT ne x (pl, ro, b) (j + 1)).2.1) pi si ((cmT ne x (pl, ro, b) (j + 1)).1) rq dy en th) (by first | (rw [cmT, cmS, if_pos (i_nle (by assumption))]; done) | (rw [cmT, cmS, if_neg (Int32.not_lt.mpr (by assumption))]; done)) rfl ?_
        refine V_sub (lc2 := [(0, .ref (ad 0)), (1, .int (nI a)), (2, .int (nI b)), (3, .int (nI ((cmT ne x (pl, ro, b) (j + 1)).2.2))), (4, .int (nI x)), (5, .int (nI ((j + 1))))]) ⟨rfl, rfl, rfl, lc_e (by first | (rw [cmT, cmS, if_pos (i_nle (by assumption))]; done) | (rw [cmT, cmS, if_neg (Int32.not_lt.mpr (by assumption))]; done)), rfl, lc_e (by rfl), trivial⟩ ?_
        exact ih (j + 1) (by omega) (by omega)
      · refine V_aload_n (pc := 63) o dX9_comes_63 rfl ?_
        refine V_get (pc := 64) o 0 22 hiX9_comes rfl rfl (by decide) lkX9_comes_67 rfl rfl dX9_comes_64 ?_
        refine V_iload (pc := 67) o dX9_comes_67 rfl ?_
        refine V_iload_n (pc := 69) o dX9_comes_69 rfl ?_
        refine V_iastI (pc := 70) o 20 ((cmT ne x (pl, ro, b) j).1) (ne ((12 * x) + (3 * j))) rfl ht rfl (by have := hvn x; have := hne (12 * x + 3 * j); have := hal j (by omega); omega) (by decide) dX9_comes_70 ?_
        refine V_eq (ws2 := wMod cI ad vc vr vn ne vs li ba de qp qt ql qs qc ch ap un ((cmT ne x (pl, ro, b) j).2.1) pi si (va_up ((cmT ne x (pl, ro, b) j).1) (ne ((12 * x) + (3 * j))) (nI ((cmT ne x (pl, ro, b) j).2.2))) rq dy en th) rfl rfl ?_
        refine V_aload_n (pc := 71) o dX9_comes_71 rfl ?_
        refine V_get (pc := 72) o 0 19 hiX9_comes rfl rfl (by decide) lkX9_comes_58 rfl rfl dX9_comes_72 ?_
        refine V_iload_n (pc := 75) o dX9_comes_75 rfl ?_
        refine V_iload (pc := 76) o dX9_comes_76 rfl ?_
        refine V_iastN (pc := 78) o 17 ((cmT ne x (pl, ro, b) j).2.1) ((cmT ne x (pl, ro, b) j).2.2) (ne ((12 * x) + (3 * j))) rfl ht rfl rfl (by have := hvn x; have := hne (12 * x + 3 * j); have := hal j (by omega); omega) (by decide) dX9_comes_78 ?_
        refine V_eq (ws2 := wMod cI ad vc vr vn ne vs li ba de qp qt ql qs qc ch ap un (va_up ((cmT ne x (pl, ro, b) j).2.1) ((cmT ne x (pl, ro, b) j).2.2) (ne ((12 * x) + (3 * j)))) pi si (va_up ((cmT ne x (pl, ro, b) j).1) (ne ((12 * x) + (3 * j))) (nI ((cmT ne x (pl, ro, b) j).2.2))) rq dy en th) rfl rfl ?_
        refine V_iincN (pc := 79) o ((cmT ne x (pl, ro, b) j).2.2) 1 rfl dX9_comes_79 (by rw [hn]; decide) rfl (by decide) ?_
        refine V_iincN (pc := 82) o j 1 rfl dX9_comes_82 (by rw [hn]; decide) rfl (by decide) ?_
        refine V_goto (pc := 85) o 24 dX9_comes_85 (by decide) ?_
        refine V_eq (ws2 := wMod cI ad vc vr vn ne vs li ba de qp qt ql qs qc ch ap un ((cmT ne x (pl, ro, b) (j + 1)).2.1) pi si ((cmT ne x (pl, ro, b) (j + 1)).1) rq dy en th) (by first | (rw [cmT, cmS, if_pos (i_nle (by assumption))]; done) | (rw [cmT, cmS, if_neg (Int32.not_lt.mpr (by assumption))]; done)) rfl ?_
        refine V_sub (lc2 := [(0, .ref (ad 0)), (1, .int (nI a)), (2, .int (nI b)), (3, .int (nI ((cmT ne x (pl, ro, b) (j + 1)).2.2))), (4, .int (nI x)), (5, .int (nI ((j + 1))))]) ⟨rfl, rfl, rfl, lc_e (by first | (rw [cmT, cmS, if_pos (i_nle (by assumption))]; done) | (rw [cmT, cmS, if_neg (Int32.not_lt.mpr (by assumption))]; done)), rfl, lc_e (by rfl), trivial⟩ ?_
        exact ih (j + 1) (by omega) (by omega)
theorem hdX9_comes : yX9_comes.cls = RX9 ∧ yX9_comes.cls ≠ "java/lang/invoke/MethodHandle" ∧ yX9_comes.cls ≠ "java/lang/invoke/VarHandle" ∧ (parseMethodDescriptor yX9_comes.desc).map (fun d => d.parameters.length) = some 2 := by decide +kernel
theorem lkX9_comes_61 : Cond.fieldLink RX9 61 RX9 "pick" "[I" ∈ wsX9_comes := by decide +kernel
set_option maxHeartbeats 4000000 in
set_option maxRecDepth 100000 in
/-- reference: comes -/
theorem k9_comes (l : Launch) (D : va_G) (tys : List (ClassId × FieldType)) (cI : ClassId) (ht : tys[0]? = some (cI, .int)) (ad : Nat → Nat) (vc : Nat → Nat) (vr : Nat → Nat) (vn : Nat → Nat) (ne : Nat → Nat) (vs : Nat → Nat) (li : Nat → Nat) (ba : Nat → Nat) (de : Nat → Nat) (qp : Nat → Nat) (qt : Nat → Nat) (ql : Nat → Nat) (qs : Nat → Nat) (qc : Nat → Nat) (ch : Nat → Nat) (ap : Nat → Nat) (un : Nat → Int32) (ro : Nat → Nat) (pi : Nat → Nat) (si : Nat → Nat) (pl : Nat → Int32) (rq : Nat) (dy : Nat) (en : Nat) (th : Int32) (a b : Nat) (ha : a < 9) (hro : ∀ k, ro k ≤ 7) (hpa : 1 ≤ pi a ∧ pi a ≤ 3) (hvn : ∀ k, vn k ≤ 4) (hne : ∀ k, ne k ≤ 7) (hal : ∀ j, j ≤ vn (gx ro pi a) → (cmT ne (gx ro pi a) (pl, ro, b) j).2.2 ≤ 8) : CId l yX9_comes wsX9_comes 0 D tys [.ref (ad 0), .int (nI a), .int (nI b)] (wMod cI ad vc vr vn ne vs li ba de qp qt ql qs qc ch ap un ro pi si pl rq dy en th) (nI (cmT ne (gx ro pi a) (pl, ro, b) (vn (gx ro pi a))).2.2) (wMod cI ad vc vr vn ne vs li ba de qp qt ql qs qc ch ap un ((cmT ne (gx ro pi a) (pl, ro, b) (vn (gx ro pi a))).2.1) pi si ((cmT ne (gx ro pi a) (pl, ro, b) (vn (gx ro pi a))).1) rq dy en th) := by
  have h77 := hro a
  refine CI_of (maxL := 7) (cc := cX9_comes) (y := yX9_comes) rfl rfl (Nat.le_of_ble_eq_true rfl) (fun X hl hD hk hn hcz hsz o fin => ?_)
  subst hl; subst hD; subst hk
  refine V_iload_n (pc := 0) o dX9_comes_0 rfl ?_
  refine V_istore_n (pc := 1) o dX9_comes_1 (by rw [hn]; decide) ?_
  refine V_iconst (pc := 2) o 3 dX9_comes_2 (by decide) ?_
  refine V_aload_n (pc := 3) o dX9_comes_3 rfl ?_
  refine V_get (pc := 4) o 0 19 hiX9_comes rfl rfl (by decide) lkX9_comes_58 rfl rfl dX9_comes_4 ?_
  refine V_iload_n (pc := 7) o dX9_comes_7 rfl ?_
  refine V_ialdN (pc := 8) o 17 ro a rfl ht rfl (by have := hro a; omega) (by decide) dX9_comes_8 ?_
  refine V_imulN (pc := 9) o 3 (ro a) rfl rfl dX9_comes_9 ?_
  refine V_aload_n (pc := 10) o dX9_comes_10 rfl ?_
  refine V_get (pc := 11) o 0 20 hiX9_comes rfl rfl (by decide) lkX9_comes_61 rfl rfl dX9_comes_11 ?_
  refine V_iload_n (pc := 14) o dX9_comes_14 rfl ?_
  refine V_ialdN (pc := 15) o 18 pi a rfl ht rfl (by have := hro a; omega) (by decide) dX9_comes_15 ?_
  refine V_iaddN (pc := 16) o (3 * (ro a)) (pi a) rfl rfl dX9_comes_16 ?_
  refine V_iconst (pc := 17) o 1 dX9_comes_17 (by decide) ?_
  refine V_isubN (pc := 18) o ((3 * (ro a)) + (pi a)) 1 rfl rfl (by have := hro a; omega) dX9_comes_18 ?_
  refine V_istore (pc := 19) o dX9_comes_19 (by rw [hn]; decide) ?_
  refine V_iconst (pc := 21) o 0 dX9_comes_21 (by decide) ?_
  refine V_istore (pc := 22) o dX9_comes_22 (by rw [hn]; decide) ?_
  refine V_eq (ws2 := wMod cI ad vc vr vn ne vs li ba de qp qt ql qs qc ch ap un ((cmT ne (gx ro pi a) (pl, ro, b) 0).2.1) pi si ((cmT ne (gx ro pi a) (pl, ro, b) 0).1) rq dy en th) rfl rfl ?_
  refine V_sub (lc2 := [(0, .ref (ad 0)), (1, .int (nI a)), (2, .int (nI b)), (3, .int (nI (cmT ne (gx ro pi a) (pl, ro, b) 0).2.2)), (4, .int (nI (gx ro pi a))), (5, .int (nI 0))]) ⟨rfl, rfl, rfl, rfl, rfl, rfl, trivial⟩ ?_
  exact lpX9_comes o hn cI ht ad vc vr vn ne vs li ba de qp qt ql qs qc ch ap un ro pi si pl rq dy en th a b (gx ro pi a) (by unfold gx; omega) hvn hne hal (V_iload_n (pc := 88) o dX9_comes_88 rfl (fin 89 _ _ () dX9_comes_89 rfl rfl)) (vn (gx ro pi a) + 1) 0 (by omega) (by omega)
theorem hiX9_search : ∀ w ∈ wsX90, w ∈ wsX9_search := by decide +kernel
theorem lkX9_search_67 : Cond.fieldLink RX9 67 RX9 "place" "[I" ∈ wsX9_search := by decide +kernel
set_option maxHeartbeats 4000000 in
set_option maxRecDepth 100000 in
theorem lpX9_searchI {X : XT} (o : OkX X cX9_search RX9 wsX9_search 3) (hn : XN X = 6) (cI : ClassId) (ht : (XK X)[0]? = some (cI, .int)) (ad : Nat → Nat) (vc : Nat → Nat) (vr : Nat → Nat) (vn : Nat → Nat) (ne : Nat → Nat) (vs : Nat → Nat) (li : Nat → Nat) (ba : Nat → Nat) (de : Nat → Nat) (qp : Nat → Nat) (qt : Nat → Nat) (ql : Nat → Nat) (qs : Nat → Nat) (qc : Nat → Nat) (ch : Nat → Nat) (ap : Nat → Nat) (un : Nat → Int32) (ro : Nat → Nat) (pi : Nat → Nat) (si : Nat → Nat) (pl : Nat → Int32) (rq : Nat) (dy : Nat) (en : Nat) (th : Int32) (q : Nat) (kk : V X 0 0 (wMod cI ad vc vr vn ne vs li ba de qp qt ql qs qc ch ap un ro pi si (ipP pl 8) rq dy en th) 21 [(0, .ref (ad 0)), (1, .int (nI q)), (2, .int (nI 8))] []) : ∀ (m j : Nat), 8 - j < m → j ≤ 8 → V X 0 0 (wMod cI ad vc vr vn ne vs li ba de qp qt ql qs qc ch ap un ro pi si (ipP pl j) rq dy en th) 2 [(0, .ref (ad 0)), (1, .int (nI q)), (2, .int (nI j))] [] := by
  intro m
  induction m with
  | zero => intro j h1; exact absurd h1 (Nat.not_lt_zero _)
  | succ m ih =>
    intro j h1 h2
    refine V_iload_n (pc := 2) o dX9_search_2 rfl ?_
    refine V_bipush (pc := 3) o 8 dX9_search_3 (by decide) ?_
    refine V_icmp_geN (pc := 5) o 21 j 8 rfl rfl (by omega) (by omega) dX9_search_5 (by decide) (fun c5 => ?_) (fun c5 => ?_)
    · have e1 : j = 8 := by omega
      rw [e1]
      exact V_sub (lc2 := [(0, .ref (ad 0)), (1, .int (nI q)), (2, .int (nI 8))]) ⟨rfl, rfl, rfl, trivial⟩ kk
    · refine V_aload_n (pc := 8) o dX9_search_8 rfl ?_
      refine V_get (pc := 9) o 0 22 hiX9_search rfl rfl (by decide) lkX9_search_67 rfl rfl dX9_search_9 ?_
      refine V_iload_n (pc := 12) o dX9_search_12 rfl ?_
      refine V_iconst (pc := 13) o (-1) dX9_search_13 (by decide) ?_
      refine V_iastI (pc := 14) o 20 (ipP pl j) j rfl ht rfl (by omega) (by decide) dX9_search_14 ?_
      refine V_eq (ws2 := wMod cI ad vc vr vn ne vs li ba de qp qt ql qs qc ch ap un ro pi si (va_up (ipP pl j) j ((-1))) rq dy en th) rfl rfl ?_
      refine V_iincN (pc := 15) o j 1 rfl dX9_search_15 (by rw [hn]; decide) rfl (by decide) ?_
      refine V_goto (pc := 18) o 2 dX9_search_18 (by decide) ?_
      refine V_eq (ws2 := wMod cI ad vc vr vn ne vs li ba de qp qt ql qs qc ch ap un ro pi si (ipP pl (j + 1)) rq dy en th) (by rfl) rfl ?_
      refine V_sub (lc2 := [(0, .ref (ad 0)), (1, .int (nI q)), (2, .int (nI ((j + 1))))]) ⟨rfl, rfl, lc_e (by rfl), trivial⟩ ?_
      exact ih (j + 1) (by omega) (by omega)
set_option maxHeartbeats 4000000 in
set_option maxRecDepth 100000 in
theorem lpX9_searchW {X : XT} (o : OkX X cX9_search RX9 wsX9_search 3) (hn : XN X = 6) (cI : ClassId) (ht : (XK X)[0]? = some (cI, .int)) (ad : Nat → Nat) (vc : Nat → Nat) (vr : Nat → Nat) (vn : Nat → Nat) (ne : Nat → Nat) (vs : Nat → Nat) (li : Nat → Nat) (ba : Nat → Nat) (de : Nat → Nat) (qp : Nat → Nat) (qt : Nat → Nat) (ql : Nat → Nat) (qs : Nat → Nat) (qc : Nat → Nat) (ch : Nat → Nat) (ap : Nat → Nat) (un : Nat → Int32) (ro : Nat → Nat) (pi : Nat → Nat) (si : Nat → Nat) (pl : Nat → Int32) (rq : Nat) (dy : Nat) (en : Nat) (th : Int32) (q a m lo : Nat) (ha : a < 9) (hlo : 1 ≤ lo ∧ lo ≤ 3) (hro : ∀ k, ro k ≤ 7) (hpi : ∀ k, k < a → 1 ≤ pi k ∧ pi k ≤ 3) (hpi4 : ∀ k, pi k ≤ 4) (hvr : ∀ k, vr k ≤ 1) (hvn : ∀ k, vn k ≤ 4) (hne : ∀ k, ne k ≤ 7) : ∀ (v : Nat), v ≤ 3 → V X 0 0 (wMod cI ad vc vr vn ne vs li ba de qp qt ql qs qc ch ap un ro pi si pl rq dy en th) 150 [(0, .ref (ad 0)), (1, .int (nI q)), (2, .int (nI a)), (3, .int (nI m)), (4, .int (nI (fdV (goF vr vn ne ro pi pl a) lo v))), (5, .int (nI lo))] [] → V X 0 0 (wMod cI ad vc vr vn ne vs li ba de qp qt ql qs qc ch ap un ro pi si pl rq dy en th) 127 [(0, .ref (ad 0)), (1, .int (nI q)), (2, .int (nI a)), (3, .int (nI m)), (4, .int (nI v)), (5, .int (nI lo))] [] := by
  intro v
  induction v with
  | zero =>
    intro h1 kk
    refine V_iload (pc := 127) o dX9_search_127 rfl ?_
    refine V_iload (pc := 129) o dX9_search_129 rfl ?_
    refine V_icmp_ltN (pc := 131) o 150 0 lo rfl rfl (by omega) (by omega) dX9_search_131 (by decide) (fun c131 => ?_) (fun c131 => absurd c131 (by omega))
    exact kk
  | succ v ih =>
    intro h1 kk
    refine V_iload (pc := 127) o dX9_search_127 rfl ?_
    refine V_iload (pc := 129) o dX9_search_129 rfl ?_
    refine V_icmp_ltN (pc := 131) o 150 (v + 1) lo rfl rfl (by omega) (by omega) dX9_search_131 (by decide) (fun c131 => ?_) (fun c131 => ?_)
    · first | (rw [fdV, if_pos (by omega)] at kk; exact kk) | (rw [fdV, if_neg (by omega), if_pos (by assumption)] at kk; exact kk)
    · refine V_aload_n (pc := 134) o dX9_search_134 rfl ?_
      refine V_iload_n (pc := 135) o dX9_search_135 rfl ?_
      refine V_iload (pc := 136) o dX9_search_136 rfl ?_
      refine V_rVi (pc := 138) o (k9_goes _ _ _ cI ht ad vc vr vn ne vs li ba de qp qt ql qs qc ch ap un ro pi si pl rq dy en th a (v + 1) ha (by omega) hro hpi hpi4 hvr hvn hne) 0 21 gX9_search_X9_goes rfl hdX9_goes ⟨by omega, by decide⟩ rfl rfl rfl (Nat.le_of_ble_eq_true rfl) dX9_search_138 rfl ?_
      unfold b2i
      refine V_ite (fun b138 => ?_) (fun b138 => ?_)
      · refine V_if_ne (pc := 141) o 150 dX9_search_141 (by decide) (fun _ => ?_) (fun c141 => absurd c141 (by decide))
        first | (rw [fdV, if_pos (by omega)] at kk; exact kk) | (rw [fdV, if_neg (by omega), if_pos (by assumption)] at kk; exact kk)
      · refine V_if_ne (pc := 141) o 150 dX9_search_141 (by decide) (fun c141 => absurd c141 (by decide)) (fun _ => ?_)
        refine V_iinc (pc := 144) o (-1) dX9_search_144 (by rw [hn]; decide) rfl (by decide) ?_
        refine V_goto (pc := 147) o 127 dX9_search_147 (by decide) ?_
        refine V_sub (lc2 := [(0, .ref (ad 0)), (1, .int (nI q)), (2, .int (nI a)), (3, .int (nI m)), (4, .int (nI v)), (5, .int (nI lo))]) ⟨rfl, rfl, rfl, rfl, lc_e (pk_m1 v), rfl, trivial⟩ ?_
        exact ih (by omega) (by rw [fdV, if_neg (by omega), if_neg (by assumption)] at kk; exact kk)
