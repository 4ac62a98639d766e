/-! Row: a row of numbers that tests each index itself -/
def rat (n : Nat) (f : Nat → Int32) (i : Int32) : Int32 := if 0 ≤ i ∧ i < nI n then f i.toNatClampNeg else 0
def rup (n : Nat) (f : Nat → Int32) (i x : Int32) : Nat → Int32 := if 0 ≤ i ∧ i < nI n then upd f i.toNatClampNeg x else f
def rfi (n : Nat) (f : Nat → Int32) (x : Int32) : Nat → Int32 := fun j => if j < n then x else f j
def wRow (cI : ClassId) (h a n : Nat) (f : Nat → Int32) : va_W := [(h, .inr (5, [.ref a])), (a, .inl (cI, n, .inl f))]
theorem i_nlt {a b : Int32} (h : ¬ a < b) : b ≤ a := Int32.not_lt.mp h
theorem i_nle {a b : Int32} (h : ¬ a ≤ b) : b < a := Int32.not_le.mp h
theorem vp_of {i : Int32} {n : Nat} (hn : n < 2 ^ 31) (h0 : ¬ i < 0) (h1 : ¬ nI n ≤ i) : vp_in i n := by
  rintro (h | h)
  · exact h0 h
  · obtain ⟨j, hj, rfl⟩ := nI_of h0
    rw [nI_clamp hj] at h
    exact h1 (nI_le h hj)
theorem hdX6_at : yX6_at.cls = RX6 ∧ yX6_at.cls ≠ "java/lang/invoke/MethodHandle" ∧ yX6_at.cls ≠ "java/lang/invoke/VarHandle" ∧ (parseMethodDescriptor yX6_at.desc).map (fun d => d.parameters.length) = some 1 := by decide +kernel
theorem hdX6_put : yX6_put.cls = RX6 ∧ yX6_put.cls ≠ "java/lang/invoke/MethodHandle" ∧ yX6_put.cls ≠ "java/lang/invoke/VarHandle" ∧ (parseMethodDescriptor yX6_put.desc).map (fun d => d.parameters.length) = some 2 := by decide +kernel
theorem hdX6_fill : yX6_fill.cls = RX6 ∧ yX6_fill.cls ≠ "java/lang/invoke/MethodHandle" ∧ yX6_fill.cls ≠ "java/lang/invoke/VarHandle" ∧ (parseMethodDescriptor yX6_fill.desc).map (fun d => d.parameters.length) = some 1 := by decide +kernel
theorem hiX6_at_X6 : ∀ w ∈ wsX60, w ∈ wsX6_at := by decide +kernel
theorem lkX6_at_7 : Cond.fieldLink RX6 7 RX6 "cells" "[I" ∈ wsX6_at := by decide +kernel
set_option maxHeartbeats 4000000 in
set_option maxRecDepth 100000 in
/-- Row.at -/
theorem cX6_at_met (l : Launch) (D : va_G) (tys : List (ClassId × FieldType)) (cI : ClassId) (ht : tys[0]? = some (cI, .int)) (h a n : Nat) (f : Nat → Int32) (hn0 : n < 2 ^ 31) (i : Int32) : CId l yX6_at wsX6_at 0 D tys [.ref h, .int i] (wRow cI h a n f) (rat n f i) (wRow cI h a n f) := by
  refine CI_of (maxL := 2) (cc := cX6_at) (y := yX6_at) rfl rfl (Nat.le_of_ble_eq_true rfl) (fun X hl hD hk hn hcz hsz o fin => ?_)
  subst hl; subst hD; subst hk
  refine V_iload_n (pc := 0) o dX6_at_0 rfl ?_
  refine V_if_lt (pc := 1) o 22 dX6_at_1 (by decide) (fun c1 => ?_) (fun c1 => ?_)
  · refine V_iconst (pc := 22) o 0 dX6_at_22 (by decide) ?_
    exact fin 23 _ _ () dX6_at_23 rfl (by first | (unfold rat; rw [if_pos ⟨i_nlt c1, i_nle c10⟩]; done) | (unfold rat; rw [if_neg (fun q => Int32.not_le.mpr c1 q.1)]; done) | (unfold rat; rw [if_neg (fun q => Int32.not_le.mpr q.2 c10)]; done))
  · refine V_iload_n (pc := 4) o dX6_at_4 rfl ?_
    refine V_aload_n (pc := 5) o dX6_at_5 rfl ?_
    refine V_get (pc := 6) o 0 0 hiX6_at_X6 rfl rfl (by decide) lkX6_at_7 rfl rfl dX6_at_6 ?_
    refine V_alen (pc := 9) o 1 0 rfl ht rfl dX6_at_9 ?_
    refine V_icmp_ge (pc := 10) o 22 dX6_at_10 (by decide) (fun c10 => ?_) (fun c10 => ?_)
    · refine V_iconst (pc := 22) o 0 dX6_at_22 (by decide) ?_
      exact fin 23 _ _ () dX6_at_23 rfl (by first | (unfold rat; rw [if_pos ⟨i_nlt c1, i_nle c10⟩]; done) | (unfold rat; rw [if_neg (fun q => Int32.not_le.mpr c1 q.1)]; done) | (unfold rat; rw [if_neg (fun q => Int32.not_le.mpr q.2 c10)]; done))
    · refine V_aload_n (pc := 13) o dX6_at_13 rfl ?_
      refine V_get (pc := 14) o 0 0 hiX6_at_X6 rfl rfl (by decide) lkX6_at_7 rfl rfl dX6_at_14 ?_
      refine V_iload_n (pc := 17) o dX6_at_17 rfl ?_
      refine V_iald (pc := 18) o 1 0 rfl ht (vp_of hn0 c1 c10) dX6_at_18 ?_
      refine V_goto (pc := 19) o 23 dX6_at_19 (by decide) ?_
      exact fin 23 _ _ () dX6_at_23 rfl (by first | (unfold rat; rw [if_pos ⟨i_nlt c1, i_nle c10⟩]; done) | (unfold rat; rw [if_neg (fun q => Int32.not_le.mpr c1 q.1)]; done) | (unfold rat; rw [if_neg (fun q => Int32.not_le.mpr q.2 c10)]; done))
theorem hiX6_put_X6 : ∀ w ∈ wsX60, w ∈ wsX6_put := by decide +kernel
theorem lkX6_put_7 : Cond.fieldLink RX6 7 RX6 "cells" "[I" ∈ wsX6_put := by decide +kernel
set_option maxHeartbeats 4000000 in
set_option maxRecDepth 100000 in
/-- Row.put -/
theorem cX6_put_met (l : Launch) (D : va_G) (tys : List (ClassId × FieldType)) (cI : ClassId) (ht : tys[0]? = some (cI, .int)) (h a n : Nat) (f : Nat → Int32) (hn0 : n < 2 ^ 31) (i x : Int32) : CVd l yX6_put wsX6_put 0 D tys [.ref h, .int i, .int x] (wRow cI h a n f) (wRow cI h a n (rup n f i x)) := by
  refine CV_of (maxL := 3) (cc := cX6_put) (y := yX6_put) rfl rfl (Nat.le_of_ble_eq_true rfl) (fun X hl hD hk hn hcz hsz o fin => ?_)
  subst hl; subst hD; subst hk
  refine V_iload_n (pc := 0) o dX6_put_0 rfl ?_
  refine V_if_lt (pc := 1) o 20 dX6_put_1 (by decide) (fun c1 => ?_) (fun c1 => ?_)
  · exact V_eq (by first | rfl | (unfold wRow rup; rw [if_pos ⟨i_nlt c1, i_nle c10⟩]; rfl) | (unfold wRow rup; rw [if_neg (fun q => Int32.not_le.mpr c1 q.1)]; done) | (unfold wRow rup; rw [if_neg (fun q => Int32.not_le.mpr q.2 c10)]; done)) rfl (fin 20 _ () dX6_put_20 trivial)
  · refine V_iload_n (pc := 4) o dX6_put_4 rfl ?_
    refine V_aload_n (pc := 5) o dX6_put_5 rfl ?_
    refine V_get (pc := 6) o 0 0 hiX6_put_X6 rfl rfl (by decide) lkX6_put_7 rfl rfl dX6_put_6 ?_
    refine V_alen (pc := 9) o 1 0 rfl ht rfl dX6_put_9 ?_
    refine V_icmp_ge (pc := 10) o 20 dX6_put_10 (by decide) (fun c10 => ?_) (fun c10 => ?_)
    · exact V_eq (by first | rfl | (unfold wRow rup; rw [if_pos ⟨i_nlt c1, i_nle c10⟩]; rfl) | (unfold wRow rup; rw [if_neg (fun q => Int32.not_le.mpr c1 q.1)]; done) | (unfold wRow rup; rw [if_neg (fun q => Int32.not_le.mpr q.2 c10)]; done)) rfl (fin 20 _ () dX6_put_20 trivial)
    · refine V_aload_n (pc := 13) o dX6_put_13 rfl ?_
      refine V_get (pc := 14) o 0 0 hiX6_put_X6 rfl rfl (by decide) lkX6_put_7 rfl rfl dX6_put_14 ?_
      refine V_iload_n (pc := 17) o dX6_put_17 rfl ?_
      refine V_iload_n (pc := 18) o dX6_put_18 rfl ?_
      refine V_iast (pc := 19) o 1 0 rfl ht (vp_of hn0 c1 c10) dX6_put_19 ?_
      exact V_eq (by first | rfl | (unfold wRow rup; rw [if_pos ⟨i_nlt c1, i_nle c10⟩]; rfl) | (unfold wRow rup; rw [if_neg (fun q => Int32.not_le.mpr c1 q.1)]; done) | (unfold wRow rup; rw [if_neg (fun q => Int32.not_le.mpr q.2 c10)]; done)) rfl (fin 20 _ () dX6_put_20 trivial)
theorem rfi_0 {n : Nat} {f : Nat → Int32} {x : Int32} : rfi 0 f x = f := by funext j; simp [rfi]
theorem rfi_s {f : Nat → Int32} {x : Int32} {j : Nat} (hj : j < 2 ^ 31) : upd (rfi j f x) (nI j).toNatClampNeg x = rfi (j + 1) f x := by
  rw [nI_clamp hj]
  funext i
  simp only [upd, rfi]
  by_cases h : i = j
  · subst h; simp
  · have h2 : (i < j + 1) = (i < j) := by simp only [eq_iff_iff]; omega
    simp [h, h2]
theorem hiX6_fill_X6 : ∀ w ∈ wsX60, w ∈ wsX6_fill := by decide +kernel
theorem lkX6_fill_7 : Cond.fieldLink RX6 7 RX6 "cells" "[I" ∈ wsX6_fill := by decide +kernel
set_option maxHeartbeats 4000000 in
set_option maxRecDepth 100000 in
/-- Row.fill, its loop -/
theorem lpX6_fill {X : XT} (o : OkX X cX6_fill RX6 wsX6_fill 0) (hn : XN X = 3) (cI : ClassId) (ht : (XK X)[0]? = some (cI, .int)) (h a n : Nat) (f : Nat → Int32) (hn0 : n < 2 ^ 31) (x : Int32) (kk : ∀ lc, V X 0 0 (wRow cI h a n (rfi n f x)) 24 lc []) : ∀ (m j : Nat), n - j < m → j ≤ n → V X 0 0 (wRow cI h a n (rfi j f x)) 2 [(0, .ref h), (1, .int x), (2, .int (nI j))] [] := by
  intro m
  induction m with
  | zero => intro j h1; exact absurd h1 (Nat.not_lt_zero _)
  | succ m ih =>
    intro j h1 h2
    refine V_iload_n (pc := 2) o dX6_fill_2 rfl ?_
    refine V_aload_n (pc := 3) o dX6_fill_3 rfl ?_
    refine V_get (pc := 4) o 0 0 hiX6_fill_X6 rfl rfl (by decide) lkX6_fill_7 rfl rfl dX6_fill_4 ?_
    refine V_alen (pc := 7) o 1 0 rfl ht rfl dX6_fill_7 ?_
    refine V_icmp_ge (pc := 8) o 24 dX6_fill_8 (by decide) (fun c8 => ?_) (fun c8 => ?_)
    · have e1 : j = n := by
        rcases Nat.lt_or_ge j n with q | q
        · exact absurd c8 (nI_ge q hn0)
        · omega
      rw [e1]
      exact kk _
    · have q1 : j < n := by
        rcases Nat.lt_or_ge j n with q | q
        · exact q
        · exact absurd (nI_le q (by omega)) c8
      refine V_aload_n (pc := 11) o dX6_fill_11 rfl ?_
      refine V_get (pc := 12) o 0 0 hiX6_fill_X6 rfl rfl (by decide) lkX6_fill_7 rfl rfl dX6_fill_12 ?_
      refine V_iload_n (pc := 15) o dX6_fill_15 rfl ?_
      refine V_iload_n (pc := 16) o dX6_fill_16 rfl ?_
      refine V_iast (pc := 17) o 1 0 rfl ht (vp_in_nI q1 hn0) dX6_fill_17 ?_
      refine V_iinc (pc := 18) o 1 dX6_fill_18 (by rw [hn]; decide) rfl (by decide) ?_
      refine V_goto (pc := 21) o 2 dX6_fill_21 (by decide) ?_
      refine V_eq (ws2 := wRow cI h a n (rfi (j + 1) f x)) (by rw [← rfi_s (Nat.lt_of_lt_of_le q1 (Nat.le_of_lt hn0))]; rfl) rfl ?_
      refine V_sub (lc2 := [(0, .ref h), (1, .int x), (2, .int (nI (j + 1)))]) ⟨rfl, rfl, congrArg (fun v => some (Value.int v)) (nI_1 j), trivial⟩ ?_
      exact ih (j + 1) (by omega) (by omega)
set_option maxHeartbeats 4000000 in
set_option maxRecDepth 100000 in
/-- Row.fill -/
theorem cX6_fill_met (l : Launch) (D : va_G) (tys : List (ClassId × FieldType)) (cI : ClassId) (ht : tys[0]? = some (cI, .int)) (h a n : Nat) (f : Nat → Int32) (hn0 : n < 2 ^ 31) (x : Int32) : CVd l yX6_fill wsX6_fill 0 D tys [.ref h, .int x] (wRow cI h a n f) (wRow cI h a n (rfi n f x)) := by
  refine CV_of (maxL := 3) (cc := cX6_fill) (y := yX6_fill) rfl rfl (Nat.le_of_ble_eq_true rfl) (fun X hl hD hk hn hcz hsz o fin => ?_)
  subst hl; subst hD; subst hk
  refine V_iconst (pc := 0) o 0 dX6_fill_0 (by decide) ?_
  refine V_istore_n (pc := 1) o dX6_fill_1 (by rw [hn]; decide) ?_
  refine V_sub (lc2 := [(0, .ref h), (1, .int x), (2, .int (nI 0))]) ⟨rfl, rfl, rfl, trivial⟩ ?_
  have K := lpX6_fill o hn cI ht h a n f hn0 x (fun lc => fin 24 lc () dX6_fill_24 trivial) (n + 1) 0 (by omega) (by omega)
  rw [rfi_0 (n := n)] at K
  exact K
