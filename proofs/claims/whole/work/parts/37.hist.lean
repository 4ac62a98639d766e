/-! The desk's rows and the reference's as tuples; what an entry does; the history of the book. -/
abbrev RS : Type := (Nat → Nat → Nat) × (Nat → Int32) × Nat × Nat
def mkD (P0 P1 P2 P3 P4 P5 L0 L1 L2 : Nat → Int32) (dy : Int32) (Q0 Q1 Q2 Q3 Q4 Q5 Q6 : Nat → Int32) (nm : Int32) : DS :=
  (fun i => match i with
    | 0 => P0
    | 1 => P1
    | 2 => P2
    | 3 => P3
    | 4 => P4
    | 5 => P5
    | 6 => L0
    | 7 => L1
    | 8 => L2
    | 9 => Q0
    | 10 => Q1
    | 11 => Q2
    | 12 => Q3
    | 13 => Q4
    | 14 => Q5
    | _ => Q6, dy, nm)
def mkS (vc vr vn ne vs li ba de qp qt ql qs qc ch ap : Nat → Nat) (un : Nat → Int32) (rq dy : Nat) : RS :=
  (fun i => match i with
    | 0 => vc
    | 1 => vr
    | 2 => vn
    | 3 => ne
    | 4 => vs
    | 5 => li
    | 6 => ba
    | 7 => de
    | 8 => qp
    | 9 => qt
    | 10 => ql
    | 11 => qs
    | 12 => qc
    | 13 => ch
    | _ => ap, un, rq, dy)
def RepD (T : DS) (S : RS) : Prop := RepX (T.1 0) (T.1 1) (T.1 2) (T.1 3) (T.1 4) (T.1 5) (T.1 6) (T.1 7) (T.1 8) T.2.1 (T.1 9) (T.1 10) (T.1 11) (T.1 12) (T.1 13) (T.1 14) (T.1 15) T.2.2 (S.1 0) (S.1 1) (S.1 2) (S.1 3) (S.1 4) (S.1 5) (S.1 6) (S.1 7) (S.1 8) (S.1 9) (S.1 10) (S.1 11) (S.1 12) (S.1 13) (S.1 14) S.2.1 S.2.2.1 S.2.2.2
def InvD (c : Nat) (S : RS) : Prop := InvX c (S.1 0) (S.1 1) (S.1 2) (S.1 3) (S.1 4) (S.1 5) (S.1 6) (S.1 7) (S.1 8) (S.1 9) (S.1 10) (S.1 11) (S.1 12) (S.1 13) (S.1 14) S.2.2.1 S.2.2.2
def ap1 (a b : Int32) (T : DS) : DS := mkD (rup 8 (T.1 0) a (rat 8 (T.1 0) a + 1)) (rup 24 (T.1 1) (plc a (rat 8 (T.1 0) a + 1)) b) (rup 24 (T.1 2) (plc a (rat 8 (T.1 0) a + 1)) 0) (rup 24 (T.1 3) (plc a (rat 8 (T.1 0) a + 1)) 0) (T.1 4) (T.1 5) (T.1 6) (T.1 7) (T.1 8) T.2.1 (T.1 9) (T.1 10) (T.1 11) (T.1 12) (T.1 13) (T.1 14) (T.1 15) T.2.2
def ap2 (a b c d e : Int32) (T : DS) : DS := mkD (T.1 0) (T.1 1) (T.1 2) (rup 24 (T.1 3) (plc a b) (rat 24 (T.1 3) (plc a b) + 1)) (rup 96 (T.1 4) (plc a b * 4 + rat 24 (T.1 3) (plc a b)) c) (rup 96 (T.1 5) (plc a b * 4 + rat 24 (T.1 3) (plc a b)) (vset d e)) (T.1 6) (T.1 7) (T.1 8) T.2.1 (T.1 9) (T.1 10) (T.1 11) (T.1 12) (T.1 13) (T.1 14) (T.1 15) T.2.2
def ap3 (a b : Int32) (T : DS) : DS := mkD (T.1 0) (T.1 1) (rup 24 (T.1 2) (plc a b) 1) (T.1 3) (T.1 4) (T.1 5) (T.1 6) (T.1 7) (T.1 8) T.2.1 (T.1 9) (T.1 10) (T.1 11) (lvT (T.1 12, T.1 13, T.1 14, T.1 15) a b T.2.2.toNatClampNeg).1 (lvT (T.1 12, T.1 13, T.1 14, T.1 15) a b T.2.2.toNatClampNeg).2.1 (lvT (T.1 12, T.1 13, T.1 14, T.1 15) a b T.2.2.toNatClampNeg).2.2.1 (lvT (T.1 12, T.1 13, T.1 14, T.1 15) a b T.2.2.toNatClampNeg).2.2.2 T.2.2
def ap4 (a b c : Int32) (T : DS) : DS := mkD (T.1 0) (T.1 1) (T.1 2) (T.1 3) (T.1 4) (T.1 5) (T.1 6) (T.1 7) (T.1 8) T.2.1 (rup 30 (T.1 9) T.2.2 a) (rup 30 (T.1 10) T.2.2 b) (rup 30 (T.1 11) T.2.2 c) (rup 30 (T.1 12) T.2.2 0) (rup 30 (T.1 13) T.2.2 0) (rup 30 (T.1 14) T.2.2 0) (erN (T.1 15) T.2.2 8) (T.2.2 + 1)
def ap5 (a b : Int32) (T : DS) : DS := mkD (T.1 0) (T.1 1) (T.1 2) (T.1 3) (T.1 4) (T.1 5) (T.1 6) (T.1 7) (T.1 8) T.2.1 (T.1 9) (T.1 10) (T.1 11) (rup 30 (T.1 12) a 1) (rup 30 (T.1 13) a b) (rup 30 (T.1 14) a (pcostN (T.1 1) b 8)) (erN (T.1 15) a 8) T.2.2
def ap6 (a b : Int32) (T : DS) : DS := mkD (T.1 0) (T.1 1) (T.1 2) (T.1 3) (T.1 4) (T.1 5) (rup 8 (T.1 6) a b) (T.1 7) (T.1 8) T.2.1 (T.1 9) (T.1 10) (T.1 11) (T.1 12) (T.1 13) (T.1 14) (T.1 15) T.2.2
def ap7 (a b c : Int32) (T : DS) : DS := mkD (T.1 0) (T.1 1) (T.1 2) (T.1 3) (T.1 4) (T.1 5) (T.1 6) (rup 8 (T.1 7) a b) (rup 8 (T.1 8) a (T.2.1 + c)) T.2.1 (T.1 9) (T.1 10) (T.1 11) (T.1 12) (T.1 13) (T.1 14) (T.1 15) T.2.2
def ap8 (a b : Int32) (T : DS) : DS := mkD (T.1 0) (T.1 1) (T.1 2) (T.1 3) (T.1 4) (T.1 5) (T.1 6) (T.1 7) (T.1 8) T.2.1 (T.1 9) (T.1 10) (T.1 11) (T.1 12) (T.1 13) (T.1 14) (rup 240 (T.1 15) (a * 8 + b) (tkE (T.1 6) (T.1 7) (T.1 8) T.2.1 b (rat 30 (T.1 14) a))) T.2.2
def ap9 (a : Int32) (T : DS) : DS := mkD (T.1 0) (T.1 1) (T.1 2) (T.1 3) (T.1 4) (T.1 5) (T.1 6) (T.1 7) (T.1 8) T.2.1 (T.1 9) (T.1 10) (T.1 11) (rup 30 (T.1 12) a 2) (T.1 13) (T.1 14) (T.1 15) T.2.2
def ap10 (a : Int32) (T : DS) : DS := mkD (T.1 0) (T.1 1) (T.1 2) (T.1 3) (T.1 4) (T.1 5) (T.1 6) (T.1 7) (T.1 8) (T.2.1 + a) (T.1 9) (T.1 10) (T.1 11) (T.1 12) (T.1 13) (T.1 14) (T.1 15) T.2.2
/-- what an entry of kind m does -/
def apK (m : Nat) (a b c d e : Int32) (T : DS) : DS := match m with
  | 1 => ap1 a b T
  | 2 => ap2 a b c d e T
  | 3 => ap3 a b T
  | 4 => ap4 a b c T
  | 5 => ap5 a b T
  | 6 => ap6 a b T
  | 7 => ap7 a b c T
  | 8 => ap8 a b T
  | 9 => ap9 a T
  | _ => ap10 a T
def wd (B0 : Nat → Int32) (j : Nat) (i : Int32) : Int32 := rat 3072 B0 (nI j * 6 + i)
/-- entry j of the book takes the state S to S2 -/
def HStp (B0 : Nat → Int32) (j : Nat) (S S2 : RS) : Prop := ∃ m : Nat, 1 ≤ m ∧ m ≤ 10 ∧ wd B0 j 0 = nI m ∧ ∀ T : DS, RepD T S → RepD (apK m (wd B0 j 1) (wd B0 j 2) (wd B0 j 3) (wd B0 j 4) (wd B0 j 5) T) S2
theorem x6_at (q p : Nat) : nI q * 6 + nI p = nI (6 * q + p) := by
  rw [show (6 : Int32) = nI 6 from rfl, pk_mul, nI_add, Nat.mul_comm]
theorem wd_at (B0 : Nat → Int32) {j i : Nat} (hj : j < 512) (hi : i < 6) : wd B0 j (nI i) = B0 (6 * j + i) := by
  unfold wd
  rw [x6_at, rat_at (by omega) (by omega)]
theorem bwr9_at (B0 : Nat → Int32) {n : Nat} (hn : n < 512) (k a b c d e : Int32) : bwr B0 (nI n) k a b c d e = va_up (va_up (va_up (va_up (va_up (va_up B0 (6 * n) k) (6 * n + 1) a) (6 * n + 2) b) (6 * n + 3) c) (6 * n + 4) d) (6 * n + 5) e := by
  have h0 : nI n * 6 = nI (6 * n + 0) := by rw [← x6_at, nI_0, Int32.add_zero]
  have h1 : nI n * 6 + 1 = nI (6 * n + 1) := x6_at n 1
  have h2 : nI n * 6 + 2 = nI (6 * n + 2) := x6_at n 2
  have h3 : nI n * 6 + 3 = nI (6 * n + 3) := x6_at n 3
  have h4 : nI n * 6 + 4 = nI (6 * n + 4) := x6_at n 4
  have h5 : nI n * 6 + 5 = nI (6 * n + 5) := x6_at n 5
  unfold bwr
  rw [h1, h2, h3, h4, h5, h0, rup_at (by omega) (by omega), rup_at (by omega) (by omega), rup_at (by omega) (by omega), rup_at (by omega) (by omega), rup_at (by omega) (by omega), rup_at (by omega) (by omega), Nat.add_zero]
theorem wd_old (B0 : Nat → Int32) {n j i : Nat} (hn : n < 512) (hj : j < n) (hi : i < 6) (k a b c d e : Int32) : wd (bwr B0 (nI n) k a b c d e) j (nI i) = wd B0 j (nI i) := by
  rw [wd_at _ (by omega) hi, wd_at _ (by omega) hi, bwr9_at B0 hn, va_up_ne _ _ (by omega), va_up_ne _ _ (by omega), va_up_ne _ _ (by omega), va_up_ne _ _ (by omega), va_up_ne _ _ (by omega), va_up_ne _ _ (by omega)]
theorem wd_new (B0 : Nat → Int32) {n : Nat} (hn : n < 512) (k a b c d e : Int32) : wd (bwr B0 (nI n) k a b c d e) n 0 = k ∧ wd (bwr B0 (nI n) k a b c d e) n 1 = a ∧ wd (bwr B0 (nI n) k a b c d e) n 2 = b ∧ wd (bwr B0 (nI n) k a b c d e) n 3 = c ∧ wd (bwr B0 (nI n) k a b c d e) n 4 = d ∧ wd (bwr B0 (nI n) k a b c d e) n 5 = e := by
  rw [bwr9_at B0 hn]
  refine ⟨?_, ?_, ?_, ?_, ?_, ?_⟩
  · rw [show (0 : Int32) = nI 0 from rfl, wd_at _ hn (by omega), va_up_ne _ _ (by omega), va_up_ne _ _ (by omega), va_up_ne _ _ (by omega), va_up_ne _ _ (by omega), va_up_ne _ _ (by omega), Nat.add_zero, va_up_self]
  · rw [show (1 : Int32) = nI 1 from rfl, wd_at _ hn (by omega), va_up_ne _ _ (by omega), va_up_ne _ _ (by omega), va_up_ne _ _ (by omega), va_up_ne _ _ (by omega), va_up_self]
  · rw [show (2 : Int32) = nI 2 from rfl, wd_at _ hn (by omega), va_up_ne _ _ (by omega), va_up_ne _ _ (by omega), va_up_ne _ _ (by omega), va_up_self]
  · rw [show (3 : Int32) = nI 3 from rfl, wd_at _ hn (by omega), va_up_ne _ _ (by omega), va_up_ne _ _ (by omega), va_up_self]
  · rw [show (4 : Int32) = nI 4 from rfl, wd_at _ hn (by omega), va_up_ne _ _ (by omega), va_up_self]
  · rw [show (5 : Int32) = nI 5 from rfl, wd_at _ hn (by omega), va_up_self]
def Hist (B0 : Nat → Int32) (n : Nat) (S : Nat → RS) : Prop := ∀ j, j < n → HStp B0 j (S j) (S (j + 1))
theorem HStp.old {B0 : Nat → Int32} {n j : Nat} {S S2 : RS} (h : HStp B0 j S S2) (hn : n < 512) (hj : j < n) (k a b c d e : Int32) : HStp (bwr B0 (nI n) k a b c d e) j S S2 := by
  obtain ⟨m, h1, h2, h3, h4⟩ := h
  have w0 := wd_old B0 hn hj (i := 0) (by omega) k a b c d e
  have w1 := wd_old B0 hn hj (i := 1) (by omega) k a b c d e
  have w2 := wd_old B0 hn hj (i := 2) (by omega) k a b c d e
  have w3 := wd_old B0 hn hj (i := 3) (by omega) k a b c d e
  have w4 := wd_old B0 hn hj (i := 4) (by omega) k a b c d e
  have w5 := wd_old B0 hn hj (i := 5) (by omega) k a b c d e
  refine ⟨m, h1, h2, w0.trans h3, fun T hT => ?_⟩
  have := h4 T hT
  rw [show wd (bwr B0 (nI n) k a b c d e) j 1 = wd B0 j 1 from w1, show wd (bwr B0 (nI n) k a b c d e) j 2 = wd B0 j 2 from w2, show wd (bwr B0 (nI n) k a b c d e) j 3 = wd B0 j 3 from w3, show wd (bwr B0 (nI n) k a b c d e) j 4 = wd B0 j 4 from w4, show wd (bwr B0 (nI n) k a b c d e) j 5 = wd B0 j 5 from w5]
  exact this
theorem Hist.add {B0 : Nat → Int32} {n : Nat} {S : Nat → RS} (h : Hist B0 n S) (hn : n < 512) {m : Nat} (hm : 1 ≤ m ∧ m ≤ 10) (a b c d e : Int32) (S2 : RS) (hS : ∀ T : DS, RepD T (S n) → RepD (apK m a b c d e T) S2) : Hist (bwr B0 (nI n) (nI m) a b c d e) (n + 1) (fun j => if j = n + 1 then S2 else S j) := by
  intro j hj
  dsimp only
  rw [if_neg (by omega)]
  by_cases e9 : j = n
  · subst e9
    obtain ⟨w0, w1, w2, w3, w4, w5⟩ := wd_new B0 hn (nI m) a b c d e
    rw [if_pos rfl]
    refine ⟨m, hm.1, hm.2, w0, fun T hT => ?_⟩
    rw [w1, w2, w3, w4, w5]
    exact hS T hT
  · rw [if_neg (by omega)]
    exact (h j (by omega)).old hn (by omega) (nI m) a b c d e
theorem wDT_mk (cI : ClassId) (ad : Nat → Nat) (P0 P1 P2 P3 P4 P5 L0 L1 L2 : Nat → Int32) (dy : Int32) (Q0 Q1 Q2 Q3 Q4 Q5 Q6 : Nat → Int32) (nm : Int32) : wDT cI ad (mkD P0 P1 P2 P3 P4 P5 L0 L1 L2 dy Q0 Q1 Q2 Q3 Q4 Q5 Q6 nm) = wDesk cI ad P0 P1 P2 P3 P4 P5 L0 L1 L2 dy Q0 Q1 Q2 Q3 Q4 Q5 Q6 nm := rfl
set_option maxHeartbeats 4000000 in
theorem apply_1 (l : Launch) (D : va_G) (tys : List (ClassId × FieldType)) (cI : ClassId) (ht : tys[0]? = some (cI, .int)) (ad ad2 : Nat → Nat) (T : DS) (B0 : Nat → Int32) (bn : Int32) {j : Nat} (hj : j < 512) (h : wd B0 j 0 = nI 1) :
    ∃ r : Int32, CId l yX2_apply wsX2_apply 5 D tys [.ref (ad 0), .ref (ad2 0), .int (nI j)] (wDT cI ad T ++ wBook cI ad2 B0 bn) r (wDT cI ad (apK 1 (wd B0 j 1) (wd B0 j 2) (wd B0 j 3) (wd B0 j 4) (wd B0 j 5) T) ++ wBook cI ad2 B0 bn) := by
  have he : ¬ nI j = -1 := nI_nm1 (by omega)
  have hX := cX2_apply_met1 l D tys cI ht ad ad2 (T.1 0) (T.1 1) (T.1 2) (T.1 3) (T.1 4) (T.1 5) (T.1 6) (T.1 7) (T.1 8) T.2.1 (T.1 9) (T.1 10) (T.1 11) (T.1 12) (T.1 13) (T.1 14) (T.1 15) T.2.2 B0 bn (nI j) he (Eq.trans h (show nI 1 = 1 from rfl))
  simp only [apK, ap1, wDT_mk, wd]
  unfold wDT
  unfold wDB at hX
  exact ⟨_, hX⟩
set_option maxHeartbeats 4000000 in
theorem apply_2 (l : Launch) (D : va_G) (tys : List (ClassId × FieldType)) (cI : ClassId) (ht : tys[0]? = some (cI, .int)) (ad ad2 : Nat → Nat) (T : DS) (B0 : Nat → Int32) (bn : Int32) {j : Nat} (hj : j < 512) (h : wd B0 j 0 = nI 2) :
    ∃ r : Int32, CId l yX2_apply wsX2_apply 5 D tys [.ref (ad 0), .ref (ad2 0), .int (nI j)] (wDT cI ad T ++ wBook cI ad2 B0 bn) r (wDT cI ad (apK 2 (wd B0 j 1) (wd B0 j 2) (wd B0 j 3) (wd B0 j 4) (wd B0 j 5) T) ++ wBook cI ad2 B0 bn) := by
  have he : ¬ nI j = -1 := nI_nm1 (by omega)
  have hX := cX2_apply_met2 l D tys cI ht ad ad2 (T.1 0) (T.1 1) (T.1 2) (T.1 3) (T.1 4) (T.1 5) (T.1 6) (T.1 7) (T.1 8) T.2.1 (T.1 9) (T.1 10) (T.1 11) (T.1 12) (T.1 13) (T.1 14) (T.1 15) T.2.2 B0 bn (nI j) he (Eq.trans h (show nI 2 = 2 from rfl))
  simp only [apK, ap2, wDT_mk, wd]
  unfold wDT
  unfold wDB at hX
  exact ⟨_, hX⟩
set_option maxHeartbeats 4000000 in
theorem apply_3 (l : Launch) (D : va_G) (tys : List (ClassId × FieldType)) (cI : ClassId) (ht : tys[0]? = some (cI, .int)) (ad ad2 : Nat → Nat) (T : DS) (B0 : Nat → Int32) (bn : Int32) {j : Nat} (hj : j < 512) (h : wd B0 j 0 = nI 3) :
    ∃ r : Int32, CId l yX2_apply wsX2_apply 5 D tys [.ref (ad 0), .ref (ad2 0), .int (nI j)] (wDT cI ad T ++ wBook cI ad2 B0 bn) r (wDT cI ad (apK 3 (wd B0 j 1) (wd B0 j 2) (wd B0 j 3) (wd B0 j 4) (wd B0 j 5) T) ++ wBook cI ad2 B0 bn) := by
  have he : ¬ nI j = -1 := nI_nm1 (by omega)
  have hX := cX2_apply_met3 l D tys cI ht ad ad2 (T.1 0) (T.1 1) (T.1 2) (T.1 3) (T.1 4) (T.1 5) (T.1 6) (T.1 7) (T.1 8) T.2.1 (T.1 9) (T.1 10) (T.1 11) (T.1 12) (T.1 13) (T.1 14) (T.1 15) T.2.2 B0 bn (nI j) he (Eq.trans h (show nI 3 = 3 from rfl))
  simp only [apK, ap3, wDT_mk, wd]
  unfold wDT
  unfold wDB at hX
  exact ⟨_, hX⟩
set_option maxHeartbeats 4000000 in
theorem apply_4 (l : Launch) (D : va_G) (tys : List (ClassId × FieldType)) (cI : ClassId) (ht : tys[0]? = some (cI, .int)) (ad ad2 : Nat → Nat) (T : DS) (B0 : Nat → Int32) (bn : Int32) {j : Nat} (hj : j < 512) (h : wd B0 j 0 = nI 4) :
    ∃ r : Int32, CId l yX2_apply wsX2_apply 5 D tys [.ref (ad 0), .ref (ad2 0), .int (nI j)] (wDT cI ad T ++ wBook cI ad2 B0 bn) r (wDT cI ad (apK 4 (wd B0 j 1) (wd B0 j 2) (wd B0 j 3) (wd B0 j 4) (wd B0 j 5) T) ++ wBook cI ad2 B0 bn) := by
  have he : ¬ nI j = -1 := nI_nm1 (by omega)
  have hX := cX2_apply_met4 l D tys cI ht ad ad2 (T.1 0) (T.1 1) (T.1 2) (T.1 3) (T.1 4) (T.1 5) (T.1 6) (T.1 7) (T.1 8) T.2.1 (T.1 9) (T.1 10) (T.1 11) (T.1 12) (T.1 13) (T.1 14) (T.1 15) T.2.2 B0 bn (nI j) he (Eq.trans h (show nI 4 = 4 from rfl))
  simp only [apK, ap4, wDT_mk, wd]
  unfold wDT
  unfold wDB at hX
  exact ⟨_, hX⟩
set_option maxHeartbeats 4000000 in
theorem apply_5 (l : Launch) (D : va_G) (tys : List (ClassId × FieldType)) (cI : ClassId) (ht : tys[0]? = some (cI, .int)) (ad ad2 : Nat → Nat) (T : DS) (B0 : Nat → Int32) (bn : Int32) {j : Nat} (hj : j < 512) (h : wd B0 j 0 = nI 5) :
    ∃ r : Int32, CId l yX2_apply wsX2_apply 5 D tys [.ref (ad 0), .ref (ad2 0), .int (nI j)] (wDT cI ad T ++ wBook cI ad2 B0 bn) r (wDT cI ad (apK 5 (wd B0 j 1) (wd B0 j 2) (wd B0 j 3) (wd B0 j 4) (wd B0 j 5) T) ++ wBook cI ad2 B0 bn) := by
  have he : ¬ nI j = -1 := nI_nm1 (by omega)
  have hX := cX2_apply_met5 l D tys cI ht ad ad2 (T.1 0) (T.1 1) (T.1 2) (T.1 3) (T.1 4) (T.1 5) (T.1 6) (T.1 7) (T.1 8) T.2.1 (T.1 9) (T.1 10) (T.1 11) (T.1 12) (T.1 13) (T.1 14) (T.1 15) T.2.2 B0 bn (nI j) he (Eq.trans h (show nI 5 = 5 from rfl))
  simp only [apK, ap5, wDT_mk, wd]
  unfold wDT
  unfold wDB at hX
  exact ⟨_, hX⟩
set_option maxHeartbeats 4000000 in
theorem apply_6 (l : Launch) (D : va_G) (tys : List (ClassId × FieldType)) (cI : ClassId) (ht : tys[0]? = some (cI, .int)) (ad ad2 : Nat → Nat) (T : DS) (B0 : Nat → Int32) (bn : Int32) {j : Nat} (hj : j < 512) (h : wd B0 j 0 = nI 6) :
    ∃ r : Int32, CId l yX2_apply wsX2_apply 5 D tys [.ref (ad 0), .ref (ad2 0), .int (nI j)] (wDT cI ad T ++ wBook cI ad2 B0 bn) r (wDT cI ad (apK 6 (wd B0 j 1) (wd B0 j 2) (wd B0 j 3) (wd B0 j 4) (wd B0 j 5) T) ++ wBook cI ad2 B0 bn) := by
  have he : ¬ nI j = -1 := nI_nm1 (by omega)
  have hX := cX2_apply_met6 l D tys cI ht ad ad2 (T.1 0) (T.1 1) (T.1 2) (T.1 3) (T.1 4) (T.1 5) (T.1 6) (T.1 7) (T.1 8) T.2.1 (T.1 9) (T.1 10) (T.1 11) (T.1 12) (T.1 13) (T.1 14) (T.1 15) T.2.2 B0 bn (nI j) he (Eq.trans h (show nI 6 = 6 from rfl))
  simp only [apK, ap6, wDT_mk, wd]
  unfold wDT
  unfold wDB at hX
  exact ⟨_, hX⟩
set_option maxHeartbeats 4000000 in
theorem apply_7 (l : Launch) (D : va_G) (tys : List (ClassId × FieldType)) (cI : ClassId) (ht : tys[0]? = some (cI, .int)) (ad ad2 : Nat → Nat) (T : DS) (B0 : Nat → Int32) (bn : Int32) {j : Nat} (hj : j < 512) (h : wd B0 j 0 = nI 7) :
    ∃ r : Int32, CId l yX2_apply wsX2_apply 5 D tys [.ref (ad 0), .ref (ad2 0), .int (nI j)] (wDT cI ad T ++ wBook cI ad2 B0 bn) r (wDT cI ad (apK 7 (wd B0 j 1) (wd B0 j 2) (wd B0 j 3) (wd B0 j 4) (wd B0 j 5) T) ++ wBook cI ad2 B0 bn) := by
  have he : ¬ nI j = -1 := nI_nm1 (by omega)
  have hX := cX2_apply_met7 l D tys cI ht ad ad2 (T.1 0) (T.1 1) (T.1 2) (T.1 3) (T.1 4) (T.1 5) (T.1 6) (T.1 7) (T.1 8) T.2.1 (T.1 9) (T.1 10) (T.1 11) (T.1 12) (T.1 13) (T.1 14) (T.1 15) T.2.2 B0 bn (nI j) he (Eq.trans h (show nI 7 = 7 from rfl))
  simp only [apK, ap7, wDT_mk, wd]
  unfold wDT
  unfold wDB at hX
  exact ⟨_, hX⟩
set_option maxHeartbeats 4000000 in
theorem apply_8 (l : Launch) (D : va_G) (tys : List (ClassId × FieldType)) (cI : ClassId) (ht : tys[0]? = some (cI, .int)) (ad ad2 : Nat → Nat) (T : DS) (B0 : Nat → Int32) (bn : Int32) {j : Nat} (hj : j < 512) (h : wd B0 j 0 = nI 8) :
    ∃ r : Int32, CId l yX2_apply wsX2_apply 5 D tys [.ref (ad 0), .ref (ad2 0), .int (nI j)] (wDT cI ad T ++ wBook cI ad2 B0 bn) r (wDT cI ad (apK 8 (wd B0 j 1) (wd B0 j 2) (wd B0 j 3) (wd B0 j 4) (wd B0 j 5) T) ++ wBook cI ad2 B0 bn) := by
  have he : ¬ nI j = -1 := nI_nm1 (by omega)
  have hX := cX2_apply_met8 l D tys cI ht ad ad2 (T.1 0) (T.1 1) (T.1 2) (T.1 3) (T.1 4) (T.1 5) (T.1 6) (T.1 7) (T.1 8) T.2.1 (T.1 9) (T.1 10) (T.1 11) (T.1 12) (T.1 13) (T.1 14) (T.1 15) T.2.2 B0 bn (nI j) he (Eq.trans h (show nI 8 = 8 from rfl))
  simp only [apK, ap8, wDT_mk, wd]
  unfold wDT
  unfold wDB at hX
  exact ⟨_, hX⟩
set_option maxHeartbeats 4000000 in
theorem apply_9 (l : Launch) (D : va_G) (tys : List (ClassId × FieldType)) (cI : ClassId) (ht : tys[0]? = some (cI, .int)) (ad ad2 : Nat → Nat) (T : DS) (B0 : Nat → Int32) (bn : Int32) {j : Nat} (hj : j < 512) (h : wd B0 j 0 = nI 9) :
    ∃ r : Int32, CId l yX2_apply wsX2_apply 5 D tys [.ref (ad 0), .ref (ad2 0), .int (nI j)] (wDT cI ad T ++ wBook cI ad2 B0 bn) r (wDT cI ad (apK 9 (wd B0 j 1) (wd B0 j 2) (wd B0 j 3) (wd B0 j 4) (wd B0 j 5) T) ++ wBook cI ad2 B0 bn) := by
  have he : ¬ nI j = -1 := nI_nm1 (by omega)
  have hX := cX2_apply_met9 l D tys cI ht ad ad2 (T.1 0) (T.1 1) (T.1 2) (T.1 3) (T.1 4) (T.1 5) (T.1 6) (T.1 7) (T.1 8) T.2.1 (T.1 9) (T.1 10) (T.1 11) (T.1 12) (T.1 13) (T.1 14) (T.1 15) T.2.2 B0 bn (nI j) he (Eq.trans h (show nI 9 = 9 from rfl))
  simp only [apK, ap9, wDT_mk, wd]
  unfold wDT
  unfold wDB at hX
  exact ⟨_, hX⟩
set_option maxHeartbeats 4000000 in
theorem apply_10 (l : Launch) (D : va_G) (tys : List (ClassId × FieldType)) (cI : ClassId) (ht : tys[0]? = some (cI, .int)) (ad ad2 : Nat → Nat) (T : DS) (B0 : Nat → Int32) (bn : Int32) {j : Nat} (hj : j < 512) (h : wd B0 j 0 = nI 10) :
    ∃ r : Int32, CId l yX2_apply wsX2_apply 5 D tys [.ref (ad 0), .ref (ad2 0), .int (nI j)] (wDT cI ad T ++ wBook cI ad2 B0 bn) r (wDT cI ad (apK 10 (wd B0 j 1) (wd B0 j 2) (wd B0 j 3) (wd B0 j 4) (wd B0 j 5) T) ++ wBook cI ad2 B0 bn) := by
  have he : ¬ nI j = -1 := nI_nm1 (by omega)
  have hX := cX2_apply_met10 l D tys cI ht ad ad2 (T.1 0) (T.1 1) (T.1 2) (T.1 3) (T.1 4) (T.1 5) (T.1 6) (T.1 7) (T.1 8) T.2.1 (T.1 9) (T.1 10) (T.1 11) (T.1 12) (T.1 13) (T.1 14) (T.1 15) T.2.2 B0 bn (nI j) he (Eq.trans h (show nI 10 = 10 from rfl))
  simp only [apK, ap10, wDT_mk, wd]
  unfold wDT
  unfold wDB at hX
  exact ⟨_, hX⟩
/-- the desk's method over an entry, whatever kind it is of -/
theorem apply_any (l : Launch) (D : va_G) (tys : List (ClassId × FieldType)) (cI : ClassId) (ht : tys[0]? = some (cI, .int)) (ad ad2 : Nat → Nat) (T : DS) (B0 : Nat → Int32) (bn : Int32) {j m : Nat} (hj : j < 512) (h1 : 1 ≤ m) (h2 : m ≤ 10) (h : wd B0 j 0 = nI m) :
    ∃ r : Int32, CId l yX2_apply wsX2_apply 5 D tys [.ref (ad 0), .ref (ad2 0), .int (nI j)] (wDT cI ad T ++ wBook cI ad2 B0 bn) r (wDT cI ad (apK m (wd B0 j 1) (wd B0 j 2) (wd B0 j 3) (wd B0 j 4) (wd B0 j 5) T) ++ wBook cI ad2 B0 bn) := by
  rcases (show m = 1 ∨ m = 2 ∨ m = 3 ∨ m = 4 ∨ m = 5 ∨ m = 6 ∨ m = 7 ∨ m = 8 ∨ m = 9 ∨ m = 10 by omega) with rfl | rfl | rfl | rfl | rfl | rfl | rfl | rfl | rfl | rfl
  · exact apply_1 l D tys cI ht ad ad2 T B0 bn hj h
  · exact apply_2 l D tys cI ht ad ad2 T B0 bn hj h
  · exact apply_3 l D tys cI ht ad ad2 T B0 bn hj h
  · exact apply_4 l D tys cI ht ad ad2 T B0 bn hj h
  · exact apply_5 l D tys cI ht ad ad2 T B0 bn hj h
  · exact apply_6 l D tys cI ht ad ad2 T B0 bn hj h
  · exact apply_7 l D tys cI ht ad ad2 T B0 bn hj h
  · exact apply_8 l D tys cI ht ad ad2 T B0 bn hj h
  · exact apply_9 l D tys cI ht ad ad2 T B0 bn hj h
  · exact apply_10 l D tys cI ht ad ad2 T B0 bn hj h
/-- the state at the start -/
def S00 : RS := mkS (fun _ => 0) (fun _ => 0) (fun _ => 0) (fun _ => 0) (fun _ => 0) (lnF 8) (fun _ => 0) (fun _ => 0) (fun _ => 0) (fun _ => 0) (fun _ => 0) (fun _ => 0) (fun _ => 0) (fun _ => 0) (fun _ => 0) zr 0 0
theorem lnF_at : ∀ n k, lnF n k = if k < n then 100 else 0
  | 0, k => by rw [if_neg (Nat.not_lt_zero _)]; rfl
  | n + 1, k => by
    unfold lnF
    by_cases e : k = n
    · rw [e, va_up_self, if_pos (Nat.lt_succ_self _)]
    · rw [va_up_ne _ _ e, lnF_at n k]
      by_cases h : k < n
      · rw [if_pos h, if_pos (by omega)]
      · rw [if_neg h, if_neg (by omega)]
theorem inv_00 : InvD 0 S00 := by
  refine ⟨⟨fun _ => Nat.zero_le _, fun _ => Nat.zero_le _, fun _ => Nat.zero_le _, fun _ => Nat.zero_le _, fun _ => Nat.zero_le _, fun _ _ _ _ _ => ⟨rfl, rfl⟩, fun _ _ _ _ _ j hj => absurd hj (Nat.not_lt_zero _)⟩, ⟨fun k => ?_, fun _ => Nat.zero_le _, fun _ => Nat.zero_le _, Nat.zero_le _⟩, Nat.zero_le _, fun _ => Nat.zero_le _, fun _ => Nat.zero_le _, fun k hk => absurd hk (Nat.not_lt_zero _), fun _ => Nat.zero_le _, fun _ => Nat.zero_le _, fun _ => Nat.zero_le _, fun _ => Nat.zero_le _, fun _ _ _ _ _ => ⟨rfl, rfl⟩, fun _ _ _ => rfl⟩
  show lnF 8 k ≤ 10000
  rw [lnF_at]
  split <;> omega
theorem rep_00 (P0 P1 P2 P3 P4 P5 L0 L1 L2 Q0 Q1 Q2 Q3 Q4 Q5 Q6 : Nat → Int32) : RepD (mkD (rfi 8 P0 0) P1 P2 P3 P4 P5 (rfi 8 L0 100) L1 (rfi 8 L2 0) 0 Q0 Q1 Q2 Q3 Q4 Q5 Q6 0) S00 := by
  refine ⟨⟨fun p hp => ?_, fun p hp v v1 v2 => ?_⟩, fun p hp => ⟨?_, ?_, fun z => absurd z (Nat.lt_irrefl _)⟩, rfl, rfl, fun q hq => absurd hq (Nat.not_lt_zero _), fun q hq => absurd hq (Nat.not_lt_zero _)⟩
  · show rfi 8 P0 0 p = nI 0
    unfold rfi
    rw [if_pos hp]
    rfl
  · have : v ≤ 0 := v2
    omega
  · show rfi 8 L0 100 p = nI (lnF 8 p)
    unfold rfi
    rw [if_pos hp, lnF_at, if_pos hp]
    rfl
  · show rfi 8 L2 0 p = nI 0
    unfold rfi
    rw [if_pos hp]
    rfl
/-- the states of the second desk over the book -/
def reD (B0 : Nat → Int32) (T0 : DS) : Nat → DS
  | 0 => T0
  | j + 1 => apK (wd B0 j 0).toNatClampNeg (wd B0 j 1) (wd B0 j 2) (wd B0 j 3) (wd B0 j 4) (wd B0 j 5) (reD B0 T0 j)
theorem reD_rep {B0 : Nat → Int32} {n : Nat} {S : Nat → RS} {T0 : DS} (h : Hist B0 n S) (h0 : RepD T0 (S 0)) : ∀ j, j ≤ n → RepD (reD B0 T0 j) (S j)
  | 0, _ => h0
  | j + 1, hj => by
    obtain ⟨m, h1, h2, h3, h4⟩ := h j (by omega)
    unfold reD
    rw [h3, nI_clamp (by omega)]
    exact h4 _ (reD_rep h h0 j (by omega))
