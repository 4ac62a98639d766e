/-! People, approvals, requests: the class' rows and the reference's. -/
theorem upk {α : Type} (f : Nat → α) (j : Nat) (x : α) (k : Nat) : va_up f j x k = if k = j then x else f k := by
  by_cases e : k = j
  · rw [if_pos e, e, va_up_self]
  · rw [if_neg e, va_up_ne _ _ e]
def RepL (L0 L1 L2 : Nat → Int32) (li ba de : Nat → Nat) : Prop := ∀ p, p < 8 → L0 p = nI (li p) ∧ L2 p = nI (ba p) ∧ (0 < ba p → L1 p = nI (de p))
def InvL (c : Nat) (li ba de : Nat → Nat) (dy : Nat) : Prop := (∀ k, li k ≤ 10000) ∧ (∀ k, ba k ≤ 60 * c) ∧ (∀ k, de k ≤ 7) ∧ dy ≤ 60 * c
section People
variable {L0 L1 L2 : Nat → Int32} {li ba de : Nat → Nat} {c dy : Nat}
theorem prN_run (hR : RepL L0 L1 L2 li ba de) (hI : InvL c li ba de dy) (hc : c ≤ 512) {p co : Nat} (hp : p < 8) (hco : co ≤ 8000) (h2 : co ≤ 2 * li p) : ∀ n, n ≤ 8 → prN L0 L1 L2 (nI dy) (nI p) (nI co) n = fwN li ba de dy co p n
  | 0, _ => rfl
  | n + 1, hn => by
    have ih := prN_run hR hI hc hp hco h2 n (by omega)
    obtain ⟨o, ho⟩ : ∃ o, o = 8 - (n + 1) := ⟨_, rfl⟩
    obtain ⟨r0, r2, r1⟩ := hR o (by omega)
    have b1 := hI.1 o
    have b2 := hI.2.1 o
    have b3 := hI.2.2.1 o
    have b4 := hI.2.2.2
    unfold prN fwN
    rw [← ho, rat_at (f := L2) (by omega) (by omega), rat_at (f := L1) (by omega) (by omega), rat_at (f := L0) (by omega) (by omega), r0, r2, ih]
    by_cases k : dy < ba o ∧ de o = p ∧ co ≤ li o ∧ co ≤ 2 * li p
    · rw [if_pos k, if_pos ⟨nI_lt k.1 (by omega), by rw [r1 (by omega), k.2.1], nI_le k.2.2.1 (by omega)⟩]
    · rw [if_neg k, if_neg]
      rintro ⟨q1, q2, q3⟩
      have q1' := (nI_ltI (by omega) (by omega)).mp q1
      rw [r1 (by omega)] at q2
      exact k ⟨q1', (nI_eq (by omega) (by omega)).mp q2, (nI_leI (by omega) (by omega)).mp q3, h2⟩
theorem fwN_none {p co : Nat} (h2 : ¬ co ≤ 2 * li p) : ∀ n, fwN li ba de dy co p n = -1
  | 0 => rfl
  | n + 1 => by
    unfold fwN
    rw [if_neg (fun k => h2 k.2.2.2)]
    exact fwN_none h2 n
theorem fwN_cases {p co : Nat} : ∀ n, n ≤ 8 → fwN li ba de dy co p n = -1 ∨ ∃ w, w < 8 ∧ dy < ba w ∧ fwN li ba de dy co p n = nI w
  | 0, _ => Or.inl rfl
  | n + 1, hn => by
    unfold fwN
    split
    · rename_i h
      exact Or.inr ⟨8 - (n + 1), by omega, h.1, rfl⟩
    · exact fwN_cases n (by omega)
theorem prF_run (hR : RepL L0 L1 L2 li ba de) (hI : InvL c li ba de dy) (hc : c ≤ 512) {qp qc : Nat → Nat} {q p : Nat} (hp : p < 8) (hco : qc q ≤ 8000) (hne : ¬ p = qp q) : prF L0 L1 L2 (nI dy) (nI p) (nI (qc q)) = fwF li ba de qp qc dy q p := by
  obtain ⟨r0, r2, -⟩ := hR p hp
  have b1 := hI.1 p
  have b2 := hI.2.1 p
  have b4 := hI.2.2.2
  unfold prF fwF
  rw [rat_at (f := L2) (by omega) (by omega), rat_at (f := L0) (by omega) (by omega), r0, r2, show (2 : Int32) = nI 2 from rfl, pk_mul]
  by_cases k : dy < ba p
  · rw [if_pos (nI_lt k (by omega)), if_pos (Or.inr k)]
  · rw [if_neg (nI_nlt (by omega) (by omega)), if_neg (show ¬ (p = qp q ∨ dy < ba p) from fun z => z.elim hne k)]
    by_cases k2 : qc q ≤ li p
    · rw [if_pos (nI_le k2 (by omega)), if_pos k2]
    · rw [if_neg (nI_ge (by omega) (by omega)), if_neg k2]
      by_cases k3 : qc q ≤ 2 * li p
      · rw [if_neg (nI_nlt k3 (by omega)), prN_run hR hI hc hp hco k3 8 (Nat.le_refl _)]
      · rw [if_pos (nI_lt (by omega) (by omega)), fwN_none k3]
theorem fwF_cases {qp qc : Nat → Nat} {q p : Nat} (hp : p < 8) : fwF li ba de qp qc dy q p = -1 ∨ ∃ w, w < 8 ∧ (w = p ∨ dy < ba w) ∧ fwF li ba de qp qc dy q p = nI w := by
  unfold fwF
  split
  · exact Or.inl rfl
  · split
    · exact Or.inr ⟨p, hp, Or.inl rfl, rfl⟩
    · rcases fwN_cases (li := li) (ba := ba) (de := de) (dy := dy) (p := p) (co := qc q) 8 (Nat.le_refl _) with h | ⟨w, h1, h2, h3⟩
      · exact Or.inl h
      · exact Or.inr ⟨w, h1, Or.inr h2, h3⟩
theorem nI_nm1 {w : Nat} (h : w < 2 ^ 31) : ¬ nI w = -1 := fun e => by
  have := nI_pos h
  rw [e] at this
  exact this (by decide)
theorem gl_run (hR : RepL L0 L1 L2 li ba de) (hI : InvL c li ba de dy) (hc : c ≤ 512) {a co : Nat} (ha : a < 8) (hco : co ≤ 8000) : ∀ n, n ≤ 8 → glN L0 L2 (nI dy) (nI a) (nI co) n = mxN li ba dy a co n
  | 0, _ => rfl
  | n + 1, hn => by
    have ih := gl_run hR hI hc ha hco n (by omega)
    obtain ⟨r0, r2, -⟩ := hR n (by omega)
    have b1 := hI.1 n
    have b2 := hI.2.1 n
    have b4 := hI.2.2.2
    unfold glN mxN
    rw [rat_at (f := L2) (by omega) (by omega), rat_at (f := L0) (by omega) (by omega), r0, r2, ih]
    by_cases k : ¬ n = a ∧ ba n ≤ dy ∧ co ≤ li n ∧ mxN li ba dy a co n < nI (li n)
    · rw [if_pos k, if_pos ⟨fun z => k.1 ((nI_eq (by omega) (by omega)).mp z), nI_nlt k.2.1 (by omega), nI_le k.2.2.1 (by omega), k.2.2.2⟩]
    · rw [if_neg k, if_neg]
      rintro ⟨q1, q2, q3, q4⟩
      exact k ⟨fun z => q1 (by rw [z]), Nat.not_lt.mp (fun z => q2 (nI_lt z (by omega))), (nI_leI (by omega) (by omega)).mp q3, q4⟩
end People
/-- an approval: its end in the class' row, by whom and until in the reference's -/
def RepA (dy : Nat) (e : Int32) (a : Nat) (u : Int32) : Prop := ∃ k : Nat, k < 2 ^ 31 ∧ e = nI k ∧ ((0 < a ∧ u = -1 ∧ k = 2147483647) ∨ (0 < a ∧ u = nI k ∧ dy < k ∧ k ≤ 40000) ∨ (a = 0 ∧ k ≤ dy))
theorem RepA.lt {dy a : Nat} {e u : Int32} (h : RepA dy e a u) (hd : dy ≤ 40000) : nI dy < e ↔ 0 < a := by
  obtain ⟨k, h1, rfl, h | h | h⟩ := h
  · exact ⟨fun _ => h.1, fun _ => nI_lt (by omega) h1⟩
  · exact ⟨fun _ => h.1, fun _ => nI_lt h.2.2.1 h1⟩
  · refine ⟨fun q => ?_, fun q => by omega⟩
    have := (nI_ltI (by omega) h1).mp q
    omega
theorem RepA.zero (dy : Nat) (u : Int32) : RepA dy 0 0 u := ⟨0, by omega, rfl, Or.inr (Or.inr ⟨rfl, Nat.zero_le _⟩)⟩
theorem RepA.pass {dy dy2 a : Nat} {e u : Int32} (h : RepA dy e a u) (hd : dy ≤ dy2) (hd2 : dy2 ≤ 40000) : RepA dy2 e (if 0 < a ∧ (0 : Int32) ≤ u ∧ u ≤ nI dy2 then 0 else a) u := by
  obtain ⟨k, h1, rfl, h | h | h⟩ := h
  · rw [if_neg (fun z => by rw [h.2.1] at z; exact absurd z.2.1 (by decide))]
    exact ⟨k, h1, rfl, Or.inl h⟩
  · by_cases z : k ≤ dy2
    · rw [if_pos ⟨h.1, by rw [h.2.1]; exact nI_pos' (by omega), by rw [h.2.1]; exact nI_le z (by omega)⟩]
      exact ⟨k, h1, rfl, Or.inr (Or.inr ⟨rfl, z⟩)⟩
    · rw [if_neg (fun y => by rw [h.2.1] at y; exact z ((nI_leI (by omega) (by omega)).mp y.2.2))]
      exact ⟨k, h1, rfl, Or.inr (Or.inl ⟨h.1, h.2.1, by omega, h.2.2.2⟩)⟩
  · rw [if_neg (fun y => by omega)]
    exact ⟨k, h1, rfl, Or.inr (Or.inr ⟨h.1, by omega⟩)⟩
theorem paA_at (ap : Nat → Nat) (un : Nat → Int32) (dy : Nat) : ∀ n k, paA ap un dy n k = if k < n then paV ap un dy k else ap k
  | 0, k => by rw [if_neg (Nat.not_lt_zero _)]; rfl
  | n + 1, k => by
    have e0 : paV (paA ap un dy n) un dy n = paV ap un dy n := by
      unfold paV
      rw [paA_at ap un dy n n, if_neg (Nat.lt_irrefl _)]
    unfold paA
    rw [e0]
    by_cases e : k = n
    · rw [e, va_up_self, if_pos (Nat.lt_succ_self _)]
    · rw [va_up_ne _ _ e, paA_at ap un dy n k]
      by_cases h : k < n
      · rw [if_pos h, if_pos (by omega)]
      · rw [if_neg h, if_neg (by omega)]
theorem erN_at (Q6 : Nat → Int32) {q : Nat} (hq : q < 30) : ∀ n, n ≤ 8 → ∀ k, erN Q6 (nI q) n k = if 8 * q ≤ k ∧ k < 8 * q + n then 0 else Q6 k
  | 0, _, k => by rw [if_neg (by omega)]; rfl
  | n + 1, hn, k => by
    unfold erN
    rw [q8_at, rup_at (by omega) (by omega)]
    by_cases e : k = 8 * q + n
    · rw [e, va_up_self, if_pos (by omega)]
    · rw [va_up_ne _ _ e, erN_at Q6 hq n (by omega) k]
      by_cases h : 8 * q ≤ k ∧ k < 8 * q + n
      · rw [if_pos h, if_pos (by omega)]
      · rw [if_neg h, if_neg (by omega)]
theorem enA_at (ap : Nat → Nat) (q : Nat) : ∀ n k, enA ap q n k = if 8 * q ≤ k ∧ k < 8 * q + n then 0 else ap k
  | 0, k => by rw [if_neg (by omega)]; rfl
  | n + 1, k => by
    unfold enA
    by_cases e : k = 8 * q + n
    · rw [e, va_up_self, if_pos (by omega)]
    · rw [va_up_ne _ _ e, enA_at ap q n k]
      by_cases h : 8 * q ≤ k ∧ k < 8 * q + n
      · rw [if_pos h, if_pos (by omega)]
      · rw [if_neg h, if_neg (by omega)]
theorem emC_at (ch : Nat → Nat) (q : Nat) : ∀ n k, emC ch q n k = if 8 * q ≤ k ∧ k < 8 * q + n then 0 else ch k
  | 0, k => by rw [if_neg (by omega)]; rfl
  | n + 1, k => by
    unfold emC
    by_cases e : k = 8 * q + n
    · rw [e, va_up_self, if_pos (by omega)]
    · rw [va_up_ne _ _ e, emC_at ch q n k]
      by_cases h : 8 * q ≤ k ∧ k < 8 * q + n
      · rw [if_pos h, if_pos (by omega)]
      · rw [if_neg h, if_neg (by omega)]
theorem enS_ap (ap : Nat → Nat) (q : Nat) : ∀ n, enS ap q n = apS ap q n
  | 0 => rfl
  | n + 1 => by
    unfold enS apS
    rw [enS_ap ap q n, enA_at, if_neg (show ¬ (8 * q ≤ 8 * q + n ∧ 8 * q + n < 8 * q + n) by omega)]
theorem apN_run {Q6 : Nat → Int32} {ap : Nat → Nat} {un : Nat → Int32} {q dy : Nat} (hq : q < 30) (hd : dy ≤ 40000) (hA : ∀ p, p < 8 → RepA dy (Q6 (8 * q + p)) (ap (8 * q + p)) (un (8 * q + p))) : ∀ n, n ≤ 8 → apN Q6 (nI q) (nI dy) n = nI (apS ap q n)
  | 0, _ => rfl
  | n + 1, hn => by
    have ih := apN_run hq hd hA n (by omega)
    have h := (hA n (by omega)).lt hd
    unfold apN apS
    rw [q8_at, rat_at (by omega) (by omega), ih]
    by_cases k : 0 < ap (8 * q + n)
    · rw [if_pos (h.mpr k), if_pos k]
      exact nI_1 _
    · rw [if_neg (fun z => k (h.mp z)), if_neg k]
      rfl
theorem apS_le9 (ap : Nat → Nat) (q : Nat) : ∀ n, apS ap q n ≤ n
  | 0 => Nat.le_refl _
  | n + 1 => by
    have := apS_le9 ap q n
    unfold apS
    split <;> omega
theorem apS_0 {ap : Nat → Nat} {q : Nat} (h : ∀ p, p < 8 → ap (8 * q + p) = 0) : ∀ n, n ≤ 8 → apS ap q n = 0
  | 0, _ => rfl
  | n + 1, hn => by
    unfold apS
    rw [apS_0 h n (by omega), h n (by omega)]
    rfl
def cov9i (co n : Nat) : Int32 := if (if co ≤ 500 then 1 else 2) ≤ n then 1 else 0
theorem cov9i_T {co n : Nat} (h : cov9 co n) : cov9i co n = 1 := if_pos h
theorem cov9i_F {co n : Nat} (h : ¬ cov9 co n) : cov9i co n = 0 := if_neg h
theorem cov_run {co n : Nat} (hco : co ≤ 8000) (hn : n ≤ 8) : covI (nI co) (nI n) = cov9i co n := by
  unfold covI cov9i
  by_cases h : co ≤ 500
  · rw [if_pos (show nI co ≤ 500 from nI_le (b := 500) h (by omega)), if_pos h]
    by_cases k : 1 ≤ n
    · rw [if_pos (show (1 : Int32) ≤ nI n from nI_le (a := 1) k (by omega)), if_pos k]
    · rw [if_neg (show ¬ (1 : Int32) ≤ nI n from nI_ge (b := 1) (by omega) (by omega)), if_neg k]
  · rw [if_neg (show ¬ nI co ≤ 500 from nI_ge (a := 500) (by omega) (by omega)), if_neg h]
    by_cases k : 2 ≤ n
    · rw [if_pos (show (2 : Int32) ≤ nI n from nI_le (a := 2) k (by omega)), if_pos k]
    · rw [if_neg (show ¬ (2 : Int32) ≤ nI n from nI_ge (b := 2) (by omega) (by omega)), if_neg k]
theorem cov_0 (c : Int32) (co : Nat) : covI c (nI 0) = cov9i co 0 := by
  have h1 : cov9i co 0 = 0 := by
    unfold cov9i
    rw [if_neg (show ¬ (if co ≤ 500 then 1 else 2) ≤ 0 by split <;> omega)]
  rw [h1]
  unfold covI
  split
  · exact if_neg (by decide)
  · exact if_neg (by decide)
/-- one request -/
def RepR (dy : Nat) (T : T4) (qs qc ch ap : Nat → Nat) (un : Nat → Int32) (q : Nat) : Prop := T.1 q = nI (qs q) ∧ (0 < qs q → T.2.2.1 q = nI (qc q)) ∧ (∀ p, p < 8 → chv (T.2.1 q) (nI p) = nI (ch (8 * q + p))) ∧ ∀ p, p < 8 → RepA dy (T.2.2.2 (8 * q + p)) (ap (8 * q + p)) (un (8 * q + p))
def InvR (qs ch ap : Nat → Nat) (rq : Nat) : Prop := (∀ k, qs k ≤ 2) ∧ (∀ k, ch k ≤ 3) ∧ (∀ k, ap k ≤ 8) ∧ (∀ q, q < 30 → qs q = 0 → ∀ p, p < 8 → ch (8 * q + p) = 0 ∧ ap (8 * q + p) = 0) ∧ ∀ q, rq ≤ q → q < 30 → qs q = 0
theorem re_inv {qs ch ap : Nat → Nat} {rq : Nat} (hI : InvR qs ch ap rq) (p v : Nat) : ∀ n, InvR (reT p v (ap, qs, ch) n).2.1 (reT p v (ap, qs, ch) n).2.2 (reT p v (ap, qs, ch) n).1 rq
  | 0 => hI
  | n + 1 => by
    have ih := re_inv hI p v n
    unfold reT reS
    generalize reT p v (ap, qs, ch) n = R at *
    obtain ⟨a, s, c⟩ := R
    dsimp only at *
    obtain ⟨j1, j2, j3, j4, j5⟩ := ih
    have hen : ∀ k, enA a n 8 k ≤ 8 := fun k => by
      rw [enA_at]
      split
      · omega
      · exact j3 k
    have hz : ∀ k, a k = 0 → enA a n 8 k = 0 := fun k hk => by
      rw [enA_at]
      split
      · rfl
      · exact hk
    split
    · split
      · refine ⟨fun k => ?_, fun k => ?_, hen, fun q hq hs0 p' hp' => ?_, fun q h1 h2 => ?_⟩
        · try dsimp only
          rw [upk]
          split
          · omega
          · exact j1 k
        · try dsimp only
          rw [emC_at]
          split
          · omega
          · exact j2 k
        · try dsimp only at hs0 ⊢
          by_cases e : q = n
          · rw [emC_at, if_pos (by omega), enA_at, if_pos (by omega)]
            exact ⟨rfl, rfl⟩
          · rw [va_up_ne _ _ e] at hs0
            have h4 := j4 q hq hs0 p' hp'
            rw [emC_at, if_neg (by omega)]
            exact ⟨h4.1, hz _ h4.2⟩
        · try dsimp only
          rw [upk]
          split
          · rfl
          · exact j5 q h1 h2
      · exact ⟨j1, j2, hen, fun q hq hs0 p' hp' => ⟨(j4 q hq hs0 p' hp').1, hz _ (j4 q hq hs0 p' hp').2⟩, j5⟩
    · exact ⟨j1, j2, j3, j4, j5⟩
theorem lv_run {Q3 Q4 Q5 Q6 : Nat → Int32} {qs qc ch ap : Nat → Nat} {un : Nat → Int32} {dy rq p v : Nat} (hp : p < 8) (hv : 1 ≤ v ∧ v ≤ 3) (hrq : rq ≤ 30) (hd : dy ≤ 40000) (hR : ∀ q, q < rq → RepR dy (Q3, Q4, Q5, Q6) qs qc ch ap un q) (hI : InvR qs ch ap rq) : ∀ n, n ≤ rq →
    (∀ q, q < rq → RepR dy (lvT (Q3, Q4, Q5, Q6) (nI p) (nI v) n) (reT p v (ap, qs, ch) n).2.1 qc (reT p v (ap, qs, ch) n).2.2 (reT p v (ap, qs, ch) n).1 un q) ∧ lvE (Q3, Q4, Q5, Q6) (nI p) (nI v) (nI dy) n = nI (reE p v (ap, qs, ch) n)
  | 0, _ => ⟨hR, rfl⟩
  | n + 1, hn => by
    obtain ⟨i1, i3⟩ := lv_run hp hv hrq hd hR hI n (by omega)
    have i2 := re_inv hI p v n
    unfold lvT reT lvE reE lvS reS
    rw [i3]
    generalize lvT (Q3, Q4, Q5, Q6) (nI p) (nI v) n = T at *
    generalize reT p v (ap, qs, ch) n = R at *
    obtain ⟨T3, T4', T5, T6⟩ := T
    obtain ⟨a, s, c⟩ := R
    dsimp only at *
    obtain ⟨j1, j2, j3, j4, j5⟩ := i2
    have hn30 : n < 30 := by omega
    obtain ⟨g1, g2, g3, g4⟩ := i1 n (by omega)
    dsimp only at g1 g2 g3 g4
    have hs := j1 n
    have hc := j2 (8 * n + p)
    have hap := apN_run hn30 hd g4 8 (Nat.le_refl _)
    have cnd : chv (rat 30 T4' (nI n)) (nI p) = nI v ↔ (0 < s n ∧ c (8 * n + p) = v) := by
      rw [rat_at hn30 (by omega), g3 p hp, nI_eq (by omega) (by omega)]
      refine ⟨fun h => ⟨?_, h⟩, fun h => h.2⟩
      rcases Nat.eq_zero_or_pos (s n) with z | z
      · have := (j4 n hn30 z p hp).1
        omega
      · exact z
    by_cases k : 0 < s n ∧ c (8 * n + p) = v
    · rw [if_pos (cnd.mpr k), if_pos (cnd.mpr k), if_pos k, if_pos k, hap, enS_ap]
      refine ⟨fun q hq => ?_, nI_add _ _⟩
      have er : ∀ p, p < 8 → (q = n → RepA dy (erN T6 (nI n) 8 (8 * q + p)) (enA a n 8 (8 * q + p)) (un (8 * q + p))) ∧ (q ≠ n → erN T6 (nI n) 8 (8 * q + p) = T6 (8 * q + p) ∧ enA a n 8 (8 * q + p) = a (8 * q + p)) := by
        intro p hp
        rw [erN_at T6 hn30 8 (Nat.le_refl _), enA_at]
        refine ⟨fun e => ?_, fun e => ?_⟩
        · rw [if_pos (by omega), if_pos (by omega)]
          exact RepA.zero dy _
        · rw [if_neg (by omega), if_neg (by omega)]
          exact ⟨rfl, rfl⟩
      obtain ⟨y1, y2, y3, y4⟩ := i1 q hq
      dsimp only at y1 y2 y3 y4
      by_cases k1 : s n = 1
      · rw [if_pos (by rw [rat_at hn30 (by omega), g1, k1]; rfl), if_pos k1, rup_at hn30 (by omega), rup_at hn30 (by omega), rup_at hn30 (by omega)]
        unfold RepR
        dsimp only
        by_cases e : q = n
        · refine ⟨?_, fun z => ?_, fun p' hp' => ?_, fun p' hp' => (er p' hp').1 e⟩
          · rw [e, va_up_self, va_up_self]
            rfl
          · rw [e, va_up_self] at z
            exact absurd z (Nat.lt_irrefl _)
          · rw [e, va_up_self, chv_0, emC_at, if_pos (by omega)]
            rfl
        · refine ⟨?_, fun z => ?_, fun p' hp' => ?_, fun p' hp' => ?_⟩
          · rw [va_up_ne _ _ e, va_up_ne _ _ e]
            exact y1
          · rw [va_up_ne _ _ e] at z
            rw [va_up_ne _ _ e]
            exact y2 z
          · rw [va_up_ne _ _ e, emC_at, if_neg (by omega)]
            exact y3 p' hp'
          · rw [((er p' hp').2 e).1, ((er p' hp').2 e).2]
            exact y4 p' hp'
      · rw [if_neg (by rw [rat_at hn30 (by omega), g1]; exact fun z => k1 ((nI_eq (b := 1) (by omega) (by omega)).mp z)), if_neg k1]
        unfold RepR
        dsimp only
        refine ⟨y1, y2, y3, fun p' hp' => ?_⟩
        by_cases e : q = n
        · exact (er p' hp').1 e
        · rw [((er p' hp').2 e).1, ((er p' hp').2 e).2]
          exact y4 p' hp'
    · rw [if_neg (fun z => k (cnd.mp z)), if_neg (fun z => k (cnd.mp z)), if_neg k, if_neg k]
      exact ⟨i1, rfl⟩
/-- sums over the parts -/
def sm (f : Nat → Nat) : Nat → Nat
  | 0 => 0
  | n + 1 => sm f n + f n
theorem sm_ext {f g : Nat → Nat} : ∀ n, (∀ p, p < n → f p = g p) → sm f n = sm g n
  | 0, _ => rfl
  | n + 1, h => by
    unfold sm
    rw [sm_ext n (fun p hp => h p (by omega)), h n (by omega)]
theorem sm_put {f g : Nat → Nat} {r x : Nat} (h0 : f r = 0) (hr : g r = x) (hn : ∀ p, p ≠ r → g p = f p) : ∀ n, sm g n = sm f n + (if r < n then x else 0)
  | 0 => by rw [if_neg (Nat.not_lt_zero _)]; rfl
  | n + 1 => by
    have ih := sm_put h0 hr hn n
    show sm g n + g n = sm f n + f n + (if r < n + 1 then x else 0)
    rw [ih]
    by_cases e : n = r
    · have h1 : g n = x := by rw [e]; exact hr
      have h2 : f n = 0 := by rw [e]; exact h0
      split <;> split <;> omega
    · have h1 := hn n e
      split <;> split <;> omega
theorem sm_le {f : Nat → Nat} {b : Nat} (h : ∀ p, f p ≤ b) : ∀ n, sm f n ≤ n * b
  | 0 => by unfold sm; omega
  | n + 1 => by
    have := sm_le h n
    have := h n
    unfold sm
    rw [Nat.succ_mul]
    omega
def cst (vc g : Nat → Nat) (p : Nat) : Nat := if g p = 0 then 0 else vc (3 * p + g p - 1)
theorem cst_at {vc g : Nat → Nat} {p v : Nat} (h : g p = v) : cst vc g p = if v = 0 then 0 else vc (3 * p + v - 1) := by
  subst h
  rfl
theorem cst_ext {vc g g2 : Nat → Nat} {p : Nat} (h : g p = g2 p) : cst vc g p = cst vc g2 p := by
  unfold cst
  rw [h]
theorem pcost_run {P1 : Nat → Int32} {vc g : Nat → Nat} {c : Int32} (hg : ∀ p, p < 8 → chv c (nI p) = nI (g p)) (h3 : ∀ p, p < 8 → g p ≤ 3) (hP : ∀ p, p < 8 → 1 ≤ g p → P1 (3 * p + g p - 1) = nI (vc (3 * p + g p - 1))) : ∀ n, n ≤ 8 → pcostN P1 c n = nI (sm (cst vc g) n)
  | 0, _ => rfl
  | n + 1, hn => by
    have ih := pcost_run hg h3 hP n (by omega)
    have h := h3 n (by omega)
    show (if chv c (nI n) = 0 then pcostN P1 c n else pcostN P1 c n + rat 24 P1 (plc (nI n) (chv c (nI n)))) = nI (sm (cst vc g) n + (if g n = 0 then 0 else vc (3 * n + g n - 1)))
    rw [hg n (by omega), ih]
    by_cases k : g n = 0
    · rw [if_pos (show nI (g n) = 0 by rw [k]; rfl), if_pos k, Nat.add_zero]
    · rw [if_neg (show ¬ nI (g n) = 0 from nI_ne0 (by omega) (by omega)), if_neg k, plc_at (by omega), rat_at (by omega) (by omega), hP n (by omega) (by omega), nI_add]
theorem rs_run {ys ws : List Nat} {ro pi : Nat → Nat} (hw : Wf ys) (hr : ∀ k, k < ys.length → ro k = gd ys k) (hpi : ∀ k, k < ys.length → pi k = gd ws k) (h1 : ∀ i, i < ys.length → 1 ≤ gd ws i) (q : Nat) (ch0 : Nat → Nat) (h0 : ∀ p, p < 8 → ch0 (8 * q + p) = 0) (vc : Nat → Nat) : ∀ n, n ≤ ys.length →
    (∀ i, i < n → rsC ro pi q ch0 n (8 * q + gd ys i) = gd ws i) ∧ (∀ k, (∀ i, i < n → k ≠ 8 * q + gd ys i) → rsC ro pi q ch0 n k = ch0 k) ∧ rsS vc ro pi n = sm (cst vc (fun p => rsC ro pi q ch0 n (8 * q + p))) 8
  | 0, _ => by
    refine ⟨fun i hi => absurd hi (Nat.not_lt_zero _), fun _ _ => rfl, ?_⟩
    unfold rsS
    rw [sm_ext (g := fun _ => 0) 8 (fun p hp => by unfold cst; exact if_pos (h0 p hp))]
    rfl
  | n + 1, hn => by
    obtain ⟨i1, i2, i3⟩ := rs_run hw hr hpi h1 q ch0 h0 vc n (by omega)
    unfold rsC rsS
    rw [hr n (by omega), hpi n (by omega), i3]
    have hy := hw.at (k := n) (by omega)
    refine ⟨fun i hi => ?_, fun k hk => ?_, ?_⟩
    · by_cases e : i = n
      · rw [e, va_up_self]
      · rw [va_up_ne _ _ (by have := gd_ne hw.1 (i := i) (j := n) (by omega) (by omega); omega)]
        exact i1 i (by omega)
    · rw [va_up_ne _ _ (hk n (by omega))]
      exact i2 k (fun i hi => hk i (by omega))
    · have hz : rsC ro pi q ch0 n (8 * q + gd ys n) = 0 := by
        rw [i2 _ (fun i hi => by have := gd_ne hw.1 (i := i) (j := n) (by omega) (by omega); omega)]
        exact h0 _ hy
      have hws := h1 n (by omega)
      rw [sm_put (f := cst vc (fun p => rsC ro pi q ch0 n (8 * q + p))) (g := cst vc (fun p => va_up (rsC ro pi q ch0 n) (8 * q + gd ys n) (gd ws n) (8 * q + p))) (r := gd ys n) (x := vc (3 * gd ys n + gd ws n - 1)) (if_pos hz) ?_ ?_ 8, if_pos hy]
      · rw [cst_at (v := gd ws n) (by rw [va_up_self]), if_neg (by omega)]
      · intro p hp
        refine cst_ext ?_
        rw [va_up_ne _ _ (by omega)]
