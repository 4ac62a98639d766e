/-! What each kind of entry does to the class' rows, and what the call does to the reference's. -/
section OpP
variable {P0 P1 P2 P3 P4 P5 : Nat → Int32} {vc vr vn ne vs : Nat → Nat}
theorem RepP.count (hR : RepP P0 P1 P2 P3 P4 P5 vc vr vn ne vs) {p : Nat} (hp : p < 8) : rat 8 P0 (nI p) = nI (vs p) := by
  rw [rat_at hp (by omega), hR.1 p hp]
theorem RepP.repl (hR : RepP P0 P1 P2 P3 P4 P5 vc vr vn ne vs) {p v : Nat} (hp : p < 8) (hv : 1 ≤ v ∧ v ≤ vs p) (hvs : ∀ k, vs k ≤ 3) : rat 24 P2 (plc (nI p) (nI v)) = nI (vr (3 * p + v - 1)) := by
  have := hvs p
  rw [plc_at hv.1, rat_at (by omega) (by omega), (hR.2 p hp v hv.1 hv.2).2.1]
theorem RepP.nneed (hR : RepP P0 P1 P2 P3 P4 P5 vc vr vn ne vs) {p v : Nat} (hp : p < 8) (hv : 1 ≤ v ∧ v ≤ vs p) (hvs : ∀ k, vs k ≤ 3) : rat 24 P3 (plc (nI p) (nI v)) = nI (vn (3 * p + v - 1)) := by
  have := hvs p
  rw [plc_at hv.1, rat_at (by omega) (by omega), (hR.2 p hp v hv.1 hv.2).2.2.1]
theorem RepP.version (hR : RepP P0 P1 P2 P3 P4 P5 vc vr vn ne vs) (hI : InvP vc vr vn ne vs) {p co : Nat} (hp : p < 8) (h3 : vs p < 3) :
    RepP (rup 8 P0 (nI p) (rat 8 P0 (nI p) + 1)) (rup 24 P1 (plc (nI p) (rat 8 P0 (nI p) + 1)) (nI co)) (rup 24 P2 (plc (nI p) (rat 8 P0 (nI p) + 1)) 0) (rup 24 P3 (plc (nI p) (rat 8 P0 (nI p) + 1)) 0) P4 P5 (va_up vc (3 * p + vs p) co) vr vn ne (va_up vs p (vs p + 1)) := by
  rw [hR.count hp, nI_1, plc_at (by omega), rup_at (by omega) (by omega), rup_at (by omega) (by omega), rup_at (by omega) (by omega), rup_at (by omega) (by omega), show 3 * p + (vs p + 1) - 1 = 3 * p + vs p by omega]
  refine ⟨fun r hr => ?_, fun r hr v v1 v2 => ?_⟩
  · rw [upk, upk]
    split
    · rfl
    · exact hR.1 r hr
  · rw [upk] at v2
    by_cases e : 3 * r + v - 1 = 3 * p + vs p
    · obtain ⟨i1, i2⟩ := hI.2.2.2.2.2.1 p hp (vs p + 1) (by omega) (by omega)
      rw [show 3 * p + (vs p + 1) - 1 = 3 * p + vs p by omega] at i1 i2
      rw [e, va_up_self, va_up_self, va_up_self, va_up_self, i1, i2]
      exact ⟨rfl, rfl, rfl, fun j hj => absurd hj (Nat.not_lt_zero _)⟩
    · have hv2 : v ≤ vs r := by
        split at v2
        · subst r; omega
        · exact v2
      rw [va_up_ne _ _ e, va_up_ne _ _ e, va_up_ne _ _ e, va_up_ne _ _ e]
      exact hR.2 r hr v v1 hv2
theorem InvP.version (hI : InvP vc vr vn ne vs) {p co : Nat} (h3 : vs p < 3) (hc : co ≤ 1000) : InvP (va_up vc (3 * p + vs p) co) vr vn ne (va_up vs p (vs p + 1)) := by
  obtain ⟨i1, i2, i3, i4, i5, i6, i7⟩ := hI
  refine ⟨fun k => ?_, i2, i3, i4, fun k => ?_, fun r hr v v1 v2 => i6 r hr v ?_ v2, i7⟩
  · rw [upk]
    split
    · omega
    · exact i1 k
  · rw [upk]
    split
    · omega
    · exact i5 k
  · rw [upk] at v1
    split at v1
    · subst r; omega
    · exact v1
theorem RepP.need (hR : RepP P0 P1 P2 P3 P4 P5 vc vr vn ne vs) (hI : InvP vc vr vn ne vs) {p v o a b : Nat} (hp : p < 8) (hv : 1 ≤ v ∧ v ≤ vs p) (h4 : vn (3 * p + v - 1) < 4) :
    RepP P0 P1 P2 (rup 24 P3 (plc (nI p) (nI v)) (rat 24 P3 (plc (nI p) (nI v)) + 1)) (rup 96 P4 (plc (nI p) (nI v) * 4 + rat 24 P3 (plc (nI p) (nI v))) (nI o)) (rup 96 P5 (plc (nI p) (nI v) * 4 + rat 24 P3 (plc (nI p) (nI v))) (vset (nI a) (nI b))) vc vr (va_up vn (3 * p + v - 1) (vn (3 * p + v - 1) + 1)) (va_up (va_up (va_up ne (12 * (3 * p + v - 1) + 3 * vn (3 * p + v - 1)) o) ((12 * (3 * p + v - 1) + 3 * vn (3 * p + v - 1)) + 1) a) ((12 * (3 * p + v - 1) + 3 * vn (3 * p + v - 1)) + 2) b) vs := by
  have h3 := hI.1 p
  rw [hR.nneed hp hv hI.1, nI_1, plc_at hv.1, x4_at, rup_at (by omega) (by omega), rup_at (by omega) (by omega), rup_at (by omega) (by omega)]
  obtain ⟨x, hx⟩ : ∃ x, x = 3 * p + v - 1 := ⟨_, rfl⟩
  rw [← hx] at h4 ⊢
  refine ⟨hR.1, fun r hr w w1 w2 => ?_⟩
  obtain ⟨g1, g2, g3, g4⟩ := hR.2 r hr w w1 w2
  have hvn := hI.2.2.1 (3 * r + w - 1)
  generalize 3 * r + w - 1 = y at *
  refine ⟨g1, g2, ?_, fun j hj => ?_⟩
  · by_cases e : y = x
    · rw [e, va_up_self, va_up_self]
    · rw [va_up_ne _ _ e, va_up_ne _ _ e]
      exact g3
  · by_cases e : y = x
    · subst e
      rw [va_up_self] at hj
      by_cases k : j = vn y
      · subst k
        rw [va_up_self, va_up_self, va_up_ne _ _ (by omega), va_up_ne _ _ (by omega), va_up_self, va_up_ne _ _ (by omega), va_up_self, va_up_self]
        exact ⟨rfl, rfl⟩
      · rw [va_up_ne _ _ (by omega), va_up_ne _ _ (by omega), va_up_ne _ _ (by omega), va_up_ne _ _ (by omega), va_up_ne _ _ (by omega), va_up_ne _ _ (by omega), va_up_ne _ _ (by omega), va_up_ne _ _ (by omega), va_up_ne _ _ (by omega), va_up_ne _ _ (by omega), va_up_ne _ _ (by omega)]
        exact g4 j (by omega)
    · rw [va_up_ne _ _ e] at hj
      rw [va_up_ne _ _ (by omega), va_up_ne _ _ (by omega), va_up_ne _ _ (by omega), va_up_ne _ _ (by omega), va_up_ne _ _ (by omega), va_up_ne _ _ (by omega), va_up_ne _ _ (by omega), va_up_ne _ _ (by omega), va_up_ne _ _ (by omega), va_up_ne _ _ (by omega), va_up_ne _ _ (by omega)]
      exact g4 j hj
theorem InvP.need (hI : InvP vc vr vn ne vs) {p v o a b : Nat} (hp : p < 8) (hv : 1 ≤ v ∧ v ≤ vs p) (h4 : vn (3 * p + v - 1) < 4) (ho : o < 8) (hne : ¬ p = o) (ha : 1 ≤ a ∧ a ≤ 3) (hb : a ≤ b ∧ b ≤ 3) :
    InvP vc vr (va_up vn (3 * p + v - 1) (vn (3 * p + v - 1) + 1)) (va_up (va_up (va_up ne (12 * (3 * p + v - 1) + 3 * vn (3 * p + v - 1)) o) ((12 * (3 * p + v - 1) + 3 * vn (3 * p + v - 1)) + 1) a) ((12 * (3 * p + v - 1) + 3 * vn (3 * p + v - 1)) + 2) b) vs := by
  obtain ⟨i1, i2, i3, i4, i5, i6, i7⟩ := hI
  have h3 := i1 p
  obtain ⟨x, hx⟩ : ∃ x, x = 3 * p + v - 1 := ⟨_, rfl⟩
  rw [← hx] at h4 ⊢
  refine ⟨i1, i2, fun k => ?_, fun k => ?_, i5, fun r hr w w1 w2 => ?_, fun r hr w w1 w2 j hj => ?_⟩
  · rw [upk]
    split
    · omega
    · exact i3 k
  · rw [upk, upk, upk]
    have := i4 k
    split
    · omega
    · split
      · omega
      · split <;> omega
  · have hnx : ¬ 3 * r + w - 1 = x := by
      intro e
      have hrp : r = p := by omega
      rw [hrp] at w1
      omega
    rw [va_up_ne _ _ hnx]
    exact i6 r hr w w1 w2
  · have hvn := i3 (3 * r + w - 1)
    obtain ⟨y, hy⟩ : ∃ y, y = 3 * r + w - 1 := ⟨_, rfl⟩
    have i7' := i7 r hr w w1 w2
    rw [← hy] at hj hvn i7' ⊢
    by_cases e : y = x
    · have er : r = p := by omega
      subst e
      rw [va_up_self] at hj
      by_cases k : j = vn y
      · subst k
        rw [va_up_self, va_up_ne _ _ (by omega), va_up_ne _ _ (by omega), va_up_self, va_up_ne _ _ (by omega), va_up_self, er]
        exact ⟨fun z => hne z.symm, ha.1, hb.1, hb.2⟩
      · rw [va_up_ne _ _ (by omega), va_up_ne _ _ (by omega), va_up_ne _ _ (by omega), va_up_ne _ _ (by omega), va_up_ne _ _ (by omega), va_up_ne _ _ (by omega), va_up_ne _ _ (by omega), va_up_ne _ _ (by omega), va_up_ne _ _ (by omega)]
        exact i7' j (by omega)
    · rw [va_up_ne _ _ e] at hj
      rw [va_up_ne _ _ (by omega), va_up_ne _ _ (by omega), va_up_ne _ _ (by omega), va_up_ne _ _ (by omega), va_up_ne _ _ (by omega), va_up_ne _ _ (by omega), va_up_ne _ _ (by omega), va_up_ne _ _ (by omega), va_up_ne _ _ (by omega)]
      exact i7' j hj
theorem RepP.replace (hR : RepP P0 P1 P2 P3 P4 P5 vc vr vn ne vs) (hI : InvP vc vr vn ne vs) {p v : Nat} (hp : p < 8) (hv : 1 ≤ v ∧ v ≤ vs p) :
    RepP P0 P1 (rup 24 P2 (plc (nI p) (nI v)) 1) P3 P4 P5 vc (va_up vr (3 * p + v - 1) 1) vn ne vs := by
  have h3 := hI.1 p
  rw [plc_at hv.1, rup_at (by omega) (by omega)]
  refine ⟨hR.1, fun r hr w w1 w2 => ?_⟩
  obtain ⟨g1, g2, g3, g4⟩ := hR.2 r hr w w1 w2
  refine ⟨g1, ?_, g3, g4⟩
  rw [upk, upk]
  split
  · rfl
  · exact g2
theorem InvP.replace (hI : InvP vc vr vn ne vs) {p v : Nat} (hp : p < 8) (hv : 1 ≤ v ∧ v ≤ vs p) : InvP vc (va_up vr (3 * p + v - 1) 1) vn ne vs := by
  obtain ⟨i1, i2, i3, i4, i5, i6, i7⟩ := hI
  have h3 := i1 p
  refine ⟨i1, fun k => ?_, i3, i4, i5, fun r hr w w1 w2 => ?_, i7⟩
  · rw [upk]
    split
    · omega
    · exact i2 k
  · have hnx : ¬ 3 * r + w - 1 = 3 * p + v - 1 := by
      intro e
      have hrp : r = p := by omega
      rw [hrp] at w1
      omega
    rw [va_up_ne _ _ hnx]
    exact i6 r hr w w1 w2
end OpP
section OpL
variable {L0 L1 L2 : Nat → Int32} {li ba de : Nat → Nat} {c dy : Nat}
theorem RepL.lim (hR : RepL L0 L1 L2 li ba de) {p : Nat} (hp : p < 8) : rat 8 L0 (nI p) = nI (li p) := by
  rw [rat_at hp (by omega), (hR p hp).1]
theorem RepL.limit (hR : RepL L0 L1 L2 li ba de) {p co : Nat} (hp : p < 8) : RepL (rup 8 L0 (nI p) (nI co)) L1 L2 (va_up li p co) ba de := by
  rw [rup_at hp (by omega)]
  intro r hr
  obtain ⟨g1, g2, g3⟩ := hR r hr
  refine ⟨?_, g2, g3⟩
  rw [upk, upk]
  split
  · rfl
  · exact g1
theorem InvL.limit (hI : InvL c li ba de dy) {p co : Nat} (hc : co ≤ 10000) : InvL c (va_up li p co) ba de dy := by
  refine ⟨fun k => ?_, hI.2⟩
  rw [upk]
  split
  · omega
  · exact hI.1 k
theorem InvL.mono (hI : InvL c li ba de dy) : InvL (c + 1) li ba de dy := by
  obtain ⟨i1, i2, i3, i4⟩ := hI
  exact ⟨i1, fun k => by have := i2 k; omega, i3, by omega⟩
theorem RepL.leave (hR : RepL L0 L1 L2 li ba de) {p q m : Nat} (hp : p < 8) : RepL L0 (rup 8 L1 (nI p) (nI q)) (rup 8 L2 (nI p) (nI dy + nI m)) li (va_up ba p (dy + m)) (va_up de p q) := by
  rw [rup_at hp (by omega), rup_at hp (by omega), nI_add]
  intro r hr
  obtain ⟨g1, g2, g3⟩ := hR r hr
  rw [upk, upk, upk, upk]
  by_cases e : r = p
  · rw [if_pos e, if_pos e, if_pos e, if_pos e]
    exact ⟨g1, rfl, fun _ => rfl⟩
  · rw [if_neg e, if_neg e, if_neg e, if_neg e]
    exact ⟨g1, g2, g3⟩
theorem InvL.leave (hI : InvL c li ba de dy) {p q m : Nat} (hq : q < 8) (hm : m ≤ 60) : InvL (c + 1) li (va_up ba p (dy + m)) (va_up de p q) dy := by
  obtain ⟨i1, i2, i3, i4⟩ := hI
  refine ⟨i1, fun k => ?_, fun k => ?_, by omega⟩
  · rw [upk]
    have := i2 k
    split <;> omega
  · rw [upk]
    have := i3 k
    split <;> omega
theorem InvL.pass (hI : InvL c li ba de dy) {m : Nat} (hm : m ≤ 60) : InvL (c + 1) li ba de (dy + m) := by
  obtain ⟨i1, i2, i3, i4⟩ := hI
  exact ⟨i1, fun k => by have := i2 k; omega, i3, by omega⟩
end OpL
/-- the class' rows and the reference's, all of them -/
def RepX (P0 P1 P2 P3 P4 P5 L0 L1 L2 : Nat → Int32) (dI : Int32) (Q0 Q1 Q2 Q3 Q4 Q5 Q6 : Nat → Int32) (nm : Int32) (vc vr vn ne vs li ba de qp qt ql qs qc ch ap : Nat → Nat) (un : Nat → Int32) (rq dy : Nat) : Prop :=
  RepP P0 P1 P2 P3 P4 P5 vc vr vn ne vs ∧ RepL L0 L1 L2 li ba de ∧ dI = nI dy ∧ nm = nI rq ∧ (∀ q, q < rq → Q0 q = nI (qp q) ∧ Q1 q = nI (qt q) ∧ Q2 q = nI (ql q)) ∧ ∀ q, q < rq → RepR dy (Q3, Q4, Q5, Q6) qs qc ch ap un q
def InvX (c : Nat) (vc vr vn ne vs li ba de qp qt ql qs qc ch ap : Nat → Nat) (rq dy : Nat) : Prop :=
  InvP vc vr vn ne vs ∧ InvL c li ba de dy ∧ rq ≤ 30 ∧ (∀ k, qp k ≤ 7) ∧ (∀ k, qt k ≤ 7) ∧ (∀ k, k < rq → 1 ≤ ql k ∧ ql k ≤ 3) ∧ (∀ k, qc k ≤ 8000) ∧ InvR qs ch ap rq
section OpX
variable {P0 P1 P2 P3 P4 P5 L0 L1 L2 : Nat → Int32} {dI : Int32} {Q0 Q1 Q2 Q3 Q4 Q5 Q6 : Nat → Int32} {nm : Int32} {vc vr vn ne vs li ba de qp qt ql qs qc ch ap : Nat → Nat} {un : Nat → Int32} {rq dy c : Nat}
theorem ox_replace (hR : RepX P0 P1 P2 P3 P4 P5 L0 L1 L2 dI Q0 Q1 Q2 Q3 Q4 Q5 Q6 nm vc vr vn ne vs li ba de qp qt ql qs qc ch ap un rq dy) (hI : InvX c vc vr vn ne vs li ba de qp qt ql qs qc ch ap rq dy) (hc : c ≤ 512) {p v : Nat} (hp : p < 8) (hv : 1 ≤ v ∧ v ≤ vs p) :
    RepX P0 P1 (rup 24 P2 (plc (nI p) (nI v)) 1) P3 P4 P5 L0 L1 L2 dI Q0 Q1 Q2 (lvT (Q3, Q4, Q5, Q6) (nI p) (nI v) nm.toNatClampNeg).1 (lvT (Q3, Q4, Q5, Q6) (nI p) (nI v) nm.toNatClampNeg).2.1 (lvT (Q3, Q4, Q5, Q6) (nI p) (nI v) nm.toNatClampNeg).2.2.1 (lvT (Q3, Q4, Q5, Q6) (nI p) (nI v) nm.toNatClampNeg).2.2.2 nm vc (va_up vr (3 * p + v - 1) 1) vn ne vs li ba de qp qt ql (reT p v (ap, qs, ch) rq).2.1 qc (reT p v (ap, qs, ch) rq).2.2 (reT p v (ap, qs, ch) rq).1 un rq dy ∧ lvE (Q3, Q4, Q5, Q6) (nI p) (nI v) dI nm.toNatClampNeg = nI (reE p v (ap, qs, ch) rq) := by
  obtain ⟨r1, r2, rfl, rfl, r5, r6⟩ := hR
  obtain ⟨i1, i2, i3, i4, i5, i6, i7, i8⟩ := hI
  have hv3 := i1.1 p
  have hdy := i2.2.2.2
  obtain ⟨k1, k3⟩ := lv_run hp ⟨hv.1, by omega⟩ i3 (by omega : dy ≤ 40000) r6 i8 rq (Nat.le_refl _)
  rw [nI_clamp (by omega)]
  exact ⟨⟨r1.replace i1 hp hv, r2, rfl, rfl, r5, k1⟩, k3⟩
theorem oi_replace (hI : InvX c vc vr vn ne vs li ba de qp qt ql qs qc ch ap rq dy) {p v : Nat} (hp : p < 8) (hv : 1 ≤ v ∧ v ≤ vs p) : InvX (c + 1) vc (va_up vr (3 * p + v - 1) 1) vn ne vs li ba de qp qt ql (reT p v (ap, qs, ch) rq).2.1 qc (reT p v (ap, qs, ch) rq).2.2 (reT p v (ap, qs, ch) rq).1 rq dy := by
  obtain ⟨i1, i2, i3, i4, i5, i6, i7, i8⟩ := hI
  exact ⟨i1.replace hp hv, i2.mono, i3, i4, i5, i6, i7, re_inv i8 p v rq⟩
theorem ox_pass (hR : RepX P0 P1 P2 P3 P4 P5 L0 L1 L2 dI Q0 Q1 Q2 Q3 Q4 Q5 Q6 nm vc vr vn ne vs li ba de qp qt ql qs qc ch ap un rq dy) (hI : InvX c vc vr vn ne vs li ba de qp qt ql qs qc ch ap rq dy) (hc : c ≤ 511) {m : Nat} (hm : m ≤ 60) :
    RepX P0 P1 P2 P3 P4 P5 L0 L1 L2 (dI + nI m) Q0 Q1 Q2 Q3 Q4 Q5 Q6 nm vc vr vn ne vs li ba de qp qt ql qs qc ch (paA ap un (dy + m) (8 * rq)) un rq (dy + m) := by
  obtain ⟨r1, r2, rfl, r4, r5, r6⟩ := hR
  have hdy := hI.2.1.2.2.2
  refine ⟨r1, r2, nI_add _ _, r4, r5, fun q hq => ?_⟩
  obtain ⟨g1, g2, g3, g4⟩ := r6 q hq
  refine ⟨g1, g2, g3, fun p hp => ?_⟩
  rw [paA_at, if_pos (by omega)]
  exact (g4 p hp).pass (by omega) (by omega)
theorem oi_pass (hI : InvX c vc vr vn ne vs li ba de qp qt ql qs qc ch ap rq dy) {m : Nat} (hm : m ≤ 60) : InvX (c + 1) vc vr vn ne vs li ba de qp qt ql qs qc ch (paA ap un (dy + m) (8 * rq)) rq (dy + m) := by
  obtain ⟨i1, i2, i3, i4, i5, i6, i7, ⟨j1, j2, j3, j4, j5⟩⟩ := hI
  have hle : ∀ k, paA ap un (dy + m) (8 * rq) k ≤ ap k := fun k => by
    rw [paA_at]
    unfold paV
    split
    · split
      · omega
      · exact Nat.le_refl _
    · exact Nat.le_refl _
  refine ⟨i1, i2.pass hm, i3, i4, i5, i6, i7, j1, j2, fun k => Nat.le_trans (hle k) (j3 k), fun q hq h0 p hp => ?_, j5⟩
  have h4 := j4 q hq h0 p hp
  have := hle (8 * q + p)
  exact ⟨h4.1, by omega⟩
theorem ox_request (hR : RepX P0 P1 P2 P3 P4 P5 L0 L1 L2 dI Q0 Q1 Q2 Q3 Q4 Q5 Q6 nm vc vr vn ne vs li ba de qp qt ql qs qc ch ap un rq dy) (hI : InvX c vc vr vn ne vs li ba de qp qt ql qs qc ch ap rq dy) (h30 : rq < 30) {p q a : Nat} :
    RepX P0 P1 P2 P3 P4 P5 L0 L1 L2 dI (rup 30 Q0 nm (nI p)) (rup 30 Q1 nm (nI q)) (rup 30 Q2 nm (nI a)) (rup 30 Q3 nm 0) (rup 30 Q4 nm 0) (rup 30 Q5 nm 0) (erN Q6 nm 8) (nm + 1) vc vr vn ne vs li ba de (va_up qp rq p) (va_up qt rq q) (va_up ql rq a) qs qc ch ap un (rq + 1) dy := by
  obtain ⟨r1, r2, r3, rfl, r5, r6⟩ := hR
  obtain ⟨j1, j2, j3, j4, j5⟩ := hI.2.2.2.2.2.2.2
  have h0 := j5 rq (Nat.le_refl _) h30
  rw [rup_at h30 (by omega), rup_at h30 (by omega), rup_at h30 (by omega), rup_at h30 (by omega), rup_at h30 (by omega), rup_at h30 (by omega)]
  refine ⟨r1, r2, r3, nI_1 _, fun k hk => ?_, fun k hk => ?_⟩
  · rw [upk, upk, upk, upk, upk, upk]
    by_cases e : k = rq
    · rw [if_pos e, if_pos e, if_pos e, if_pos e, if_pos e, if_pos e]
      exact ⟨rfl, rfl, rfl⟩
    · rw [if_neg e, if_neg e, if_neg e, if_neg e, if_neg e, if_neg e]
      exact r5 k (by omega)
  · by_cases e : k = rq
    · subst e
      refine ⟨?_, fun z => by omega, fun p hp => ?_, fun p hp => ?_⟩
      · dsimp only
        rw [va_up_self, h0]
        rfl
      · dsimp only
        rw [va_up_self, chv_0, (j4 k h30 h0 p hp).1]
        rfl
      · dsimp only
        rw [erN_at Q6 h30 8 (Nat.le_refl _), if_pos (by omega), (j4 k h30 h0 p hp).2]
        exact RepA.zero dy _
    · obtain ⟨g1, g2, g3, g4⟩ := r6 k (by omega)
      refine ⟨?_, fun z => ?_, fun p hp => ?_, fun p hp => ?_⟩
      · dsimp only
        rw [va_up_ne _ _ e]
        exact g1
      · dsimp only
        rw [va_up_ne _ _ e]
        exact g2 z
      · dsimp only
        rw [va_up_ne _ _ e]
        exact g3 p hp
      · dsimp only
        rw [erN_at Q6 h30 8 (Nat.le_refl _), if_neg (by omega)]
        exact g4 p hp
theorem oi_request (hI : InvX c vc vr vn ne vs li ba de qp qt ql qs qc ch ap rq dy) (h30 : rq < 30) {p q a : Nat} (hp : p < 8) (hq : q < 8) (ha : 1 ≤ a ∧ a ≤ 3) : InvX (c + 1) vc vr vn ne vs li ba de (va_up qp rq p) (va_up qt rq q) (va_up ql rq a) qs qc ch ap (rq + 1) dy := by
  obtain ⟨i1, i2, i3, i4, i5, i6, i7, ⟨j1, j2, j3, j4, j5⟩⟩ := hI
  refine ⟨i1, i2.mono, by omega, fun k => ?_, fun k => ?_, fun k hk => ?_, i7, j1, j2, j3, j4, fun k h1 h2 => j5 k (by omega) h2⟩
  · rw [upk]
    have := i4 k
    split <;> omega
  · rw [upk]
    have := i5 k
    split <;> omega
  · rw [upk]
    split
    · exact ha
    · exact i6 k (by omega)
theorem ox_release (hR : RepX P0 P1 P2 P3 P4 P5 L0 L1 L2 dI Q0 Q1 Q2 Q3 Q4 Q5 Q6 nm vc vr vn ne vs li ba de qp qt ql qs qc ch ap un rq dy) (hI : InvX c vc vr vn ne vs li ba de qp qt ql qs qc ch ap rq dy) {q : Nat} (hq : q < rq) (h1 : qs q = 1) :
    RepX P0 P1 P2 P3 P4 P5 L0 L1 L2 dI Q0 Q1 Q2 (rup 30 Q3 (nI q) 2) Q4 Q5 Q6 nm vc vr vn ne vs li ba de qp qt ql (va_up qs q 2) qc ch ap un rq dy := by
  obtain ⟨r1, r2, r3, r4, r5, r6⟩ := hR
  have h30 := hI.2.2.1
  rw [rup_at (by omega) (by omega)]
  refine ⟨r1, r2, r3, r4, r5, fun k hk => ?_⟩
  obtain ⟨g1, g2, g3, g4⟩ := r6 k hk
  refine ⟨?_, fun z => g2 ?_, g3, g4⟩
  · dsimp only
    rw [upk, upk]
    split
    · rfl
    · exact g1
  · rw [upk] at z
    split at z
    · subst k; omega
    · exact z
theorem oi_release (hI : InvX c vc vr vn ne vs li ba de qp qt ql qs qc ch ap rq dy) {q : Nat} (hq : q < rq) : InvX (c + 1) vc vr vn ne vs li ba de qp qt ql (va_up qs q 2) qc ch ap rq dy := by
  obtain ⟨i1, i2, i3, i4, i5, i6, i7, ⟨j1, j2, j3, j4, j5⟩⟩ := hI
  refine ⟨i1, i2.mono, i3, i4, i5, i6, i7, fun k => ?_, j2, j3, fun k hk h0 => ?_, fun k h1 h2 => ?_⟩
  · rw [upk]
    have := j1 k
    split <;> omega
  · rw [upk] at h0
    split at h0
    · omega
    · exact j4 k hk h0
  · rw [va_up_ne _ _ (by omega)]
    exact j5 k h1 h2
theorem ox_approve (hR : RepX P0 P1 P2 P3 P4 P5 L0 L1 L2 dI Q0 Q1 Q2 Q3 Q4 Q5 Q6 nm vc vr vn ne vs li ba de qp qt ql qs qc ch ap un rq dy) (hI : InvX c vc vr vn ne vs li ba de qp qt ql qs qc ch ap rq dy) (hc : c ≤ 512) {q p w : Nat} (hq : q < rq) (hp : p < 8) (h1 : qs q = 1) (hw : w < 8) (hf : fwF li ba de qp qc dy q p = nI w) :
    RepX P0 P1 P2 P3 P4 P5 L0 L1 L2 dI Q0 Q1 Q2 Q3 Q4 Q5 (rup 240 Q6 (nI q * 8 + nI p) (tkE L0 L1 L2 dI (nI p) (rat 30 Q5 (nI q)))) nm vc vr vn ne vs li ba de qp qt ql qs qc ch (va_up ap (8 * q + p) (w + 1)) (va_up un (8 * q + p) (if w = p then -1 else nI (ba w))) rq dy ∧ prF L0 L1 L2 dI (nI p) (rat 30 Q5 (nI q)) = nI w := by
  obtain ⟨r1, r2, rfl, r4, r5, r6⟩ := hR
  have h30 := hI.2.2.1
  have hdy := hI.2.1.2.2.2
  have hba := hI.2.1.2.1 w
  have hqc := hI.2.2.2.2.2.2.1 q
  obtain ⟨y1, y2, y3, y4⟩ := r6 q hq
  have e5 : rat 30 Q5 (nI q) = nI (qc q) := by
    rw [rat_at (by omega) (by omega)]
    exact y2 (by omega)
  have hne : ¬ p = qp q := fun z => by
    unfold fwF at hf
    rw [if_pos (Or.inl z)] at hf
    exact nI_nm1 (by omega) hf.symm
  have ep : prF L0 L1 L2 (nI dy) (nI p) (nI (qc q)) = nI w := by rw [prF_run r2 hI.2.1 hc hp hqc hne, hf]
  rw [e5]
  refine ⟨?_, ep⟩
  have hwc : w = p ∨ dy < ba w := by
    rcases fwF_cases (li := li) (ba := ba) (de := de) (dy := dy) (qp := qp) (qc := qc) (q := q) hp with z | ⟨w', z1, z2, z3⟩
    · rw [hf] at z
      exact absurd z (nI_nm1 (by omega))
    · rw [hf] at z3
      rw [(nI_eq (by omega) (by omega)).mp z3]
      exact z2
  have et : tkE L0 L1 L2 (nI dy) (nI p) (nI (qc q)) = if w = p then 2147483647 else nI (ba w) := by
    unfold tkE
    rw [ep]
    by_cases e : w = p
    · rw [if_pos e, if_pos (by rw [e])]
    · rw [if_neg e, if_neg (fun z => e ((nI_eq (by omega) (by omega)).mp z)), rat_at hw (by omega), (r2 w hw).2.1]
  rw [et, q8_at, rup_at (by omega) (by omega)]
  refine ⟨r1, r2, rfl, r4, r5, fun k hk => ?_⟩
  obtain ⟨g1, g2, g3, g4⟩ := r6 k hk
  refine ⟨g1, g2, g3, fun p' hp' => ?_⟩
  dsimp only
  by_cases e : 8 * k + p' = 8 * q + p
  · rw [e, va_up_self, va_up_self, va_up_self]
    by_cases z : w = p
    · rw [if_pos z, if_pos z]
      exact ⟨2147483647, by omega, rfl, Or.inl ⟨by omega, rfl, rfl⟩⟩
    · rw [if_neg z, if_neg z]
      exact ⟨ba w, by omega, rfl, Or.inr (Or.inl ⟨by omega, rfl, hwc.resolve_left z, by omega⟩)⟩
  · rw [va_up_ne _ _ e, va_up_ne _ _ e, va_up_ne _ _ e]
    exact g4 p' hp'
theorem oi_approve (hI : InvX c vc vr vn ne vs li ba de qp qt ql qs qc ch ap rq dy) {q p w : Nat} (hp : p < 8) (h1 : qs q = 1) (hw : w < 8) : InvX (c + 1) vc vr vn ne vs li ba de qp qt ql qs qc ch (va_up ap (8 * q + p) (w + 1)) rq dy := by
  obtain ⟨i1, i2, i3, i4, i5, i6, i7, ⟨j1, j2, j3, j4, j5⟩⟩ := hI
  refine ⟨i1, i2.mono, i3, i4, i5, i6, i7, j1, j2, fun k => ?_, fun k hk h0 p' hp' => ?_, j5⟩
  · rw [upk]
    have := j3 k
    split <;> omega
  · have hnk : ¬ 8 * k + p' = 8 * q + p := by
      intro e
      have hkq : k = q := by omega
      rw [hkq] at h0
      omega
    rw [va_up_ne _ _ hnk]
    exact j4 k hk h0 p' hp'
theorem ox_resolve (hR : RepX P0 P1 P2 P3 P4 P5 L0 L1 L2 dI Q0 Q1 Q2 Q3 Q4 Q5 Q6 nm vc vr vn ne vs li ba de qp qt ql qs qc ch ap un rq dy) (hI : InvX c vc vr vn ne vs li ba de qp qt ql qs qc ch ap rq dy) {q : Nat} (hq : q < rq) {c5 : Int32} {g ch' : Nat → Nat} (hg : ∀ p, p < 8 → chv c5 (nI p) = nI (g p)) (hgv : ∀ p, p < 8 → g p ≤ vs p) (hch : ∀ p, p < 8 → ch' (8 * q + p) = g p) (hch2 : ∀ k, (k < 8 * q ∨ 8 * q + 8 ≤ k) → ch' k = ch k) :
    RepX P0 P1 P2 P3 P4 P5 L0 L1 L2 dI Q0 Q1 Q2 (rup 30 Q3 (nI q) 1) (rup 30 Q4 (nI q) c5) (rup 30 Q5 (nI q) (pcostN P1 c5 8)) (erN Q6 (nI q) 8) nm vc vr vn ne vs li ba de qp qt ql (va_up qs q 1) (va_up qc q (sm (cst vc g) 8)) ch' (enA ap q 8) un rq dy ∧ pcostN P1 c5 8 = nI (sm (cst vc g) 8) := by
  obtain ⟨r1, r2, r3, r4, r5, r6⟩ := hR
  have h30 := hI.2.2.1
  have hvs := hI.1.1
  have hpc : pcostN P1 c5 8 = nI (sm (cst vc g) 8) := pcost_run hg (fun p hp => by have := hgv p hp; have := hvs p; omega) (fun p hp h1 => (r1.2 p hp (g p) h1 (hgv p hp)).1) 8 (Nat.le_refl _)
  rw [hpc]
  refine ⟨?_, rfl⟩
  rw [rup_at (by omega) (by omega), rup_at (by omega) (by omega), rup_at (by omega) (by omega)]
  refine ⟨r1, r2, r3, r4, r5, fun k hk => ?_⟩
  by_cases e : k = q
  · subst e
    refine ⟨?_, fun _ => ?_, fun p hp => ?_, fun p hp => ?_⟩
    · dsimp only
      rw [va_up_self, va_up_self]
      rfl
    · dsimp only
      rw [va_up_self, va_up_self]
    · dsimp only
      rw [va_up_self, hg p hp, hch p hp]
    · dsimp only
      rw [erN_at Q6 (by omega) 8 (Nat.le_refl _), if_pos (by omega), enA_at, if_pos (by omega)]
      exact RepA.zero dy _
  · obtain ⟨g1, g2, g3, g4⟩ := r6 k hk
    refine ⟨?_, fun z => ?_, fun p hp => ?_, fun p hp => ?_⟩
    · dsimp only
      rw [va_up_ne _ _ e, va_up_ne _ _ e]
      exact g1
    · rw [va_up_ne _ _ e] at z
      dsimp only
      rw [va_up_ne _ _ e, va_up_ne _ _ e]
      exact g2 z
    · dsimp only
      rw [va_up_ne _ _ e, hch2 _ (by omega)]
      exact g3 p hp
    · dsimp only
      rw [erN_at Q6 (by omega) 8 (Nat.le_refl _), if_neg (by omega), enA_at, if_neg (by omega)]
      exact g4 p hp
theorem oi_resolve (hI : InvX c vc vr vn ne vs li ba de qp qt ql qs qc ch ap rq dy) {q : Nat} (hq : q < rq) {g ch' : Nat → Nat} (hgv : ∀ p, p < 8 → g p ≤ vs p) (hch : ∀ p, p < 8 → ch' (8 * q + p) = g p) (hch2 : ∀ k, (k < 8 * q ∨ 8 * q + 8 ≤ k) → ch' k = ch k) : InvX (c + 1) vc vr vn ne vs li ba de qp qt ql (va_up qs q 1) (va_up qc q (sm (cst vc g) 8)) ch' (enA ap q 8) rq dy := by
  obtain ⟨i1, i2, i3, i4, i5, i6, i7, ⟨j1, j2, j3, j4, j5⟩⟩ := hI
  have hcs : ∀ p, cst vc g p ≤ 1000 := fun p => by
    unfold cst
    split
    · omega
    · exact i1.2.2.2.2.1 _
  have hsm := sm_le hcs 8
  refine ⟨i1, i2.mono, i3, i4, i5, i6, fun k => ?_, fun k => ?_, fun k => ?_, fun k => ?_, fun k hk h0 p hp => ?_, fun k h1 h2 => ?_⟩
  · rw [upk]
    have := i7 k
    split <;> omega
  · rw [upk]
    have := j1 k
    split <;> omega
  · by_cases e : k < 8 * q ∨ 8 * q + 8 ≤ k
    · rw [hch2 k e]
      exact j2 k
    · obtain ⟨p, hp, rfl⟩ : ∃ p, p < 8 ∧ k = 8 * q + p := ⟨k - 8 * q, by omega, by omega⟩
      have := hgv p hp
      have := i1.1 p
      rw [hch p hp]
      omega
  · rw [enA_at]
    split
    · omega
    · exact j3 k
  · by_cases e : k = q
    · rw [e, va_up_self] at h0
      omega
    · rw [va_up_ne _ _ e] at h0
      rw [hch2 _ (by omega), enA_at, if_neg (by omega)]
      exact j4 k hk h0 p hp
  · rw [va_up_ne _ _ (by omega)]
    exact j5 k h1 h2
end OpX
