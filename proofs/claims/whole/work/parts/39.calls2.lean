/-! Approve, release, what is told of a request, the search. -/
section Pf
variable {P0 P1 P2 P3 P4 P5 L0 L1 L2 : Nat → Int32} {dI : Int32} {Q0 Q1 Q2 Q3 Q4 Q5 Q6 : Nat → Int32} {nm : Int32} {vc vr vn ne vs li ba de qp qt ql qs qc ch ap : Nat → Nat} {un : Nat → Int32} {rq dy c : Nat}
theorem pf_run (hR : RepX P0 P1 P2 P3 P4 P5 L0 L1 L2 dI Q0 Q1 Q2 Q3 Q4 Q5 Q6 nm vc vr vn ne vs li ba de qp qt ql qs qc ch ap un rq dy) (hI : InvX c vc vr vn ne vs li ba de qp qt ql qs qc ch ap rq dy) (hc : c ≤ 512) {q p : Nat} (hq : q < rq) (hp : p < 8) : pfF L0 L1 L2 dI Q0 Q3 Q5 Q6 (nI q) (nI p) = if qs q = 1 ∧ ap (8 * q + p) = 0 then fwF li ba de qp qc dy q p else -1 := by
  obtain ⟨r1, r2, rfl, r4, r5, r6⟩ := hR
  obtain ⟨y1, y2, y3, y4⟩ := r6 q hq
  have h30 := hI.2.2.1
  have hdy := hI.2.1.2.2.2
  have hqp := hI.2.2.2.1 q
  have hqs := hI.2.2.2.2.2.2.2.1 q
  have hlt := (y4 p hp).lt (by omega : dy ≤ 40000)
  have e3 : rat 30 Q3 (nI q) = nI (qs q) := by rw [rat_at (by omega) (by omega)]; exact y1
  have e0 : rat 30 Q0 (nI q) = nI (qp q) := by rw [rat_at (by omega) (by omega)]; exact (r5 q hq).1
  have e6 : rat 240 Q6 (nI q * 8 + nI p) = Q6 (8 * q + p) := by rw [q8_at, rat_at (by omega) (by omega)]
  unfold pfF
  rw [e3, e0, e6]
  by_cases k1 : qs q = 1
  · rw [if_pos (by rw [k1]; rfl)]
    by_cases k2 : p = qp q
    · rw [if_pos (by rw [k2])]
      by_cases k3 : qs q = 1 ∧ ap (8 * q + p) = 0
      · rw [if_pos k3]
        unfold fwF
        rw [if_pos (Or.inl k2)]
      · rw [if_neg k3]
    · rw [if_neg (fun z => k2 ((nI_eq (by omega) (by omega)).mp z))]
      by_cases k3 : 0 < ap (8 * q + p)
      · rw [if_pos (hlt.mpr k3), if_neg (fun z => by omega)]
      · rw [if_neg (fun z => k3 (hlt.mp z)), if_pos ⟨k1, by omega⟩]
        have e5 : rat 30 Q5 (nI q) = nI (qc q) := by
          rw [rat_at (by omega) (by omega)]
          exact y2 (by omega)
        rw [e5]
        exact prF_run r2 hI.2.1 hc hp (hI.2.2.2.2.2.2.1 q) k2
  · rw [if_neg (show ¬ nI (qs q) = 1 from fun z => k1 ((nI_eq (b := 1) (by omega) (by omega)).mp z)), if_neg (show ¬ (qs q = 1 ∧ ap (8 * q + p) = 0) from fun z => k1 z.1)]
theorem cov_rep (hR : RepX P0 P1 P2 P3 P4 P5 L0 L1 L2 dI Q0 Q1 Q2 Q3 Q4 Q5 Q6 nm vc vr vn ne vs li ba de qp qt ql qs qc ch ap un rq dy) (hI : InvX c vc vr vn ne vs li ba de qp qt ql qs qc ch ap rq dy) (hc : c ≤ 512) {q : Nat} (hq : q < rq) : covI (rat 30 Q5 (nI q)) (apN Q6 (nI q) dI 8) = cov9i (qc q) (apS ap q 8) := by
  obtain ⟨r1, r2, rfl, r4, r5, r6⟩ := hR
  obtain ⟨y1, y2, y3, y4⟩ := r6 q hq
  have h30 := hI.2.2.1
  have hdy := hI.2.1.2.2.2
  rw [apN_run (by omega) (by omega) y4 8 (Nat.le_refl _)]
  rcases Nat.eq_zero_or_pos (qs q) with z | z
  · rw [apS_0 (fun p hp => (hI.2.2.2.2.2.2.2.2.2.2.1 q (by omega) z p hp).2) 8 (Nat.le_refl _)]
    exact cov_0 _ _
  · have e5 : rat 30 Q5 (nI q) = nI (qc q) := by
      rw [rat_at (by omega) (by omega)]
      exact y2 z
    rw [e5]
    exact cov_run (hI.2.2.2.2.2.2.1 q) (apS_le9 ap q 8)
theorem st_rep (hR : RepX P0 P1 P2 P3 P4 P5 L0 L1 L2 dI Q0 Q1 Q2 Q3 Q4 Q5 Q6 nm vc vr vn ne vs li ba de qp qt ql qs qc ch ap un rq dy) (h30 : rq ≤ 30) {q : Nat} (hq : q < rq) : rat 30 Q3 (nI q) = nI (qs q) := by
  rw [rat_at (by omega) (by omega)]
  exact (hR.2.2.2.2.2 q hq).1
end Pf
def CallV (l : Launch) (D : va_G) (tys : List (ClassId × FieldType)) (cI : ClassId) (adA adM : Nat → Nat) (n : Nat) (wA wM : va_W) (yX : MethodName) (wsX : List Cond) (yM : MethodName) (wsM : List Cond) (args : List Value) (code : Nat → Int32) (al : List Nat) : Prop :=
  ∃ (th mc d2 n2 : Nat) (t2 : Int32) (wB wM2 : va_W), mc ≤ 6 ∧ th ∈ al ∧ d2 ≤ 13 ∧ n2 ≤ n + 1 ∧ CXv l yX wsX 14 mc D tys (.ref (adA 0) :: args) wA th wB ∧ CVd l yM wsM d2 D tys (.ref (adM 0) :: args) wM wM2 ∧ t2 = code th ∧ InvW cI adA adM n2 (if th = 0 then wB else wA) wM2 t2
def CallF (l : Launch) (D : va_G) (tys : List (ClassId × FieldType)) (cI : ClassId) (adA adM : Nat → Nat) (n : Nat) (wA wM : va_W) (yX : MethodName) (wsX : List Cond) (yM : MethodName) (wsM : List Cond) (args : List Value) (code : Nat → Int32) (al : List Nat) : Prop :=
  ∃ (th mc d2 n2 : Nat) (r b : UInt32) (t2 : Int32) (wB wM2 : va_W), mc ≤ 6 ∧ th ∈ al ∧ d2 ≤ 13 ∧ n2 ≤ n + 1 ∧ CXf l yX wsX 14 mc D tys (.ref (adA 0) :: args) wA th r wB ∧ CFd l yM wsM d2 D tys (.ref (adM 0) :: args) wM b wM2 ∧ t2 = code th ∧ (th = 0 → r = b) ∧ Jvm.FP.Core.fIsNaN r = false ∧ Jvm.FP.Core.fIsNaN b = false ∧ InvW cI adA adM n2 (if th = 0 then wB else wA) wM2 t2
section Calls2
variable {l : Launch} {D : va_G} {tys : List (ClassId × FieldType)} {cI : ClassId} {adA adM : Nat → Nat} {n : Nat} {B0 : Nat → Int32} {T T2 : DS} {O0 O1 : Nat → Int32} {on oc : Int32} {S : Nat → RS} {ro pi si : Nat → Nat} {pl : Nat → Int32} {th0 : Int32} {yX yM : MethodName} {wsX wsM : List Cond} {args : List Value} {code : Nat → Int32} {al : List Nat}
theorem callv_bad (hb : HB n B0 T S ro pi si) {th : Nat} (hth : ¬ th = 0) {mc d2 : Nat} {wB : va_W} (hal : th ∈ al) (hX : CXv l yX wsX 14 mc D tys (.ref (adA 0) :: args) (wAT cI adA B0 (nI n) T T2 O0 O1 on oc) th wB) (hmc : mc ≤ 6) (hM : CVd l yM wsM d2 D tys (.ref (adM 0) :: args) (wMT cI adM (S n) ro pi si pl n th0) (wMT cI adM (S n) ro pi si pl n (code th))) (hd : d2 ≤ 13) :
    CallV l D tys cI adA adM n (wAT cI adA B0 (nI n) T T2 O0 O1 on oc) (wMT cI adM (S n) ro pi si pl n th0) yX wsX yM wsM args code al :=
  ⟨th, mc, d2, n, code th, wB, _, hmc, hal, hd, Nat.le_succ _, hX, hM, rfl, by rw [if_neg hth]; exact InvW.same hb⟩
theorem callf_bad (hb : HB n B0 T S ro pi si) {th : Nat} (hth : ¬ th = 0) {mc d2 : Nat} {r b : UInt32} {wB : va_W} (hal : th ∈ al) (hX : CXf l yX wsX 14 mc D tys (.ref (adA 0) :: args) (wAT cI adA B0 (nI n) T T2 O0 O1 on oc) th r wB) (hmc : mc ≤ 6) (hM : CFd l yM wsM d2 D tys (.ref (adM 0) :: args) (wMT cI adM (S n) ro pi si pl n th0) b (wMT cI adM (S n) ro pi si pl n (code th))) (hd : d2 ≤ 13) (h1 : Jvm.FP.Core.fIsNaN r = false) (h2 : Jvm.FP.Core.fIsNaN b = false) :
    CallF l D tys cI adA adM n (wAT cI adA B0 (nI n) T T2 O0 O1 on oc) (wMT cI adM (S n) ro pi si pl n th0) yX wsX yM wsM args code al :=
  ⟨th, mc, d2, n, r, b, code th, wB, _, hmc, hal, hd, Nat.le_succ _, hX, hM, rfl, fun z => absurd z hth, h1, h2, by rw [if_neg hth]; exact InvW.same hb⟩
end Calls2

set_option maxHeartbeats 4000000 in
theorem call_approve {l : Launch} {D : va_G} {tys : List (ClassId × FieldType)} {cI : ClassId} (ht : tys[0]? = some (cI, .int)) {adA adM : Nat → Nat} {n : Nat} {wA wM : va_W} {th0 : Int32} (h : InvW cI adA adM n wA wM th0) (hn : n < 512) (q p : Int32) : CallI l D tys cI adA adM n wA wM yX8_approve wsX8_approve yX9_approve wsX9_approve [.int q, .int p] lwC_approve [0, 1, 3] := by
  obtain ⟨B0, T, T2, O0, O1, on, oc, S, ro, pi, si, pl, rfl, rfl, hb⟩ := h
  obtain ⟨hS0, hH, hI, hR, hro, hpi, hsi⟩ := id hb
  have h30 := hI.2.2.1
  have hnm : T.2.2 = nI (S n).2.2.1 := hR.2.2.2.1
  have hrr := hI.2.2.2.2.2.2.2
  have hdy : (S n).2.2.2 ≤ 40000 := by have := hI.2.1.2.2.2; omega
  have hba : ∀ k, (S n).1 6 k ≤ 40000 := fun k => by have := hI.2.1.2.1 k; omega
  rcases rngR q h30 with hq | ⟨q, hq, rfl⟩
  · exact call_bad hb (th := 1) (by decide) (by decide) (cxi_th (cX8_approve_met l D tys cI ht adA B0 _ _ _ _ _ _ _ _ _ _ _ _ _ _ _ _ _ _ _ _ _ _ _ _ _ _ _ _ _ _ _ _ _ _ _ _ _ _ _ _ q p n hn) (by rw [hnm, ckS_bad hq, if_neg (by decide)])) (by decide) (k9_approve1a l D tys cI ht adM _ _ _ _ _ _ _ _ _ _ _ _ _ _ _ _ _ _ _ _ _ _ _ _ q p hq h30) (by decide)
  · rcases rng8 p with ⟨hp, hp2⟩ | ⟨p, hp, rfl⟩
    · exact call_bad hb (th := 1) (by decide) (by decide) (cxi_th (cX8_approve_met l D tys cI ht adA B0 _ _ _ _ _ _ _ _ _ _ _ _ _ _ _ _ _ _ _ _ _ _ _ _ _ _ _ _ _ _ _ _ _ _ _ _ _ _ _ _ (nI q) p n hn) (by rw [hnm, ckR_ok hq h30, if_pos rfl, ckS_bad hp2, if_neg (by decide)])) (by decide) (k9_approve1b l D tys cI ht adM _ _ _ _ _ _ _ _ _ _ _ _ _ _ _ _ _ _ _ _ _ _ _ _ q hq p h30 hp) (by decide)
    · have hpf := pf_run hR hI (by omega) hq hp
      by_cases k1 : (S n).1 11 q = 1
      · by_cases k2 : (S n).1 14 (8 * q + p) = 0
        · rw [if_pos ⟨k1, k2⟩] at hpf
          rcases fwF_cases (li := (S n).1 5) (ba := (S n).1 6) (de := (S n).1 7) (dy := (S n).2.2.2) (qp := (S n).1 8) (qc := (S n).1 12) (q := q) hp with k3 | ⟨w, hw, -, k3⟩
          · exact call_bad hb (th := 3) (by decide) (by decide) (cxi_th (cX8_approve_met l D tys cI ht adA B0 _ _ _ _ _ _ _ _ _ _ _ _ _ _ _ _ _ _ _ _ _ _ _ _ _ _ _ _ _ _ _ _ _ _ _ _ _ _ _ _ (nI q) (nI p) n hn) (by rw [hnm, ckR_ok hq h30, if_pos rfl, ck8_ok hp, if_pos rfl, hpf, k3, if_neg (fun z => z rfl)])) (by decide) (k9_approve2c l D tys cI ht adM _ _ _ _ _ _ _ _ _ _ _ _ _ _ _ _ _ _ _ _ _ _ _ _ q p hq hp h30 hrr.1 hrr.2.2.1 hba hdy hI.2.1.1 hI.2.2.2.2.2.2.1 hI.2.2.2.1 hI.2.1.2.2.1 k1 k2 k3) (by decide)
          · have key := fun (T' : DS) (hT : RepD T' (S n)) => ox_approve hT hI (by omega) hq hp k1 hw k3
            refine call_ok hb hn 8 (nI q) (nI p) 0 0 0 (mkS (((S n).1 0)) (((S n).1 1)) (((S n).1 2)) (((S n).1 3)) (((S n).1 4)) (((S n).1 5)) (((S n).1 6)) (((S n).1 7)) (((S n).1 8)) (((S n).1 9)) (((S n).1 10)) (((S n).1 11)) (((S n).1 12)) (((S n).1 13)) (va_up ((S n).1 14) (8 * q + p) (w + 1)) (va_up (S n).2.1 (8 * q + p) (if w = p then -1 else nI ((S n).1 6 w))) ((S n).2.2.1) ((S n).2.2.2)) (by decide) (by decide) (cxi_th (cX8_approve_met l D tys cI ht adA B0 _ _ _ _ _ _ _ _ _ _ _ _ _ _ _ _ _ _ _ _ _ _ _ _ _ _ _ _ _ _ _ _ _ _ _ _ _ _ _ _ (nI q) (nI p) n hn) (by rw [hnm, ckR_ok hq h30, if_pos rfl, ck8_ok hp, if_pos rfl, hpf, k3, if_pos (nI_nm1 (by omega))])) (by decide) (k9_approveK l D tys cI ht adM _ _ _ _ _ _ _ _ _ _ _ _ _ _ _ _ _ _ _ _ _ _ _ _ q p hq hp h30 hrr.1 hrr.2.2.1 hba hdy hI.2.1.1 hI.2.2.2.2.2.2.1 hI.2.2.2.1 hI.2.1.2.2.1 k1 k2 w hw k3) (by decide) (key T hR).2 (fun T' hT => (key T' hT).1) ?_ hro hpi hsi
            exact oi_approve hI hp k1 hw
        · rw [if_neg (fun z => k2 z.2)] at hpf
          exact call_bad hb (th := 3) (by decide) (by decide) (cxi_th (cX8_approve_met l D tys cI ht adA B0 _ _ _ _ _ _ _ _ _ _ _ _ _ _ _ _ _ _ _ _ _ _ _ _ _ _ _ _ _ _ _ _ _ _ _ _ _ _ _ _ (nI q) (nI p) n hn) (by rw [hnm, ckR_ok hq h30, if_pos rfl, ck8_ok hp, if_pos rfl, hpf, if_neg (fun z => z rfl)])) (by decide) (k9_approve2b l D tys cI ht adM _ _ _ _ _ _ _ _ _ _ _ _ _ _ _ _ _ _ _ _ _ _ _ _ q p hq hp h30 hrr.1 hrr.2.2.1 hba hdy hI.2.1.1 hI.2.2.2.2.2.2.1 hI.2.2.2.1 hI.2.1.2.2.1 k1 (by omega)) (by decide)
      · rw [if_neg (fun z => k1 z.1)] at hpf
        exact call_bad hb (th := 3) (by decide) (by decide) (cxi_th (cX8_approve_met l D tys cI ht adA B0 _ _ _ _ _ _ _ _ _ _ _ _ _ _ _ _ _ _ _ _ _ _ _ _ _ _ _ _ _ _ _ _ _ _ _ _ _ _ _ _ (nI q) (nI p) n hn) (by rw [hnm, ckR_ok hq h30, if_pos rfl, ck8_ok hp, if_pos rfl, hpf, if_neg (fun z => z rfl)])) (by decide) (k9_approve2a l D tys cI ht adM _ _ _ _ _ _ _ _ _ _ _ _ _ _ _ _ _ _ _ _ _ _ _ _ q p hq hp h30 hrr.1 hrr.2.2.1 hba hdy hI.2.1.1 hI.2.2.2.2.2.2.1 hI.2.2.2.1 hI.2.1.2.2.1 k1) (by decide)
set_option maxHeartbeats 4000000 in
theorem call_release {l : Launch} {D : va_G} {tys : List (ClassId × FieldType)} {cI : ClassId} (ht : tys[0]? = some (cI, .int)) {adA adM : Nat → Nat} {n : Nat} {wA wM : va_W} {th0 : Int32} (h : InvW cI adA adM n wA wM th0) (hn : n < 512) (q : Int32) : CallV l D tys cI adA adM n wA wM yX8_release wsX8_release yX9_release wsX9_release [.int q] lwC_release [0, 1, 3] := by
  obtain ⟨B0, T, T2, O0, O1, on, oc, S, ro, pi, si, pl, rfl, rfl, hb⟩ := h
  obtain ⟨hS0, hH, hI, hR, hro, hpi, hsi⟩ := id hb
  have h30 := hI.2.2.1
  have hnm : T.2.2 = nI (S n).2.2.1 := hR.2.2.2.1
  have hrr := hI.2.2.2.2.2.2.2
  have hqc := hI.2.2.2.2.2.2.1
  rcases rngR q h30 with hq | ⟨q, hq, rfl⟩
  · exact callv_bad hb (th := 1) (by decide) (by decide) (cxv_th (cX8_release_met l D tys cI ht adA B0 _ _ _ _ _ _ _ _ _ _ _ _ _ _ _ _ _ _ _ _ _ _ _ _ _ _ _ _ _ _ _ _ _ _ _ _ _ _ _ _ q n hn) (by rw [hnm, ckS_bad hq, if_neg (by decide)])) (by decide) (k9_release1 l D tys cI ht adM _ _ _ _ _ _ _ _ _ _ _ _ _ _ _ _ _ _ _ _ _ _ _ _ q hq h30) (by decide)
  · have hst := st_rep hR h30 hq
    have hcv := cov_rep hR hI (by omega) hq
    have hqs := hrr.1 q
    by_cases k1 : (S n).1 11 q = 1
    · by_cases k2 : cov9 ((S n).1 12 q) (apS ((S n).1 14) q 8)
      · refine ⟨0, 2, 2, n + 1, 0, _, _, by decide, by decide, by decide, Nat.le_refl _, cxv_th (cX8_release_met l D tys cI ht adA B0 _ _ _ _ _ _ _ _ _ _ _ _ _ _ _ _ _ _ _ _ _ _ _ _ _ _ _ _ _ _ _ _ _ _ _ _ _ _ _ _ (nI q) n hn) (by rw [hnm, ckR_ok hq h30, if_pos rfl, hst, k1, if_neg (fun z => z rfl), hcv, cov9i_T k2, if_pos (by decide)]), (k9_releaseK l D tys cI ht adM _ _ _ _ _ _ _ _ _ _ _ _ _ _ _ _ _ _ _ _ _ _ _ _ q hq h30 hrr.1 hrr.2.2.1 hqc k1 k2), rfl, ?_⟩
        rw [if_pos rfl]
        exact InvW.add hb hn (m := 9) (by decide) (nI q) 0 0 0 0 (mkS (((S n).1 0)) (((S n).1 1)) (((S n).1 2)) (((S n).1 3)) (((S n).1 4)) (((S n).1 5)) (((S n).1 6)) (((S n).1 7)) (((S n).1 8)) (((S n).1 9)) (((S n).1 10)) (va_up ((S n).1 11) q 2) (((S n).1 12)) (((S n).1 13)) (((S n).1 14)) ((S n).2.1) ((S n).2.2.1) ((S n).2.2.2)) (fun T' hT => ox_release hT hI hq k1) (oi_release hI hq) hro hpi hsi
      · exact callv_bad hb (th := 3) (by decide) (by decide) (cxv_th (cX8_release_met l D tys cI ht adA B0 _ _ _ _ _ _ _ _ _ _ _ _ _ _ _ _ _ _ _ _ _ _ _ _ _ _ _ _ _ _ _ _ _ _ _ _ _ _ _ _ (nI q) n hn) (by rw [hnm, ckR_ok hq h30, if_pos rfl, hst, k1, if_neg (fun z => z rfl), hcv, cov9i_F k2, if_neg (fun z => z rfl)])) (by decide) (k9_release2b l D tys cI ht adM _ _ _ _ _ _ _ _ _ _ _ _ _ _ _ _ _ _ _ _ _ _ _ _ q hq h30 hrr.1 hrr.2.2.1 hqc k1 k2) (by decide)
    · exact callv_bad hb (th := 3) (by decide) (by decide) (cxv_th (cX8_release_met l D tys cI ht adA B0 _ _ _ _ _ _ _ _ _ _ _ _ _ _ _ _ _ _ _ _ _ _ _ _ _ _ _ _ _ _ _ _ _ _ _ _ _ _ _ _ (nI q) n hn) (by rw [hnm, ckR_ok hq h30, if_pos rfl, hst, if_pos (show ¬ nI ((S n).1 11 q) = 1 from fun z => k1 ((nI_eq (b := 1) (by omega) (by omega)).mp z))])) (by decide) (k9_release2a l D tys cI ht adM _ _ _ _ _ _ _ _ _ _ _ _ _ _ _ _ _ _ _ _ _ _ _ _ q hq h30 hrr.1 hrr.2.2.1 hqc k1) (by decide)
set_option maxHeartbeats 4000000 in
theorem call_ofRequest {l : Launch} {D : va_G} {tys : List (ClassId × FieldType)} {cI : ClassId} (ht : tys[0]? = some (cI, .int)) {adA adM : Nat → Nat} {n : Nat} {wA wM : va_W} {th0 : Int32} (h : InvW cI adA adM n wA wM th0) (hn : n < 512) (q v : Int32) : CallI l D tys cI adA adM n wA wM yX8_ofRequest wsX8_ofRequest yX9_ofRequest wsX9_ofRequest [.int q, .int v] lwC_ofRequest [0, 1, 2] := by
  obtain ⟨B0, T, T2, O0, O1, on, oc, S, ro, pi, si, pl, rfl, rfl, hb⟩ := h
  obtain ⟨hS0, hH, hI, hR, hro, hpi, hsi⟩ := id hb
  have h30 := hI.2.2.1
  have hnm : T.2.2 = nI (S n).2.2.1 := hR.2.2.2.1
  have hrr := hI.2.2.2.2.2.2.2
  have hqc := hI.2.2.2.2.2.2.1
  have hdy : (S n).2.2.2 ≤ 40000 := by have := hI.2.1.2.2.2; omega
  rcases rngN v 0 3 (by omega) (by omega) with hv | ⟨v, -, hv, rfl⟩
  · have hv2 : v.toInt < 0 ∨ 3 < v.toInt := by
      rcases Int.lt_or_le v.toInt 0 with z | z
      · exact Or.inl z
      · rcases Int.lt_or_le 3 v.toInt with y | y
        · exact Or.inr y
        · exact absurd ⟨Int32.le_iff_toInt_le.mpr (by rw [nI_toInt (by omega)]; exact z), Int32.le_iff_toInt_le.mpr (by rw [nI_toInt (by omega)]; exact y)⟩ hv
    rcases rngR q h30 with hq | ⟨q, hq, rfl⟩
    · exact call_bad hb (th := 1) (by decide) (by decide) (cxi_th (cX8_ofRequest9_met l D tys cI ht adA B0 _ _ _ _ _ _ _ _ _ _ _ _ _ _ _ _ _ _ _ _ _ _ _ _ _ _ _ _ _ _ _ _ _ _ _ _ _ _ _ _ q v n hn hv2) (by rw [hnm, ckS_bad hq, if_neg (by decide)])) (by decide) (k9_ofRequest1 l D tys cI ht adM _ _ _ _ _ _ _ _ _ _ _ _ _ _ _ _ _ _ _ _ _ _ _ _ q v hq h30) (by decide)
    · exact call_bad hb (th := 2) (by decide) (by decide) (cxi_th (cX8_ofRequest9_met l D tys cI ht adA B0 _ _ _ _ _ _ _ _ _ _ _ _ _ _ _ _ _ _ _ _ _ _ _ _ _ _ _ _ _ _ _ _ _ _ _ _ _ _ _ _ (nI q) v n hn hv2) (by rw [hnm, ckR_ok hq h30, if_pos rfl])) (by decide) (k9_ofRequest2 l D tys cI ht adM _ _ _ _ _ _ _ _ _ _ _ _ _ _ _ _ _ _ _ _ _ _ _ _ q hq h30 v hv) (by decide)
  · rcases rngR q h30 with hq | ⟨q, hq, rfl⟩
    · rcases (show v = 0 ∨ v = 1 ∨ v = 2 ∨ v = 3 by omega) with rfl | rfl | rfl | rfl
      · exact call_bad hb (th := 1) (by decide) (by decide) (cxi_th (cX8_ofRequest0_met l D tys cI ht adA B0 _ _ _ _ _ _ _ _ _ _ _ _ _ _ _ _ _ _ _ _ _ _ _ _ _ _ _ _ _ _ _ _ _ _ _ _ _ _ _ _ q n hn) (by rw [hnm, ckS_bad hq, if_neg (by decide)])) (by decide) (k9_ofRequest1 l D tys cI ht adM _ _ _ _ _ _ _ _ _ _ _ _ _ _ _ _ _ _ _ _ _ _ _ _ q (nI 0) hq h30) (by decide)
      · exact call_bad hb (th := 1) (by decide) (by decide) (cxi_th (cX8_ofRequest1_met l D tys cI ht adA B0 _ _ _ _ _ _ _ _ _ _ _ _ _ _ _ _ _ _ _ _ _ _ _ _ _ _ _ _ _ _ _ _ _ _ _ _ _ _ _ _ q n hn) (by rw [hnm, ckS_bad hq, if_neg (by decide)])) (by decide) (k9_ofRequest1 l D tys cI ht adM _ _ _ _ _ _ _ _ _ _ _ _ _ _ _ _ _ _ _ _ _ _ _ _ q (nI 1) hq h30) (by decide)
      · exact call_bad hb (th := 1) (by decide) (by decide) (cxi_th (cX8_ofRequest2_met l D tys cI ht adA B0 _ _ _ _ _ _ _ _ _ _ _ _ _ _ _ _ _ _ _ _ _ _ _ _ _ _ _ _ _ _ _ _ _ _ _ _ _ _ _ _ q n hn) (by rw [hnm, ckS_bad hq, if_neg (by decide)])) (by decide) (k9_ofRequest1 l D tys cI ht adM _ _ _ _ _ _ _ _ _ _ _ _ _ _ _ _ _ _ _ _ _ _ _ _ q (nI 2) hq h30) (by decide)
      · exact call_bad hb (th := 1) (by decide) (by decide) (cxi_th (cX8_ofRequest3_met l D tys cI ht adA B0 _ _ _ _ _ _ _ _ _ _ _ _ _ _ _ _ _ _ _ _ _ _ _ _ _ _ _ _ _ _ _ _ _ _ _ _ _ _ _ _ q n hn) (by rw [hnm, ckS_bad hq, if_neg (by decide)])) (by decide) (k9_ofRequest1 l D tys cI ht adM _ _ _ _ _ _ _ _ _ _ _ _ _ _ _ _ _ _ _ _ _ _ _ _ q (nI 3) hq h30) (by decide)
    · obtain ⟨y1, y2, y3, y4⟩ := hR.2.2.2.2.2 q hq
      have hst := st_rep hR h30 hq
      have hqs := hrr.1 q
      have hap := apN_run (by omega) hdy y4 8 (Nat.le_refl _)
      have hdI : T.2.1 = nI (S n).2.2.2 := hR.2.2.1
      have hcv := cov_rep hR hI (by omega) hq
      rcases (show v = 0 ∨ v = 1 ∨ v = 2 ∨ v = 3 by omega) with rfl | rfl | rfl | rfl
      · exact call_same hb (by decide) (cxi_th (cX8_ofRequest0_met l D tys cI ht adA B0 _ _ _ _ _ _ _ _ _ _ _ _ _ _ _ _ _ _ _ _ _ _ _ _ _ _ _ _ _ _ _ _ _ _ _ _ _ _ _ _ (nI q) n hn) (by rw [hnm, ckR_ok hq h30, if_pos rfl])) (by decide) (k9_ofRequestK0 l D tys cI ht adM _ _ _ _ _ _ _ _ _ _ _ _ _ _ _ _ _ _ _ _ _ _ _ _ q hq h30 hrr.1 hrr.2.2.1 hqc) (by decide) hst hro hpi hsi
      · refine call_same hb (by decide) (cxi_th (cX8_ofRequest1_met l D tys cI ht adA B0 _ _ _ _ _ _ _ _ _ _ _ _ _ _ _ _ _ _ _ _ _ _ _ _ _ _ _ _ _ _ _ _ _ _ _ _ _ _ _ _ (nI q) n hn) (by rw [hnm, ckR_ok hq h30, if_pos rfl])) (by decide) (k9_ofRequestK1 l D tys cI ht adM _ _ _ _ _ _ _ _ _ _ _ _ _ _ _ _ _ _ _ _ _ _ _ _ q hq h30 hrr.1 hrr.2.2.1 hqc) (by decide) ?_ hro hpi hsi
        rw [hst]
        by_cases k : (S n).1 11 q = 0
        · rw [if_pos k, if_pos (by rw [k]; rfl)]
        · rw [if_neg k, if_neg (nI_ne0 (by omega) (by omega)), rat_at (by omega) (by omega)]
          exact y2 (by omega)
      · exact call_same hb (by decide) (cxi_th (cX8_ofRequest2_met l D tys cI ht adA B0 _ _ _ _ _ _ _ _ _ _ _ _ _ _ _ _ _ _ _ _ _ _ _ _ _ _ _ _ _ _ _ _ _ _ _ _ _ _ _ _ (nI q) n hn) (by rw [hnm, ckR_ok hq h30, if_pos rfl])) (by decide) (k9_ofRequestK2 l D tys cI ht adM _ _ _ _ _ _ _ _ _ _ _ _ _ _ _ _ _ _ _ _ _ _ _ _ q hq h30 hrr.1 hrr.2.2.1 hqc) (by decide) (by rw [hdI]; exact hap) hro hpi hsi
      · by_cases k : cov9 ((S n).1 12 q) (apS ((S n).1 14) q 8)
        · exact call_same hb (by decide) (cxi_th (cX8_ofRequest3_met l D tys cI ht adA B0 _ _ _ _ _ _ _ _ _ _ _ _ _ _ _ _ _ _ _ _ _ _ _ _ _ _ _ _ _ _ _ _ _ _ _ _ _ _ _ _ (nI q) n hn) (by rw [hnm, ckR_ok hq h30, if_pos rfl])) (by decide) (k9_ofRequestK3T l D tys cI ht adM _ _ _ _ _ _ _ _ _ _ _ _ _ _ _ _ _ _ _ _ _ _ _ _ q hq h30 hrr.1 hrr.2.2.1 hqc k) (by decide) (by rw [hcv, cov9i_T k]) hro hpi hsi
        · exact call_same hb (by decide) (cxi_th (cX8_ofRequest3_met l D tys cI ht adA B0 _ _ _ _ _ _ _ _ _ _ _ _ _ _ _ _ _ _ _ _ _ _ _ _ _ _ _ _ _ _ _ _ _ _ _ _ _ _ _ _ (nI q) n hn) (by rw [hnm, ckR_ok hq h30, if_pos rfl])) (by decide) (k9_ofRequestK3F l D tys cI ht adM _ _ _ _ _ _ _ _ _ _ _ _ _ _ _ _ _ _ _ _ _ _ _ _ q hq h30 hrr.1 hrr.2.2.1 hqc k) (by decide) (by rw [hcv, cov9i_F k]) hro hpi hsi
set_option maxHeartbeats 4000000 in
theorem call_isCoveredAnew {l : Launch} {D : va_G} {tys : List (ClassId × FieldType)} {cI : ClassId} (ht : tys[0]? = some (cI, .int)) {adA adM : Nat → Nat} {n : Nat} {wA wM : va_W} {th0 : Int32} (h : InvW cI adA adM n wA wM th0) (hn : n < 512) (q : Int32) : CallI l D tys cI adA adM n wA wM yX8_isCoveredAnew wsX8_isCoveredAnew yX9_isCoveredAnew wsX9_isCoveredAnew [.int q] lwC_isCoveredAnew [0, 1] := by
  obtain ⟨B0, T, T2, O0, O1, on, oc, S, ro, pi, si, pl, rfl, rfl, hb⟩ := h
  obtain ⟨hS0, hH, hI, hR, hro, hpi, hsi⟩ := id hb
  have h30 := hI.2.2.1
  have hnm : T.2.2 = nI (S n).2.2.1 := hR.2.2.2.1
  have hrr := hI.2.2.2.2.2.2.2
  have hqc := hI.2.2.2.2.2.2.1
  obtain ⟨T0, hT0⟩ : ∃ T0 : DS, T0 = mkD (rfi 8 (T2.1 0) 0) (T2.1 1) (T2.1 2) (T2.1 3) (T2.1 4) (T2.1 5) (rfi 8 (T2.1 6) 100) (T2.1 7) (rfi 8 (T2.1 8) 0) 0 (T2.1 9) (T2.1 10) (T2.1 11) (T2.1 12) (T2.1 13) (T2.1 14) (T2.1 15) 0 := ⟨_, rfl⟩
  have hT : RepD T0 (S 0) := by rw [hT0, hS0]; exact rep_00 _ _ _ _ _ _ _ _ _ _ _ _ _ _ _ _
  have hTn := reD_rep hH hT n (Nat.le_refl _)
  have h0 : wDesk cI (fun k => adA (40 + k)) (rfi 8 (T2.1 0) 0) (T2.1 1) (T2.1 2) (T2.1 3) (T2.1 4) (T2.1 5) (rfi 8 (T2.1 6) 100) (T2.1 7) (rfi 8 (T2.1 8) 0) 0 (T2.1 9) (T2.1 10) (T2.1 11) (T2.1 12) (T2.1 13) (T2.1 14) (T2.1 15) 0 = wDT cI (fun k => adA (40 + k)) (reD B0 T0 0) := by rw [hT0]; rfl
  have hA : ∀ j : Nat, j < n → ∃ r : Int32, CId l yX2_apply wsX2_apply 5 D tys [.ref (adA 40), .ref (adA 1), .int (nI j)] (wDT cI (fun k => adA (40 + k)) (reD B0 T0 j) ++ wBook cI (fun k => adA (1 + k)) B0 (nI n)) r (wDT cI (fun k => adA (40 + k)) (reD B0 T0 (j + 1)) ++ wBook cI (fun k => adA (1 + k)) B0 (nI n)) := by
    intro j hj
    obtain ⟨m, h1, h2, h3, -⟩ := hH j hj
    obtain ⟨r, hr⟩ := apply_any l D tys cI ht (fun k => adA (40 + k)) (fun k => adA (1 + k)) (reD B0 T0 j) B0 (nI n) (by omega : j < 512) h1 h2 h3
    have e : reD B0 T0 (j + 1) = apK m (wd B0 j 1) (wd B0 j 2) (wd B0 j 3) (wd B0 j 4) (wd B0 j 5) (reD B0 T0 j) := by
      show apK (wd B0 j 0).toNatClampNeg (wd B0 j 1) (wd B0 j 2) (wd B0 j 3) (wd B0 j 4) (wd B0 j 5) (reD B0 T0 j) = _
      rw [h3, nI_clamp (by omega)]
    rw [e]
    exact ⟨r, hr⟩
  rcases rngR q h30 with hq | ⟨q, hq, rfl⟩
  · exact call_bad hb (th := 1) (by decide) (by decide) (cxi_th (cX8_isCoveredAnew_met l D tys cI ht adA B0 _ _ _ _ _ _ _ _ _ _ _ _ _ _ _ _ _ _ _ _ _ _ _ _ _ _ _ _ _ _ _ _ _ _ _ _ _ _ _ _ q n hn (reD B0 T0) h0 hA) (by rw [hnm, ckS_bad hq, if_neg (by decide)])) (by decide) (k9_isCoveredAnew1 l D tys cI ht adM _ _ _ _ _ _ _ _ _ _ _ _ _ _ _ _ _ _ _ _ _ _ _ _ q hq h30) (by decide)
  · have hcv := cov_rep hTn hI (by omega) hq
    by_cases k : cov9 ((S n).1 12 q) (apS ((S n).1 14) q 8)
    · exact call_same hb (T3 := reD B0 T0 n) (by decide) (cxi_th (cX8_isCoveredAnew_met l D tys cI ht adA B0 _ _ _ _ _ _ _ _ _ _ _ _ _ _ _ _ _ _ _ _ _ _ _ _ _ _ _ _ _ _ _ _ _ _ _ _ _ _ _ _ (nI q) n hn (reD B0 T0) h0 hA) (by rw [hnm, ckR_ok hq h30, if_pos rfl])) (by decide) (k9_isCoveredAnewT l D tys cI ht adM _ _ _ _ _ _ _ _ _ _ _ _ _ _ _ _ _ _ _ _ _ _ _ _ q hq h30 hrr.1 hrr.2.2.1 hqc k) (by decide) (by rw [hcv, cov9i_T k]) hro hpi hsi
    · exact call_same hb (T3 := reD B0 T0 n) (by decide) (cxi_th (cX8_isCoveredAnew_met l D tys cI ht adA B0 _ _ _ _ _ _ _ _ _ _ _ _ _ _ _ _ _ _ _ _ _ _ _ _ _ _ _ _ _ _ _ _ _ _ _ _ _ _ _ _ (nI q) n hn (reD B0 T0) h0 hA) (by rw [hnm, ckR_ok hq h30, if_pos rfl])) (by decide) (k9_isCoveredAnewF l D tys cI ht adM _ _ _ _ _ _ _ _ _ _ _ _ _ _ _ _ _ _ _ _ _ _ _ _ q hq h30 hrr.1 hrr.2.2.1 hqc k) (by decide) (by rw [hcv, cov9i_F k]) hro hpi hsi
set_option maxHeartbeats 4000000 in
theorem call_strain {l : Launch} {D : va_G} {tys : List (ClassId × FieldType)} {cI : ClassId} (ht : tys[0]? = some (cI, .int)) {adA adM : Nat → Nat} {n : Nat} {wA wM : va_W} {th0 : Int32} (h : InvW cI adA adM n wA wM th0) (hn : n < 512) (q : Int32) : CallF l D tys cI adA adM n wA wM yX8_strain wsX8_strain yX9_strain wsX9_strain [.int q] lwC_strain [0, 1] := by
  obtain ⟨B0, T, T2, O0, O1, on, oc, S, ro, pi, si, pl, rfl, rfl, hb⟩ := h
  obtain ⟨hS0, hH, hI, hR, hro, hpi, hsi⟩ := id hb
  have h30 := hI.2.2.1
  have hnm : T.2.2 = nI (S n).2.2.1 := hR.2.2.2.1
  have hrr := hI.2.2.2.2.2.2.2
  have hqc := hI.2.2.2.2.2.2.1
  have hdy : (S n).2.2.2 ≤ 40000 := by have := hI.2.1.2.2.2; omega
  have hba : ∀ k, (S n).1 6 k ≤ 40000 := fun k => by have := hI.2.1.2.1 k; omega
  rcases rngR q h30 with hq | ⟨q, hq, rfl⟩
  · exact callf_bad hb (th := 1) (by decide) (by decide) (cxf_th (cX8_strain_met l D tys cI ht adA B0 _ _ _ _ _ _ _ _ _ _ _ _ _ _ _ _ _ _ _ _ _ _ _ _ _ _ _ _ _ _ _ _ _ _ _ _ _ _ _ _ q n hn) (by rw [hnm, ckS_bad hq, if_neg (by decide)])) (by decide) (k9_strain1 l D tys cI ht adM _ _ _ _ _ _ _ _ _ _ _ _ _ _ _ _ _ _ _ _ _ _ _ _ q hq h30) (by decide) (strF_nan _ _ _) (by decide +kernel)
  · have hst := st_rep hR h30 hq
    have hqs := hrr.1 q
    have hdI : T.2.1 = nI (S n).2.2.2 := hR.2.2.1
    rcases Nat.eq_zero_or_pos ((S n).1 11 q) with z | z
    · refine ⟨0, 1, 2, n, _, _, 0, _, _, by decide, by decide, by decide, Nat.le_succ _, cxf_th (cX8_strain_met l D tys cI ht adA B0 _ _ _ _ _ _ _ _ _ _ _ _ _ _ _ _ _ _ _ _ _ _ _ _ _ _ _ _ _ _ _ _ _ _ _ _ _ _ _ _ (nI q) n hn) (by rw [hnm, ckR_ok hq h30, if_pos rfl]), (k9_strain0 l D tys cI ht adM _ _ _ _ _ _ _ _ _ _ _ _ _ _ _ _ _ _ _ _ _ _ _ _ q hq h30 hrr.1 hba hdy hI.2.1.1 hqc hI.2.2.2.1 z), rfl, fun _ => ?_, strF_nan _ _ _, strF_nan _ _ _, ?_⟩
      · rw [hst, z]
        unfold strF
        rw [if_pos nI_0, if_pos nI_0]
      · rw [if_pos rfl]
        exact InvW.same hb
    · refine ⟨0, 1, 2, n, _, _, 0, _, _, by decide, by decide, by decide, Nat.le_succ _, cxf_th (cX8_strain_met l D tys cI ht adA B0 _ _ _ _ _ _ _ _ _ _ _ _ _ _ _ _ _ _ _ _ _ _ _ _ _ _ _ _ _ _ _ _ _ _ _ _ _ _ _ _ (nI q) n hn) (by rw [hnm, ckR_ok hq h30, if_pos rfl]), (k9_strainK l D tys cI ht adM _ _ _ _ _ _ _ _ _ _ _ _ _ _ _ _ _ _ _ _ _ _ _ _ q hq h30 hrr.1 hba hdy hI.2.1.1 hqc hI.2.2.2.1 z), rfl, fun _ => ?_, strF_nan _ _ _, strF_nan _ _ _, ?_⟩
      · have e5 : rat 30 (T.1 14) (nI q) = nI ((S n).1 12 q) := by
          rw [rat_at (by omega) (by omega)]
          exact (hR.2.2.2.2.2 q hq).2.1 z
        have e0 : rat 30 (T.1 9) (nI q) = nI ((S n).1 8 q) := by
          rw [rat_at (by omega) (by omega)]
          exact (hR.2.2.2.2.1 q hq).1
        have hqp := hI.2.2.2.1 q
        rw [hst, e5, e0, hdI, gl_run hR.2.1 hI.2.1 (by omega) (by omega) (hqc q) 8 (Nat.le_refl _)]
      · rw [if_pos rfl]
        exact InvW.same hb
theorem call_entries {l : Launch} {D : va_G} {tys : List (ClassId × FieldType)} {cI : ClassId} (ht : tys[0]? = some (cI, .int)) {adA adM : Nat → Nat} {n : Nat} {wA wM : va_W} {th0 : Int32} (h : InvW cI adA adM n wA wM th0) (hn : n < 512) : CId l yX8_entries wsX8_entries 14 D tys [.ref (adA 0)] wA (nI n) wA ∧ ∃ wM2 : va_W, CId l yX9_entries wsX9_entries 1 D tys [.ref (adM 0)] wM (nI n) wM2 ∧ InvW cI adA adM n wA wM2 0 := by
  obtain ⟨B0, T, T2, O0, O1, on, oc, S, ro, pi, si, pl, rfl, rfl, hb⟩ := h
  obtain ⟨hS0, hH, hI, hR, hro, hpi, hsi⟩ := id hb
  exact ⟨cX8_entries_met l D tys cI ht adA B0 _ _ _ _ _ _ _ _ _ _ _ _ _ _ _ _ _ _ _ _ _ _ _ _ _ _ _ _ _ _ _ _ _ _ _ _ _ _ _ _ n hn, _, (k9_entries l D tys cI ht adM _ _ _ _ _ _ _ _ _ _ _ _ _ _ _ _ _ _ _ _ _ _ _ _ ), InvW.same hb⟩
theorem call_thrown {l : Launch} {D : va_G} {tys : List (ClassId × FieldType)} {cI : ClassId} (ht : tys[0]? = some (cI, .int)) {adA adM : Nat → Nat} {n : Nat} {wA wM : va_W} {th : Int32} (h : InvW cI adA adM n wA wM th) : CId l yX9_thrown wsX9_thrown 0 D tys [.ref (adM 0)] wM th wM := by
  obtain ⟨B0, T, T2, O0, O1, on, oc, S, ro, pi, si, pl, rfl, rfl, hb⟩ := h
  obtain ⟨hS0, hH, hI, hR, hro, hpi, hsi⟩ := id hb
  exact (k9_thrown l D tys cI ht adM _ _ _ _ _ _ _ _ _ _ _ _ _ _ _ _ _ _ _ _ _ _ _ _ )
theorem InvW.head {cI : ClassId} {adA adM : Nat → Nat} {n : Nat} {wA wM : va_W} {th : Int32} (h : InvW cI adA adM n wA wM th) : wA[0]? = some (adA 0, .inr (7, [.ref (adA 1), .ref (adA 4), .ref (adA 40), .ref (adA 76)])) := by
  obtain ⟨B0, T, T2, O0, O1, on, oc, S, ro, pi, si, pl, rfl, rfl, hb⟩ := h
  obtain ⟨hS0, hH, hI, hR, hro, hpi, hsi⟩ := id hb
  rfl
theorem InvW.headM {cI : ClassId} {adA adM : Nat → Nat} {n : Nat} {wA wM : va_W} {th : Int32} (h : InvW cI adA adM n wA wM th) : ∃ fs : List Value, wM[0]? = some (adM 0, .inr (8, fs)) := by
  obtain ⟨B0, T, T2, O0, O1, on, oc, S, ro, pi, si, pl, rfl, rfl, hb⟩ := h
  obtain ⟨hS0, hH, hI, hR, hro, hpi, hsi⟩ := id hb
  exact ⟨_, rfl⟩
