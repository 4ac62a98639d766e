/-! Each call: the class and the reference together. -/
def wAT (cI : ClassId) (ad : Nat → Nat) (B0 : Nat → Int32) (bn : Int32) (T T2 : DS) (O0 O1 : Nat → Int32) (on oc : Int32) : va_W := wApp cI ad B0 bn (T.1 0) (T.1 1) (T.1 2) (T.1 3) (T.1 4) (T.1 5) (T.1 6) (T.1 7) (T.1 8) T.2.1 (T.1 9) (T.1 10) (T.1 11) (T.1 12) (T.1 13) (T.1 14) (T.1 15) T.2.2 (T2.1 0) (T2.1 1) (T2.1 2) (T2.1 3) (T2.1 4) (T2.1 5) (T2.1 6) (T2.1 7) (T2.1 8) T2.2.1 (T2.1 9) (T2.1 10) (T2.1 11) (T2.1 12) (T2.1 13) (T2.1 14) (T2.1 15) T2.2.2 O0 O1 on oc
def wMT (cI : ClassId) (ad : Nat → Nat) (S : RS) (ro pi si : Nat → Nat) (pl : Nat → Int32) (en : Nat) (th : Int32) : va_W := wMod cI ad (S.1 0) (S.1 1) (S.1 2) (S.1 3) (S.1 4) (S.1 5) (S.1 6) (S.1 7) (S.1 8) (S.1 9) (S.1 10) (S.1 11) (S.1 12) (S.1 13) (S.1 14) S.2.1 ro pi si pl S.2.2.1 S.2.2.2 en th
def HB (n : Nat) (B0 : Nat → Int32) (T : DS) (S : Nat → RS) (ro pi si : Nat → Nat) : Prop := S 0 = S00 ∧ Hist B0 n S ∧ InvD n (S n) ∧ RepD T (S n) ∧ (∀ k, ro k ≤ 7) ∧ (∀ k, pi k ≤ 4) ∧ ∀ k, si k ≤ 9
/-- the class' world and the reference's say the same, after n entries; th: the reference's last throw -/
def InvW (cI : ClassId) (adA adM : Nat → Nat) (n : Nat) (wA wM : va_W) (th : Int32) : Prop := ∃ (B0 : Nat → Int32) (T T2 : DS) (O0 O1 : Nat → Int32) (on oc : Int32) (S : Nat → RS) (ro pi si : Nat → Nat) (pl : Nat → Int32), wA = wAT cI adA B0 (nI n) T T2 O0 O1 on oc ∧ wM = wMT cI adM (S n) ro pi si pl n th ∧ HB n B0 T S ro pi si
theorem InvW.same {cI : ClassId} {adA adM : Nat → Nat} {n : Nat} {B0 : Nat → Int32} {T T2 : DS} {O0 O1 : Nat → Int32} {on oc : Int32} {S : Nat → RS} {ro pi si : Nat → Nat} {pl : Nat → Int32} {th : Int32} (hb : HB n B0 T S ro pi si) : InvW cI adA adM n (wAT cI adA B0 (nI n) T T2 O0 O1 on oc) (wMT cI adM (S n) ro pi si pl n th) th := ⟨B0, T, T2, O0, O1, on, oc, S, ro, pi, si, pl, rfl, rfl, hb⟩
theorem InvW.add {cI : ClassId} {adA adM : Nat → Nat} {n : Nat} {B0 : Nat → Int32} {T T2 : DS} {O0 O1 : Nat → Int32} {on oc : Int32} {S : Nat → RS} {ro pi si ro2 pi2 si2 : Nat → Nat} {pl : Nat → Int32} {th : Int32} (hb : HB n B0 T S ro pi si) (hn : n < 512) {m : Nat} (hm : 1 ≤ m ∧ m ≤ 10) (a b c d e : Int32) (S2 : RS) (hS : ∀ T : DS, RepD T (S n) → RepD (apK m a b c d e T) S2) (hI : InvD (n + 1) S2) (h1 : ∀ k, ro2 k ≤ 7) (h2 : ∀ k, pi2 k ≤ 4) (h3 : ∀ k, si2 k ≤ 9) :
    InvW cI adA adM (n + 1) (wAT cI adA (bwr B0 (nI n) (nI m) a b c d e) (nI n + 1) (apK m a b c d e T) T2 O0 O1 on oc) (wMT cI adM S2 ro2 pi2 si2 pl (n + 1) th) th := by
  refine ⟨bwr B0 (nI n) (nI m) a b c d e, apK m a b c d e T, T2, O0, O1, on, oc, fun j => if j = n + 1 then S2 else S j, ro2, pi2, si2, pl, by rw [nI_1], ?_, ?_, hb.2.1.add hn hm a b c d e S2 hS, ?_, ?_, h1, h2, h3⟩
  · dsimp only
    rw [if_pos rfl]
  · dsimp only
    rw [if_neg (by omega)]
    exact hb.1
  · dsimp only
    rw [if_pos rfl]
    exact hI
  · dsimp only
    rw [if_pos rfl]
    exact hS T hb.2.2.2.1
def CallI (l : Launch) (D : va_G) (tys : List (ClassId × FieldType)) (cI : ClassId) (adA adM : Nat → Nat) (n : Nat) (wA wM : va_W) (yX : MethodName) (wsX : List Cond) (yM : MethodName) (wsM : List Cond) (args : List Value) (code : Nat → Int32) (al : List Nat) : Prop :=
  ∃ (th mc d2 n2 : Nat) (r b t2 : Int32) (wB wM2 : va_W), mc ≤ 6 ∧ th ∈ al ∧ d2 ≤ 13 ∧ n2 ≤ n + 1 ∧ CXi l yX wsX 14 mc D tys (.ref (adA 0) :: args) wA th r wB ∧ CId l yM wsM d2 D tys (.ref (adM 0) :: args) wM b wM2 ∧ t2 = code th ∧ (th = 0 → r = b) ∧ InvW cI adA adM n2 (if th = 0 then wB else wA) wM2 t2
section Calls
variable {l : Launch} {D : va_G} {tys : List (ClassId × FieldType)} {cI : ClassId} {adA adM : Nat → Nat} {n : Nat} {B0 : Nat → Int32} {T T2 : DS} {O0 O1 : Nat → Int32} {on oc : Int32} {S : Nat → RS} {ro pi si : Nat → Nat} {pl : Nat → Int32} {th0 : Int32} {yX yM : MethodName} {wsX wsM : List Cond} {args : List Value} {code : Nat → Int32} {al : List Nat}
theorem cxi_th {y : MethodName} {ws : List Cond} {d mc th th2 : Nat} {as : List Value} {w1 w2 : va_W} {r : Int32} (h : CXi l y ws d mc D tys as w1 th r w2) (e : th = th2) : CXi l y ws d mc D tys as w1 th2 r w2 := e ▸ h
theorem cxv_th {y : MethodName} {ws : List Cond} {d mc th th2 : Nat} {as : List Value} {w1 w2 : va_W} (h : CXv l y ws d mc D tys as w1 th w2) (e : th = th2) : CXv l y ws d mc D tys as w1 th2 w2 := e ▸ h
theorem cxf_th {y : MethodName} {ws : List Cond} {d mc th th2 : Nat} {as : List Value} {w1 w2 : va_W} {r : UInt32} (h : CXf l y ws d mc D tys as w1 th r w2) (e : th = th2) : CXf l y ws d mc D tys as w1 th2 r w2 := e ▸ h
theorem call_bad (hb : HB n B0 T S ro pi si) {th : Nat} (hth : ¬ th = 0) {mc d2 : Nat} {r b : Int32} {wB : va_W} (hal : th ∈ al) (hX : CXi l yX wsX 14 mc D tys (.ref (adA 0) :: args) (wAT cI adA B0 (nI n) T T2 O0 O1 on oc) th r wB) (hmc : mc ≤ 6) (hM : CId l yM wsM d2 D tys (.ref (adM 0) :: args) (wMT cI adM (S n) ro pi si pl n th0) b (wMT cI adM (S n) ro pi si pl n (code th))) (hd : d2 ≤ 13) :
    CallI l D tys cI adA adM n (wAT cI adA B0 (nI n) T T2 O0 O1 on oc) (wMT cI adM (S n) ro pi si pl n th0) yX wsX yM wsM args code al :=
  ⟨th, mc, d2, n, r, b, code th, wB, _, hmc, hal, hd, Nat.le_succ _, hX, hM, rfl, fun z => absurd z hth, by rw [if_neg hth]; exact InvW.same hb⟩
theorem call_same (hb : HB n B0 T S ro pi si) {mc d2 : Nat} {r b : Int32} {T3 : DS} {O2 O3 : Nat → Int32} {on2 oc2 : Int32} {ro2 pi2 si2 : Nat → Nat} {pl2 : Nat → Int32} (hal : 0 ∈ al) (hX : CXi l yX wsX 14 mc D tys (.ref (adA 0) :: args) (wAT cI adA B0 (nI n) T T2 O0 O1 on oc) 0 r (wAT cI adA B0 (nI n) T T3 O2 O3 on2 oc2)) (hmc : mc ≤ 6) (hM : CId l yM wsM d2 D tys (.ref (adM 0) :: args) (wMT cI adM (S n) ro pi si pl n th0) b (wMT cI adM (S n) ro2 pi2 si2 pl2 n (code 0))) (hd : d2 ≤ 13) (hr : r = b) (h1 : ∀ k, ro2 k ≤ 7) (h2 : ∀ k, pi2 k ≤ 4) (h3 : ∀ k, si2 k ≤ 9) :
    CallI l D tys cI adA adM n (wAT cI adA B0 (nI n) T T2 O0 O1 on oc) (wMT cI adM (S n) ro pi si pl n th0) yX wsX yM wsM args code al :=
  ⟨0, mc, d2, n, r, b, code 0, _, _, hmc, hal, hd, Nat.le_succ _, hX, hM, rfl, fun _ => hr, by rw [if_pos rfl]; exact InvW.same ⟨hb.1, hb.2.1, hb.2.2.1, hb.2.2.2.1, h1, h2, h3⟩⟩
theorem call_ok (hb : HB n B0 T S ro pi si) (hn : n < 512) (m : Nat) (a b c d e : Int32) (S2 : RS) (hm : 1 ≤ m ∧ m ≤ 10) {mc d2 : Nat} {r x : Int32} {O2 O3 : Nat → Int32} {on2 oc2 : Int32} {ro2 pi2 si2 : Nat → Nat} {pl2 : Nat → Int32} (hal : 0 ∈ al) (hX : CXi l yX wsX 14 mc D tys (.ref (adA 0) :: args) (wAT cI adA B0 (nI n) T T2 O0 O1 on oc) 0 r (wAT cI adA (bwr B0 (nI n) (nI m) a b c d e) (nI n + 1) (apK m a b c d e T) T2 O2 O3 on2 oc2)) (hmc : mc ≤ 6) (hM : CId l yM wsM d2 D tys (.ref (adM 0) :: args) (wMT cI adM (S n) ro pi si pl n th0) x (wMT cI adM S2 ro2 pi2 si2 pl2 (n + 1) (code 0))) (hd : d2 ≤ 13) (hr : r = x) (hS : ∀ T : DS, RepD T (S n) → RepD (apK m a b c d e T) S2) (hI : InvD (n + 1) S2) (h1 : ∀ k, ro2 k ≤ 7) (h2 : ∀ k, pi2 k ≤ 4) (h3 : ∀ k, si2 k ≤ 9) :
    CallI l D tys cI adA adM n (wAT cI adA B0 (nI n) T T2 O0 O1 on oc) (wMT cI adM (S n) ro pi si pl n th0) yX wsX yM wsM args code al :=
  ⟨0, mc, d2, n + 1, r, x, code 0, _, _, hmc, hal, hd, Nat.le_refl _, hX, hM, rfl, fun _ => hr, by rw [if_pos rfl]; exact InvW.add hb hn hm a b c d e S2 hS hI h1 h2 h3⟩
end Calls
theorem ckI_bad {lo c hi : Int32} {x X : Nat} (h : ¬ (lo ≤ c ∧ c ≤ hi)) : (if c < lo then x else if c ≤ hi then X else x) = x := by
  by_cases a : c < lo
  · rw [if_pos a]
  · rw [if_neg a, if_neg (fun z => h ⟨i_nlt a, z⟩)]
theorem ckI_ok {lo c hi : Int32} {x X : Nat} (h1 : lo ≤ c) (h2 : c ≤ hi) : (if c < lo then x else if c ≤ hi then X else x) = X := by
  rw [if_neg (Int32.not_lt.mpr h1), if_pos h2]
theorem ckS_bad {c hi : Int32} {x X : Nat} (h : c < 0 ∨ hi ≤ c) : (if c < 0 then x else if c < hi then X else x) = x := by
  by_cases a : c < 0
  · rw [if_pos a]
  · rw [if_neg a, if_neg (Int32.not_lt.mpr (h.resolve_left a))]
theorem ckS_ok {c hi : Int32} {x X : Nat} (h1 : ¬ c < 0) (h2 : c < hi) : (if c < 0 then x else if c < hi then X else x) = X := by
  rw [if_neg h1, if_pos h2]
theorem ck8_ok {p : Nat} (hp : p < 8) {x X : Nat} : (if nI p < 0 then x else if nI p < 8 then X else x) = X := ckS_ok (nI_pos (by omega)) (nI_lt (b := 8) hp (by omega))
theorem ckR_ok {q rq : Nat} (hq : q < rq) (hr : rq ≤ 30) {x X : Nat} : (if nI q < 0 then x else if nI q < nI rq then X else x) = X := ckS_ok (nI_pos (by omega)) (nI_lt hq (by omega))
theorem rng8 (p : Int32) : (¬ ((0 : Int32) ≤ p ∧ p ≤ 7) ∧ (p < 0 ∨ 8 ≤ p)) ∨ ∃ j : Nat, j < 8 ∧ p = nI j := by
  rcases pk_ix p (n := 8) (by omega) with h | h | h
  · exact Or.inl ⟨fun z => Int32.not_le.mpr h z.1, Or.inl h⟩
  · exact Or.inl ⟨fun z => absurd (Int32.le_trans (show (8 : Int32) ≤ p from h) z.2) (by decide), Or.inr h⟩
  · exact Or.inr h
theorem rngR (q : Int32) {rq : Nat} (hr : rq ≤ 30) : (q < 0 ∨ nI rq ≤ q) ∨ ∃ j : Nat, j < rq ∧ q = nI j := by
  rcases pk_ix q (n := rq) (by omega) with h | h | h
  · exact Or.inl (Or.inl h)
  · exact Or.inl (Or.inr h)
  · exact Or.inr h
theorem rngN (x : Int32) (lo hi : Nat) (hh : hi < 2 ^ 31) (hl : lo ≤ hi) : ¬ (nI lo ≤ x ∧ x ≤ nI hi) ∨ ∃ j : Nat, lo ≤ j ∧ j ≤ hi ∧ x = nI j := by
  by_cases h : nI lo ≤ x ∧ x ≤ nI hi
  · have h0 : ¬ x < 0 := Int32.not_lt.mpr (Int32.le_trans (nI_pos' (by omega)) h.1)
    obtain ⟨j, hj, rfl⟩ := nI_of h0
    exact Or.inr ⟨j, (nI_leI (by omega) hj).mp h.1, (nI_leI hj hh).mp h.2, rfl⟩
  · exact Or.inl h
theorem r13 (x : Int32) : ¬ ((1 : Int32) ≤ x ∧ x ≤ 3) ∨ ∃ j : Nat, 1 ≤ j ∧ j ≤ 3 ∧ x = nI j := rngN x 1 3 (by omega) (by omega)
theorem r60 (x : Int32) : ¬ ((1 : Int32) ≤ x ∧ x ≤ 60) ∨ ∃ j : Nat, 1 ≤ j ∧ j ≤ 60 ∧ x = nI j := rngN x 1 60 (by omega) (by omega)
theorem rC (x : Int32) : ¬ ((0 : Int32) ≤ x ∧ x ≤ 1000) ∨ ∃ j : Nat, 0 ≤ j ∧ j ≤ 1000 ∧ x = nI j := rngN x 0 1000 (by omega) (by omega)
theorem rL (x : Int32) : ¬ ((0 : Int32) ≤ x ∧ x ≤ 10000) ∨ ∃ j : Nat, 0 ≤ j ∧ j ≤ 10000 ∧ x = nI j := rngN x 0 10000 (by omega) (by omega)
theorem RepL.leaveI {L0 L1 L2 : Nat → Int32} {li ba de : Nat → Nat} {dy : Nat} {dI : Int32} (hR : RepL L0 L1 L2 li ba de) (hd : dI = nI dy) {p q m : Nat} (hp : p < 8) : RepL L0 (rup 8 L1 (nI p) (nI q)) (rup 8 L2 (nI p) (dI + nI m)) li (va_up ba p (dy + m)) (va_up de p q) := by
  subst hd
  exact hR.leave hp
theorem l1 {j : Nat} (h : 1 ≤ j) (h2 : j < 2 ^ 31) : (1 : Int32) ≤ nI j := nI_le (a := 1) h h2
theorem l3 {j : Nat} (h : j ≤ 3) : nI j ≤ (3 : Int32) := nI_le (b := 3) h (by omega)
theorem l60 {j : Nat} (h : j ≤ 60) : nI j ≤ (60 : Int32) := nI_le (b := 60) h (by omega)
theorem l0 {j : Nat} (h2 : j < 2 ^ 31) : (0 : Int32) ≤ nI j := nI_pos' h2

set_option maxHeartbeats 4000000 in
theorem call_version {l : Launch} {D : va_G} {tys : List (ClassId × FieldType)} {cI : ClassId} (ht : tys[0]? = some (cI, .int)) {adA adM : Nat → Nat} {n : Nat} {wA wM : va_W} {th0 : Int32} (h : InvW cI adA adM n wA wM th0) (hn : n < 512) (p c : Int32) : CallI l D tys cI adA adM n wA wM yX8_version wsX8_version yX9_version wsX9_version [.int p, .int c] lwC_version [0, 1, 2, 3] := by
  obtain ⟨B0, T, T2, O0, O1, on, oc, S, ro, pi, si, pl, rfl, rfl, hb⟩ := h
  obtain ⟨hS0, hH, hI, hR, hro, hpi, hsi⟩ := id hb
  rcases rng8 p with ⟨hp, hp2⟩ | ⟨p, hp, rfl⟩
  · exact call_bad hb (th := 1) (by decide) (by decide) (cxi_th (cX8_version_met l D tys cI ht adA B0 _ _ _ _ _ _ _ _ _ _ _ _ _ _ _ _ _ _ _ _ _ _ _ _ _ _ _ _ _ _ _ _ _ _ _ _ _ _ _ _ p c n hn) (by rw [ckS_bad hp2, if_neg (by decide)])) (by decide) (k9_version1 l D tys cI ht adM _ _ _ _ _ _ _ _ _ _ _ _ _ _ _ _ _ _ _ _ _ _ _ _ p c hp) (by decide)
  · rcases rC c with hc | ⟨c, -, hc, rfl⟩
    · exact call_bad hb (th := 2) (by decide) (by decide) (cxi_th (cX8_version_met l D tys cI ht adA B0 _ _ _ _ _ _ _ _ _ _ _ _ _ _ _ _ _ _ _ _ _ _ _ _ _ _ _ _ _ _ _ _ _ _ _ _ _ _ _ _ (nI p) c n hn) (by rw [ck8_ok hp, if_pos rfl, ckI_bad hc])) (by decide) (k9_version2 l D tys cI ht adM _ _ _ _ _ _ _ _ _ _ _ _ _ _ _ _ _ _ _ _ _ _ _ _ p hp c hc) (by decide)
    · have h3 := hI.1.1 p
      have hcnt := hR.1.count hp
      by_cases e : (S n).1 4 p = 3
      · exact call_bad hb (th := 3) (by decide) (by decide) (cxi_th (cX8_version_met l D tys cI ht adA B0 _ _ _ _ _ _ _ _ _ _ _ _ _ _ _ _ _ _ _ _ _ _ _ _ _ _ _ _ _ _ _ _ _ _ _ _ _ _ _ _ (nI p) (nI c) n hn) (by rw [ck8_ok hp, if_pos rfl, ckI_ok (l0 (by omega)) (show nI c ≤ 1000 from nI_le (b := 1000) hc (by omega)), hcnt, e, if_neg (by decide)])) (by decide) (k9_version3 l D tys cI ht adM _ _ _ _ _ _ _ _ _ _ _ _ _ _ _ _ _ _ _ _ _ _ _ _ p hp c hc e) (by decide)
      · have h4 : (S n).1 4 p < 3 := by omega
        refine call_ok hb hn 1 (nI p) (nI c) 0 0 0 (mkS (va_up ((S n).1 0) (3 * p + (S n).1 4 p) c) (((S n).1 1)) (((S n).1 2)) (((S n).1 3)) (va_up ((S n).1 4) p ((S n).1 4 p + 1)) (((S n).1 5)) (((S n).1 6)) (((S n).1 7)) (((S n).1 8)) (((S n).1 9)) (((S n).1 10)) (((S n).1 11)) (((S n).1 12)) (((S n).1 13)) (((S n).1 14)) ((S n).2.1) ((S n).2.2.1) ((S n).2.2.2)) (by decide) (by decide) (cxi_th (cX8_version_met l D tys cI ht adA B0 _ _ _ _ _ _ _ _ _ _ _ _ _ _ _ _ _ _ _ _ _ _ _ _ _ _ _ _ _ _ _ _ _ _ _ _ _ _ _ _ (nI p) (nI c) n hn) (by rw [ck8_ok hp, if_pos rfl, ckI_ok (l0 (by omega)) (show nI c ≤ 1000 from nI_le (b := 1000) hc (by omega)), hcnt, if_pos (show nI ((S n).1 4 p) < 3 from nI_lt (b := 3) h4 (by omega))])) (by decide) (k9_versionK l D tys cI ht adM _ _ _ _ _ _ _ _ _ _ _ _ _ _ _ _ _ _ _ _ _ _ _ _ p hp c hc h4) (by decide) ?_ (fun T' hT => ?_) ?_ hro hpi hsi
        · rw [hcnt, nI_1]
        · exact ⟨hT.1.version hI.1 hp h4, hT.2⟩
        · exact ⟨hI.1.version h4 hc, hI.2.1.mono, hI.2.2⟩
theorem rngV (v : Int32) {m : Nat} (hm : m ≤ 3) : ¬ (1 ≤ v ∧ v ≤ nI m) ∨ ∃ j : Nat, 1 ≤ j ∧ j ≤ m ∧ v = nI j := by
  by_cases h : 1 ≤ v ∧ v ≤ nI m
  · have h0 : ¬ v < 0 := Int32.not_lt.mpr (Int32.le_trans (show (0 : Int32) ≤ 1 by decide) h.1)
    obtain ⟨j, hj, rfl⟩ := nI_of h0
    exact Or.inr ⟨j, (nI_leI (a := 1) (by omega) hj).mp h.1, (nI_leI hj (by omega)).mp h.2, rfl⟩
  · exact Or.inl h
set_option maxHeartbeats 4000000 in
theorem call_need {l : Launch} {D : va_G} {tys : List (ClassId × FieldType)} {cI : ClassId} (ht : tys[0]? = some (cI, .int)) {adA adM : Nat → Nat} {n : Nat} {wA wM : va_W} {th0 : Int32} (h : InvW cI adA adM n wA wM th0) (hn : n < 512) (p v q a b : Int32) : CallI l D tys cI adA adM n wA wM yX8_need wsX8_need yX9_need wsX9_need [.int p, .int v, .int q, .int a, .int b] lwC_need [0, 1, 2, 3] := by
  obtain ⟨B0, T, T2, O0, O1, on, oc, S, ro, pi, si, pl, rfl, rfl, hb⟩ := h
  obtain ⟨hS0, hH, hI, hR, hro, hpi, hsi⟩ := id hb
  have h30 := hI.1.1
  rcases rng8 p with ⟨hp, hp2⟩ | ⟨p, hp, rfl⟩
  · exact call_bad hb (th := 1) (by decide) (by decide) (cxi_th (cX8_need_met l D tys cI ht adA B0 _ _ _ _ _ _ _ _ _ _ _ _ _ _ _ _ _ _ _ _ _ _ _ _ _ _ _ _ _ _ _ _ _ _ _ _ _ _ _ _ p v q a b n hn) (by rw [ckS_bad hp2, if_neg (by decide)])) (by decide) (k9_need1a l D tys cI ht adM _ _ _ _ _ _ _ _ _ _ _ _ _ _ _ _ _ _ _ _ _ _ _ _ p v q a b hp) (by decide)
  · have h3 := h30 p
    have hcnt := hR.1.count hp
    rcases rngV v (by omega : (S n).1 4 p ≤ 3) with hv | ⟨v, hv, hv2, rfl⟩
    · rcases rng8 q with ⟨hq, hq2⟩ | ⟨q, hq, rfl⟩
      · exact call_bad hb (th := 1) (by decide) (by decide) (cxi_th (cX8_need_met l D tys cI ht adA B0 _ _ _ _ _ _ _ _ _ _ _ _ _ _ _ _ _ _ _ _ _ _ _ _ _ _ _ _ _ _ _ _ _ _ _ _ _ _ _ _ (nI p) v q a b n hn) (by rw [ck8_ok hp, if_pos rfl, ckS_bad hq2, if_neg (by decide)])) (by decide) (k9_need1b l D tys cI ht adM _ _ _ _ _ _ _ _ _ _ _ _ _ _ _ _ _ _ _ _ _ _ _ _ p hp v q a b hv) (by decide)
      · exact call_bad hb (th := 1) (by decide) (by decide) (cxi_th (cX8_need_met l D tys cI ht adA B0 _ _ _ _ _ _ _ _ _ _ _ _ _ _ _ _ _ _ _ _ _ _ _ _ _ _ _ _ _ _ _ _ _ _ _ _ _ _ _ _ (nI p) v (nI q) a b n hn) (by rw [ck8_ok hp, if_pos rfl, ck8_ok hq, if_pos rfl, hcnt, ckI_bad hv, if_neg (by decide)])) (by decide) (k9_need1b l D tys cI ht adM _ _ _ _ _ _ _ _ _ _ _ _ _ _ _ _ _ _ _ _ _ _ _ _ p hp v (nI q) a b hv) (by decide)
    · rcases rng8 q with ⟨hq, hq2⟩ | ⟨q, hq, rfl⟩
      · exact call_bad hb (th := 1) (by decide) (by decide) (cxi_th (cX8_need_met l D tys cI ht adA B0 _ _ _ _ _ _ _ _ _ _ _ _ _ _ _ _ _ _ _ _ _ _ _ _ _ _ _ _ _ _ _ _ _ _ _ _ _ _ _ _ (nI p) (nI v) q a b n hn) (by rw [ck8_ok hp, if_pos rfl, ckS_bad hq2, if_neg (by decide)])) (by decide) (k9_need1c l D tys cI ht adM _ _ _ _ _ _ _ _ _ _ _ _ _ _ _ _ _ _ _ _ _ _ _ _ p v hp ⟨hv, hv2⟩ h30 q a b hq) (by decide)
      · have eV : ∀ X : Nat, (if nI v < 1 then 1 else if nI v ≤ rat 8 (T.1 0) (nI p) then X else 1) = X := fun X => by rw [hcnt]; exact ckI_ok (l1 hv (by omega)) (nI_le hv2 (by omega))
        by_cases e : p = q
        · exact call_bad hb (th := 2) (by decide) (by decide) (cxi_th (cX8_need_met l D tys cI ht adA B0 _ _ _ _ _ _ _ _ _ _ _ _ _ _ _ _ _ _ _ _ _ _ _ _ _ _ _ _ _ _ _ _ _ _ _ _ _ _ _ _ (nI p) (nI v) (nI q) a b n hn) (by rw [ck8_ok hp, if_pos rfl, ck8_ok hq, if_pos rfl, eV, if_pos rfl, if_neg (fun z => z (by rw [e]))])) (by decide) (k9_need2a l D tys cI ht adM _ _ _ _ _ _ _ _ _ _ _ _ _ _ _ _ _ _ _ _ _ _ _ _ p v hp ⟨hv, hv2⟩ h30 q hq a b e) (by decide)
        · have e2 : ¬ nI p = nI q := fun z => e ((nI_eq (by omega) (by omega)).mp z)
          rcases r13 a with ha | ⟨a, ha, ha2, rfl⟩
          · exact call_bad hb (th := 2) (by decide) (by decide) (cxi_th (cX8_need_met l D tys cI ht adA B0 _ _ _ _ _ _ _ _ _ _ _ _ _ _ _ _ _ _ _ _ _ _ _ _ _ _ _ _ _ _ _ _ _ _ _ _ _ _ _ _ (nI p) (nI v) (nI q) a b n hn) (by rw [ck8_ok hp, if_pos rfl, ck8_ok hq, if_pos rfl, eV, if_pos rfl, if_pos e2, ckI_bad ha, if_neg (by decide)])) (by decide) (k9_need2b l D tys cI ht adM _ _ _ _ _ _ _ _ _ _ _ _ _ _ _ _ _ _ _ _ _ _ _ _ p v hp ⟨hv, hv2⟩ h30 q hq a b e ha) (by decide)
          · rcases rngN b a 3 (by omega) ha2 with hb2 | ⟨b, hb1, hb2, rfl⟩
            · exact call_bad hb (th := 2) (by decide) (by decide) (cxi_th (cX8_need_met l D tys cI ht adA B0 _ _ _ _ _ _ _ _ _ _ _ _ _ _ _ _ _ _ _ _ _ _ _ _ _ _ _ _ _ _ _ _ _ _ _ _ _ _ _ _ (nI p) (nI v) (nI q) (nI a) b n hn) (by rw [ck8_ok hp, if_pos rfl, ck8_ok hq, if_pos rfl, eV, if_pos rfl, if_pos e2, ckI_ok (l1 ha (by omega)) (l3 ha2), if_pos rfl]; exact ckI_bad hb2)) (by decide) (k9_need2c l D tys cI ht adM _ _ _ _ _ _ _ _ _ _ _ _ _ _ _ _ _ _ _ _ _ _ _ _ p v hp ⟨hv, hv2⟩ h30 q a hq b e ⟨ha, ha2⟩ hb2) (by decide)
            · have h4 := hI.1.2.2.1 (3 * p + v - 1)
              have hnn := hR.1.nneed hp ⟨hv, hv2⟩ h30
              by_cases e4 : (S n).1 2 (3 * p + v - 1) = 4
              · exact call_bad hb (th := 3) (by decide) (by decide) (cxi_th (cX8_need_met l D tys cI ht adA B0 _ _ _ _ _ _ _ _ _ _ _ _ _ _ _ _ _ _ _ _ _ _ _ _ _ _ _ _ _ _ _ _ _ _ _ _ _ _ _ _ (nI p) (nI v) (nI q) (nI a) (nI b) n hn) (by rw [ck8_ok hp, if_pos rfl, ck8_ok hq, if_pos rfl, eV, if_pos rfl, if_pos e2, ckI_ok (l1 ha (by omega)) (l3 ha2), if_pos rfl, ckI_ok (nI_le hb1 (by omega)) (l3 hb2), hnn, e4, if_neg (by decide)])) (by decide) (k9_need3 l D tys cI ht adM _ _ _ _ _ _ _ _ _ _ _ _ _ _ _ _ _ _ _ _ _ _ _ _ p v hp ⟨hv, hv2⟩ h30 q a b hq e ⟨ha, ha2⟩ ⟨hb1, hb2⟩ e4) (by decide)
              · have h5 : (S n).1 2 (3 * p + v - 1) < 4 := by omega
                refine call_ok hb hn 2 (nI p) (nI v) (nI q) (nI a) (nI b) (mkS (((S n).1 0)) (((S n).1 1)) (va_up ((S n).1 2) (3 * p + v - 1) (((S n).1 2) (3 * p + v - 1) + 1)) (va_up (va_up (va_up ((S n).1 3) (12 * (3 * p + v - 1) + 3 * ((S n).1 2) (3 * p + v - 1)) q) ((12 * (3 * p + v - 1) + 3 * ((S n).1 2) (3 * p + v - 1)) + 1) a) ((12 * (3 * p + v - 1) + 3 * ((S n).1 2) (3 * p + v - 1)) + 2) b) (((S n).1 4)) (((S n).1 5)) (((S n).1 6)) (((S n).1 7)) (((S n).1 8)) (((S n).1 9)) (((S n).1 10)) (((S n).1 11)) (((S n).1 12)) (((S n).1 13)) (((S n).1 14)) ((S n).2.1) ((S n).2.2.1) ((S n).2.2.2)) (by decide) (by decide) (cxi_th (cX8_need_met l D tys cI ht adA B0 _ _ _ _ _ _ _ _ _ _ _ _ _ _ _ _ _ _ _ _ _ _ _ _ _ _ _ _ _ _ _ _ _ _ _ _ _ _ _ _ (nI p) (nI v) (nI q) (nI a) (nI b) n hn) (by rw [ck8_ok hp, if_pos rfl, ck8_ok hq, if_pos rfl, eV, if_pos rfl, if_pos e2, ckI_ok (l1 ha (by omega)) (l3 ha2), if_pos rfl, ckI_ok (nI_le hb1 (by omega)) (l3 hb2), hnn, if_pos (show nI ((S n).1 2 (3 * p + v - 1)) < 4 from nI_lt (b := 4) h5 (by omega))])) (by decide) (k9_needK l D tys cI ht adM _ _ _ _ _ _ _ _ _ _ _ _ _ _ _ _ _ _ _ _ _ _ _ _ p v hp ⟨hv, hv2⟩ h30 q a b hq e ⟨ha, ha2⟩ ⟨hb1, hb2⟩ h5) (by decide) ?_ (fun T' hT => ?_) ?_ hro hpi hsi
                · rw [hnn, nI_1]
                · exact ⟨hT.1.need hI.1 hp ⟨hv, hv2⟩ h5, hT.2⟩
                · exact ⟨hI.1.need hp ⟨hv, hv2⟩ h5 hq e ⟨ha, ha2⟩ ⟨hb1, hb2⟩, hI.2.1.mono, hI.2.2⟩
set_option maxHeartbeats 4000000 in
theorem call_replace {l : Launch} {D : va_G} {tys : List (ClassId × FieldType)} {cI : ClassId} (ht : tys[0]? = some (cI, .int)) {adA adM : Nat → Nat} {n : Nat} {wA wM : va_W} {th0 : Int32} (h : InvW cI adA adM n wA wM th0) (hn : n < 512) (p v : Int32) : CallI l D tys cI adA adM n wA wM yX8_replace wsX8_replace yX9_replace wsX9_replace [.int p, .int v] lwC_replace [0, 1, 3] := by
  obtain ⟨B0, T, T2, O0, O1, on, oc, S, ro, pi, si, pl, rfl, rfl, hb⟩ := h
  obtain ⟨hS0, hH, hI, hR, hro, hpi, hsi⟩ := id hb
  have h30 := hI.1.1
  have hrr := hI.2.2.2.2.2.2.2
  rcases rng8 p with ⟨hp, hp2⟩ | ⟨p, hp, rfl⟩
  · exact call_bad hb (th := 1) (by decide) (by decide) (cxi_th (cX8_replace_met l D tys cI ht adA B0 _ _ _ _ _ _ _ _ _ _ _ _ _ _ _ _ _ _ _ _ _ _ _ _ _ _ _ _ _ _ _ _ _ _ _ _ _ _ _ _ p v n hn) (by rw [ckS_bad hp2, if_neg (by decide)])) (by decide) (k9_replace1a l D tys cI ht adM _ _ _ _ _ _ _ _ _ _ _ _ _ _ _ _ _ _ _ _ _ _ _ _ p v hp) (by decide)
  · have h3 := h30 p
    have hcnt := hR.1.count hp
    rcases rngV v (by omega : (S n).1 4 p ≤ 3) with hv | ⟨v, hv, hv2, rfl⟩
    · exact call_bad hb (th := 1) (by decide) (by decide) (cxi_th (cX8_replace_met l D tys cI ht adA B0 _ _ _ _ _ _ _ _ _ _ _ _ _ _ _ _ _ _ _ _ _ _ _ _ _ _ _ _ _ _ _ _ _ _ _ _ _ _ _ _ (nI p) v n hn) (by rw [ck8_ok hp, if_pos rfl, hcnt, ckI_bad hv, if_neg (by decide)])) (by decide) (k9_replace1b l D tys cI ht adM _ _ _ _ _ _ _ _ _ _ _ _ _ _ _ _ _ _ _ _ _ _ _ _ p hp v hv) (by decide)
    · have hrp := hR.1.repl hp ⟨hv, hv2⟩ h30
      have hv1 := hI.1.2.1 (3 * p + v - 1)
      have eV : ∀ X : Nat, (if nI v < 1 then 1 else if nI v ≤ rat 8 (T.1 0) (nI p) then X else 1) = X := fun X => by rw [hcnt]; exact ckI_ok (l1 hv (by omega)) (nI_le hv2 (by omega))
      by_cases e : (S n).1 1 (3 * p + v - 1) = 1
      · exact call_bad hb (th := 3) (by decide) (by decide) (cxi_th (cX8_replace_met l D tys cI ht adA B0 _ _ _ _ _ _ _ _ _ _ _ _ _ _ _ _ _ _ _ _ _ _ _ _ _ _ _ _ _ _ _ _ _ _ _ _ _ _ _ _ (nI p) (nI v) n hn) (by rw [ck8_ok hp, if_pos rfl, eV, if_pos rfl, hrp, e, if_pos (by decide)])) (by decide) (k9_replace2 l D tys cI ht adM _ _ _ _ _ _ _ _ _ _ _ _ _ _ _ _ _ _ _ _ _ _ _ _ p v hp ⟨hv, hv2⟩ h30 hI.1.2.1 e) (by decide)
      · have e0 : (S n).1 1 (3 * p + v - 1) = 0 := by omega
        have key := fun (T' : DS) (hT : RepD T' (S n)) => ox_replace hT hI (by omega) hp ⟨hv, hv2⟩
        refine call_ok hb hn 3 (nI p) (nI v) 0 0 0 (mkS (((S n).1 0)) (va_up ((S n).1 1) (3 * p + v - 1) 1) (((S n).1 2)) (((S n).1 3)) (((S n).1 4)) (((S n).1 5)) (((S n).1 6)) (((S n).1 7)) (((S n).1 8)) (((S n).1 9)) (((S n).1 10)) ((reT p v ((S n).1 14, (S n).1 11, (S n).1 13) (S n).2.2.1).2.1) (((S n).1 12)) ((reT p v ((S n).1 14, (S n).1 11, (S n).1 13) (S n).2.2.1).2.2) ((reT p v ((S n).1 14, (S n).1 11, (S n).1 13) (S n).2.2.1).1) ((S n).2.1) ((S n).2.2.1) ((S n).2.2.2)) (by decide) (by decide) (cxi_th (cX8_replace_met l D tys cI ht adA B0 _ _ _ _ _ _ _ _ _ _ _ _ _ _ _ _ _ _ _ _ _ _ _ _ _ _ _ _ _ _ _ _ _ _ _ _ _ _ _ _ (nI p) (nI v) n hn) (by rw [ck8_ok hp, if_pos rfl, eV, if_pos rfl, hrp, e0, if_neg (by decide)])) (by decide) (k9_replaceK l D tys cI ht adM _ _ _ _ _ _ _ _ _ _ _ _ _ _ _ _ _ _ _ _ _ _ _ _ p v hp ⟨hv, hv2⟩ h30 hI.1.2.1 hrr.2.2.1 hrr.1 hrr.2.1 hI.2.2.1 e0) (by decide) ?_ (fun T' hT => ?_) ?_ hro hpi hsi
        · exact (key T hR).2
        · exact (key T' hT).1
        · exact oi_replace hI hp ⟨hv, hv2⟩
set_option maxHeartbeats 4000000 in
theorem call_request {l : Launch} {D : va_G} {tys : List (ClassId × FieldType)} {cI : ClassId} (ht : tys[0]? = some (cI, .int)) {adA adM : Nat → Nat} {n : Nat} {wA wM : va_W} {th0 : Int32} (h : InvW cI adA adM n wA wM th0) (hn : n < 512) (p q a : Int32) : CallI l D tys cI adA adM n wA wM yX8_request wsX8_request yX9_request wsX9_request [.int p, .int q, .int a] lwC_request [0, 1, 2, 3] := by
  obtain ⟨B0, T, T2, O0, O1, on, oc, S, ro, pi, si, pl, rfl, rfl, hb⟩ := h
  obtain ⟨hS0, hH, hI, hR, hro, hpi, hsi⟩ := id hb
  have h30 := hI.2.2.1
  have hnm : T.2.2 = nI (S n).2.2.1 := hR.2.2.2.1
  rcases rng8 p with ⟨hp, hp2⟩ | ⟨p, hp, rfl⟩
  · exact call_bad hb (th := 1) (by decide) (by decide) (cxi_th (cX8_request_met l D tys cI ht adA B0 _ _ _ _ _ _ _ _ _ _ _ _ _ _ _ _ _ _ _ _ _ _ _ _ _ _ _ _ _ _ _ _ _ _ _ _ _ _ _ _ p q a n hn) (by rw [ckS_bad hp2, if_neg (by decide)])) (by decide) (k9_request1a l D tys cI ht adM _ _ _ _ _ _ _ _ _ _ _ _ _ _ _ _ _ _ _ _ _ _ _ _ p q a hp) (by decide)
  · rcases rng8 q with ⟨hq, hq2⟩ | ⟨q, hq, rfl⟩
    · exact call_bad hb (th := 1) (by decide) (by decide) (cxi_th (cX8_request_met l D tys cI ht adA B0 _ _ _ _ _ _ _ _ _ _ _ _ _ _ _ _ _ _ _ _ _ _ _ _ _ _ _ _ _ _ _ _ _ _ _ _ _ _ _ _ (nI p) q a n hn) (by rw [ck8_ok hp, if_pos rfl, ckS_bad hq2, if_neg (by decide)])) (by decide) (k9_request1b l D tys cI ht adM _ _ _ _ _ _ _ _ _ _ _ _ _ _ _ _ _ _ _ _ _ _ _ _ p hp q a hq) (by decide)
    · rcases r13 a with ha | ⟨a, ha, ha2, rfl⟩
      · exact call_bad hb (th := 2) (by decide) (by decide) (cxi_th (cX8_request_met l D tys cI ht adA B0 _ _ _ _ _ _ _ _ _ _ _ _ _ _ _ _ _ _ _ _ _ _ _ _ _ _ _ _ _ _ _ _ _ _ _ _ _ _ _ _ (nI p) (nI q) a n hn) (by rw [ck8_ok hp, if_pos rfl, ck8_ok hq, if_pos rfl, ckI_bad ha, if_neg (by decide)])) (by decide) (k9_request2 l D tys cI ht adM _ _ _ _ _ _ _ _ _ _ _ _ _ _ _ _ _ _ _ _ _ _ _ _ p q hp hq a ha) (by decide)
      · by_cases e : (S n).2.2.1 = 30
        · exact call_bad hb (th := 3) (by decide) (by decide) (cxi_th (cX8_request_met l D tys cI ht adA B0 _ _ _ _ _ _ _ _ _ _ _ _ _ _ _ _ _ _ _ _ _ _ _ _ _ _ _ _ _ _ _ _ _ _ _ _ _ _ _ _ (nI p) (nI q) (nI a) n hn) (by rw [ck8_ok hp, if_pos rfl, ck8_ok hq, if_pos rfl, ckI_ok (l1 ha (by omega)) (l3 ha2), if_pos rfl, hnm, e, if_neg (by decide)])) (by decide) (k9_request3 l D tys cI ht adM _ _ _ _ _ _ _ _ _ _ _ _ _ _ _ _ _ _ _ _ _ _ _ _ p q a hp hq ⟨ha, ha2⟩ e) (by decide)
        · have h29 : (S n).2.2.1 < 30 := by omega
          refine call_ok hb hn 4 (nI p) (nI q) (nI a) 0 0 (mkS (((S n).1 0)) (((S n).1 1)) (((S n).1 2)) (((S n).1 3)) (((S n).1 4)) (((S n).1 5)) (((S n).1 6)) (((S n).1 7)) (va_up ((S n).1 8) (S n).2.2.1 p) (va_up ((S n).1 9) (S n).2.2.1 q) (va_up ((S n).1 10) (S n).2.2.1 a) (((S n).1 11)) (((S n).1 12)) (((S n).1 13)) (((S n).1 14)) ((S n).2.1) ((S n).2.2.1 + 1) ((S n).2.2.2)) (by decide) (by decide) (cxi_th (cX8_request_met l D tys cI ht adA B0 _ _ _ _ _ _ _ _ _ _ _ _ _ _ _ _ _ _ _ _ _ _ _ _ _ _ _ _ _ _ _ _ _ _ _ _ _ _ _ _ (nI p) (nI q) (nI a) n hn) (by rw [ck8_ok hp, if_pos rfl, ck8_ok hq, if_pos rfl, ckI_ok (l1 ha (by omega)) (l3 ha2), if_pos rfl, hnm, if_pos (show nI (S n).2.2.1 < 30 from nI_lt (b := 30) h29 (by omega))])) (by decide) (k9_requestK l D tys cI ht adM _ _ _ _ _ _ _ _ _ _ _ _ _ _ _ _ _ _ _ _ _ _ _ _ p q a hp hq ⟨ha, ha2⟩ h29) (by decide) ?_ (fun T' hT => ?_) ?_ hro hpi hsi
          · exact hnm
          · exact ox_request hT hI h29
          · exact oi_request hI h29 hp hq ⟨ha, ha2⟩
set_option maxHeartbeats 4000000 in
theorem call_limit {l : Launch} {D : va_G} {tys : List (ClassId × FieldType)} {cI : ClassId} (ht : tys[0]? = some (cI, .int)) {adA adM : Nat → Nat} {n : Nat} {wA wM : va_W} {th0 : Int32} (h : InvW cI adA adM n wA wM th0) (hn : n < 512) (p c : Int32) : CallI l D tys cI adA adM n wA wM yX8_limit wsX8_limit yX9_limit wsX9_limit [.int p, .int c] lwC_limit [0, 1, 2] := by
  obtain ⟨B0, T, T2, O0, O1, on, oc, S, ro, pi, si, pl, rfl, rfl, hb⟩ := h
  obtain ⟨hS0, hH, hI, hR, hro, hpi, hsi⟩ := id hb
  rcases rng8 p with ⟨hp, hp2⟩ | ⟨p, hp, rfl⟩
  · exact call_bad hb (th := 1) (by decide) (by decide) (cxi_th (cX8_limit_met l D tys cI ht adA B0 _ _ _ _ _ _ _ _ _ _ _ _ _ _ _ _ _ _ _ _ _ _ _ _ _ _ _ _ _ _ _ _ _ _ _ _ _ _ _ _ p c n hn) (by rw [ckS_bad hp2, if_neg (by decide)])) (by decide) (k9_limit1 l D tys cI ht adM _ _ _ _ _ _ _ _ _ _ _ _ _ _ _ _ _ _ _ _ _ _ _ _ p c hp) (by decide)
  · rcases rL c with hc | ⟨c, -, hc, rfl⟩
    · exact call_bad hb (th := 2) (by decide) (by decide) (cxi_th (cX8_limit_met l D tys cI ht adA B0 _ _ _ _ _ _ _ _ _ _ _ _ _ _ _ _ _ _ _ _ _ _ _ _ _ _ _ _ _ _ _ _ _ _ _ _ _ _ _ _ (nI p) c n hn) (by rw [ck8_ok hp, if_pos rfl, ckI_bad hc])) (by decide) (k9_limit2 l D tys cI ht adM _ _ _ _ _ _ _ _ _ _ _ _ _ _ _ _ _ _ _ _ _ _ _ _ p hp c hc) (by decide)
    · skip
      refine call_ok hb hn 6 (nI p) (nI c) 0 0 0 (mkS (((S n).1 0)) (((S n).1 1)) (((S n).1 2)) (((S n).1 3)) (((S n).1 4)) (va_up ((S n).1 5) p c) (((S n).1 6)) (((S n).1 7)) (((S n).1 8)) (((S n).1 9)) (((S n).1 10)) (((S n).1 11)) (((S n).1 12)) (((S n).1 13)) (((S n).1 14)) ((S n).2.1) ((S n).2.2.1) ((S n).2.2.2)) (by decide) (by decide) (cxi_th (cX8_limit_met l D tys cI ht adA B0 _ _ _ _ _ _ _ _ _ _ _ _ _ _ _ _ _ _ _ _ _ _ _ _ _ _ _ _ _ _ _ _ _ _ _ _ _ _ _ _ (nI p) (nI c) n hn) (by rw [ck8_ok hp, if_pos rfl, ckI_ok (l0 (by omega)) (show nI c ≤ 10000 from nI_le (b := 10000) hc (by omega))])) (by decide) (k9_limitK l D tys cI ht adM _ _ _ _ _ _ _ _ _ _ _ _ _ _ _ _ _ _ _ _ _ _ _ _ p hp c hc) (by decide) ?_ (fun T' hT => ?_) ?_ hro hpi hsi
      · exact hR.2.1.lim hp
      · exact ⟨hT.1, hT.2.1.limit hp, hT.2.2⟩
      · exact ⟨hI.1, hI.2.1.mono.limit hc, hI.2.2⟩
set_option maxHeartbeats 4000000 in
theorem call_leave {l : Launch} {D : va_G} {tys : List (ClassId × FieldType)} {cI : ClassId} (ht : tys[0]? = some (cI, .int)) {adA adM : Nat → Nat} {n : Nat} {wA wM : va_W} {th0 : Int32} (h : InvW cI adA adM n wA wM th0) (hn : n < 512) (p q m : Int32) : CallI l D tys cI adA adM n wA wM yX8_leave wsX8_leave yX9_leave wsX9_leave [.int p, .int q, .int m] lwC_leave [0, 1, 2] := by
  obtain ⟨B0, T, T2, O0, O1, on, oc, S, ro, pi, si, pl, rfl, rfl, hb⟩ := h
  obtain ⟨hS0, hH, hI, hR, hro, hpi, hsi⟩ := id hb
  rcases rng8 p with ⟨hp, hp2⟩ | ⟨p, hp, rfl⟩
  · exact call_bad hb (th := 1) (by decide) (by decide) (cxi_th (cX8_leave_met l D tys cI ht adA B0 _ _ _ _ _ _ _ _ _ _ _ _ _ _ _ _ _ _ _ _ _ _ _ _ _ _ _ _ _ _ _ _ _ _ _ _ _ _ _ _ p q m n hn) (by rw [ckS_bad hp2, if_neg (by decide)])) (by decide) (k9_leave1a l D tys cI ht adM _ _ _ _ _ _ _ _ _ _ _ _ _ _ _ _ _ _ _ _ _ _ _ _ p q m hp) (by decide)
  · rcases rng8 q with ⟨hq, hq2⟩ | ⟨q, hq, rfl⟩
    · exact call_bad hb (th := 1) (by decide) (by decide) (cxi_th (cX8_leave_met l D tys cI ht adA B0 _ _ _ _ _ _ _ _ _ _ _ _ _ _ _ _ _ _ _ _ _ _ _ _ _ _ _ _ _ _ _ _ _ _ _ _ _ _ _ _ (nI p) q m n hn) (by rw [ck8_ok hp, if_pos rfl, ckS_bad hq2, if_neg (by decide)])) (by decide) (k9_leave1b l D tys cI ht adM _ _ _ _ _ _ _ _ _ _ _ _ _ _ _ _ _ _ _ _ _ _ _ _ p hp q m hq) (by decide)
    · by_cases e : p = q
      · exact call_bad hb (th := 2) (by decide) (by decide) (cxi_th (cX8_leave_met l D tys cI ht adA B0 _ _ _ _ _ _ _ _ _ _ _ _ _ _ _ _ _ _ _ _ _ _ _ _ _ _ _ _ _ _ _ _ _ _ _ _ _ _ _ _ (nI p) (nI q) m n hn) (by rw [ck8_ok hp, if_pos rfl, ck8_ok hq, if_pos rfl, if_neg (fun z => z (by rw [e]))])) (by decide) (k9_leave2a l D tys cI ht adM _ _ _ _ _ _ _ _ _ _ _ _ _ _ _ _ _ _ _ _ _ _ _ _ p q hp hq m e) (by decide)
      · have e2 : ¬ nI p = nI q := fun z => e ((nI_eq (by omega) (by omega)).mp z)
        rcases r60 m with hm | ⟨m, hm, hm2, rfl⟩
        · exact call_bad hb (th := 2) (by decide) (by decide) (cxi_th (cX8_leave_met l D tys cI ht adA B0 _ _ _ _ _ _ _ _ _ _ _ _ _ _ _ _ _ _ _ _ _ _ _ _ _ _ _ _ _ _ _ _ _ _ _ _ _ _ _ _ (nI p) (nI q) m n hn) (by rw [ck8_ok hp, if_pos rfl, ck8_ok hq, if_pos rfl, if_pos e2, ckI_bad hm, if_neg (by decide)])) (by decide) (k9_leave2b l D tys cI ht adM _ _ _ _ _ _ _ _ _ _ _ _ _ _ _ _ _ _ _ _ _ _ _ _ p q hp hq m e hm) (by decide)
        · have hdy : T.2.1 = nI (S n).2.2.2 := hR.2.2.1
          refine call_ok hb hn 7 (nI p) (nI q) (nI m) 0 0 (mkS (((S n).1 0)) (((S n).1 1)) (((S n).1 2)) (((S n).1 3)) (((S n).1 4)) (((S n).1 5)) (va_up ((S n).1 6) p ((S n).2.2.2 + m)) (va_up ((S n).1 7) p q) (((S n).1 8)) (((S n).1 9)) (((S n).1 10)) (((S n).1 11)) (((S n).1 12)) (((S n).1 13)) (((S n).1 14)) ((S n).2.1) ((S n).2.2.1) ((S n).2.2.2)) (by decide) (by decide) (cxi_th (cX8_leave_met l D tys cI ht adA B0 _ _ _ _ _ _ _ _ _ _ _ _ _ _ _ _ _ _ _ _ _ _ _ _ _ _ _ _ _ _ _ _ _ _ _ _ _ _ _ _ (nI p) (nI q) (nI m) n hn) (by rw [ck8_ok hp, if_pos rfl, ck8_ok hq, if_pos rfl, if_pos e2, ckI_ok (l1 hm (by omega)) (l60 hm2), if_pos rfl])) (by decide) (k9_leaveK l D tys cI ht adM _ _ _ _ _ _ _ _ _ _ _ _ _ _ _ _ _ _ _ _ _ _ _ _ p q m hp hq e ⟨hm, hm2⟩) (by decide) ?_ (fun T' hT => ?_) ?_ hro hpi hsi
          · rw [rup_at hp (by omega), rat_at hp (by omega), va_up_self, hdy, nI_add]
          · exact ⟨hT.1, hT.2.1.leaveI hT.2.2.1 hp, hT.2.2⟩
          · exact ⟨hI.1, hI.2.1.leave hq hm2, hI.2.2⟩
set_option maxHeartbeats 4000000 in
theorem call_pass {l : Launch} {D : va_G} {tys : List (ClassId × FieldType)} {cI : ClassId} (ht : tys[0]? = some (cI, .int)) {adA adM : Nat → Nat} {n : Nat} {wA wM : va_W} {th0 : Int32} (h : InvW cI adA adM n wA wM th0) (hn : n < 512) (m : Int32) : CallI l D tys cI adA adM n wA wM yX8_pass wsX8_pass yX9_pass wsX9_pass [.int m] lwC_pass [0, 2] := by
  obtain ⟨B0, T, T2, O0, O1, on, oc, S, ro, pi, si, pl, rfl, rfl, hb⟩ := h
  obtain ⟨hS0, hH, hI, hR, hro, hpi, hsi⟩ := id hb
  rcases r60 m with hm | ⟨m, hm, hm2, rfl⟩
  · exact call_bad hb (th := 2) (by decide) (by decide) (cxi_th (cX8_pass_met l D tys cI ht adA B0 _ _ _ _ _ _ _ _ _ _ _ _ _ _ _ _ _ _ _ _ _ _ _ _ _ _ _ _ _ _ _ _ _ _ _ _ _ _ _ _ m n hn) (by rw [ckI_bad hm, if_neg (by decide)])) (by decide) (k9_pass1 l D tys cI ht adM _ _ _ _ _ _ _ _ _ _ _ _ _ _ _ _ _ _ _ _ _ _ _ _ m hm) (by decide)
  · have hdy : T.2.1 = nI (S n).2.2.2 := hR.2.2.1
    have hrr := hI.2.2.2.2.2.2.2
    refine call_ok hb hn 10 (nI m) 0 0 0 0 (mkS (((S n).1 0)) (((S n).1 1)) (((S n).1 2)) (((S n).1 3)) (((S n).1 4)) (((S n).1 5)) (((S n).1 6)) (((S n).1 7)) (((S n).1 8)) (((S n).1 9)) (((S n).1 10)) (((S n).1 11)) (((S n).1 12)) (((S n).1 13)) (paA ((S n).1 14) (S n).2.1 ((S n).2.2.2 + m) (8 * (S n).2.2.1)) ((S n).2.1) ((S n).2.2.1) (((S n).2.2.2 + m))) (by decide) (by decide) (cxi_th (cX8_pass_met l D tys cI ht adA B0 _ _ _ _ _ _ _ _ _ _ _ _ _ _ _ _ _ _ _ _ _ _ _ _ _ _ _ _ _ _ _ _ _ _ _ _ _ _ _ _ (nI m) n hn) (by rw [ckI_ok (l1 hm (by omega)) (l60 hm2), if_pos rfl])) (by decide) (k9_passK l D tys cI ht adM _ _ _ _ _ _ _ _ _ _ _ _ _ _ _ _ _ _ _ _ _ _ _ _ m ⟨hm, hm2⟩ hrr.2.2.1 hI.2.2.1) (by decide) ?_ (fun T' hT => ?_) ?_ hro hpi hsi
    · rw [hdy, nI_add]
    · exact ox_pass hT hI (by omega) hm2
    · exact oi_pass hI hm2
set_option maxHeartbeats 4000000 in
theorem call_chosen {l : Launch} {D : va_G} {tys : List (ClassId × FieldType)} {cI : ClassId} (ht : tys[0]? = some (cI, .int)) {adA adM : Nat → Nat} {n : Nat} {wA wM : va_W} {th0 : Int32} (h : InvW cI adA adM n wA wM th0) (hn : n < 512) (q p : Int32) : CallI l D tys cI adA adM n wA wM yX8_chosen wsX8_chosen yX9_chosen wsX9_chosen [.int q, .int p] lwC_chosen [0, 1] := by
  obtain ⟨B0, T, T2, O0, O1, on, oc, S, ro, pi, si, pl, rfl, rfl, hb⟩ := h
  obtain ⟨hS0, hH, hI, hR, hro, hpi, hsi⟩ := id hb
  have h30 := hI.2.2.1
  have hnm : T.2.2 = nI (S n).2.2.1 := hR.2.2.2.1
  rcases rngR q h30 with hq | ⟨q, hq, rfl⟩
  · exact call_bad hb (th := 1) (by decide) (by decide) (cxi_th (cX8_chosen_met l D tys cI ht adA B0 _ _ _ _ _ _ _ _ _ _ _ _ _ _ _ _ _ _ _ _ _ _ _ _ _ _ _ _ _ _ _ _ _ _ _ _ _ _ _ _ q p n hn) (by rw [hnm, ckS_bad hq, if_neg (by decide)])) (by decide) (k9_chosen1a l D tys cI ht adM _ _ _ _ _ _ _ _ _ _ _ _ _ _ _ _ _ _ _ _ _ _ _ _ q p hq h30) (by decide)
  · rcases rng8 p with ⟨hp, hp2⟩ | ⟨p, hp, rfl⟩
    · exact call_bad hb (th := 1) (by decide) (by decide) (cxi_th (cX8_chosen_met l D tys cI ht adA B0 _ _ _ _ _ _ _ _ _ _ _ _ _ _ _ _ _ _ _ _ _ _ _ _ _ _ _ _ _ _ _ _ _ _ _ _ _ _ _ _ (nI q) p n hn) (by rw [hnm, ckR_ok hq h30, if_pos rfl, ckS_bad hp2, if_neg (by decide)])) (by decide) (k9_chosen1b l D tys cI ht adM _ _ _ _ _ _ _ _ _ _ _ _ _ _ _ _ _ _ _ _ _ _ _ _ q hq h30 p hp) (by decide)
    · obtain ⟨y1, y2, y3, y4⟩ := hR.2.2.2.2.2 q hq
      have hch := hI.2.2.2.2.2.2.2.2.1 (8 * q + p)
      have y3' : chv (rat 30 (T.1 13) (nI q)) (nI p) = nI ((S n).1 13 (8 * q + p)) := by rw [rat_at (by omega) (by omega)]; exact y3 p hp
      refine call_same hb (by decide) (cxi_th (cX8_chosen_met l D tys cI ht adA B0 _ _ _ _ _ _ _ _ _ _ _ _ _ _ _ _ _ _ _ _ _ _ _ _ _ _ _ _ _ _ _ _ _ _ _ _ _ _ _ _ (nI q) (nI p) n hn) (by rw [hnm, ckR_ok hq h30, if_pos rfl, ck8_ok hp, if_pos rfl])) (by decide) (k9_chosenK l D tys cI ht adM _ _ _ _ _ _ _ _ _ _ _ _ _ _ _ _ _ _ _ _ _ _ _ _ q p hq h30 hp hI.2.2.2.2.2.2.2.2.1) (by decide) ?_ hro hpi hsi
      rw [y3']
      by_cases e : (S n).1 13 (8 * q + p) = 0
      · rw [if_pos e, if_pos (by rw [e]; rfl)]
      · rw [if_neg e, if_neg (nI_ne0 (by omega) (by omega))]
