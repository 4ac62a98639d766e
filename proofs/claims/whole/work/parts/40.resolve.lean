/-! Resolve: both searches, and what they put. -/
section Run
variable (vr vn ne ver ql : Nat → Nat) (q : Nat)
def itS (T : SS) : Nat → SS
  | 0 => T
  | i + 1 => sF vr vn ne ver ql q (itS T i)
theorem itS_s (T : SS) : ∀ i, itS vr vn ne ver ql q (sF vr vn ne ver ql q T) i = itS vr vn ne ver ql q T (i + 1)
  | 0 => rfl
  | i + 1 => by
    unfold itS
    rw [itS_s T i]
theorem run_it : ∀ (n : Nat) (T T2 : SS), RunN vr vn ne ver ql q n T T2 → T2 = itS vr vn ne ver ql q T n ∧ ∀ i, i < n → Cnd vr vn ne ql q (itS vr vn ne ver ql q T i)
  | 0, T, T2, h => ⟨h.symm, fun i hi => absurd hi (Nat.not_lt_zero _)⟩
  | n + 1, T, T2, h => by
    obtain ⟨h1, h2⟩ := h
    obtain ⟨i1, i2⟩ := run_it n _ _ h2
    refine ⟨by rw [i1, itS_s], fun i hi => ?_⟩
    cases i with
    | zero => exact h1
    | succ i =>
      rw [← itS_s]
      exact i2 i (by omega)
theorem dfs_top (lo : Nat) {r : Nat} (hvs : ∀ k, ver k ≤ 3) : dfs vr vn ne ver lo 9 [r] [] = dfv (fun v => dfs vr vn ne ver lo 8 (nx vn ne [r] [] v) ([] ++ [v])) (PB vr vn ne ver lo [r] []) (ver r) := by
  show (if [r].length ≤ ([] : List Nat).length then some ([r], []) else dfv (fun v => dfs vr vn ne ver lo 8 (nx vn ne [r] [] v) ([] ++ [v])) (PB vr vn ne ver lo [r] []) 3) = _
  rw [if_neg (by simp)]
  refine dfv_skip 3 (hvs r) (fun v q1 q2 => ?_)
  cases hb : PB vr vn ne ver lo [r] [] v with
  | false => rfl
  | true =>
    have h4 : v ≤ ver r := ((PB_iff vr vn ne ver lo).mp hb).2.2.2.1
    omega
end Run
theorem ipP_at (pl : Nat → Int32) : ∀ n k, k < n → ipP pl n k = -1
  | n + 1, k, h => by
    unfold ipP
    by_cases e : k = n
    · rw [e, va_up_self]
    · rw [va_up_ne _ _ e]
      exact ipP_at pl n k (by omega)
/-- the reference's search from its start: an end, and what lies in the rows there -/
theorem ref_search {vr vn ne vs ql qt : Nat → Nat} {q : Nat} (hne : ∀ k, ne k ≤ 7) (hvs : ∀ k, vs k ≤ 3) (hvn : ∀ k, vn k ≤ 4) (hql : 1 ≤ ql q) (hqt : qt q < 8) {ro pi si : Nat → Nat} (pl : Nat → Int32) (hro : ∀ k, ro k ≤ 7) (hpi : ∀ k, pi k ≤ 4) (hsi : ∀ k, si k ≤ 9) :
    ∃ N : Nat, (∀ i, i < N → Cnd vr vn ne ql q (itS vr vn ne vs ql q (1, 1, va_up ro 0 (qt q), va_up pi 0 (vs (qt q) + 1), va_up si 0 1, va_up (ipP pl 8) (qt q) 0) i)) ∧ Bnd (itS vr vn ne vs ql q (1, 1, va_up ro 0 (qt q), va_up pi 0 (vs (qt q) + 1), va_up si 0 1, va_up (ipP pl 8) (qt q) 0) N) ∧
      match dfs vr vn ne vs (ql q) 9 [qt q] [] with
      | none => (itS vr vn ne vs ql q (1, 1, va_up ro 0 (qt q), va_up pi 0 (vs (qt q) + 1), va_up si 0 1, va_up (ipP pl 8) (qt q) 0) N).1 = 0 ∧ (itS vr vn ne vs ql q (1, 1, va_up ro 0 (qt q), va_up pi 0 (vs (qt q) + 1), va_up si 0 1, va_up (ipP pl 8) (qt q) 0) N).2.1 = 1
      | some (ys, ws) => (itS vr vn ne vs ql q (1, 1, va_up ro 0 (qt q), va_up pi 0 (vs (qt q) + 1), va_up si 0 1, va_up (ipP pl 8) (qt q) 0) N).1 = ys.length + 1 ∧ (itS vr vn ne vs ql q (1, 1, va_up ro 0 (qt q), va_up pi 0 (vs (qt q) + 1), va_up si 0 1, va_up (ipP pl 8) (qt q) 0) N).2.1 = ys.length ∧ (∀ k, k < ys.length → (itS vr vn ne vs ql q (1, 1, va_up ro 0 (qt q), va_up pi 0 (vs (qt q) + 1), va_up si 0 1, va_up (ipP pl 8) (qt q) 0) N).2.2.1 k = gd ys k) ∧ ∀ k, k < ys.length → (itS vr vn ne vs ql q (1, 1, va_up ro 0 (qt q), va_up pi 0 (vs (qt q) + 1), va_up si 0 1, va_up (ipP pl 8) (qt q) 0) N).2.2.2.1 k = gd ws k := by
  obtain ⟨T, hT⟩ : ∃ T : SS, T = (1, 1, va_up ro 0 (qt q), va_up pi 0 (vs (qt q) + 1), va_up si 0 1, va_up (ipP pl 8) (qt q) 0) := ⟨_, rfl⟩
  have hw : Wf [qt q] := ⟨by simp, fun o ho => by rw [List.mem_singleton] at ho; omega⟩
  have hv := hvs (qt q)
  have hB : Bnd T := by
    rw [hT]
    refine ⟨fun k => ?_, fun k => ?_, fun k => ?_⟩
    · dsimp only
      rw [upk]
      have := hro k
      split <;> omega
    · dsimp only
      rw [upk]
      have := hpi k
      split <;> omega
    · dsimp only
      rw [upk]
      have := hsi k
      split <;> omega
  have hPL : PLo [qt q] (va_up (ipP pl 8) (qt q) 0) := by
    intro p hp
    by_cases e : p = qt q
    · refine Or.inl ⟨0, by simp, e.symm, ?_⟩
      rw [e, va_up_self]
      rfl
    · refine Or.inr ⟨fun z => e (List.mem_singleton.mp z), Or.inl ?_⟩
      rw [va_up_ne _ _ e]
      exact ipP_at pl 8 p hp
  have hRI : RI vs [qt q] [] T := by
    refine ⟨by rw [hT]; rfl, by rw [hT]; exact Nat.zero_lt_one, by rw [hT]; dsimp only; omega, fun k hk => ?_, fun k hk => absurd hk (Nat.not_lt_zero _), by rw [hT]; exact va_up_self si 0 1, by rw [hT]; exact hPL, hB, ?_, ?_⟩
    · have : k = 0 := by simp only [List.length_singleton] at hk; omega
      rw [this, hT]
      exact va_up_self ro 0 (qt q)
    · rw [hT]
      show 1 ≤ va_up pi 0 (vs (qt q) + 1) 0
      rw [va_up_self]
      omega
    · rw [hT]
      show va_up pi 0 (vs (qt q) + 1) 0 ≤ vs (qt q) + 1
      rw [va_up_self]
      exact Nat.le_refl _
  have hv0 : T.2.2.2.1 ([] : List Nat).length = vs (qt q) + 1 := by
    rw [hT]
    exact va_up_self pi 0 (vs (qt q) + 1)
  have key := rdfs vr vn ne vs ql q hne hvs hvn hql 8 [qt q] [] hw (by simp) (fun i hi => absurd hi (Nat.not_lt_zero _)) (by simp) _ T hv0 hRI
  rw [Nat.add_sub_cancel, ← dfs_top vr vn ne vs (ql q) hvs] at key
  rw [← hT]
  generalize dfs vr vn ne vs (ql q) 9 [qt q] [] = K at key ⊢
  cases K with
  | none =>
    obtain ⟨N, T2, h1, h2, h3, -, -, -, -, h4⟩ := key
    obtain ⟨e, hc⟩ := run_it vr vn ne vs ql q N T T2 h1
    subst e
    exact ⟨N, hc, h4, h2, h3⟩
  | some r =>
    obtain ⟨ys, ws⟩ := r
    obtain ⟨N, T2, h1, h2, h3, h5, h6, h4⟩ := key
    obtain ⟨e, hc⟩ := run_it vr vn ne vs ql q N T T2 h1
    subst e
    exact ⟨N, hc, h4, h2, h3, h5, h6⟩
set_option maxHeartbeats 8000000 in
theorem call_resolve {l : Launch} {D : va_G} {tys : List (ClassId × FieldType)} {cI : ClassId} (ht : tys[0]? = some (cI, .int)) {adA adM : Nat → Nat} {n : Nat} {wA wM : va_W} {th0 : Int32} (h : InvW cI adA adM n wA wM th0) (hn : n < 512) (q : Int32) : CallI l D tys cI adA adM n wA wM yX8_resolve wsX8_resolve yX9_resolve wsX9_resolve [.int q] lwC_resolve [0, 1, 3] := by
  obtain ⟨B0, T, T2, O0, O1, on, oc, S, ro, pi, si, pl, rfl, rfl, hb⟩ := h
  obtain ⟨hS0, hH, hI, hR, hro, hpi, hsi⟩ := id hb
  have h30 := hI.2.2.1
  have hnm : T.2.2 = nI (S n).2.2.1 := hR.2.2.2.1
  have hrr := hI.2.2.2.2.2.2.2
  have hqt := hI.2.2.2.2.1
  obtain ⟨p1, p2, p3, p4, p5, p6, p7⟩ := id hI.1
  rcases rngR q h30 with hq | ⟨q, hq, rfl⟩
  · by_cases hch : (fnF (T.1 0) (T.1 2) (T.1 3) (T.1 4) (T.1 5) O0 O1 (rat 30 (T.1 10) q) (rat 30 (T.1 11) q)).2.2.2 = 0
    · exact call_bad hb (th := 1) (by decide) (by decide) (cxi_th (cX8_resolveN_met l D tys cI ht adA B0 _ _ _ _ _ _ _ _ _ _ _ _ _ _ _ _ _ _ _ _ _ _ _ _ _ _ _ _ _ _ _ _ _ _ _ _ _ _ _ _ q n hn hch) (by rw [hnm, ckS_bad hq, if_neg (by decide)])) (by decide) (k9_resolve1 l D tys cI ht adM _ _ _ _ _ _ _ _ _ _ _ _ _ _ _ _ _ _ _ _ _ _ _ _ q hq h30) (by decide)
    · exact call_bad hb (th := 1) (by decide) (by decide) (cxi_th (cX8_resolveY_met l D tys cI ht adA B0 _ _ _ _ _ _ _ _ _ _ _ _ _ _ _ _ _ _ _ _ _ _ _ _ _ _ _ _ _ _ _ _ _ _ _ _ _ _ _ _ q n hn hch) (by rw [hnm, ckS_bad hq, if_neg (by decide)])) (by decide) (k9_resolve1 l D tys cI ht adM _ _ _ _ _ _ _ _ _ _ _ _ _ _ _ _ _ _ _ _ _ _ _ _ q hq h30) (by decide)
  · have hst := st_rep hR h30 hq
    have hqs := hrr.1 q
    have hql := hI.2.2.2.2.2.1 q hq
    have hqt8 := hqt q
    by_cases k2 : (S n).1 11 q = 2
    · by_cases hch : (fnF (T.1 0) (T.1 2) (T.1 3) (T.1 4) (T.1 5) O0 O1 (rat 30 (T.1 10) (nI q)) (rat 30 (T.1 11) (nI q))).2.2.2 = 0
      · exact call_bad hb (th := 3) (by decide) (by decide) (cxi_th (cX8_resolveN_met l D tys cI ht adA B0 _ _ _ _ _ _ _ _ _ _ _ _ _ _ _ _ _ _ _ _ _ _ _ _ _ _ _ _ _ _ _ _ _ _ _ _ _ _ _ _ (nI q) n hn hch) (by rw [hnm, ckR_ok hq h30, if_pos rfl, hst, k2, if_neg (fun z => z rfl)])) (by decide) (k9_resolve2 l D tys cI ht adM _ _ _ _ _ _ _ _ _ _ _ _ _ _ _ _ _ _ _ _ _ _ _ _ q hq h30 hrr.1 k2) (by decide)
      · exact call_bad hb (th := 3) (by decide) (by decide) (cxi_th (cX8_resolveY_met l D tys cI ht adA B0 _ _ _ _ _ _ _ _ _ _ _ _ _ _ _ _ _ _ _ _ _ _ _ _ _ _ _ _ _ _ _ _ _ _ _ _ _ _ _ _ (nI q) n hn hch) (by rw [hnm, ckR_ok hq h30, if_pos rfl, hst, k2, if_neg (fun z => z rfl)])) (by decide) (k9_resolve2 l D tys cI ht adM _ _ _ _ _ _ _ _ _ _ _ _ _ _ _ _ _ _ _ _ _ _ _ _ q hq h30 hrr.1 k2) (by decide)
    · have k2' : ¬ nI ((S n).1 11 q) = 2 := fun z => k2 ((nI_eq (b := 2) (by omega) (by omega)).mp z)
      have hfn := fnF_run hR.1 hI.1 O0 O1 (by omega : (S n).1 9 q < 8) hql
      have eqt : rat 30 (T.1 10) (nI q) = nI ((S n).1 9 q) := by rw [rat_at (by omega) (by omega)]; exact (hR.2.2.2.2.1 q hq).2.1
      have eql : rat 30 (T.1 11) (nI q) = nI ((S n).1 10 q) := by rw [rat_at (by omega) (by omega)]; exact (hR.2.2.2.2.1 q hq).2.2
      rw [← eqt, ← eql] at hfn
      obtain ⟨N, hc, hB, hend⟩ := ref_search (vr := (S n).1 1) (vn := (S n).1 2) (ne := (S n).1 3) (vs := (S n).1 4) (ql := (S n).1 10) (qt := (S n).1 9) (q := q) p4 p1 p3 hql.1 (by omega) pl hro hpi hsi
      obtain ⟨b1, b2, b3⟩ := hB
      cases hd : dfs ((S n).1 1) ((S n).1 2) ((S n).1 3) ((S n).1 4) ((S n).1 10 q) 9 [(S n).1 9 q] [] with
      | none =>
        rw [hd] at hfn hend
        obtain ⟨e1, e2⟩ := hend
        have hch : (fnF (T.1 0) (T.1 2) (T.1 3) (T.1 4) (T.1 5) O0 O1 (rat 30 (T.1 10) (nI q)) (rat 30 (T.1 11) (nI q))).2.2.2 = 0 := hfn
        exact call_same hb (by decide) (cxi_th (cX8_resolveN_met l D tys cI ht adA B0 _ _ _ _ _ _ _ _ _ _ _ _ _ _ _ _ _ _ _ _ _ _ _ _ _ _ _ _ _ _ _ _ _ _ _ _ _ _ _ _ (nI q) n hn hch) (by rw [hnm, ckR_ok hq h30, if_pos rfl, hst, if_pos k2'])) (by decide) (k9_resolveN l D tys cI ht adM _ _ _ _ _ _ _ _ _ _ _ _ _ _ _ _ _ _ _ _ _ _ _ _ q hq h30 hrr.1 hqt p3 p4 p1 p2 hql N (itS ((S n).1 1) ((S n).1 2) ((S n).1 3) ((S n).1 4) ((S n).1 10) q (1, 1, va_up ro 0 ((S n).1 9 q), va_up pi 0 ((S n).1 4 ((S n).1 9 q) + 1), va_up si 0 1, va_up (ipP pl 8) ((S n).1 9 q) 0)) (fun i _ => rfl) (fun i hi => hc i hi) rfl (Or.inl e1) (by rw [e1, e2]; exact ⟨by omega, by omega⟩) k2 e1) (by decide) rfl b1 b2 b3
      | some r =>
        obtain ⟨ys, ws⟩ := r
        rw [hd] at hfn hend
        obtain ⟨e1, e2, e3, e4⟩ := hend
        obtain ⟨f1, f2, f3, f4, f5, f6, f7⟩ := hfn
        have hl8 := f2.len
        obtain ⟨E, hE⟩ : ∃ E : SS, E = (itS ((S n).1 1) ((S n).1 2) ((S n).1 3) ((S n).1 4) ((S n).1 10) q (1, 1, va_up ro 0 ((S n).1 9 q), va_up pi 0 ((S n).1 4 ((S n).1 9 q) + 1), va_up si 0 1, va_up (ipP pl 8) ((S n).1 9 q) 0)) N := ⟨_, rfl⟩
        rw [← hE] at e1 e2 e3 e4 b1 b2 b3
        obtain ⟨c5, hc5⟩ : ∃ c5 : Int32, c5 = (fnF (T.1 0) (T.1 2) (T.1 3) (T.1 4) (T.1 5) O0 O1 (rat 30 (T.1 10) (nI q)) (rat 30 (T.1 11) (nI q))).2.2.2 := ⟨_, rfl⟩
        have hch : ¬ (fnF (T.1 0) (T.1 2) (T.1 3) (T.1 4) (T.1 5) O0 O1 (rat 30 (T.1 10) (nI q)) (rat 30 (T.1 11) (nI q))).2.2.2 = 0 := f1
        rw [← hc5] at f5 f6
        obtain ⟨g1, g2, g3⟩ := rs_run f2 e3 e4 (fun i hi => (f7 i hi).1) q (emC ((S n).1 13) q 8) (fun p hp => by rw [emC_at, if_pos (by omega)]) ((S n).1 0) E.2.1 (by omega)
        have hin : ∀ p, p < 8 → (∃ i, i < ys.length ∧ gd ys i = p) ∨ ∀ i, i < ys.length → gd ys i ≠ p := fun p _ => by
          by_cases z : ∃ i, i < ys.length ∧ gd ys i = p
          · exact Or.inl z
          · exact Or.inr (fun i hi e => z ⟨i, hi, e⟩)
        have hg0 : ∀ p, p < 8 → (∀ i, i < ys.length → gd ys i ≠ p) → rsC E.2.2.1 E.2.2.2.1 q (emC ((S n).1 13) q 8) E.2.1 (8 * q + p) = 0 := fun p hp z => by
          rw [g2 _ (fun i hi e => z i (by omega) (by omega)), emC_at, if_pos (by omega)]
        have hg : ∀ p, p < 8 → chv c5 (nI p) = nI (rsC E.2.2.1 E.2.2.2.1 q (emC ((S n).1 13) q 8) E.2.1 (8 * q + p)) := by
          intro p hp
          rcases hin p hp with ⟨i, i1, i2⟩ | z
          · rw [← i2, f5 i i1, g1 i (by omega)]
          · rw [f6 p hp z, hg0 p hp z]
            rfl
        have hgv : ∀ p, p < 8 → rsC E.2.2.1 E.2.2.2.1 q (emC ((S n).1 13) q 8) E.2.1 (8 * q + p) ≤ (S n).1 4 p := by
          intro p hp
          rcases hin p hp with ⟨i, i1, i2⟩ | z
          · rw [← i2, g1 i (by omega)]
            exact (f7 i i1).2.2
          · rw [hg0 p hp z]
            exact Nat.zero_le _
        have hch2 : ∀ k, (k < 8 * q ∨ 8 * q + 8 ≤ k) → rsC E.2.2.1 E.2.2.2.1 q (emC ((S n).1 13) q 8) E.2.1 k = (S n).1 13 k := by
          intro k hk
          rw [g2 k (fun i hi e => by have := f2.at (k := i) (by omega); omega), emC_at, if_neg (by omega)]
        have key := fun (T' : DS) (hT : RepD T' (S n)) => ox_resolve hT hI hq (g := fun p => rsC E.2.2.1 E.2.2.2.1 q (emC ((S n).1 13) q 8) E.2.1 (8 * q + p)) hg hgv (fun _ _ => rfl) hch2
        have keyI := oi_resolve hI hq (g := fun p => rsC E.2.2.1 E.2.2.2.1 q (emC ((S n).1 13) q 8) E.2.1 (8 * q + p)) hgv (fun _ _ => rfl) hch2
        rw [← g3] at key keyI
        have hM := k9_resolveK l D tys cI ht adM ((S n).1 0) ((S n).1 1) ((S n).1 2) ((S n).1 3) ((S n).1 4) ((S n).1 5) ((S n).1 6) ((S n).1 7) ((S n).1 8) ((S n).1 9) ((S n).1 10) ((S n).1 11) ((S n).1 12) ((S n).1 13) ((S n).1 14) (S n).2.1 ro pi si pl (S n).2.2.1 (S n).2.2.2 n th0 q hq h30 hrr.1 hqt p3 p4 p1 p2 hql N (itS ((S n).1 1) ((S n).1 2) ((S n).1 3) ((S n).1 4) ((S n).1 10) q (1, 1, va_up ro 0 ((S n).1 9 q), va_up pi 0 ((S n).1 4 ((S n).1 9 q) + 1), va_up si 0 1, va_up (ipP pl 8) ((S n).1 9 q) 0)) (fun i _ => rfl) (fun i hi => hc i hi) rfl (Or.inr (by rw [← hE]; omega)) (by rw [← hE]; exact ⟨by omega, by omega⟩) k2 (by rw [← hE]; omega) hrr.2.2.1 (by rw [← hE]; exact ⟨by omega, by omega⟩) (by rw [← hE]; exact fun k hk => by have := b1 k; omega) (by rw [← hE]; exact fun k hk => by rw [e4 k (by omega)]; exact ⟨(f7 k (by omega)).1, (f7 k (by omega)).2.1⟩)
        rw [← hE] at hM
        have hX := cX8_resolveY_met l D tys cI ht adA B0 (T.1 0) (T.1 1) (T.1 2) (T.1 3) (T.1 4) (T.1 5) (T.1 6) (T.1 7) (T.1 8) T.2.1 (T.1 9) (T.1 10) (T.1 11) (T.1 12) (T.1 13) (T.1 14) (T.1 15) T.2.2 (T2.1 0) (T2.1 1) (T2.1 2) (T2.1 3) (T2.1 4) (T2.1 5) (T2.1 6) (T2.1 7) (T2.1 8) T2.2.1 (T2.1 9) (T2.1 10) (T2.1 11) (T2.1 12) (T2.1 13) (T2.1 14) (T2.1 15) T2.2.2 O0 O1 on oc (nI q) n hn hch
        rw [← hc5] at hX
        refine call_ok hb hn 5 (nI q) c5 0 0 0 (mkS (((S n).1 0)) (((S n).1 1)) (((S n).1 2)) (((S n).1 3)) (((S n).1 4)) (((S n).1 5)) (((S n).1 6)) (((S n).1 7)) (((S n).1 8)) (((S n).1 9)) (((S n).1 10)) (va_up ((S n).1 11) q 1) (va_up ((S n).1 12) q (rsS ((S n).1 0) E.2.2.1 E.2.2.2.1 E.2.1)) (rsC E.2.2.1 E.2.2.2.1 q (emC ((S n).1 13) q 8) E.2.1) (enA ((S n).1 14) q 8) ((S n).2.1) ((S n).2.2.1) ((S n).2.2.2)) (by decide) (by decide) (cxi_th hX (by rw [hnm, ckR_ok hq h30, if_pos rfl, hst, if_pos k2'])) (by decide) hM (by decide) (key T hR).2 (fun T' hT => (key T' hT).1) keyI b1 b2 b3
