/-! The reference's loop finds what the recursion finds. -/
def Bnd (T : SS) : Prop := (∀ k, T.2.2.1 k ≤ 7) ∧ (∀ k, T.2.2.2.1 k ≤ 4) ∧ ∀ k, T.2.2.2.2.1 k ≤ 9
def PLx (xs : List Nat) (pl : Nat → Int32) : Prop := ∀ p, p < 8 → (∃ i, i < xs.length ∧ gd xs i = p ∧ pl p = nI i) ∨ (¬ p ∈ xs ∧ pl p = -1)
def PLo (xs : List Nat) (pl : Nat → Int32) : Prop := ∀ p, p < 8 → (∃ i, i < xs.length ∧ gd xs i = p ∧ pl p = nI i) ∨ (¬ p ∈ xs ∧ (pl p = -1 ∨ ∃ j, xs.length ≤ j ∧ j ≤ 8 ∧ pl p = nI j))
theorem fgP_at (pl : Nat → Int32) (m p : Nat) : ∀ n, fgP pl m n p = if p < n then (if nI m ≤ pl p then -1 else pl p) else pl p
  | 0 => by rw [if_neg (Nat.not_lt_zero _)]; rfl
  | n + 1 => by
    have hn : fgP pl m n n = pl n := by rw [fgP_at pl m n n, if_neg (Nat.lt_irrefl _)]
    unfold fgP va_up
    rw [hn, fgP_at pl m p n]
    by_cases e : p = n
    · subst e
      rw [if_pos rfl, if_pos (Nat.lt_succ_self _)]
    · rw [if_neg e]
      by_cases h : p < n
      · rw [if_pos h, if_pos (show p < n + 1 by omega)]
      · rw [if_neg h, if_neg (show ¬ p < n + 1 by omega)]
theorem fg_x {xs : List Nat} {pl : Nat → Int32} (h : PLo xs pl) (hl : xs.length ≤ 8) : PLx xs (fgP pl xs.length 8) := by
  intro p hp
  rw [fgP_at, if_pos hp]
  rcases h p hp with ⟨i, h1, h2, h3⟩ | ⟨h1, h2 | ⟨j, h2, h3, h4⟩⟩
  · refine Or.inl ⟨i, h1, h2, ?_⟩
    rw [h3, if_neg (nI_ge h1 (by omega))]
  · refine Or.inr ⟨h1, ?_⟩
    rw [h2, if_neg (fun q => absurd (Int32.le_trans (nI_pos' (by omega)) q) (by decide))]
  · refine Or.inr ⟨h1, ?_⟩
    rw [h4, if_pos (nI_le h2 (by omega))]
theorem PLx.o {xs : List Nat} {pl : Nat → Int32} (h : PLx xs pl) : PLo xs pl := fun p hp => (h p hp).imp id (fun q => ⟨q.1, Or.inl q.2⟩)
theorem PLx.back {xs ys : List Nat} {pl : Nat → Int32} (h : PLx ys pl) (hw : Wf ys) (hp : ∃ t, ys = xs ++ t) : PLo xs pl := by
  obtain ⟨t, rfl⟩ := hp
  have hl := hw.len
  rw [List.length_append] at hl
  intro p hp
  rcases h p hp with ⟨i, h1, h2, h3⟩ | ⟨h1, h2⟩
  · by_cases e : i < xs.length
    · exact Or.inl ⟨i, e, by rw [← gd_app (ys := t) e]; exact h2, h3⟩
    · rw [List.length_append] at h1
      refine Or.inr ⟨fun hm => ?_, Or.inr ⟨i, by omega, by omega, h3⟩⟩
      obtain ⟨j, hj, ej⟩ := gd_of_mem hm
      have := gd_inj hw.1 (i := i) (j := j) (by rw [List.length_append]; omega) (by rw [List.length_append]; omega) (by rw [h2, gd_app hj, ej])
      omega
  · exact Or.inr ⟨fun hm => h1 (List.mem_append_left _ hm), Or.inl h2⟩
theorem cm_run {ne : Nat → Nat} (hne : ∀ k, ne k ≤ 7) (x : Nat) {xs : List Nat} {pl : Nat → Int32} {ro : Nat → Nat} (hw : Wf xs) (hp : PLx xs pl) (hr : ∀ k, k < xs.length → ro k = gd xs k) (hb : ∀ k, ro k ≤ 7) : ∀ j, PLx (exl ne x xs j) (cmT ne x (pl, ro, xs.length) j).1 ∧ (∀ k, k < (exl ne x xs j).length → (cmT ne x (pl, ro, xs.length) j).2.1 k = gd (exl ne x xs j) k) ∧ (cmT ne x (pl, ro, xs.length) j).2.2 = (exl ne x xs j).length ∧ ∀ k, (cmT ne x (pl, ro, xs.length) j).2.1 k ≤ 7
  | 0 => ⟨hp, hr, rfl, hb⟩
  | j + 1 => by
    obtain ⟨i1, i2, i3, i4⟩ := cm_run hne x hw hp hr hb j
    have hw' := exl_wf hne x hw j
    unfold cmT cmS exl adN
    generalize exl ne x xs j = ys at *
    generalize cmT ne x (pl, ro, xs.length) j = T at *
    obtain ⟨pl', ro', m'⟩ := T
    dsimp only at *
    have ho : ne (12 * x + 3 * j) < 8 := by have := hne (12 * x + 3 * j); omega
    generalize ne (12 * x + 3 * j) = o at *
    have hl := hw'.len
    rcases i1 o ho with ⟨i, h1, h2, h3⟩ | ⟨h1, h2⟩
    · rw [if_pos (show o ∈ ys by rw [← h2]; exact gd_mem h1), if_neg (show ¬ pl' o < 0 by rw [h3]; exact nI_pos (by omega))]
      exact ⟨i1, i2, i3, i4⟩
    · rw [if_neg h1, if_pos (show pl' o < 0 by rw [h2]; decide)]
      dsimp only
      subst i3
      refine ⟨fun p hp => ?_, fun k hk => ?_, by rw [List.length_append]; rfl, fun k => ?_⟩
      · by_cases e : p = o
        · subst e
          exact Or.inl ⟨ys.length, by rw [List.length_append]; simp only [List.length_singleton]; omega, gd_last ys p, by rw [va_up_self]⟩
        · rw [va_up_ne _ _ e]
          rcases i1 p hp with ⟨i, q1, q2, q3⟩ | ⟨q1, q2⟩
          · exact Or.inl ⟨i, by rw [List.length_append]; omega, by rw [gd_app q1]; exact q2, q3⟩
          · refine Or.inr ⟨fun hm => ?_, q2⟩
            rcases List.mem_append.mp hm with z | z
            · exact q1 z
            · exact e (List.mem_singleton.mp z)
      · rw [List.length_append] at hk
        simp only [List.length_singleton] at hk
        by_cases e : k = ys.length
        · subst e
          rw [va_up_self, gd_last]
        · rw [va_up_ne _ _ e, gd_app (by omega)]
          exact i2 k (by omega)
      · unfold va_up
        split
        · omega
        · exact i4 k
theorem fdV_spec (go : Nat → Bool) (lo : Nat) (h1 : 1 ≤ lo) : ∀ n, (fdV go lo n < lo ∧ ∀ v, lo ≤ v → v ≤ n → go v = false) ∨ (lo ≤ fdV go lo n ∧ fdV go lo n ≤ n ∧ go (fdV go lo n) = true ∧ ∀ v, fdV go lo n < v → v ≤ n → go v = false)
  | 0 => Or.inl ⟨h1, fun v q1 q2 => by omega⟩
  | n + 1 => by
    unfold fdV
    by_cases e : n + 1 < lo
    · rw [if_pos e]
      exact Or.inl ⟨e, fun v q1 q2 => by omega⟩
    · rw [if_neg e]
      by_cases g : go (n + 1) = true
      · rw [if_pos g]
        exact Or.inr ⟨by omega, Nat.le_refl _, g, fun v q1 q2 => by omega⟩
      · rw [if_neg g]
        have gf : go (n + 1) = false := by simpa using g
        rcases fdV_spec go lo h1 n with ⟨a1, a2⟩ | ⟨a1, a2, a3, a4⟩
        · refine Or.inl ⟨a1, fun v q1 q2 => ?_⟩
          by_cases z : v = n + 1
          · rw [z]; exact gf
          · exact a2 v q1 (by omega)
        · refine Or.inr ⟨a1, by omega, a3, fun v q1 q2 => ?_⟩
          by_cases z : v = n + 1
          · rw [z]; exact gf
          · exact a4 v q1 (by omega)
section RefRun
variable (vr vn ne ver ql : Nat → Nat) (q : Nat)
theorem go_iff (hne : ∀ k, ne k ≤ 7) {xs us : List Nat} {ro pi : Nat → Nat} {pl : Nat → Int32} (hw : Wf xs) (hp : PLx xs pl) (hl : us.length < xs.length) (hr : ∀ k, k < xs.length → ro k = gd xs k) (hpi : ∀ k, k < us.length → pi k = gd us k) (v : Nat) :
    goF vr vn ne ro pi pl us.length v = true ↔ vr (3 * gd xs us.length + v - 1) = 0 ∧ (∀ k, k < us.length → AL vn ne (gp xs us k) (gd xs us.length) v) ∧ ∀ k, k < us.length → AL vn ne (3 * gd xs us.length + v - 1) (gd xs k) (gd us k) := by
  have hl8 := hw.len
  have e0 : ro us.length = gd xs us.length := hr _ hl
  have ek : ∀ k, k < us.length → gx ro pi k = gp xs us k := fun k hk => by unfold gx gp; rw [hr k (by omega), hpi k hk]
  unfold goF
  rw [Bool.and_eq_true, Bool.and_eq_true, decide_eq_true_eq, allN_iff, allN_iff, e0, and_assoc]
  refine and_congr Iff.rfl (and_congr ⟨fun h k hk => ?_, fun h k hk => ?_⟩ ⟨fun h k hk j hj => ?_, fun h j hj => ?_⟩)
  · have := h k hk
    unfold gk at this
    rw [allN_iff, ek k hk] at this
    exact this
  · unfold gk
    rw [allN_iff, ek k hk]
    exact h k hk
  · have := h j hj
    rw [gb_iff]
    unfold gc at this
    simp only [Bool.or_eq_true, Bool.and_eq_true, decide_eq_true_eq] at this
    by_cases e : ne (12 * (3 * gd xs us.length + v - 1) + 3 * j) = gd xs k
    · rcases hp _ (by have := hne (12 * (3 * gd xs us.length + v - 1) + 3 * j); omega : ne (12 * (3 * gd xs us.length + v - 1) + 3 * j) < 8) with ⟨i, h1, h2, h3⟩ | ⟨h1, h2⟩
      · have ei : i = k := gd_inj hw.1 h1 (by omega) (h2.trans e)
        subst ei
        rw [h3] at this
        rcases this with z | z | z
        · exact absurd z (nI_pos (by omega))
        · exact absurd ((nI_leI (by omega) (by omega)).mp z) (by omega)
        · rw [nI_clamp (by omega), hpi i hk] at z
          exact Or.inr z
      · exact absurd (e ▸ gd_mem (by omega)) h1
    · exact Or.inl e
  · unfold gc
    simp only [Bool.or_eq_true, Bool.and_eq_true, decide_eq_true_eq]
    rcases hp _ (by have := hne (12 * (3 * gd xs us.length + v - 1) + 3 * j); omega : ne (12 * (3 * gd xs us.length + v - 1) + 3 * j) < 8) with ⟨i, h1, h2, h3⟩ | ⟨h1, h2⟩
    · rw [h3]
      by_cases z : i < us.length
      · have := gb_iff.mp (h i z j hj)
        rcases this with y | y
        · exact absurd h2.symm y
        · rw [nI_clamp (by omega), hpi i z]
          exact Or.inr (Or.inr y)
      · exact Or.inr (Or.inl (nI_le (by omega) (by omega)))
    · rw [h2]
      exact Or.inl (by decide)
def Cnd (T : SS) : Prop := 1 ≤ T.1 ∧ T.1 ≤ T.2.1 ∧ sR vr vn ne ql q T
def RunN : Nat → SS → SS → Prop
  | 0, T, T' => T = T'
  | n + 1, T, T' => Cnd vr vn ne ql q T ∧ RunN n (sF vr vn ne ver ql q T) T'
theorem RunN.trans : ∀ {n m : Nat} {T T1 T2 : SS}, RunN vr vn ne ver ql q n T T1 → RunN vr vn ne ver ql q m T1 T2 → RunN vr vn ne ver ql q (n + m) T T2
  | 0, m, T, T1, T2, h1, h2 => by
    have e : T = T1 := h1
    rw [e, Nat.zero_add]
    exact h2
  | n + 1, m, T, T1, T2, h1, h2 => by
    rw [show n + 1 + m = (n + m) + 1 by omega]
    exact ⟨h1.1, RunN.trans h1.2 h2⟩
def RI (xs us : List Nat) (T : SS) : Prop := T.1 = us.length + 1 ∧ us.length < T.2.1 ∧ T.2.1 ≤ 8 ∧ (∀ k, k < xs.length → T.2.2.1 k = gd xs k) ∧ (∀ k, k < us.length → T.2.2.2.1 k = gd us k) ∧ T.2.2.2.2.1 us.length = xs.length ∧ PLo xs T.2.2.2.2.2 ∧ Bnd T ∧ 1 ≤ T.2.2.2.1 us.length ∧ T.2.2.2.1 us.length ≤ ver (gd xs us.length) + 1
def FinR (xs us : List Nat) (T : SS) : Option (List Nat × List Nat) → Prop
  | some (ys, ws) => ∃ n T', RunN vr vn ne ver ql q n T T' ∧ T'.1 = ys.length + 1 ∧ T'.2.1 = ys.length ∧ (∀ k, k < ys.length → T'.2.2.1 k = gd ys k) ∧ (∀ k, k < ys.length → T'.2.2.2.1 k = gd ws k) ∧ Bnd T'
  | none => ∃ n T', RunN vr vn ne ver ql q n T T' ∧ T'.1 = us.length ∧ T'.2.1 = xs.length ∧ (∀ k, k < xs.length → T'.2.2.1 k = T.2.2.1 k) ∧ (∀ k, k < us.length → T'.2.2.2.1 k = T.2.2.2.1 k) ∧ (∀ k, k ≤ us.length → T'.2.2.2.2.1 k = T.2.2.2.2.1 k) ∧ PLx xs T'.2.2.2.2.2 ∧ Bnd T'
set_option maxHeartbeats 2000000 in
theorem rdfs (hne : ∀ k, ne k ≤ 7) (hver : ∀ k, ver k ≤ 3) (hvn : ∀ k, vn k ≤ 4) (hql : 1 ≤ ql q) : ∀ (k : Nat) (xs us : List Nat), Wf xs → us.length < xs.length → (∀ i, i < us.length → 1 ≤ gd us i ∧ gd us i ≤ 3) → 8 ≤ k + us.length → ∀ (v0 : Nat) (T : SS), T.2.2.2.1 us.length = v0 → RI ver xs us T →
    FinR vr vn ne ver ql q xs us T (dfv (fun v => dfs vr vn ne ver (ql q) k (nx vn ne xs us v) (us ++ [v])) (PB vr vn ne ver (ql q) xs us) (v0 - 1)) := by
  intro k
  induction k with
  | zero =>
    intro xs us hw hl hu hk
    have := hw.len
    omega
  | succ k ih =>
    intro xs us hw hl hu hk v0
    induction v0 using Nat.strongRecOn with
    | ind v0 ihv =>
      intro T hT hR
      have hl8 := hw.len
      obtain ⟨t, m, ro, pi, si, pl⟩ := T
      obtain ⟨r1, r2, r3, r4, r5, r6, r7, ⟨b1, b2, b3⟩, r9, r10⟩ := hR
      dsimp only at *
      subst r1
      have hx := fg_x r7 hl8
      have hcm := fun x j => cm_run hne x hw hx r4 b1 j
      have hgo := fun v => go_iff vr vn ne hne (us := us) hw hx hl r4 r5 v
      have ea : us.length + 1 - 1 = us.length := Nat.add_sub_cancel _ _
      have elo : sLo ql q us.length = if us.length = 0 then ql q else 1 := rfl
      have hlo1 : 1 ≤ sLo ql q us.length := by rw [elo]; split <;> omega
      -- the first version that goes
      obtain ⟨w, hw0⟩ : ∃ w, w = fdV (goF vr vn ne ro pi (fgP pl xs.length 8) us.length) (sLo ql q us.length) (v0 - 1) := ⟨_, rfl⟩
      have hsp := fdV_spec (goF vr vn ne ro pi (fgP pl xs.length 8) us.length) (sLo ql q us.length) hlo1 (v0 - 1)
      have hsV : sV vr vn ne ql q (us.length + 1, m, ro, pi, si, pl) us.length = w := by
        unfold sV
        dsimp only
        rw [r6, hT]
        exact hw0.symm
      rw [← hw0] at hsp
      have hgx : gx ro (va_up pi us.length w) us.length = 3 * gd xs us.length + w - 1 := by
        unfold gx
        rw [va_up_self, r4 _ hl]
      have hC : Cnd vr vn ne ql q (us.length + 1, m, ro, pi, si, pl) := by
        refine ⟨by dsimp only; omega, by dsimp only; omega, by dsimp only; omega, by dsimp only; omega, b1, b2, fun i hi => ?_, ?_, b3, fun j hj => ?_⟩
        · dsimp only at hi ⊢
          rw [r5 i (by omega)]
          exact hu i (by omega)
        · dsimp only
          rw [ea]
          exact r9
        · dsimp only
          rw [ea, hsV, r6, (hcm _ j).2.2.1]
          exact (exl_wf hne _ hw j).len
      have hPB : ∀ v, v ≤ v0 - 1 → (PB vr vn ne ver (ql q) xs us v = true ↔ goF vr vn ne ro pi (fgP pl xs.length 8) us.length v = true ∧ sLo ql q us.length ≤ v) := by
        intro v hv
        rw [PB_iff, hgo v, elo]
        constructor
        · rintro ⟨q1, q2, q3, q4, q5⟩
          exact ⟨⟨q1, q2, q3⟩, q5⟩
        · rintro ⟨⟨q1, q2, q3⟩, q5⟩
          exact ⟨q1, q2, q3, by omega, q5⟩
      rcases hsp with ⟨f1, f2⟩ | ⟨f1, f2, f3, f4⟩
      · -- none goes
        have e1 : dfv (fun v => dfs vr vn ne ver (ql q) (k + 1) (nx vn ne xs us v) (us ++ [v])) (PB vr vn ne ver (ql q) xs us) (v0 - 1) = none := by
          refine dfv_skip (w := 0) (v0 - 1) (Nat.zero_le _) (fun v q1 q2 => ?_)
          cases hb : PB vr vn ne ver (ql q) xs us v with
          | false => rfl
          | true =>
            obtain ⟨z1, z2⟩ := (hPB v q2).mp hb
            rw [f2 v z2 q2] at z1
            cases z1
        rw [e1]
        have e2 : sF vr vn ne ver ql q (us.length + 1, m, ro, pi, si, pl) = (us.length, si us.length, ro, pi, si, fgP pl (si us.length) 8) := by
          unfold sF
          dsimp only
          rw [ea, hsV, if_pos f1]
        exact ⟨1, _, ⟨hC, rfl⟩, by rw [e2], by rw [e2]; exact r6, by rw [e2]; exact fun _ _ => rfl, by rw [e2]; exact fun _ _ => rfl, by rw [e2]; exact fun _ _ => rfl, by rw [e2]; dsimp only; rw [r6]; exact hx, by rw [e2]; exact ⟨b1, b2, b3⟩⟩
      · -- w goes
        have w1 : 1 ≤ w := by omega
        have hPw : PB vr vn ne ver (ql q) xs us w = true := (hPB w f2).mpr ⟨f3, f1⟩
        have w3 : w ≤ 3 := by have := hver (gd xs us.length); omega
        have e1 : dfv (fun v => dfs vr vn ne ver (ql q) (k + 1) (nx vn ne xs us v) (us ++ [v])) (PB vr vn ne ver (ql q) xs us) (v0 - 1) = orE (dfs vr vn ne ver (ql q) (k + 1) (nx vn ne xs us w) (us ++ [w])) (dfv (fun v => dfs vr vn ne ver (ql q) (k + 1) (nx vn ne xs us v) (us ++ [v])) (PB vr vn ne ver (ql q) xs us) (w - 1)) := by
          rw [dfv_skip (w := w) (v0 - 1) f2 (fun v q1 q2 => by
            cases hb : PB vr vn ne ver (ql q) xs us v with
            | false => rfl
            | true =>
              obtain ⟨z1, z2⟩ := (hPB v q2).mp hb
              rw [f4 v q1 q2] at z1
              cases z1)]
          obtain ⟨w', rfl⟩ : ∃ w', w = w' + 1 := ⟨w - 1, by omega⟩
          rw [dfv, if_pos hPw, Nat.add_sub_cancel]
        rw [e1]
        obtain ⟨x, hxd⟩ : ∃ x, x = 3 * gd xs us.length + w - 1 := ⟨_, rfl⟩
        obtain ⟨ys, hys⟩ : ∃ ys, ys = nx vn ne xs us w := ⟨_, rfl⟩
        have hys2 : exl ne x xs (vn x) = ys := by rw [hys, hxd]; rfl
        obtain ⟨c1, c2, c3, c4⟩ := hcm x (vn x)
        rw [hys2] at c1 c2 c3
        have hwy : Wf ys := by rw [← hys2]; exact exl_wf hne _ hw _
        obtain ⟨ty, hty⟩ : ∃ t, ys = xs ++ t := by rw [← hys2]; exact exl_pre ne x xs (vn x)
        have hly : xs.length ≤ ys.length := by rw [hty, List.length_append]; omega
        have hly8 := hwy.len
        have hsC : sC vr vn ne ql q (us.length + 1, m, ro, pi, si, pl) us.length = cmT ne x (fgP pl xs.length 8, ro, xs.length) (vn x) := by
          unfold sC
          rw [hsV]
          dsimp only
          rw [hgx, ← hxd, r6]
        generalize cmT ne x (fgP pl xs.length 8, ro, xs.length) (vn x) = C at *
        obtain ⟨pl1, ro1, m1⟩ := C
        dsimp only at c1 c2 c3 c4
        have e2 : sF vr vn ne ver ql q (us.length + 1, m, ro, pi, si, pl) = (us.length + 1 + 1, m1, ro1, sP vr vn ne ver ql q (us.length + 1, m, ro, pi, si, pl) us.length, va_up si (us.length + 1) m1, pl1) := by
          unfold sF
          dsimp only
          rw [ea, hsV, if_neg (by omega), hsC]
        obtain ⟨pi1, hpi1⟩ : ∃ z, z = sP vr vn ne ver ql q (us.length + 1, m, ro, pi, si, pl) us.length := ⟨_, rfl⟩
        rw [← hpi1] at e2
        have hpiV : pi1 = if us.length + 1 < m1 then va_up (va_up pi us.length w) (us.length + 1) (ver (ro1 (us.length + 1)) + 1) else va_up pi us.length w := by
          rw [hpi1]
          unfold sP
          rw [hsV, hsC]
        have p1 : ∀ i, i < us.length → pi1 i = pi i := by
          intro i hi
          rw [hpiV]
          split
          · rw [va_up_ne _ _ (by omega), va_up_ne _ _ (by omega)]
          · rw [va_up_ne _ _ (by omega)]
        have p2 : pi1 us.length = w := by
          rw [hpiV]
          split
          · rw [va_up_ne _ _ (by omega), va_up_self]
          · rw [va_up_self]
        have p3 : ∀ i, pi1 i ≤ 4 := by
          intro i
          rw [hpiV]
          split
          · unfold va_up
            split
            · have := hver (ro1 (us.length + 1)); omega
            · split
              · omega
              · exact b2 i
          · unfold va_up
            split
            · omega
            · exact b2 i
        have hlu : (us ++ [w]).length = us.length + 1 := by rw [List.length_append]; rfl
        have p4 : ∀ i, i < (us ++ [w]).length → pi1 i = gd (us ++ [w]) i := by
          intro i hi
          rw [hlu] at hi
          by_cases e : i = us.length
          · subst e
            rw [p2, gd_last]
          · rw [p1 i (by omega), r5 i (by omega), gd_app (by omega)]
        have s3 : ∀ i, va_up si (us.length + 1) m1 i ≤ 9 := by
          intro i
          unfold va_up
          split
          · omega
          · exact b3 i
        subst c3
        have hd : dfs vr vn ne ver (ql q) (k + 1) ys (us ++ [w]) = if ys.length ≤ (us ++ [w]).length then some (ys, us ++ [w]) else dfv (fun v => dfs vr vn ne ver (ql q) k (nx vn ne ys (us ++ [w]) v) (us ++ [w] ++ [v])) (PB vr vn ne ver (ql q) ys (us ++ [w])) 3 := rfl
        rw [← hys, hd]
        by_cases hle : ys.length ≤ (us ++ [w]).length
        · rw [if_pos hle]
          rw [hlu] at hle
          have el : ys.length = us.length + 1 := by omega
          show FinR vr vn ne ver ql q xs us _ (some (ys, us ++ [w]))
          refine ⟨1, _, ⟨hC, rfl⟩, by rw [e2]; dsimp only; omega, by rw [e2], by rw [e2]; exact c2, by rw [e2]; exact fun i hi => p4 i (by rw [hlu]; omega), by rw [e2]; exact ⟨c4, p3, s3⟩⟩
        · rw [if_neg hle]
          rw [hlu] at hle
          have hRI : RI ver ys (us ++ [w]) (sF vr vn ne ver ql q (us.length + 1, m, ro, pi, si, pl)) := by
            rw [e2]
            refine ⟨by rw [hlu], by rw [hlu]; dsimp only; omega, hly8, c2, p4, by rw [hlu]; dsimp only; rw [va_up_self], c1.o, ⟨c4, p3, s3⟩, ?_, ?_⟩
            · dsimp only
              rw [hlu, hpiV, if_pos (by omega), va_up_self]
              omega
            · dsimp only
              rw [hlu, hpiV, if_pos (by omega), va_up_self, c2 _ (by omega)]
              exact Nat.le_refl _
          have hu2 : ∀ i, i < (us ++ [w]).length → 1 ≤ gd (us ++ [w]) i ∧ gd (us ++ [w]) i ≤ 3 := by
            intro i hi
            rw [hlu] at hi
            by_cases e : i = us.length
            · subst e
              rw [gd_last]
              exact ⟨w1, w3⟩
            · rw [gd_app (by omega)]
              exact hu i (by omega)
          have hv0 : (sF vr vn ne ver ql q (us.length + 1, m, ro, pi, si, pl)).2.2.2.1 (us ++ [w]).length = ver (gd ys (us.length + 1)) + 1 := by
            rw [e2]
            dsimp only
            rw [hlu, hpiV, if_pos (by omega), va_up_self, c2 _ (by omega)]
          have key := ih ys (us ++ [w]) hwy (by rw [hlu]; omega) hu2 (by rw [hlu]; omega) _ _ hv0 hRI
          rw [Nat.add_sub_cancel] at key
          have e3 : dfv (fun v => dfs vr vn ne ver (ql q) k (nx vn ne ys (us ++ [w]) v) (us ++ [w] ++ [v])) (PB vr vn ne ver (ql q) ys (us ++ [w])) 3 = dfv (fun v => dfs vr vn ne ver (ql q) k (nx vn ne ys (us ++ [w]) v) (us ++ [w] ++ [v])) (PB vr vn ne ver (ql q) ys (us ++ [w])) (ver (gd ys (us.length + 1))) := by
            refine dfv_skip 3 (hver _) (fun v q1 q2 => ?_)
            cases hb : PB vr vn ne ver (ql q) ys (us ++ [w]) v with
            | false => rfl
            | true =>
              have := ((PB_iff vr vn ne ver (ql q)).mp hb).2.2.2.1
              rw [hlu] at this
              omega
          rw [e3]
          generalize dfv (fun v => dfs vr vn ne ver (ql q) k (nx vn ne ys (us ++ [w]) v) (us ++ [w] ++ [v])) (PB vr vn ne ver (ql q) ys (us ++ [w])) (ver (gd ys (us.length + 1))) = D at key ⊢
          cases D with
          | some r =>
            obtain ⟨zs, ws⟩ := r
            obtain ⟨n, T', k1, k2⟩ := key
            exact ⟨n + 1, T', ⟨hC, k1⟩, k2⟩
          | none =>
            obtain ⟨n, T', k1, k2, k3, k4, k5, k6, k7, k8⟩ := key
            show FinR vr vn ne ver ql q xs us _ (dfv _ _ (w - 1))
            rw [e2] at k4 k5 k6
            dsimp only at k4 k5 k6
            rw [hlu] at k2 k5 k6
            have hroxs : ∀ i, i < xs.length → T'.2.2.1 i = gd xs i := fun i hi => by rw [k4 i (by omega), c2 i (by omega), hty, gd_app hi]
            have hsi : ∀ i, i ≤ us.length → T'.2.2.2.2.1 i = si i := fun i hi => by rw [k6 i (by omega), va_up_ne _ _ (by omega)]
            have hpa : T'.2.2.2.1 us.length = w := by rw [k5 _ (by omega), p2]
            have hRI2 : RI ver xs us T' := by
              refine ⟨k2, by omega, by omega, hroxs, fun i hi => by rw [k5 i (by omega), p1 i hi, r5 i hi], by rw [hsi _ (Nat.le_refl _), r6], k7.back hwy ⟨ty, hty⟩, k8, by rw [hpa]; exact w1, by rw [hpa]; omega⟩
            have fin := ihv w (by omega) T' hpa hRI2
            generalize dfv (fun v => dfs vr vn ne ver (ql q) (k + 1) (nx vn ne xs us v) (us ++ [v])) (PB vr vn ne ver (ql q) xs us) (w - 1) = E at fin ⊢
            have hrun : ∀ {n2 : Nat} {T2 : SS}, RunN vr vn ne ver ql q n2 T' T2 → RunN vr vn ne ver ql q (n + 1 + n2) (us.length + 1, m, ro, pi, si, pl) T2 := fun h => RunN.trans vr vn ne ver ql q (show RunN vr vn ne ver ql q (n + 1) _ T' from ⟨hC, k1⟩) h
            cases E with
            | some r =>
              obtain ⟨zs, ws⟩ := r
              obtain ⟨n2, T2, j1, j2⟩ := fin
              exact ⟨_, T2, hrun j1, j2⟩
            | none =>
              obtain ⟨n2, T2, j1, j2, j3, j4, j5, j6, j7, j8⟩ := fin
              exact ⟨_, T2, hrun j1, j2, j3, fun i hi => (j4 i hi).trans ((hroxs i hi).trans (r4 i hi).symm), fun i hi => by rw [j5 i hi, k5 i (by omega), p1 i hi], fun i hi => by rw [j6 i hi, hsi i hi], j7, j8⟩
end RefRun
