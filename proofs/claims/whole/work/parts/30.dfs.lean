/-! The search as one recursion on lists. -/
def gd (xs : List Nat) : Nat → Nat := fun k => xs.getD k 0
theorem gd_at {xs : List Nat} {k : Nat} (h : k < xs.length) : gd xs k = xs[k] := by
  unfold gd
  rw [List.getD_eq_getElem?_getD, List.getElem?_eq_getElem h]
  rfl
theorem gd_app {xs ys : List Nat} {k : Nat} (h : k < xs.length) : gd (xs ++ ys) k = gd xs k := by
  unfold gd
  rw [List.getD_eq_getElem?_getD, List.getD_eq_getElem?_getD, List.getElem?_append_left h]
theorem gd_last (xs : List Nat) (v : Nat) : gd (xs ++ [v]) xs.length = v := by
  unfold gd
  rw [List.getD_eq_getElem?_getD, List.getElem?_append_right (Nat.le_refl _), Nat.sub_self]
  rfl
theorem gd_mem {xs : List Nat} {k : Nat} (h : k < xs.length) : gd xs k ∈ xs := by
  rw [gd_at h]
  exact List.getElem_mem h
theorem gd_of_mem {xs : List Nat} {p : Nat} (h : p ∈ xs) : ∃ k, k < xs.length ∧ gd xs k = p := by
  obtain ⟨k, hk, e⟩ := List.getElem_of_mem h
  exact ⟨k, hk, by rw [gd_at hk]; exact e⟩
theorem gd_ne {xs : List Nat} (nd : xs.Nodup) {i j : Nat} (hij : i < j) (hj : j < xs.length) : gd xs i ≠ gd xs j := by
  rw [gd_at (Nat.lt_trans hij hj), gd_at hj]
  exact List.pairwise_iff_getElem.mp (List.nodup_iff_pairwise_ne.mp nd) i j _ _ hij
theorem gd_inj {xs : List Nat} (nd : xs.Nodup) {i j : Nat} (hi : i < xs.length) (hj : j < xs.length) (e : gd xs i = gd xs j) : i = j := by
  rcases Nat.lt_trichotomy i j with h | h | h
  · exact absurd e (gd_ne nd h hj)
  · exact h
  · exact absurd e.symm (gd_ne nd h hi)
theorem nd_snoc {xs : List Nat} {o : Nat} (nd : xs.Nodup) (h : ¬ o ∈ xs) : (xs ++ [o]).Nodup := by
  rw [List.nodup_append]
  refine ⟨nd, by simp, fun a ha b hb => ?_⟩
  rw [List.mem_singleton] at hb
  subst hb
  exact fun e => h (e ▸ ha)
theorem nd_len : ∀ (n : Nat) (xs : List Nat), xs.Nodup → (∀ o ∈ xs, o < n) → xs.length ≤ n
  | 0, xs, _, h => by
    cases xs with
    | nil => exact Nat.le_refl _
    | cons a t => exact absurd (h a List.mem_cons_self) (Nat.not_lt_zero _)
  | n + 1, xs, nd, h => by
    by_cases hm : n ∈ xs
    · have h1 := nd_len n (xs.erase n) (nd.erase n) (fun o ho => by
        have h2 := (nd.mem_erase_iff).mp ho
        have := h o h2.2
        have := h2.1
        omega)
      rw [List.length_erase_of_mem hm] at h1
      omega
    · have h1 := nd_len n xs nd (fun o ho => by
        have := h o ho
        have : o ≠ n := fun e => hm (e ▸ ho)
        omega)
      omega
def Wf (xs : List Nat) : Prop := xs.Nodup ∧ ∀ o ∈ xs, o < 8
theorem Wf.len {xs : List Nat} (h : Wf xs) : xs.length ≤ 8 := nd_len 8 xs h.1 h.2
theorem Wf.at {xs : List Nat} (h : Wf xs) {k : Nat} (hk : k < xs.length) : gd xs k < 8 := h.2 _ (gd_mem hk)
def adN (xs : List Nat) (o : Nat) : List Nat := if o ∈ xs then xs else xs ++ [o]
theorem adN_wf {xs : List Nat} {o : Nat} (h : Wf xs) (ho : o < 8) : Wf (adN xs o) := by
  unfold adN
  split
  · exact h
  · refine ⟨nd_snoc h.1 (by assumption), fun x hx => ?_⟩
    rcases List.mem_append.mp hx with q | q
    · exact h.2 x q
    · rw [List.mem_singleton] at q
      omega
theorem adN_pre (xs : List Nat) (o : Nat) : ∃ t, adN xs o = xs ++ t := by
  unfold adN
  split
  · exact ⟨[], (List.append_nil _).symm⟩
  · exact ⟨[o], rfl⟩
theorem adN_mem (xs : List Nat) (o : Nat) : o ∈ adN xs o := by
  unfold adN
  split
  · assumption
  · exact List.mem_append_right _ (List.mem_singleton.mpr rfl)
def exl (ne : Nat → Nat) (x : Nat) (xs : List Nat) : Nat → List Nat
  | 0 => xs
  | j + 1 => adN (exl ne x xs j) (ne (12 * x + 3 * j))
theorem exl_wf {ne : Nat → Nat} (hne : ∀ k, ne k ≤ 7) (x : Nat) {xs : List Nat} (h : Wf xs) : ∀ j, Wf (exl ne x xs j)
  | 0 => h
  | j + 1 => adN_wf (exl_wf hne x h j) (by have := hne (12 * x + 3 * j); omega)
theorem exl_pre (ne : Nat → Nat) (x : Nat) (xs : List Nat) : ∀ j, ∃ t, exl ne x xs j = xs ++ t
  | 0 => ⟨[], (List.append_nil _).symm⟩
  | j + 1 => by
    obtain ⟨t, ht⟩ := exl_pre ne x xs j
    obtain ⟨t2, ht2⟩ := adN_pre (exl ne x xs j) (ne (12 * x + 3 * j))
    exact ⟨t ++ t2, by unfold exl; rw [ht2, ht, List.append_assoc]⟩
theorem exl_mem (ne : Nat → Nat) (x : Nat) (xs : List Nat) : ∀ j i, i < j → ne (12 * x + 3 * i) ∈ exl ne x xs j
  | j + 1, i, h => by
    unfold exl
    by_cases e : i = j
    · subst e
      exact adN_mem _ _
    · obtain ⟨t, ht⟩ := adN_pre (exl ne x xs j) (ne (12 * x + 3 * j))
      rw [ht]
      exact List.mem_append_left _ (exl_mem ne x xs j i (by omega))
theorem allN_iff {f : Nat → Bool} : ∀ {n : Nat}, allN f n = true ↔ ∀ k, k < n → f k = true
  | 0 => ⟨fun _ k h => absurd h (Nat.not_lt_zero _), fun _ => rfl⟩
  | n + 1 => by
    unfold allN
    rw [Bool.and_eq_true, allN_iff]
    constructor
    · intro h k hk
      by_cases e : k = n
      · subst e; exact h.2
      · exact h.1 k (by omega)
    · intro h
      exact ⟨fun k hk => h k (by omega), h n (by omega)⟩
theorem gb_iff {ne : Nat → Nat} {p v x j : Nat} : gb ne p v x j = true ↔ ¬ ne (12 * x + 3 * j) = p ∨ (ne (12 * x + 3 * j + 1) ≤ v ∧ v ≤ ne (12 * x + 3 * j + 2)) := by
  unfold gb
  simp only [Bool.or_eq_true, Bool.and_eq_true, decide_eq_true_eq]
/-- the place of the i-th choice -/
def gp (xs us : List Nat) (k : Nat) : Nat := 3 * gd xs k + gd us k - 1
/-- all needs of the place x allow version v of part p -/
def AL (vn ne : Nat → Nat) (x p v : Nat) : Prop := ∀ j, j < vn x → gb ne p v x j = true
section Dfs
variable (vr vn ne ver : Nat → Nat) (lo : Nat)
def PB (xs us : List Nat) (v : Nat) : Bool := decide (vr (3 * gd xs us.length + v - 1) = 0) && (allN (fun k => allN (gb ne (gd xs us.length) v (gp xs us k)) (vn (gp xs us k))) us.length && (allN (fun k => allN (gb ne (gd xs k) (gd us k) (3 * gd xs us.length + v - 1)) (vn (3 * gd xs us.length + v - 1))) us.length && (decide (v ≤ ver (gd xs us.length)) && decide ((if us.length = 0 then lo else 1) ≤ v))))
theorem PB_iff {xs us : List Nat} {v : Nat} : PB vr vn ne ver lo xs us v = true ↔ vr (3 * gd xs us.length + v - 1) = 0 ∧ (∀ k, k < us.length → AL vn ne (gp xs us k) (gd xs us.length) v) ∧ (∀ k, k < us.length → AL vn ne (3 * gd xs us.length + v - 1) (gd xs k) (gd us k)) ∧ v ≤ ver (gd xs us.length) ∧ (if us.length = 0 then lo else 1) ≤ v := by
  unfold PB AL
  simp only [Bool.and_eq_true, decide_eq_true_eq, allN_iff]
def orE {R : Type} (a b : Option R) : Option R := match a with
  | some r => some r
  | none => b
def dfv {R : Type} (g : Nat → Option R) (P : Nat → Bool) : Nat → Option R
  | 0 => none
  | v + 1 => if P (v + 1) = true then orE (g (v + 1)) (dfv g P v) else dfv g P v
theorem dfv_skip {R : Type} {g : Nat → Option R} {P : Nat → Bool} {w : Nat} : ∀ n, w ≤ n → (∀ v, w < v → v ≤ n → P v = false) → dfv g P n = dfv g P w
  | 0, h, _ => by rw [show w = 0 by omega]
  | n + 1, h, hp => by
    by_cases e : w = n + 1
    · rw [e]
    · rw [dfv, if_neg (by rw [hp (n + 1) (by omega) (Nat.le_refl _)]; decide)]
      exact dfv_skip n (by omega) (fun v h1 h2 => hp v h1 (by omega))
theorem dfv_some {R : Type} {g : Nat → Option R} {P : Nat → Bool} {r : R} : ∀ n, dfv g P n = some r → ∃ v, 1 ≤ v ∧ v ≤ n ∧ P v = true ∧ g v = some r
  | 0, h => by cases h
  | n + 1, h => by
    unfold dfv at h
    split at h
    · cases hg : g (n + 1) with
      | some r2 =>
        rw [hg] at h
        exact ⟨n + 1, by omega, Nat.le_refl _, by assumption, by rw [hg]; exact h⟩
      | none =>
        rw [hg] at h
        obtain ⟨v, h1, h2, h3, h4⟩ := dfv_some n h
        exact ⟨v, h1, by omega, h3, h4⟩
    · obtain ⟨v, h1, h2, h3, h4⟩ := dfv_some n h
      exact ⟨v, h1, by omega, h3, h4⟩
def nx (xs us : List Nat) (v : Nat) : List Nat := exl ne (3 * gd xs us.length + v - 1) xs (vn (3 * gd xs us.length + v - 1))
def dfs : Nat → List Nat → List Nat → Option (List Nat × List Nat)
  | 0, _, _ => none
  | k + 1, xs, us => if xs.length ≤ us.length then some (xs, us) else dfv (fun v => dfs k (nx vn ne xs us v) (us ++ [v])) (PB vr vn ne ver lo xs us) 3
/-- what a found choice keeps at its i-th place -/
def Snd (ys ws : List Nat) (i : Nat) : Prop := vr (gp ys ws i) = 0 ∧ (∀ k, k < i → AL vn ne (gp ys ws k) (gd ys i) (gd ws i)) ∧ gd ws i ≤ ver (gd ys i) ∧ (if i = 0 then lo else 1) ≤ gd ws i ∧ 1 ≤ gd ws i ∧ gd ws i ≤ 3
theorem dfs_sound (hne : ∀ k, ne k ≤ 7) : ∀ (k : Nat) (xs us ys ws : List Nat), Wf xs → us.length ≤ xs.length → dfs vr vn ne ver lo k xs us = some (ys, ws) →
    Wf ys ∧ ws.length = ys.length ∧ (∃ t, ys = xs ++ t) ∧ (∃ t, ws = us ++ t) ∧ ∀ i, us.length ≤ i → i < ys.length → Snd vr vn ne ver lo ys ws i
  | 0, _, _, _, _, _, _, h => by cases h
  | k + 1, xs, us, ys, ws, hw, hl, h => by
    unfold dfs at h
    split at h
    · cases h
      exact ⟨hw, by omega, ⟨[], (List.append_nil _).symm⟩, ⟨[], (List.append_nil _).symm⟩, fun i h1 h2 => by omega⟩
    · obtain ⟨v, v1, v3, hP, hg⟩ := dfv_some 3 h
      obtain ⟨t, ht⟩ := exl_pre ne (3 * gd xs us.length + v - 1) xs (vn (3 * gd xs us.length + v - 1))
      have hx : xs.length < (us.length + 1) + (nx vn ne xs us v).length := by unfold nx; rw [ht, List.length_append]; omega
      obtain ⟨i1, i2, ⟨t3, i3⟩, ⟨t4, i4⟩, i5⟩ := dfs_sound hne k (nx vn ne xs us v) (us ++ [v]) ys ws (exl_wf hne _ hw _) (by unfold nx; rw [ht, List.length_append, List.length_append]; simp only [List.length_singleton]; omega) hg
      have e1 : ys = xs ++ (t ++ t3) := by rw [i3]; unfold nx; rw [ht, List.append_assoc]
      have e2 : ws = us ++ ([v] ++ t4) := by rw [i4, List.append_assoc]
      refine ⟨i1, i2, ⟨_, e1⟩, ⟨_, e2⟩, fun i h1 h2 => ?_⟩
      by_cases e : i = us.length
      · subst e
        obtain ⟨p1, p2, p3, p4, p5⟩ := (PB_iff vr vn ne ver lo).mp hP
        have g1 : gd ys us.length = gd xs us.length := by rw [e1]; exact gd_app (by omega)
        have g2 : gd ws us.length = v := by rw [i4]; rw [gd_app (by simp)]; exact gd_last us v
        have g3 : ∀ k, k < us.length → gp ys ws k = gp xs us k := fun k hk => by
          unfold gp
          rw [e1, gd_app (by omega), e2, gd_app hk]
        refine ⟨by unfold gp; rw [g1, g2]; exact p1, fun k hk => by rw [g3 k hk, g1, g2]; exact p2 k hk, by rw [g1, g2]; exact p4, by rw [g2]; exact p5, by rw [g2]; exact v1, by rw [g2]; exact v3⟩
      · exact i5 i (by rw [List.length_append]; simp only [List.length_singleton]; omega) h2
end Dfs
