/-! The class' search with sets of wanted versions finds what the recursion finds. -/
abbrev WT : Type := Nat → Nat → Bool
section Cfs
variable (vr vn ne ver : Nat → Nat) (lo : Nat)
def inr9 (x j w : Nat) : Bool := decide (ne (12 * x + 3 * j + 1) ≤ w) && decide (w ≤ ne (12 * x + 3 * j + 2))
def lft (W : WT) (x j : Nat) : Nat → Bool := fun w => W (ne (12 * x + 3 * j)) w && inr9 ne x j w
def any3 (f : Nat → Bool) : Bool := f 1 || (f 2 || f 3)
theorem any3_iff {f : Nat → Bool} : any3 f = true ↔ ∃ w, 1 ≤ w ∧ w ≤ 3 ∧ f w = true := by
  unfold any3
  simp only [Bool.or_eq_true]
  constructor
  · rintro (h | h | h)
    · exact ⟨1, by omega, by omega, h⟩
    · exact ⟨2, by omega, by omega, h⟩
    · exact ⟨3, by omega, by omega, h⟩
  · rintro ⟨w, h1, h2, h⟩
    rcases (show w = 1 ∨ w = 2 ∨ w = 3 by omega) with rfl | rfl | rfl
    · exact Or.inl h
    · exact Or.inr (Or.inl h)
    · exact Or.inr (Or.inr h)
def tka (x : Nat) : Nat → Nat → List Nat → WT → Option (List Nat × WT)
  | 0, _, xs, W => some (xs, W)
  | n + 1, j, xs, W => if any3 (lft ne W x j) = true then tka x n (j + 1) (adN xs (ne (12 * x + 3 * j))) (va_up W (ne (12 * x + 3 * j)) (lft ne W x j)) else none
theorem wup_iff (W : WT) (x j o w : Nat) : va_up W (ne (12 * x + 3 * j)) (lft ne W x j) o w = true ↔ W o w = true ∧ gb ne o w x j = true := by
  unfold va_up
  by_cases e : o = ne (12 * x + 3 * j)
  · rw [if_pos e]
    unfold lft inr9
    rw [← e, gb_iff]
    simp only [Bool.and_eq_true, decide_eq_true_eq]
    constructor
    · rintro ⟨h1, h2, h3⟩
      exact ⟨h1, Or.inr ⟨h2, h3⟩⟩
    · rintro ⟨h1, h2 | h2⟩
      · exact absurd e.symm h2
      · exact ⟨h1, h2⟩
  · rw [if_neg e, gb_iff]
    exact ⟨fun h => ⟨h, Or.inl (fun q => e q.symm)⟩, fun h => h.1⟩
theorem tka_some (x : Nat) {xs' : List Nat} {W' : WT} : ∀ (n j : Nat) (xs : List Nat) (W : WT), tka ne x n j (exl ne x xs j) W = some (xs', W') →
    xs' = exl ne x xs (j + n) ∧ (∀ o w, W' o w = true ↔ W o w = true ∧ ∀ i, j ≤ i → i < j + n → gb ne o w x i = true) ∧ ∀ i, j ≤ i → i < j + n → ∃ w, 1 ≤ w ∧ w ≤ 3 ∧ W (ne (12 * x + 3 * i)) w = true ∧ inr9 ne x i w = true
  | 0, j, xs, W, h => by
    cases h
    exact ⟨rfl, fun o w => ⟨fun h => ⟨h, fun i h1 h2 => by omega⟩, fun h => h.1⟩, fun i h1 h2 => by omega⟩
  | n + 1, j, xs, W, h => by
    unfold tka at h
    split at h
    · obtain ⟨i1, i2, i3⟩ := tka_some x n (j + 1) xs _ h
      refine ⟨by rw [i1]; congr 1; omega, fun o w => ?_, fun i h1 h2 => ?_⟩
      · rw [i2 o w, wup_iff]
        constructor
        · rintro ⟨⟨a1, a2⟩, a3⟩
          refine ⟨a1, fun i q1 q2 => ?_⟩
          by_cases e : i = j
          · rw [e]; exact a2
          · exact a3 i (by omega) (by omega)
        · rintro ⟨a1, a2⟩
          exact ⟨⟨a1, a2 j (Nat.le_refl _) (by omega)⟩, fun i q1 q2 => a2 i (by omega) (by omega)⟩
      · by_cases e : i = j
        · subst e
          obtain ⟨w, b1, b2, b3⟩ := any3_iff.mp (by assumption : any3 (lft ne W x i) = true)
          unfold lft at b3
          rw [Bool.and_eq_true] at b3
          exact ⟨w, b1, b2, b3.1, b3.2⟩
        · obtain ⟨w, b1, b2, b3, b4⟩ := i3 i (by omega) (by omega)
          exact ⟨w, b1, b2, ((wup_iff ne W x j _ w).mp b3).1, b4⟩
    · cases h
theorem tka_none (x : Nat) : ∀ (n j : Nat) (xs : List Nat) (W : WT), tka ne x n j xs W = none →
    ∃ i, j ≤ i ∧ i < j + n ∧ ∀ w, 1 ≤ w → w ≤ 3 → ¬ (W (ne (12 * x + 3 * i)) w = true ∧ ∀ i', j ≤ i' → i' < j + n → gb ne (ne (12 * x + 3 * i)) w x i' = true)
  | 0, j, xs, W, h => by cases h
  | n + 1, j, xs, W, h => by
    unfold tka at h
    split at h
    · obtain ⟨i, i1, i2, i3⟩ := tka_none x n (j + 1) _ _ h
      refine ⟨i, by omega, by omega, fun w w1 w3 q => i3 w w1 w3 ⟨?_, fun i' q1 q2 => q.2 i' (by omega) (by omega)⟩⟩
      exact (wup_iff ne W x j _ w).mpr ⟨q.1, q.2 j (Nat.le_refl _) (by omega)⟩
    · rename_i hf
      refine ⟨j, Nat.le_refl _, by omega, fun w w1 w3 q => hf (any3_iff.mpr ⟨w, w1, w3, ?_⟩)⟩
      unfold lft
      rw [Bool.and_eq_true]
      refine ⟨q.1, ?_⟩
      rcases gb_iff.mp (q.2 j (Nat.le_refl _) (by omega)) with z | z
      · exact absurd rfl z
      · unfold inr9
        rw [Bool.and_eq_true, decide_eq_true_eq, decide_eq_true_eq]
        exact z
theorem dfv_ext {R : Type} {g g' : Nat → Option R} {P P' : Nat → Bool} : ∀ n, (∀ v, 1 ≤ v → v ≤ n → (if P v = true then g v else none) = (if P' v = true then g' v else none)) → dfv g P n = dfv g' P' n
  | 0, _ => rfl
  | n + 1, h => by
    have ih := dfv_ext n (fun v h1 h2 => h v h1 (by omega))
    have h1 := h (n + 1) (by omega) (Nat.le_refl _)
    unfold dfv
    rw [ih]
    by_cases a : P (n + 1) = true <;> by_cases b : P' (n + 1) = true
    · rw [if_pos a, if_pos b] at h1
      rw [if_pos a, if_pos b, h1]
    · rw [if_pos a, if_neg b] at h1
      rw [if_pos a, if_neg b, h1]
      rfl
    · rw [if_neg a, if_pos b] at h1
      rw [if_neg a, if_pos b, ← h1]
      rfl
    · rw [if_neg a, if_neg b]
def cfg (f : List Nat → List Nat → WT → Option (List Nat × List Nat)) (xs us : List Nat) (W : WT) (v : Nat) : Option (List Nat × List Nat) :=
  match tka ne (3 * gd xs us.length + v - 1) (vn (3 * gd xs us.length + v - 1)) 0 xs (va_up W (gd xs us.length) (fun w => decide (w = v))) with
  | some (xs', W') => f xs' (us ++ [v]) W'
  | none => none
def cfs : Nat → List Nat → List Nat → WT → Option (List Nat × List Nat)
  | 0, xs, us, _ => some (xs, us)
  | k + 1, xs, us, W => if xs.length ≤ us.length then some (xs, us) else dfv (cfg vn ne (cfs k) xs us W) (W (gd xs us.length)) 3
def bas (p0 p w : Nat) : Prop := w ≤ ver p ∧ vr (3 * p + w - 1) = 0 ∧ (p = p0 → lo ≤ w)
def RW (xs us : List Nat) (W : WT) : Prop := ∀ p, p < 8 → ∀ w, 1 ≤ w → w ≤ 3 → (W p w = true ↔ bas vr ver lo (gd xs 0) p w ∧ (∀ k, k < us.length → AL vn ne (gp xs us k) p w) ∧ ∀ k, k < us.length → gd xs k = p → w = gd us k)
set_option maxHeartbeats 2000000 in
theorem cfs_dfs (hne : ∀ k, ne k ≤ 7) (hown : ∀ p v j, p < 8 → 1 ≤ v → v ≤ 3 → j < vn (3 * p + v - 1) → ne (12 * (3 * p + v - 1) + 3 * j) ≠ p) : ∀ (k : Nat) (xs us : List Nat) (W : WT), Wf xs → 0 < xs.length → us.length ≤ xs.length → k + us.length = 8 → (∀ i, i < us.length → 1 ≤ gd us i ∧ gd us i ≤ 3) → RW vr vn ne ver lo xs us W → (∀ i, i < us.length → W (gd xs i) (gd us i) = true) → cfs vn ne k xs us W = dfs vr vn ne ver lo (k + 1) xs us := by
  intro k
  induction k with
  | zero =>
    intro xs us W hw h0 hl hk hu hR hC
    have := hw.len
    unfold cfs dfs
    rw [if_pos (by omega)]
  | succ k ih =>
    intro xs us W hw h0 hl hk hu hR hC
    have hl8 := hw.len
    unfold cfs dfs
    by_cases hle : xs.length ≤ us.length
    · rw [if_pos hle, if_pos hle]
    · rw [if_neg hle, if_neg hle]
      have hlt : us.length < xs.length := by omega
      refine dfv_ext 3 (fun v v1 v3 => ?_)
      have hp8 : gd xs us.length < 8 := hw.at hlt
      have hpk : ∀ i, i < us.length → gd xs i ≠ gd xs us.length := fun i hi => gd_ne hw.1 hi hlt
      obtain ⟨p, hp⟩ : ∃ p, p = gd xs us.length := ⟨_, rfl⟩
      obtain ⟨x, hx⟩ : ∃ x, x = 3 * p + v - 1 := ⟨_, rfl⟩
      have hWP : W p v = true ↔ bas vr ver lo (gd xs 0) p v ∧ ∀ k, k < us.length → AL vn ne (gp xs us k) p v := by
        rw [hR p (by rw [hp]; exact hp8) v v1 v3]
        exact ⟨fun h => ⟨h.1, h.2.1⟩, fun h => ⟨h.1, h.2, fun i hi e => absurd (e.trans hp) (hpk i hi)⟩⟩
      have hlo : (if us.length = 0 then lo else 1) ≤ v ↔ (p = gd xs 0 → lo ≤ v) := by
        by_cases e : us.length = 0
        · rw [if_pos e]
          exact ⟨fun h _ => h, fun h => h (by rw [hp, e])⟩
        · rw [if_neg e]
          exact ⟨fun _ h => absurd (h.symm.trans hp) (hpk 0 (by omega)), fun _ => v1⟩
      have hPB : PB vr vn ne ver lo xs us v = true ↔ W p v = true ∧ ∀ i, i < us.length → AL vn ne x (gd xs i) (gd us i) := by
        rw [PB_iff, hWP, ← hp, ← hx]
        unfold bas
        constructor
        · rintro ⟨a1, a2, a3, a4, a5⟩
          exact ⟨⟨⟨a4, by rw [← hx]; exact a1, hlo.mp a5⟩, a2⟩, a3⟩
        · rintro ⟨⟨⟨a4, a1, a5⟩, a2⟩, a3⟩
          exact ⟨by rw [hx]; exact a1, a2, a3, a4, hlo.mpr a5⟩
      rw [← hp]
      by_cases hW : W p v = true
      · rw [if_pos hW]
        have hlu : (us ++ [v]).length = us.length + 1 := by rw [List.length_append]; rfl
        have hnx : nx vn ne xs us v = exl ne x xs (vn x) := by unfold nx; rw [← hp, ← hx]
        unfold cfg
        rw [← hp, ← hx]
        have hW0 : ∀ o w, o ≠ p → va_up W p (fun w => decide (w = v)) o w = W o w := fun o w h => by rw [va_up_ne _ _ h]
        have hW0p : ∀ w, va_up W p (fun w => decide (w = v)) p w = true ↔ w = v := fun w => by rw [va_up_self, decide_eq_true_eq]
        cases ht : tka ne x (vn x) 0 xs (va_up W p (fun w => decide (w = v))) with
        | none =>
          dsimp only
          by_cases c : ∀ i, i < us.length → AL vn ne x (gd xs i) (gd us i)
          · rw [if_pos (hPB.mpr ⟨hW, c⟩)]
            cases hd : dfs vr vn ne ver lo (k + 1) (nx vn ne xs us v) (us ++ [v]) with
            | none => rfl
            | some r =>
              exfalso
              obtain ⟨ys, ws⟩ := r
              obtain ⟨tt, htt⟩ := exl_pre ne x xs (vn x)
              have hlx : xs.length ≤ (nx vn ne xs us v).length := by rw [hnx, htt, List.length_append]; omega
              obtain ⟨s1, s2, ⟨t3, s3⟩, ⟨t4, s4⟩, s5⟩ := dfs_sound vr vn ne ver lo hne (k + 1) _ _ ys ws (by rw [hnx]; exact exl_wf hne x hw _) (by rw [hlu]; omega) hd
              obtain ⟨i, i1, i2, i3⟩ := tka_none ne x (vn x) 0 xs _ ht
              have hmem : ne (12 * x + 3 * i) ∈ nx vn ne xs us v := by rw [hnx]; exact exl_mem ne x xs (vn x) i (by omega)
              obtain ⟨idx, hidx, eidx⟩ := gd_of_mem hmem
              have eys : ∀ z, z < xs.length → gd ys z = gd xs z := fun z hz => by rw [s3, gd_app (by omega), hnx, htt, gd_app hz]
              have ews : ∀ z, z < us.length → gd ws z = gd us z := fun z hz => by rw [s4, gd_app (by omega), gd_app hz]
              have ewv : gd ws us.length = v := by rw [s4, gd_app (by omega), gd_last]
              have hidy : idx < ys.length := by rw [s3, List.length_append]; omega
              have eidy : gd ys idx = ne (12 * x + 3 * i) := by rw [s3, gd_app hidx]; exact eidx
              have hop : ne (12 * x + 3 * i) ≠ p := by
                have := hown p v i (by rw [hp]; exact hp8) v1 v3 (by rw [← hx]; omega)
                rw [← hx] at this
                exact this
              rcases Nat.lt_trichotomy idx us.length with z | z | z
              · refine i3 (gd us idx) (hu idx z).1 (hu idx z).2 ⟨?_, fun i' q1 q2 => ?_⟩
                · rw [hW0 _ _ hop, ← eidy, eys idx (by omega)]
                  exact hC idx z
                · rw [← eidy, eys idx (by omega)]
                  exact c idx z i' (by omega)
              · exact hop (by rw [← eidy, z, eys _ hlt, hp])
              · obtain ⟨n1, n2, n3, n4, n5, n6⟩ := s5 idx (by rw [hlu]; omega) hidy
                have eg : ∀ z, z < us.length → gp ys ws z = gp xs us z := fun z hz => by unfold gp; rw [eys z (by omega), ews z hz]
                have ex : gp ys ws us.length = x := by unfold gp; rw [eys _ hlt, ewv, hx, hp]
                refine i3 (gd ws idx) n5 n6 ⟨?_, fun i' q1 q2 => ?_⟩
                · rw [hW0 _ _ hop]
                  refine (hR _ (by have := hne (12 * x + 3 * i); omega) _ n5 n6).mpr ⟨⟨by rw [← eidy]; exact n3, by rw [← eidy]; exact n1, fun e0 => ?_⟩, fun k2 hk2 => ?_, fun k2 hk2 e2 => ?_⟩
                  · exfalso
                    have := gd_inj s1.1 (i := idx) (j := 0) hidy (by omega) (by rw [eidy, e0, eys 0 h0])
                    omega
                  · rw [← eidy, ← eg k2 hk2]
                    exact n2 k2 (by omega)
                  · exfalso
                    have := gd_inj s1.1 (i := idx) (j := k2) hidy (by omega) (by rw [eidy, ← e2, eys k2 (by omega)])
                    omega
                · rw [← eidy, ← ex]
                  exact n2 us.length z i' (by rw [ex]; omega)
          · rw [if_neg (fun z => c (hPB.mp z).2)]
        | some r =>
          obtain ⟨xs', W'⟩ := r
          dsimp only
          obtain ⟨t1, t2, t3⟩ := tka_some ne x (vn x) 0 xs _ (show tka ne x (vn x) 0 (exl ne x xs 0) _ = some (xs', W') from ht)
          rw [Nat.zero_add] at t1 t2 t3
          have c : ∀ i, i < us.length → AL vn ne x (gd xs i) (gd us i) := by
            intro i hi j hj
            rw [gb_iff]
            by_cases e : ne (12 * x + 3 * j) = gd xs i
            · right
              obtain ⟨w, w1, w3, w4, w5⟩ := t3 j (Nat.zero_le _) hj
              rw [e, hW0 _ _ (by rw [hp]; exact hpk i hi)] at w4
              have := ((hR _ (hw.at (by omega)) w w1 w3).mp w4).2.2 i hi rfl
              rw [← this]
              unfold inr9 at w5
              rw [Bool.and_eq_true, decide_eq_true_eq, decide_eq_true_eq] at w5
              exact w5
            · exact Or.inl e
          rw [if_pos (hPB.mpr ⟨hW, c⟩), hnx, ← t1]
          obtain ⟨tt, htt⟩ := exl_pre ne x xs (vn x)
          rw [← t1] at htt
          have exs : ∀ z, z < xs.length → gd xs' z = gd xs z := fun z hz => by rw [htt, gd_app hz]
          have hwx : Wf xs' := by rw [t1]; exact exl_wf hne x hw _
          have hlx : xs.length ≤ xs'.length := by rw [htt, List.length_append]; omega
          have eus : ∀ z, z < us.length → gd (us ++ [v]) z = gd us z := fun z hz => gd_app hz
          have eg : ∀ z, z < us.length → gp xs' (us ++ [v]) z = gp xs us z := fun z hz => by unfold gp; rw [exs z (by omega), eus z hz]
          have ex : gp xs' (us ++ [v]) us.length = x := by unfold gp; rw [exs _ hlt, gd_last, hx, hp]
          have hALp : AL vn ne x p v := by
            intro j hj
            rw [gb_iff]
            left
            have := hown p v j (by rw [hp]; exact hp8) v1 v3 (by rw [← hx]; exact hj)
            rw [← hx] at this
            exact this
          refine ih xs' (us ++ [v]) W' hwx (by omega) (by rw [hlu]; omega) (by rw [hlu]; omega) (fun i hi => ?_) (fun o ho w w1 w3 => ?_) (fun i hi => ?_)
          · rw [hlu] at hi
            by_cases e : i = us.length
            · rw [e, gd_last]
              exact ⟨v1, v3⟩
            · rw [eus i (by omega)]
              exact hu i (by omega)
          · rw [t2 o w, hlu, exs 0 h0]
            have hgb : (∀ i, 0 ≤ i → i < vn x → gb ne o w x i = true) ↔ AL vn ne x o w := ⟨fun h i hi => h i (Nat.zero_le _) hi, fun h i _ hi => h i hi⟩
            rw [hgb]
            by_cases e : o = p
            · subst e
              rw [hW0p]
              constructor
              · rintro ⟨rfl, a2⟩
                refine ⟨(hWP.mp hW).1, fun k2 hk2 => ?_, fun k2 hk2 e2 => ?_⟩
                · by_cases z : k2 = us.length
                  · rw [z, ex]; exact a2
                  · rw [eg k2 (by omega)]; exact (hWP.mp hW).2 k2 (by omega)
                · by_cases z : k2 = us.length
                  · rw [z, gd_last]
                  · rw [exs k2 (by omega)] at e2
                    exact absurd (e2.trans hp) (hpk k2 (by omega))
              · rintro ⟨a1, a2, a3⟩
                have ew : w = v := by
                  have := a3 us.length (by omega) (by rw [exs _ hlt, hp])
                  rw [gd_last] at this
                  exact this
                refine ⟨ew, ?_⟩
                have := a2 us.length (by omega)
                rw [ex] at this
                exact this
            · rw [hW0 o w e, hR o ho w w1 w3]
              constructor
              · rintro ⟨⟨a1, a2, a3⟩, a4⟩
                refine ⟨a1, fun k2 hk2 => ?_, fun k2 hk2 e2 => ?_⟩
                · by_cases z : k2 = us.length
                  · rw [z, ex]; exact a4
                  · rw [eg k2 (by omega)]; exact a2 k2 (by omega)
                · by_cases z : k2 = us.length
                  · rw [z, exs _ hlt] at e2
                    exact absurd (e2.symm.trans hp.symm) e
                  · rw [exs k2 (by omega)] at e2
                    rw [eus k2 (by omega)]
                    exact a3 k2 (by omega) e2
              · rintro ⟨a1, a2, a3⟩
                refine ⟨⟨a1, fun k2 hk2 => ?_, fun k2 hk2 e2 => ?_⟩, ?_⟩
                · rw [← eg k2 hk2]; exact a2 k2 (by omega)
                · have := a3 k2 (by omega) (by rw [exs k2 (by omega)]; exact e2)
                  rw [eus k2 hk2] at this
                  exact this
                · have := a2 us.length (by omega)
                  rw [ex] at this
                  exact this
          · rw [hlu] at hi
            rw [t2]
            by_cases e : i = us.length
            · rw [e, gd_last, exs _ hlt, ← hp]
              exact ⟨(hW0p v).mpr rfl, fun j _ hj => hALp j hj⟩
            · rw [exs i (by omega), eus i (by omega), hW0 _ _ (by rw [hp]; exact hpk i (by omega))]
              exact ⟨hC i (by omega), fun j _ hj => c i (by omega) j hj⟩
      · rw [if_neg hW, if_neg (fun z => hW (hPB.mp z).1)]
end Cfs
