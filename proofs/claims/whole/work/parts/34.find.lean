/-! The class' search over its rows finds what the search over lists finds. -/
def SRp (xs : List Nat) (O0 : Nat → Int32) (on : Int32) : Prop := on = nI xs.length ∧ ∀ k, k < xs.length → O0 k = nI (gd xs k)
def SRw (d : Nat) (O1 : Nat → Int32) (W : WT) : Prop := ∀ p, p < 8 → O1 (8 * d + p) = setI (W p)
theorem awH_iff {xs : List Nat} {O0 : Nat → Int32} (h : ∀ k, k < xs.length → O0 k = nI (gd xs k)) (hw : Wf xs) {p : Nat} (hp : p < 8) : ∀ n, n ≤ xs.length → (awH O0 (nI p) n = true ↔ ∃ i, i < n ∧ gd xs i = p)
  | 0, _ => ⟨fun h => (by cases h), fun ⟨i, hi, _⟩ => absurd hi (Nat.not_lt_zero _)⟩
  | n + 1, hn => by
    have hl := hw.len
    have ih := awH_iff h hw hp n (by omega)
    have hg := hw.at (k := n) (by omega)
    unfold awH
    rw [Bool.or_eq_true, ih, decide_eq_true_eq, rat_at (by omega) (by omega), h n (by omega), nI_eq (by omega) (by omega)]
    constructor
    · rintro (⟨i, h1, h2⟩ | h1)
      · exact ⟨i, by omega, h2⟩
      · exact ⟨n, by omega, h1⟩
    · rintro ⟨i, h1, h2⟩
      by_cases e : i = n
      · exact Or.inr (e ▸ h2)
      · exact Or.inl ⟨i, by omega, h2⟩
theorem aw_run {xs : List Nat} {O0 : Nat → Int32} {on : Int32} (h : SRp xs O0 on) (hw : Wf xs) {p : Nat} (hp : p < 8) : SRp (adN xs p) (awO O0 on (nI p)) (awn O0 on (nI p)) ∧ ∀ k, k < xs.length → awO O0 on (nI p) k = O0 k := by
  obtain ⟨rfl, h2⟩ := h
  have hl := hw.len
  have hi := awH_iff h2 hw hp xs.length (Nat.le_refl _)
  unfold awO awn
  rw [nI_clamp (by omega)]
  by_cases e : p ∈ xs
  · obtain ⟨i, q1, q2⟩ := gd_of_mem e
    rw [if_pos (hi.mpr ⟨i, q1, q2⟩), if_pos (hi.mpr ⟨i, q1, q2⟩), show adN xs p = xs from if_pos e]
    exact ⟨⟨rfl, h2⟩, fun _ _ => rfl⟩
  · have hn : ¬ awH O0 (nI p) xs.length = true := fun q => by
      obtain ⟨i, q1, q2⟩ := hi.mp q
      exact e (q2 ▸ gd_mem q1)
    have ea : adN xs p = xs ++ [p] := if_neg e
    have hl2 : xs.length + 1 ≤ 8 := by
      have := (adN_wf hw hp).len
      rw [ea, List.length_append] at this
      exact this
    rw [if_neg hn, if_neg hn, ea, rup_at (by omega) (by omega)]
    refine ⟨⟨by rw [List.length_append]; exact nI_1 _, fun k hk => ?_⟩, fun k hk => by rw [va_up_ne _ _ (by omega)]⟩
    rw [List.length_append] at hk
    simp only [List.length_singleton] at hk
    by_cases z : k = xs.length
    · subst z
      rw [va_up_self, gd_last]
    · rw [va_up_ne _ _ z, gd_app (by omega)]
      exact h2 k (by omega)
theorem tkC_at (O1 : Nat → Int32) {d : Nat} (hd : d < 8) : ∀ n, n ≤ 8 → ∀ k, tkC O1 (nI d) n k = if 8 * (d + 1) ≤ k ∧ k < 8 * (d + 1) + n then O1 (k - 8) else O1 k
  | 0, _, k => by
    rw [if_neg (by omega)]
    rfl
  | n + 1, hn, k => by
    have ih := tkC_at O1 hd n (by omega)
    unfold tkC
    rw [d8_at, q8_at, rup_at (by omega) (by omega), rat_at (by omega) (by omega), ih (8 * d + n), if_neg (by omega)]
    by_cases e : k = 8 * (d + 1) + n
    · rw [e, va_up_self, if_pos (by omega)]
      congr 1
      omega
    · rw [va_up_ne _ _ e, ih k]
      by_cases z : 8 * (d + 1) ≤ k ∧ k < 8 * (d + 1) + n
      · rw [if_pos z, if_pos (by omega)]
      · rw [if_neg z, if_neg (by omega)]
section Find
variable {P0 P1 P2 P3 P4 P5 : Nat → Int32} {vc vr vn ne vs : Nat → Nat}
theorem tkL_at (hR : RepP P0 P1 P2 P3 P4 P5 vc vr vn ne vs) (hI : InvP vc vr vn ne vs) {p v j : Nat} (hp : p < 8) (hv : 1 ≤ v) (hv2 : v ≤ vs p) (hj : j < vn (3 * p + v - 1)) {d : Nat} (hd : d < 8) {O1 : Nat → Int32} {W : WT} (hW : SRw (d + 1) O1 W) :
    rat 96 P4 (plc (nI p) (nI v) * 4 + nI j) = nI (ne (12 * (3 * p + v - 1) + 3 * j)) ∧ tkL P4 P5 (nI p) (nI v) ((nI d + 1) * 8) O1 (nI j) = setI (lft ne W (3 * p + v - 1) j) := by
  have h3 := hI.1 p
  have h4 := hI.2.2.1 (3 * p + v - 1)
  have ho := hI.2.2.2.1 (12 * (3 * p + v - 1) + 3 * j)
  obtain ⟨-, g1, g2, g3⟩ := hI.2.2.2.2.2.2 p hp v hv (by omega) j hj
  obtain ⟨e4, e5⟩ := (hR.2 p hp v hv hv2).2.2.2 j hj
  have hx : plc (nI p) (nI v) * 4 + nI j = nI (4 * (3 * p + v - 1) + j) := by rw [plc_at hv, x4_at]
  have e4' : rat 96 P4 (plc (nI p) (nI v) * 4 + nI j) = nI (ne (12 * (3 * p + v - 1) + 3 * j)) := by rw [hx, rat_at (by omega) (by omega), e4]
  refine ⟨e4', ?_⟩
  unfold tkL
  rw [e4', hx, rat_at (f := P5) (by omega) (by omega), e5, d8_at, rat_at (by omega) (by omega), hW _ (by omega), vset_set g1 g2 g3, setI_and]
  rfl
def TkP (d : Nat) (xs : List Nat) (O0 O1 : Nat → Int32) (R : Int32 × T3) : Option (List Nat × WT) → Prop
  | some (xs', W') => ∃ T : T3, R = (1, T) ∧ SRp xs' T.1 T.2.2 ∧ SRw (d + 1) T.2.1 W' ∧ Wf xs' ∧ xs.length ≤ xs'.length ∧ (∃ t, xs' = xs ++ t) ∧ (∀ k, k < xs.length → T.1 k = O0 k) ∧ ∀ k, k < 8 * (d + 1) → T.2.1 k = O1 k
  | none => ∃ T : T3, R = (0, T) ∧ (∀ k, k < xs.length → T.1 k = O0 k) ∧ ∀ k, k < 8 * (d + 1) → T.2.1 k = O1 k
theorem tkR_run (hR : RepP P0 P1 P2 P3 P4 P5 vc vr vn ne vs) (hI : InvP vc vr vn ne vs) {p v d : Nat} (hp : p < 8) (hv : 1 ≤ v) (hv2 : v ≤ vs p) (hd : d < 8) : ∀ (n j : Nat) (xs : List Nat) (W : WT) (O0 O1 : Nat → Int32) (on : Int32), j + n = vn (3 * p + v - 1) → Wf xs → SRp xs O0 on → SRw (d + 1) O1 W →
    TkP d xs O0 O1 (tkR P4 P5 (nI p) (nI v) ((nI d + 1) * 8) n j (O0, O1, on)) (tka ne (3 * p + v - 1) n j xs W) := by
  intro n
  induction n with
  | zero =>
    intro j xs W O0 O1 on hj hw hS hW
    exact ⟨(O0, O1, on), rfl, hS, hW, hw, Nat.le_refl _, ⟨[], (List.append_nil _).symm⟩, fun _ _ => rfl, fun _ _ => rfl⟩
  | succ n ih =>
    intro j xs W O0 O1 on hj hw hS hW
    obtain ⟨e4, eL⟩ := tkL_at hR hI hp hv hv2 (by omega : j < vn (3 * p + v - 1)) hd hW
    have ho : ne (12 * (3 * p + v - 1) + 3 * j) < 8 := by have := hI.2.2.2.1 (12 * (3 * p + v - 1) + 3 * j); omega
    unfold tkR tka
    dsimp only
    by_cases c : any3 (lft ne W (3 * p + v - 1) j) = true
    · rw [if_pos c, if_neg (by rw [eL, setI_0, c]; decide)]
      have hT : tkS P4 P5 (nI p) (nI v) ((nI d + 1) * 8) (O0, O1, on) (nI j) = (awO O0 on (nI (ne (12 * (3 * p + v - 1) + 3 * j))), va_up O1 (8 * (d + 1) + ne (12 * (3 * p + v - 1) + 3 * j)) (setI (lft ne W (3 * p + v - 1) j)), awn O0 on (nI (ne (12 * (3 * p + v - 1) + 3 * j)))) := by
        unfold tkS
        dsimp only
        rw [eL, e4, d8_at, rup_at (by omega) (by omega)]
      rw [hT]
      obtain ⟨s1, s2⟩ := aw_run hS hw ho
      have hw2 : SRw (d + 1) (va_up O1 (8 * (d + 1) + ne (12 * (3 * p + v - 1) + 3 * j)) (setI (lft ne W (3 * p + v - 1) j))) (va_up W (ne (12 * (3 * p + v - 1) + 3 * j)) (lft ne W (3 * p + v - 1) j)) := by
        intro q hq
        by_cases e : q = ne (12 * (3 * p + v - 1) + 3 * j)
        · rw [e, va_up_self, va_up_self]
        · rw [va_up_ne _ _ (by omega), va_up_ne _ _ e]
          exact hW q hq
      have h := ih (j + 1) _ _ _ _ _ (by omega) (adN_wf hw ho) s1 hw2
      obtain ⟨ta, hta⟩ := adN_pre xs (ne (12 * (3 * p + v - 1) + 3 * j))
      have hla : xs.length ≤ (adN xs (ne (12 * (3 * p + v - 1) + 3 * j))).length := by rw [hta, List.length_append]; omega
      generalize tka ne (3 * p + v - 1) n (j + 1) (adN xs (ne (12 * (3 * p + v - 1) + 3 * j))) (va_up W (ne (12 * (3 * p + v - 1) + 3 * j)) (lft ne W (3 * p + v - 1) j)) = K at h ⊢
      cases K with
      | some r =>
        obtain ⟨xs', W'⟩ := r
        obtain ⟨T, h1, h2, h3, h4, h5, ⟨t, h6⟩, h7, h8⟩ := h
        exact ⟨T, h1, h2, h3, h4, by omega, ⟨ta ++ t, by rw [h6, hta, List.append_assoc]⟩, fun k hk => by rw [h7 k (by omega), s2 k hk], fun k hk => by rw [h8 k hk, va_up_ne _ _ (by omega)]⟩
      | none =>
        obtain ⟨T, h1, h7, h8⟩ := h
        exact ⟨T, h1, fun k hk => by rw [h7 k (by omega), s2 k hk], fun k hk => by rw [h8 k hk, va_up_ne _ _ (by omega)]⟩
    · rw [if_neg c, if_pos (by rw [eL, setI_0]; simpa using c)]
      exact ⟨(O0, O1, on), rfl, fun _ _ => rfl, fun _ _ => rfl⟩
theorem tkF_run (hR : RepP P0 P1 P2 P3 P4 P5 vc vr vn ne vs) (hI : InvP vc vr vn ne vs) {v d : Nat} (hd : d < 8) {xs : List Nat} {W : WT} {O0 O1 : Nat → Int32} {on : Int32} (hl : d < xs.length) (hv : 1 ≤ v) (hv2 : v ≤ vs (gd xs d)) (hw : Wf xs) (hS : SRp xs O0 on) (hW : SRw d O1 W) :
    TkP d xs O0 O1 (tkF P3 P4 P5 (nI d) (nI v) (O0, O1, on)) (tka ne (3 * gd xs d + v - 1) (vn (3 * gd xs d + v - 1)) 0 xs (va_up W (gd xs d) (fun w => decide (w = v)))) := by
  have hp := hw.at hl
  have h3 := hI.1 (gd xs d)
  have h4 := hI.2.2.1 (3 * gd xs d + v - 1)
  have hl8 := hw.len
  have ep : rat 8 O0 (nI d) = nI (gd xs d) := by rw [rat_at (by omega) (by omega), hS.2 d hl]
  have en : (rat 24 P3 (plc (nI (gd xs d)) (nI v))).toNatClampNeg = vn (3 * gd xs d + v - 1) := by
    rw [plc_at hv, rat_at (by omega) (by omega), (hR.2 _ hp v hv hv2).2.2.1, nI_clamp (by omega)]
  unfold tkF
  dsimp only
  rw [ep, en, d8_at, rup_at (by omega) (by omega), vset_one hv (by omega)]
  have hw2 : SRw (d + 1) (va_up (tkC O1 (nI d) 8) (8 * (d + 1) + gd xs d) (setI (fun w => decide (w = v)))) (va_up W (gd xs d) (fun w => decide (w = v))) := by
    intro q hq
    by_cases e : q = gd xs d
    · rw [e, va_up_self, va_up_self]
    · rw [va_up_ne _ _ (by omega), va_up_ne _ _ e, tkC_at O1 hd 8 (Nat.le_refl _), if_pos (by omega), show 8 * (d + 1) + q - 8 = 8 * d + q by omega]
      exact hW q hq
  have h := tkR_run hR hI hp hv hv2 hd _ 0 xs _ _ _ on (Nat.zero_add _) hw hS hw2
  have fr : ∀ k, k < 8 * (d + 1) → va_up (tkC O1 (nI d) 8) (8 * (d + 1) + gd xs d) (setI (fun w => decide (w = v))) k = O1 k := fun k hk => by
    rw [va_up_ne _ _ (by omega), tkC_at O1 hd 8 (Nat.le_refl _), if_neg (by omega)]
  generalize tka ne (3 * gd xs d + v - 1) (vn (3 * gd xs d + v - 1)) 0 xs (va_up W (gd xs d) (fun w => decide (w = v))) = K at h ⊢
  cases K with
  | some r =>
    obtain ⟨xs', W'⟩ := r
    obtain ⟨T, h1, h2, h3, h4, h5, h6, h7, h8⟩ := h
    exact ⟨T, h1, h2, h3, h4, h5, h6, h7, fun k hk => by rw [h8 k hk, fr k hk]⟩
  | none =>
    obtain ⟨T, h1, h7, h8⟩ := h
    exact ⟨T, h1, h7, fun k hk => by rw [h8 k hk, fr k hk]⟩
end Find
section FiV
variable {f : TS → Int32 × TS} {P3 P4 P5 : Nat → Int32} {d part st bf v : Int32} {T : TS}
theorem fiV_skip (h : st &&& vset v v = 0) : fiV f P3 P4 P5 d part st bf v T = (0, T.1, T.2.1, bf, T.2.2.2) := by
  unfold fiV
  rw [if_pos h]
theorem fiV_no (h : ¬ st &&& vset v v = 0) {A : T3} (e : tkF P3 P4 P5 d v (T.1, T.2.1, T.2.2.1) = (0, A)) : fiV f P3 P4 P5 d part st bf v T = (0, A.1, A.2.1, bf, T.2.2.2) := by
  unfold fiV
  rw [if_neg h, e]
  exact if_pos rfl
theorem fiV_back (h : ¬ st &&& vset v v = 0) {A : T3} {B : TS} (e : tkF P3 P4 P5 d v (T.1, T.2.1, T.2.2.1) = (1, A)) (e2 : f (A.1, A.2.1, A.2.2, T.2.2.2) = (0, B)) : fiV f P3 P4 P5 d part st bf v T = (0, B.1, B.2.1, bf, B.2.2.2) := by
  unfold fiV
  rw [if_neg h, e]
  dsimp only
  rw [if_neg (by decide), e2]
  exact if_pos rfl
theorem fiV_ok (h : ¬ st &&& vset v v = 0) {A : T3} {B : TS} {x : Int32} (hx : ¬ x = 0) (e : tkF P3 P4 P5 d v (T.1, T.2.1, T.2.2.1) = (1, A)) (e2 : f (A.1, A.2.1, A.2.2, T.2.2.2) = (x, B)) : fiV f P3 P4 P5 d part st bf v T = (1, B.1, B.2.1, B.2.2.1, chw B.2.2.2 part v) := by
  unfold fiV
  rw [if_neg h, e]
  dsimp only
  rw [if_neg (by decide), e2]
  exact if_neg hx
end FiV
def FcP (d : Nat) (xs us : List Nat) (T : TS) (R : Int32 × TS) : Option (List Nat × List Nat) → Prop
  | none => R.1 = 0 ∧ R.2.2.2.1 = T.2.2.1 ∧ R.2.2.2.2 = 0 ∧ (∀ k, k < xs.length → R.2.1 k = T.1 k) ∧ ∀ k, k < 8 * (d + 1) → R.2.2.1 k = T.2.1 k
  | some (ys, ws) => ¬ R.1 = 0 ∧ Wf ys ∧ (∃ t, ys = xs ++ t) ∧ (∃ t, ws = us ++ t) ∧ (∀ i, d ≤ i → i < ys.length → chv R.2.2.2.2 (nI (gd ys i)) = nI (gd ws i)) ∧ ∀ p, p < 8 → (∀ i, d ≤ i → i < ys.length → gd ys i ≠ p) → chv R.2.2.2.2 (nI p) = 0
section Find2
variable {P0 P1 P2 P3 P4 P5 : Nat → Int32} {vc vr vn ne vs : Nat → Nat}
theorem cfg_none (vn ne : Nat → Nat) {f : List Nat → List Nat → WT → Option (List Nat × List Nat)} {xs us : List Nat} {W : WT} {v d : Nat} (hd : us.length = d) (h : tka ne (3 * gd xs d + v - 1) (vn (3 * gd xs d + v - 1)) 0 xs (va_up W (gd xs d) (fun w => decide (w = v))) = none) : cfg vn ne f xs us W v = none := by
  subst hd
  unfold cfg
  rw [h]
theorem cfg_some (vn ne : Nat → Nat) {f : List Nat → List Nat → WT → Option (List Nat × List Nat)} {xs us xs' : List Nat} {W W' : WT} {v d : Nat} (hd : us.length = d) (h : tka ne (3 * gd xs d + v - 1) (vn (3 * gd xs d + v - 1)) 0 xs (va_up W (gd xs d) (fun w => decide (w = v))) = some (xs', W')) : cfg vn ne f xs us W v = f xs' (us ++ [v]) W' := by
  subst hd
  unfold cfg
  rw [h]
theorem fc_base {d : Nat} {xs us : List Nat} {T : TS} (hw : Wf xs) (hl : xs.length ≤ d) (h0 : T.2.2.2 = 0) : FcP d xs us T (1, T) (some (xs, us)) :=
  ⟨(show ¬ (1 : Int32) = 0 by decide), hw, ⟨[], (List.append_nil _).symm⟩, ⟨[], (List.append_nil _).symm⟩, fun i h1 h2 => by omega, fun p _ _ => by dsimp only; rw [h0, chv_0]⟩
set_option maxHeartbeats 2000000 in
theorem fiF_run (hR : RepP P0 P1 P2 P3 P4 P5 vc vr vn ne vs) (hI : InvP vc vr vn ne vs) : ∀ (k d : Nat) (xs us : List Nat) (W : WT) (T : TS), us.length = d → k + d = 8 → Wf xs → d ≤ xs.length → SRp xs T.1 T.2.2.1 → SRw d T.2.1 W → T.2.2.2 = 0 → (∀ p, p < 8 → ∀ v, 1 ≤ v → v ≤ 3 → W p v = true → v ≤ vs p) →
    FcP d xs us T (fiF P3 P4 P5 k (nI d) T) (cfs vn ne k xs us W) := by
  intro k
  induction k with
  | zero =>
    intro d xs us W T hd hk hw hl hS hW h0 hv
    have := hw.len
    unfold fiF cfs
    exact fc_base hw (by omega) h0
  | succ k ih =>
    intro d xs us W T hd hk hw hl hS hW h0 hv
    have hl8 := hw.len
    have hc : T.2.2.1 ≤ nI d ↔ xs.length ≤ d := by rw [hS.1]; exact nI_leI (by omega) (by omega)
    unfold fiF cfs
    by_cases c : xs.length ≤ d
    · rw [if_pos (hc.mpr c), if_pos (by omega)]
      exact fc_base hw c h0
    · rw [if_neg (fun z => c (hc.mp z)), if_neg (by omega), hd]
      have hp := hw.at (k := d) (by omega)
      have ep : rat 8 T.1 (nI d) = nI (gd xs d) := by rw [rat_at (by omega) (by omega), hS.2 d (by omega)]
      have es : rat 72 T.2.1 (nI d * 8 + nI (gd xs d)) = setI (W (gd xs d)) := by rw [q8_at, rat_at (by omega) (by omega), hW _ hp]
      rw [ep, es]
      have key : ∀ n, n ≤ 3 → ∀ T' : TS, (∀ i, i < xs.length → T'.1 i = T.1 i) → (∀ i, i < 8 * (d + 1) → T'.2.1 i = T.2.1 i) → T'.2.2.1 = T.2.2.1 → T'.2.2.2 = 0 → FcP d xs us T (fiW (fiF P3 P4 P5 k (nI d + 1)) P3 P4 P5 (nI d) (nI (gd xs d)) (setI (W (gd xs d))) T.2.2.1 n T') (dfv (cfg vn ne (cfs vn ne k) xs us W) (W (gd xs d)) n) := by
        intro n
        induction n with
        | zero =>
          intro _ T' f1 f2 f3 f4
          exact ⟨rfl, f3, f4, f1, f2⟩
        | succ n ihn =>
          intro hn T' f1 f2 f3 f4
          have hst := setI_has (f := W (gd xs d)) (v := n + 1) (by omega) hn
          unfold fiW dfv
          cases hWv : W (gd xs d) (n + 1) with
          | false =>
            rw [fiV_skip (hst.mpr hWv)]
            dsimp only
            rw [if_pos rfl, if_neg (by decide)]
            exact ihn (by omega) _ f1 f2 rfl f4
          | true =>
            have hst' : ¬ setI (W (gd xs d)) &&& vset (nI (n + 1)) (nI (n + 1)) = 0 := fun z => by
              rw [hst.mp z] at hWv
              cases hWv
            have hS' : SRp xs T'.1 T'.2.2.1 := ⟨by rw [f3]; exact hS.1, fun i hi => by rw [f1 i hi]; exact hS.2 i hi⟩
            have hW' : SRw d T'.2.1 W := fun q hq => by rw [f2 _ (by omega)]; exact hW q hq
            have hv2 := hv _ hp (n + 1) (by omega) hn hWv
            have ht := tkF_run hR hI (by omega : d < 8) (by omega : d < xs.length) (by omega : 1 ≤ n + 1) hv2 hw hS' hW'
            rw [if_pos rfl]
            cases hK : tka ne (3 * gd xs d + (n + 1) - 1) (vn (3 * gd xs d + (n + 1) - 1)) 0 xs (va_up W (gd xs d) (fun w => decide (w = n + 1))) with
            | none =>
              rw [hK] at ht
              obtain ⟨A, h1, h7, h8⟩ := ht
              rw [fiV_no hst' h1, cfg_none vn ne hd hK]
              dsimp only
              rw [if_pos rfl]
              exact ihn (by omega) _ (fun i hi => by dsimp only; rw [h7 i hi, f1 i hi]) (fun i hi => by dsimp only; rw [h8 i hi, f2 i hi]) rfl f4
            | some r =>
              obtain ⟨xs', W'⟩ := r
              rw [hK] at ht
              obtain ⟨A, h1, h2, h3, h4, h5, ⟨ta, h6⟩, h7, h8⟩ := ht
              rw [cfg_some vn ne hd hK]
              have hlu : (us ++ [n + 1]).length = d + 1 := by rw [List.length_append, hd]; rfl
              have hv' : ∀ p, p < 8 → ∀ v, 1 ≤ v → v ≤ 3 → W' p v = true → v ≤ vs p := by
                intro p hp9 v v1 v3 hwv
                obtain ⟨-, t2, -⟩ := tka_some ne (3 * gd xs d + (n + 1) - 1) (vn (3 * gd xs d + (n + 1) - 1)) 0 xs _ (show tka ne _ _ 0 (exl ne _ xs 0) _ = some (xs', W') from hK)
                have h9 := ((t2 p v).mp hwv).1
                by_cases e : p = gd xs d
                · rw [e, va_up_self, decide_eq_true_eq] at h9
                  rw [e, h9]
                  exact hv2
                · rw [va_up_ne _ _ e] at h9
                  exact hv p hp9 v v1 v3 h9
              have hi := ih (d + 1) xs' (us ++ [n + 1]) W' (A.1, A.2.1, A.2.2, T'.2.2.2) hlu (by omega) h4 (by omega) h2 h3 f4 hv'
              rw [← nI_1] at hi
              rcases hB : fiF P3 P4 P5 k (nI d + 1) (A.1, A.2.1, A.2.2, T'.2.2.2) with ⟨x, B⟩
              rw [hB] at hi
              cases hC : cfs vn ne k xs' (us ++ [n + 1]) W' with
              | none =>
                rw [hC] at hi
                obtain ⟨b1, b2, b3, b4, b5⟩ := hi
                dsimp only at b1 b2 b3 b4 b5
                subst b1
                rw [fiV_back hst' h1 hB]
                dsimp only
                rw [if_pos rfl]
                exact ihn (by omega) _ (fun i hi => by dsimp only; rw [b4 i (by omega), h7 i hi, f1 i hi]) (fun i hi => by dsimp only; rw [b5 i (by omega), h8 i hi, f2 i hi]) rfl b3
              | some r =>
                obtain ⟨ys, ws⟩ := r
                rw [hC] at hi
                obtain ⟨b1, b2, ⟨t3, b3⟩, ⟨t4, b4⟩, b5, b6⟩ := hi
                dsimp only at b1 b5 b6
                rw [fiV_ok hst' b1 h1 hB]
                dsimp only
                rw [if_neg (by decide)]
                have eys : ys = xs ++ (ta ++ t3) := by rw [b3, h6, List.append_assoc]
                have ews : ws = us ++ ([n + 1] ++ t4) := by rw [b4, List.append_assoc]
                have hly : d < ys.length := by rw [eys, List.length_append]; omega
                have eyd : gd ys d = gd xs d := by rw [eys]; exact gd_app (by omega)
                have ewd : gd ws d = n + 1 := by rw [b4, gd_app (by omega), ← hd]; exact gd_last us (n + 1)
                have h00 : chv B.2.2.2 (nI (gd xs d)) = 0 := b6 _ hp (fun i i1 i2 => by
                  rw [← eyd]
                  exact fun z => gd_ne b2.1 (by omega : d < i) i2 z.symm)
                refine ⟨(show ¬ (1 : Int32) = 0 by decide), b2, ⟨_, eys⟩, ⟨_, ews⟩, fun i i1 i2 => ?_, fun p p8 pn => ?_⟩
                · dsimp only
                  rw [chv_chw hp (b2.at i2) hn h00]
                  by_cases e : i = d
                  · rw [e, if_pos eyd, ewd]
                  · rw [if_neg (by rw [← eyd]; exact fun z => gd_ne b2.1 (by omega : d < i) i2 z.symm)]
                    exact b5 i (by omega) i2
                · dsimp only
                  rw [chv_chw hp p8 hn h00, if_neg (by rw [← eyd]; exact fun z => pn d (Nat.le_refl _) hly z.symm)]
                  exact b6 p p8 (fun i i1 i2 => pn i (by omega) i2)
      exact key 3 (Nat.le_refl _) T (fun _ _ => rfl) (fun _ _ => rfl) rfl h0
theorem fnC_at (hR : RepP P0 P1 P2 P3 P4 P5 vc vr vn ne vs) (hI : InvP vc vr vn ne vs) (O1 : Nat → Int32) : ∀ n, n ≤ 8 → ∀ p, p < n → fnC P0 P2 O1 n p = setI (fun w => decide (w ≤ vs p) && decide (vr (3 * p + w - 1) = 0))
  | n + 1, hn, p, hp => by
    unfold fnC
    rw [rup_at (by omega) (by omega), pcur_run hR hI (by omega)]
    by_cases e : p = n
    · rw [e, va_up_self]
    · rw [va_up_ne _ _ e]
      exact fnC_at hR hI O1 n (by omega) p (by omega)
/-- the choice that the class finds is the first one of the recursion -/
def FnP (c : Int32) : Option (List Nat × List Nat) → Prop
  | none => c = 0
  | some (ys, ws) => ¬ c = 0 ∧ Wf ys ∧ ws.length = ys.length ∧ 1 ≤ ys.length ∧ (∀ i, i < ys.length → chv c (nI (gd ys i)) = nI (gd ws i)) ∧ (∀ p, p < 8 → (∀ i, i < ys.length → gd ys i ≠ p) → chv c (nI p) = 0) ∧ ∀ i, i < ys.length → 1 ≤ gd ws i ∧ gd ws i ≤ 3 ∧ gd ws i ≤ vs (gd ys i)
theorem fnF_run (hR : RepP P0 P1 P2 P3 P4 P5 vc vr vn ne vs) (hI : InvP vc vr vn ne vs) (O0 O1 : Nat → Int32) {r lo : Nat} (hr : r < 8) (hlo : 1 ≤ lo ∧ lo ≤ 3) : FnP (vs := vs) (fnF P0 P2 P3 P4 P5 O0 O1 (nI r) (nI lo)).2.2.2 (dfs vr vn ne vs lo 9 [r] []) := by
  have hw : Wf [r] := ⟨by simp, fun o ho => by rw [List.mem_singleton] at ho; omega⟩
  obtain ⟨W, hWd⟩ : ∃ W : WT, W = fun p w => (decide (w ≤ vs p) && decide (vr (3 * p + w - 1) = 0)) && (decide (¬ p = r) || decide (lo ≤ w)) := ⟨_, rfl⟩
  have hne := hI.2.2.2.1
  have hRW : RW vr vn ne vs lo [r] [] W := by
    intro p hp w w1 w3
    rw [hWd]
    unfold bas
    simp only [Bool.and_eq_true, Bool.or_eq_true, decide_eq_true_eq, List.length_nil]
    have hg : gd [r] 0 = r := rfl
    rw [hg]
    constructor
    · rintro ⟨⟨a1, a2⟩, a3⟩
      exact ⟨⟨a1, a2, fun e => a3.elim (fun z => absurd e z) id⟩, fun k hk => absurd hk (Nat.not_lt_zero _), fun k hk => absurd hk (Nat.not_lt_zero _)⟩
    · rintro ⟨⟨a1, a2, a3⟩, -⟩
      refine ⟨⟨a1, a2⟩, ?_⟩
      by_cases e : p = r
      · exact Or.inr (a3 e)
      · exact Or.inl e
  have hc : cfs vn ne 8 [r] [] W = dfs vr vn ne vs lo 9 [r] [] := cfs_dfs vr vn ne vs lo hne (fun p v j hp v1 v3 hj => (hI.2.2.2.2.2.2 p hp v v1 v3 j hj).1) 8 [r] [] W hw (by simp) (by simp) rfl (fun i hi => absurd hi (Nat.not_lt_zero _)) hRW (fun i hi => absurd hi (Nat.not_lt_zero _))
  have hS : SRp [r] (va_up O0 0 (nI r)) 1 := by
    refine ⟨rfl, fun k hk => ?_⟩
    have : k = 0 := by simp only [List.length_singleton] at hk; omega
    subst this
    rw [va_up_self]
    rfl
  have e1 : fnF P0 P2 P3 P4 P5 O0 O1 (nI r) (nI lo) = (fiF P3 P4 P5 8 (nI 0) (va_up O0 0 (nI r), va_up (fnC P0 P2 O1 8) r (setI (W r)), 1, 0)).2 := by
    unfold fnF
    rw [show (0 : Int32) = nI 0 from rfl, rup_at (by omega) (by omega), rup_at (by omega) (by omega), rat_at (by omega) (by omega), fnC_at hR hI O1 8 (Nat.le_refl _) r hr, show (3 : Int32) = nI 3 from rfl, vset_set hlo.1 hlo.2 (Nat.le_refl _), setI_and]
    refine congrArg (fun z => (fiF P3 P4 P5 8 (nI 0) (va_up O0 0 (nI r), va_up (fnC P0 P2 O1 8) r z, 1, nI 0)).2) (setI_congr (fun w w1 w3 => ?_))
    rw [hWd]
    dsimp only
    rw [decide_eq_true (p := w ≤ 3) w3, Bool.and_true, decide_eq_false (p := ¬ r = r) (fun z => z rfl), Bool.false_or]
  have hSW : SRw 0 (va_up (fnC P0 P2 O1 8) r (setI (W r))) W := by
    intro p hp
    rw [show 8 * 0 + p = p by omega]
    by_cases e : p = r
    · rw [e, va_up_self]
    · rw [va_up_ne _ _ e, fnC_at hR hI O1 8 (Nat.le_refl _) p hp]
      refine setI_congr (fun w w1 w3 => ?_)
      rw [hWd]
      dsimp only
      rw [decide_eq_true (p := ¬ p = r) e, Bool.true_or, Bool.and_true]
  have hrun := fiF_run hR hI 8 0 [r] [] W (va_up O0 0 (nI r), va_up (fnC P0 P2 O1 8) r (setI (W r)), 1, 0) rfl rfl hw (Nat.zero_le _) hS hSW rfl (fun p hp v v1 v3 hwv => by
    rw [hWd] at hwv
    simp only [Bool.and_eq_true, decide_eq_true_eq] at hwv
    exact hwv.1.1)
  rw [hc] at hrun
  rw [e1]
  have hso := dfs_sound vr vn ne vs lo hne 9 [r] []
  generalize dfs vr vn ne vs lo 9 [r] [] = K at hrun hso ⊢
  cases K with
  | none => exact hrun.2.2.1
  | some q =>
    obtain ⟨ys, ws⟩ := q
    obtain ⟨b1, b2, ⟨t3, b3⟩, -, b5, b6⟩ := hrun
    obtain ⟨c1, c2, -, -, c5⟩ := hso ys ws hw (Nat.zero_le _) rfl
    have hl : 1 ≤ ys.length := by rw [b3, List.length_append]; simp only [List.length_singleton]; omega
    have hsn : ∀ i, i < ys.length → 1 ≤ gd ws i ∧ gd ws i ≤ 3 ∧ gd ws i ≤ vs (gd ys i) := fun i hi => by
      obtain ⟨-, -, s3, -, s5, s6⟩ := c5 i (Nat.zero_le _) hi
      exact ⟨s5, s6, s3⟩
    refine ⟨fun z => ?_, b2, c2, hl, fun i hi => b5 i (Nat.zero_le _) hi, fun p hp hn => b6 p hp (fun i _ hi => hn i hi), hsn⟩
    have h5 := b5 0 (Nat.zero_le _) (by omega)
    rw [z, chv_0] at h5
    have := hsn 0 (by omega)
    exact nI_ne0 (by omega) (by omega) h5.symm
end Find2
