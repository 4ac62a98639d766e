/-! Rows at natural places; choices of two bits a part; sets of versions. -/
theorem rat_at {n : Nat} {f : Nat → Int32} {j : Nat} (h : j < n) (hn : n ≤ 4000) : rat n f (nI j) = f j := by
  unfold rat
  rw [if_pos ⟨nI_pos' (by omega), nI_lt h (by omega)⟩, nI_clamp (by omega)]
theorem rup_at {n : Nat} {f : Nat → Int32} {j : Nat} {x : Int32} (h : j < n) (hn : n ≤ 4000) : rup n f (nI j) x = va_up f j x := by
  unfold rup
  rw [if_pos ⟨nI_pos' (by omega), nI_lt h (by omega)⟩, nI_clamp (by omega), up_I]
theorem plc_at {p v : Nat} (hv : 1 ≤ v) : plc (nI p) (nI v) = nI (3 * p + v - 1) := by
  unfold plc
  rw [show (3 : Int32) = nI 3 from rfl, pk_mul, nI_add, show (1 : Int32) = nI 1 from rfl, pk_sub (by omega), Nat.mul_comm p 3]
theorem q8_at (q p : Nat) : nI q * 8 + nI p = nI (8 * q + p) := by
  rw [show (8 : Int32) = nI 8 from rfl, pk_mul, nI_add, Nat.mul_comm]
theorem x4_at (q p : Nat) : nI q * 4 + nI p = nI (4 * q + p) := by
  rw [show (4 : Int32) = nI 4 from rfl, pk_mul, nI_add, Nat.mul_comm]
theorem d8_at (d p : Nat) : (nI d + 1) * 8 + nI p = nI (8 * (d + 1) + p) := by
  rw [nI_1, q8_at]
theorem i32_aor (x y z : Int32) : (x ||| y) &&& z = (x &&& z) ||| (y &&& z) := by
  rw [← Int32.toBitVec_inj]
  simp only [Int32.toBitVec_and, Int32.toBitVec_or]
  exact BitVec.and_or_distrib_right
theorem chv_or (c d p : Int32) : chv (c ||| d) p = chv c p ||| chv d p := by
  unfold chv
  rw [Int32.shiftRight_or, i32_aor]
theorem chv_put_dec : ∀ p : Fin 8, ∀ r : Fin 8, ∀ v : Fin 4, chv (nI v.val <<< ((2 * nI p.val) &&& 31)) (nI r.val) = if r.val = p.val then nI v.val else 0 := by decide +kernel
theorem chv_put {p r v : Nat} (hp : p < 8) (hr : r < 8) (hv : v ≤ 3) : chv (nI v <<< ((2 * nI p) &&& 31)) (nI r) = if r = p then nI v else 0 := chv_put_dec ⟨p, hp⟩ ⟨r, hr⟩ ⟨v, by omega⟩
theorem chv_chw {c : Int32} {p r v : Nat} (hp : p < 8) (hr : r < 8) (hv : v ≤ 3) (h0 : chv c (nI p) = 0) : chv (chw c (nI p) (nI v)) (nI r) = if r = p then nI v else chv c (nI r) := by
  unfold chw
  rw [chv_or, chv_put hp hr hv]
  by_cases e : r = p
  · rw [if_pos e, if_pos e, e, h0, Int32.zero_or]
  · rw [if_neg e, if_neg e, Int32.or_zero]
theorem chv_0 (p : Int32) : chv 0 p = 0 := by
  unfold chv
  rw [Int32.zero_shiftRight, Int32.zero_and]
def sb3 (a b c : Bool) : Int32 := (if a = true then 2 else 0) ||| ((if b = true then 4 else 0) ||| (if c = true then 8 else 0))
theorem sb3_and : ∀ a b c d e f : Bool, sb3 a b c &&& sb3 d e f = sb3 (a && d) (b && e) (c && f) := by decide +kernel
theorem sb3_or : ∀ a b c d e f : Bool, sb3 a b c ||| sb3 d e f = sb3 (a || d) (b || e) (c || f) := by decide +kernel
theorem sb3_0 : ∀ a b c : Bool, sb3 a b c = 0 ↔ (a || (b || c)) = false := by decide +kernel
def setI (f : Nat → Bool) : Int32 := sb3 (f 1) (f 2) (f 3)
theorem setI_congr {f g : Nat → Bool} (h : ∀ w, 1 ≤ w → w ≤ 3 → f w = g w) : setI f = setI g := by
  unfold setI
  rw [h 1 (by omega) (by omega), h 2 (by omega) (by omega), h 3 (by omega) (by omega)]
theorem setI_and (f g : Nat → Bool) : setI f &&& setI g = setI (fun w => f w && g w) := sb3_and _ _ _ _ _ _
theorem setI_or (f g : Nat → Bool) : setI f ||| setI g = setI (fun w => f w || g w) := sb3_or _ _ _ _ _ _
theorem setI_0 {f : Nat → Bool} : setI f = 0 ↔ any3 f = false := sb3_0 _ _ _
theorem vset_dec : ∀ l : Fin 4, ∀ g : Fin 4, 1 ≤ l.val → l.val ≤ g.val → vset (nI l.val) (nI g.val) = setI (fun w => decide (l.val ≤ w) && decide (w ≤ g.val)) := by decide +kernel
theorem vset_set {l g : Nat} (h1 : 1 ≤ l) (h2 : l ≤ g) (h3 : g ≤ 3) : vset (nI l) (nI g) = setI (fun w => decide (l ≤ w) && decide (w ≤ g)) := vset_dec ⟨l, by omega⟩ ⟨g, by omega⟩ h1 h2
theorem vset_one {v : Nat} (h1 : 1 ≤ v) (h3 : v ≤ 3) : vset (nI v) (nI v) = setI (fun w => decide (w = v)) := by
  rw [vset_set h1 (Nat.le_refl _) h3]
  refine setI_congr (fun w _ _ => ?_)
  by_cases e : w = v
  · subst e; simp
  · rw [decide_eq_false e]
    by_cases z : v ≤ w
    · rw [decide_eq_false (p := w ≤ v) (by omega), Bool.and_false]
    · rw [decide_eq_false z, Bool.false_and]
theorem setI_has {f : Nat → Bool} {v : Nat} (h1 : 1 ≤ v) (h3 : v ≤ 3) : setI f &&& vset (nI v) (nI v) = 0 ↔ f v = false := by
  rw [vset_one h1 h3, setI_and, setI_0]
  constructor
  · intro h
    cases e : f v with
    | false => rfl
    | true =>
      have : any3 (fun w => f w && decide (w = v)) = true := any3_iff.mpr ⟨v, h1, h3, by rw [e, decide_eq_true rfl]; rfl⟩
      rw [this] at h
      cases h
  · intro h
    cases e : any3 (fun w => f w && decide (w = v)) with
    | false => rfl
    | true =>
      obtain ⟨w, _, _, hw⟩ := any3_iff.mp e
      rw [Bool.and_eq_true, decide_eq_true_eq] at hw
      rw [hw.2, h] at hw
      cases hw.1
/-- the class' rows of parts say what the reference's rows say -/
def RepP (P0 P1 P2 P3 P4 P5 : Nat → Int32) (vc vr vn ne vs : Nat → Nat) : Prop :=
  (∀ p, p < 8 → P0 p = nI (vs p)) ∧ ∀ p, p < 8 → ∀ v, 1 ≤ v → v ≤ vs p → P1 (3 * p + v - 1) = nI (vc (3 * p + v - 1)) ∧ P2 (3 * p + v - 1) = nI (vr (3 * p + v - 1)) ∧ P3 (3 * p + v - 1) = nI (vn (3 * p + v - 1)) ∧ ∀ j, j < vn (3 * p + v - 1) → P4 (4 * (3 * p + v - 1) + j) = nI (ne (12 * (3 * p + v - 1) + 3 * j)) ∧ P5 (4 * (3 * p + v - 1) + j) = vset (nI (ne (12 * (3 * p + v - 1) + 3 * j + 1))) (nI (ne (12 * (3 * p + v - 1) + 3 * j + 2)))
def InvP (vc vr vn ne vs : Nat → Nat) : Prop :=
  (∀ k, vs k ≤ 3) ∧ (∀ k, vr k ≤ 1) ∧ (∀ k, vn k ≤ 4) ∧ (∀ k, ne k ≤ 7) ∧ (∀ k, vc k ≤ 1000) ∧ (∀ p, p < 8 → ∀ v, vs p < v → v ≤ 3 → vr (3 * p + v - 1) = 0 ∧ vn (3 * p + v - 1) = 0) ∧ ∀ p, p < 8 → ∀ v, 1 ≤ v → v ≤ 3 → ∀ j, j < vn (3 * p + v - 1) → ne (12 * (3 * p + v - 1) + 3 * j) ≠ p ∧ 1 ≤ ne (12 * (3 * p + v - 1) + 3 * j + 1) ∧ ne (12 * (3 * p + v - 1) + 3 * j + 1) ≤ ne (12 * (3 * p + v - 1) + 3 * j + 2) ∧ ne (12 * (3 * p + v - 1) + 3 * j + 2) ≤ 3
theorem setI_none : setI (fun _ => false) = 0 := by decide +kernel
theorem pcN_run {P0 P1 P2 P3 P4 P5 : Nat → Int32} {vc vr vn ne vs : Nat → Nat} (hR : RepP P0 P1 P2 P3 P4 P5 vc vr vn ne vs) (hI : InvP vc vr vn ne vs) {p : Nat} (hp : p < 8) : ∀ n, n ≤ 3 → ∀ s, pcN P0 P2 (nI p) n s = s ||| setI (fun w => decide (4 - n ≤ w) && (decide (w ≤ vs p) && decide (vr (3 * p + w - 1) = 0)))
  | 0, _, s => by
    rw [setI_congr (g := fun _ => false) (fun w h1 h3 => by rw [decide_eq_false (p := 4 - 0 ≤ w) (by omega), Bool.false_and]), setI_none, Int32.or_zero]
    rfl
  | n + 1, hn, s => by
    unfold pcN
    have h0 : rat 8 P0 (nI p) = nI (vs p) := by rw [rat_at hp (by omega), hR.1 p hp]
    have hv3 := hI.1 p
    obtain ⟨v, hv⟩ : ∃ v, v = 4 - (n + 1) := ⟨_, rfl⟩
    have e4 : 4 - n = v + 1 := by omega
    rw [h0, ← hv]
    by_cases c : nI (vs p) < nI v
    · rw [if_pos c]
      have c' : vs p < v := (nI_ltI (by omega) (by omega)).mp c
      rw [setI_congr (g := fun _ => false) (fun w h1 h3 => ?_), setI_none, Int32.or_zero]
      by_cases z : v ≤ w
      · rw [decide_eq_false (p := w ≤ vs p) (by omega), Bool.false_and, Bool.and_false]
      · rw [decide_eq_false z, Bool.false_and]
    · rw [if_neg c]
      have c' : v ≤ vs p := Nat.not_lt.mp (fun z => c (nI_lt z (by omega)))
      have h2 : rat 24 P2 (plc (nI p) (nI v)) = nI (vr (3 * p + v - 1)) := by rw [plc_at (by omega), rat_at (by omega) (by omega), (hR.2 p hp v (by omega) c').2.1]
      rw [h2]
      have hr1 := hI.2.1 (3 * p + v - 1)
      rw [pcN_run hR hI hp n (by omega), pcN_run hR hI hp n (by omega), e4]
      by_cases g : vr (3 * p + v - 1) = 0
      · rw [if_pos (by rw [g]; rfl), vset_one (by omega) (by omega), Int32.or_assoc, setI_or]
        congr 1
        refine setI_congr (fun w h1 h3 => ?_)
        by_cases z : w = v
        · subst z
          rw [decide_eq_true (p := w = w) rfl, decide_eq_true (p := w ≤ w) (Nat.le_refl _), decide_eq_true c', decide_eq_true g]
          rfl
        · rw [decide_eq_false z, Bool.false_or]
          by_cases y : v ≤ w
          · rw [decide_eq_true y, decide_eq_true (p := v + 1 ≤ w) (by omega)]
          · rw [decide_eq_false y, decide_eq_false (p := v + 1 ≤ w) (by omega)]
      · rw [if_neg (show ¬ nI (vr (3 * p + v - 1)) = 0 from fun q => g ((nI_eq (b := 0) (by omega) (by omega)).mp q))]
        congr 1
        refine setI_congr (fun w h1 h3 => ?_)
        by_cases z : w = v
        · subst z
          rw [decide_eq_false g, Bool.and_false, Bool.and_false, Bool.and_false]
        · by_cases y : v ≤ w
          · rw [decide_eq_true y, decide_eq_true (p := v + 1 ≤ w) (by omega)]
          · rw [decide_eq_false y, decide_eq_false (p := v + 1 ≤ w) (by omega)]
theorem pcur_run {P0 P1 P2 P3 P4 P5 : Nat → Int32} {vc vr vn ne vs : Nat → Nat} (hR : RepP P0 P1 P2 P3 P4 P5 vc vr vn ne vs) (hI : InvP vc vr vn ne vs) {p : Nat} (hp : p < 8) : pcur P0 P2 (nI p) = setI (fun w => decide (w ≤ vs p) && decide (vr (3 * p + w - 1) = 0)) := by
  unfold pcur
  rw [pcN_run hR hI hp 3 (Nat.le_refl _), Int32.zero_or]
  refine setI_congr (fun w h1 h3 => ?_)
  rw [decide_eq_true (p := 4 - 3 ≤ w) (by omega), Bool.true_and]
