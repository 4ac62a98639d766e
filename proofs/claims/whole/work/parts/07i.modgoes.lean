/-! The reference: goes, comes, forget. -/
theorem b_fit (c : Prop) [Decidable c] : narrow .boolean (.int (if c then (1 : Int32) else 0)) = .int (if c then (1 : Int32) else 0) := by split <;> rfl
set_option maxHeartbeats 4000000 in
set_option maxRecDepth 100000 in
/-- reference: inN -/
theorem k9_inN (l : Launch) (D : va_G) (tys : List (ClassId × FieldType)) (cI : ClassId) (ht : tys[0]? = some (cI, .int)) (ad : Nat → Nat) (vc : Nat → Nat) (vr : Nat → Nat) (vn : Nat → Nat) (ne : Nat → Nat) (vs : Nat → Nat) (li : Nat → Nat) (ba : Nat → Nat) (de : Nat → Nat) (qp : Nat → Nat) (qt : Nat → Nat) (ql : Nat → Nat) (qs : Nat → Nat) (qc : Nat → Nat) (ch : Nat → Nat) (ap : Nat → Nat) (un : Nat → Int32) (ro : Nat → Nat) (pi : Nat → Nat) (si : Nat → Nat) (pl : Nat → Int32) (rq : Nat) (dy : Nat) (en : Nat) (th : Int32) (x a b : Nat) (hx : x < 100) (ha : a < 100) (hb : b < 100) : CId l yX9_in wsX9_in 0 D tys [.ref (ad 0), .int (nI x), .int (nI a), .int (nI b)] (wMod cI ad vc vr vn ne vs li ba de qp qt ql qs qc ch ap un ro pi si pl rq dy en th) (if a ≤ x ∧ x ≤ b then 1 else 0) (wMod cI ad vc vr vn ne vs li ba de qp qt ql qs qc ch ap un ro pi si pl rq dy en th) := by
  refine CI_of (maxL := 4) (cc := cX9_in) (y := yX9_in) rfl rfl (Nat.le_of_ble_eq_true rfl) (fun X hl hD hk hn hcz hsz o fin => ?_)
  subst hl; subst hD; subst hk
  refine V_iload_n (pc := 0) o dX9_in_0 rfl ?_
  refine V_iload_n (pc := 1) o dX9_in_1 rfl ?_
  refine V_icmp_ltN (pc := 2) o 14 x a rfl rfl (by omega) (by omega) dX9_in_2 (by decide) (fun c2 => ?_) (fun c2 => ?_)
  · refine V_iconst (pc := 14) o 0 dX9_in_14 (by decide) ?_
    exact fin 15 _ _ () dX9_in_15 rfl (by first | (rw [if_pos ⟨by omega, by omega⟩]; done) | (rw [if_neg (by omega)]; done))
  · refine V_iload_n (pc := 5) o dX9_in_5 rfl ?_
    refine V_iload_n (pc := 6) o dX9_in_6 rfl ?_
    refine V_icmp_gtN (pc := 7) o 14 x b rfl rfl (by omega) (by omega) dX9_in_7 (by decide) (fun c7 => ?_) (fun c7 => ?_)
    · refine V_iconst (pc := 14) o 0 dX9_in_14 (by decide) ?_
      exact fin 15 _ _ () dX9_in_15 rfl (by first | (rw [if_pos ⟨by omega, by omega⟩]; done) | (rw [if_neg (by omega)]; done))
    · refine V_iconst (pc := 10) o 1 dX9_in_10 (by decide) ?_
      refine V_goto (pc := 11) o 15 dX9_in_11 (by decide) ?_
      exact fin 15 _ _ () dX9_in_15 rfl (by first | (rw [if_pos ⟨by omega, by omega⟩]; done) | (rw [if_neg (by omega)]; done))
def b2i (b : Bool) : Int32 := if b = true then 1 else 0
def allN (f : Nat → Bool) : Nat → Bool
  | 0 => true
  | n + 1 => allN f n && f n
theorem bi_t {G : Bool} {f : Nat → Bool} {j : Nat} (h : f j = true) : b2i (G && allN f j) &&& 1 = b2i (G && allN f (j + 1)) := by
  rw [allN, h, Bool.and_true]
  cases (G && allN f j) <;> decide
theorem bi_f {G : Bool} {f : Nat → Bool} {j : Nat} (h : f j = false) : b2i (G && allN f j) &&& 0 = b2i (G && allN f (j + 1)) := by
  rw [allN, h, Bool.and_false, Bool.and_false]
  cases (G && allN f j) <;> decide
def gb (ne : Nat → Nat) (p v x j : Nat) : Bool := decide (¬ ne (12 * x + 3 * j) = p) || (decide (ne (12 * x + 3 * j + 1) ≤ v) && decide (v ≤ ne (12 * x + 3 * j + 2)))
theorem gb_1 {ne : Nat → Nat} {p v x j : Nat} (h : ¬ ne (12 * x + 3 * j) = p) : gb ne p v x j = true := by simp [gb, h]
theorem gb_2 {ne : Nat → Nat} {p v x j : Nat} (h : ne (12 * x + 3 * j + 1) ≤ v ∧ v ≤ ne (12 * x + 3 * j + 2)) : gb ne p v x j = true := by simp [gb, h.1, h.2]
theorem gb_3 {ne : Nat → Nat} {p v x j : Nat} (h0 : ne (12 * x + 3 * j) = p) (h : ¬ (ne (12 * x + 3 * j + 1) ≤ v ∧ v ≤ ne (12 * x + 3 * j + 2))) : gb ne p v x j = false := by
  simp only [gb, h0, not_true, decide_false, Bool.false_or]
  rw [← Bool.decide_and]
  exact decide_eq_false h
def gx (ro pi : Nat → Nat) (k : Nat) : Nat := 3 * ro k + pi k - 1
def gk (vn ne ro pi : Nat → Nat) (p v k : Nat) : Bool := allN (gb ne p v (gx ro pi k)) (vn (gx ro pi k))
def gc (ne : Nat → Nat) (pi : Nat → Nat) (pl : Nat → Int32) (at_ x j : Nat) : Bool := decide (pl (ne (12 * x + 3 * j)) < 0) || (decide (nI at_ ≤ pl (ne (12 * x + 3 * j))) || (decide (ne (12 * x + 3 * j + 1) ≤ pi (pl (ne (12 * x + 3 * j))).toNatClampNeg) && decide (pi (pl (ne (12 * x + 3 * j))).toNatClampNeg ≤ ne (12 * x + 3 * j + 2))))
def goF (vr vn ne ro pi : Nat → Nat) (pl : Nat → Int32) (at_ v : Nat) : Bool := (decide (vr (3 * ro at_ + v - 1) = 0) && allN (gk vn ne ro pi (ro at_) v) at_) && allN (gc ne pi pl at_ (3 * ro at_ + v - 1)) (vn (3 * ro at_ + v - 1))
theorem hiX9_goes : ∀ w ∈ wsX90, w ∈ wsX9_goes := by decide +kernel
theorem lkX9_goes_16 : Cond.fieldLink RX9 16 RX9 "vn" "[I" ∈ wsX9_goes := by decide +kernel
theorem lkX9_goes_19 : Cond.fieldLink RX9 19 RX9 "needs" "[I" ∈ wsX9_goes := by decide +kernel
set_option maxHeartbeats 4000000 in
set_option maxRecDepth 100000 in
theorem lpX9_goesB {X : XT} (o : OkX X cX9_goes RX9 wsX9_goes 1) (hn : XN X = 9) (cI : ClassId) (ht : (XK X)[0]? = some (cI, .int)) (ad : Nat → Nat) (vc : Nat → Nat) (vr : Nat → Nat) (vn : Nat → Nat) (ne : Nat → Nat) (vs : Nat → Nat) (li : Nat → Nat) (ba : Nat → Nat) (de : Nat → Nat) (qp : Nat → Nat) (qt : Nat → Nat) (ql : Nat → Nat) (qs : Nat → Nat) (qc : Nat → Nat) (ch : Nat → Nat) (ap : Nat → Nat) (un : Nat → Int32) (ro : Nat → Nat) (pi : Nat → Nat) (si : Nat → Nat) (pl : Nat → Int32) (rq : Nat) (dy : Nat) (en : Nat) (th : Int32) (at_ v p k x : Nat) (G : Bool) (hx : x < 24) (hv : v < 100) (hp : p < 100) (hvn : ∀ k, vn k ≤ 4) (hne : ∀ k, ne k ≤ 7) (kk : V X 0 0 (wMod cI ad vc vr vn ne vs li ba de qp qt ql qs qc ch ap un ro pi si pl rq dy en th) 139 [(0, .ref (ad 0)), (1, .int (nI at_)), (2, .int (nI v)), (3, .int (nI p)), (4, .int (b2i (G && allN (gb ne p v x) (vn x)))), (5, .int (nI k)), (6, .int (nI x)), (7, .int (nI ((vn x))))] []) : ∀ (m j : Nat), (vn x) - j < m → j ≤ (vn x) → V X 0 0 (wMod cI ad vc vr vn ne vs li ba de qp qt ql qs qc ch ap un ro pi si pl rq dy en th) 62 [(0, .ref (ad 0)), (1, .int (nI at_)), (2, .int (nI v)), (3, .int (nI p)), (4, .int (b2i (G && allN (gb ne p v x) j))), (5, .int (nI k)), (6, .int (nI x)), (7, .int (nI j))] [] := by
  intro m
  induction m with
  | zero => intro j h1; exact absurd h1 (Nat.not_lt_zero _)
  | succ m ih =>
    intro j h1 h2
    refine V_iload (pc := 62) o dX9_goes_62 rfl ?_
    refine V_aload_n (pc := 64) o dX9_goes_64 rfl ?_
    refine V_get (pc := 65) o 0 2 hiX9_goes rfl rfl (by decide) lkX9_goes_16 rfl rfl dX9_goes_65 ?_
    refine V_iload (pc := 68) o dX9_goes_68 rfl ?_
    refine V_ialdN (pc := 70) o 3 vn x rfl ht rfl (by have := hvn x; have := hne (12 * x + 3 * j); omega) (by decide) dX9_goes_70 ?_
    refine V_icmp_geN (pc := 71) o 139 j (vn x) rfl rfl (by have := hvn x; have := hne (12 * x + 3 * j); omega) (by have := hvn x; have := hne (12 * x + 3 * j); omega) dX9_goes_71 (by decide) (fun c71 => ?_) (fun c71 => ?_)
    · have e1 : j = (vn x) := by omega
      rw [e1]
      exact V_sub (lc2 := [(0, .ref (ad 0)), (1, .int (nI at_)), (2, .int (nI v)), (3, .int (nI p)), (4, .int (b2i (G && allN (gb ne p v x) (vn x)))), (5, .int (nI k)), (6, .int (nI x)), (7, .int (nI ((vn x))))]) ⟨rfl, rfl, rfl, rfl, rfl, rfl, rfl, rfl, trivial⟩ kk
    · refine V_bipush (pc := 74) o 12 dX9_goes_74 (by decide) ?_
      refine V_iload (pc := 76) o dX9_goes_76 rfl ?_
      refine V_imulN (pc := 78) o 12 x rfl rfl dX9_goes_78 ?_
      refine V_iconst (pc := 79) o 3 dX9_goes_79 (by decide) ?_
      refine V_iload (pc := 80) o dX9_goes_80 rfl ?_
      refine V_imulN (pc := 82) o 3 j rfl rfl dX9_goes_82 ?_
      refine V_iaddN (pc := 83) o (12 * x) (3 * j) rfl rfl dX9_goes_83 ?_
      refine V_istore (pc := 84) o dX9_goes_84 (by rw [hn]; decide) ?_
      refine V_iload (pc := 86) o dX9_goes_86 rfl ?_
      refine V_aload_n (pc := 88) o dX9_goes_88 rfl ?_
      refine V_get (pc := 89) o 0 3 hiX9_goes rfl rfl (by decide) lkX9_goes_19 rfl rfl dX9_goes_89 ?_
      refine V_iload (pc := 92) o dX9_goes_92 rfl ?_
      refine V_ialdN (pc := 94) o 4 ne ((12 * x) + (3 * j)) rfl ht rfl (by have := hvn x; have := hne (12 * x + 3 * j); omega) (by decide) dX9_goes_94 ?_
      refine V_iload_n (pc := 95) o dX9_goes_95 rfl ?_
      refine V_icmp_neN (pc := 96) o 125 (ne ((12 * x) + (3 * j))) p rfl rfl (by have := hvn x; have := hne (12 * x + 3 * j); omega) (by have := hvn x; have := hne (12 * x + 3 * j); omega) dX9_goes_96 (by decide) (fun c96 => ?_) (fun c96 => ?_)
      · refine V_iconst (pc := 125) o 1 dX9_goes_125 (by decide) ?_
        refine V_goto (pc := 126) o 130 dX9_goes_126 (by decide) ?_
        refine V_iand (pc := 130) o dX9_goes_130 ?_
        refine V_istore (pc := 131) o dX9_goes_131 (by rw [hn]; decide) ?_
        refine V_iincN (pc := 133) o j 1 rfl dX9_goes_133 (by rw [hn]; decide) rfl (by decide) ?_
        refine V_goto (pc := 136) o 62 dX9_goes_136 (by decide) ?_
        refine V_eq (ws2 := wMod cI ad vc vr vn ne vs li ba de qp qt ql qs qc ch ap un ro pi si pl rq dy en th) (by rfl) rfl ?_
        refine V_sub (lc2 := [(0, .ref (ad 0)), (1, .int (nI at_)), (2, .int (nI v)), (3, .int (nI p)), (4, .int (b2i (G && allN (gb ne p v x) (j + 1)))), (5, .int (nI k)), (6, .int (nI x)), (7, .int (nI ((j + 1))))]) ⟨rfl, rfl, rfl, rfl, lc_e (by first | exact bi_t (gb_1 (by omega)) | exact bi_t (gb_2 (by omega)) | exact bi_f (gb_3 (by omega) (by omega))), rfl, rfl, lc_e (by rfl), trivial⟩ ?_
        exact ih (j + 1) (by omega) (by omega)
      · refine V_aload_n (pc := 99) o dX9_goes_99 rfl ?_
        refine V_iload_n (pc := 100) o dX9_goes_100 rfl ?_
        refine V_aload_n (pc := 101) o dX9_goes_101 rfl ?_
        refine V_get (pc := 102) o 0 3 hiX9_goes rfl rfl (by decide) lkX9_goes_19 rfl rfl dX9_goes_102 ?_
        refine V_iload (pc := 105) o dX9_goes_105 rfl ?_
        refine V_iconst (pc := 107) o 1 dX9_goes_107 (by decide) ?_
        refine V_iaddN (pc := 108) o ((12 * x) + (3 * j)) 1 rfl rfl dX9_goes_108 ?_
        refine V_ialdN (pc := 109) o 4 ne (((12 * x) + (3 * j)) + 1) rfl ht rfl (by have := hvn x; have := hne (12 * x + 3 * j); omega) (by decide) dX9_goes_109 ?_
        refine V_aload_n (pc := 110) o dX9_goes_110 rfl ?_
        refine V_get (pc := 111) o 0 3 hiX9_goes rfl rfl (by decide) lkX9_goes_19 rfl rfl dX9_goes_111 ?_
        refine V_iload (pc := 114) o dX9_goes_114 rfl ?_
        refine V_iconst (pc := 116) o 2 dX9_goes_116 (by decide) ?_
        refine V_iaddN (pc := 117) o ((12 * x) + (3 * j)) 2 rfl rfl dX9_goes_117 ?_
        refine V_ialdN (pc := 118) o 4 ne (((12 * x) + (3 * j)) + 2) rfl ht rfl (by have := hvn x; have := hne (12 * x + 3 * j); omega) (by decide) dX9_goes_118 ?_
        refine V_rVi (pc := 119) o (k9_inN _ _ _ cI ht ad vc vr vn ne vs li ba de qp qt ql qs qc ch ap un ro pi si pl rq dy en th v (ne (((12 * x) + (3 * j)) + 1)) (ne (((12 * x) + (3 * j)) + 2)) (by have := hne (12 * x + 3 * j + 1); have := hne (12 * x + 3 * j + 2); omega) (by have := hne (12 * x + 3 * j + 1); have := hne (12 * x + 3 * j + 2); omega) (by have := hne (12 * x + 3 * j + 1); have := hne (12 * x + 3 * j + 2); omega)) 0 21 gX9_goes_X9_in rfl hdX9_in ⟨by omega, by decide⟩ rfl rfl rfl (Nat.le_of_ble_eq_true rfl) dX9_goes_119 rfl ?_
        refine V_ite (fun b119 => ?_) (fun b119 => ?_)
        · refine V_if_eq (pc := 122) o 129 dX9_goes_122 (by decide) (fun c122 => absurd c122 (by decide)) (fun _ => ?_)
          refine V_iconst (pc := 125) o 1 dX9_goes_125 (by decide) ?_
          refine V_goto (pc := 126) o 130 dX9_goes_126 (by decide) ?_
          refine V_iand (pc := 130) o dX9_goes_130 ?_
          refine V_istore (pc := 131) o dX9_goes_131 (by rw [hn]; decide) ?_
          refine V_iincN (pc := 133) o j 1 rfl dX9_goes_133 (by rw [hn]; decide) rfl (by decide) ?_
          refine V_goto (pc := 136) o 62 dX9_goes_136 (by decide) ?_
          refine V_eq (ws2 := wMod cI ad vc vr vn ne vs li ba de qp qt ql qs qc ch ap un ro pi si pl rq dy en th) (by rfl) rfl ?_
          refine V_sub (lc2 := [(0, .ref (ad 0)), (1, .int (nI at_)), (2, .int (nI v)), (3, .int (nI p)), (4, .int (b2i (G && allN (gb ne p v x) (j + 1)))), (5, .int (nI k)), (6, .int (nI x)), (7, .int (nI ((j + 1))))]) ⟨rfl, rfl, rfl, rfl, lc_e (by first | exact bi_t (gb_1 (by omega)) | exact bi_t (gb_2 (by omega)) | exact bi_f (gb_3 (by omega) (by omega))), rfl, rfl, lc_e (by rfl), trivial⟩ ?_
          exact ih (j + 1) (by omega) (by omega)
        · refine V_if_eq (pc := 122) o 129 dX9_goes_122 (by decide) (fun _ => ?_) (fun c122 => absurd c122 (by decide))
          refine V_iconst (pc := 129) o 0 dX9_goes_129 (by decide) ?_
          refine V_iand (pc := 130) o dX9_goes_130 ?_
          refine V_istore (pc := 131) o dX9_goes_131 (by rw [hn]; decide) ?_
          refine V_iincN (pc := 133) o j 1 rfl dX9_goes_133 (by rw [hn]; decide) rfl (by decide) ?_
          refine V_goto (pc := 136) o 62 dX9_goes_136 (by decide) ?_
          refine V_eq (ws2 := wMod cI ad vc vr vn ne vs li ba de qp qt ql qs qc ch ap un ro pi si pl rq dy en th) (by rfl) rfl ?_
          refine V_sub (lc2 := [(0, .ref (ad 0)), (1, .int (nI at_)), (2, .int (nI v)), (3, .int (nI p)), (4, .int (b2i (G && allN (gb ne p v x) (j + 1)))), (5, .int (nI k)), (6, .int (nI x)), (7, .int (nI ((j + 1))))]) ⟨rfl, rfl, rfl, rfl, lc_e (by first | exact bi_t (gb_1 (by omega)) | exact bi_t (gb_2 (by omega)) | exact bi_f (gb_3 (by omega) (by omega))), rfl, rfl, lc_e (by rfl), trivial⟩ ?_
          exact ih (j + 1) (by omega) (by omega)
theorem lkX9_goes_58 : Cond.fieldLink RX9 58 RX9 "row" "[I" ∈ wsX9_goes := by decide +kernel
theorem lkX9_goes_61 : Cond.fieldLink RX9 61 RX9 "pick" "[I" ∈ wsX9_goes := by decide +kernel
set_option maxHeartbeats 4000000 in
set_option maxRecDepth 100000 in
theorem lpX9_goesA {X : XT} (o : OkX X cX9_goes RX9 wsX9_goes 1) (hn : XN X = 9) (cI : ClassId) (ht : (XK X)[0]? = some (cI, .int)) (ad : Nat → Nat) (vc : Nat → Nat) (vr : Nat → Nat) (vn : Nat → Nat) (ne : Nat → Nat) (vs : Nat → Nat) (li : Nat → Nat) (ba : Nat → Nat) (de : Nat → Nat) (qp : Nat → Nat) (qt : Nat → Nat) (ql : Nat → Nat) (qs : Nat → Nat) (qc : Nat → Nat) (ch : Nat → Nat) (ap : Nat → Nat) (un : Nat → Int32) (ro : Nat → Nat) (pi : Nat → Nat) (si : Nat → Nat) (pl : Nat → Int32) (rq : Nat) (dy : Nat) (en : Nat) (th : Int32) (at_ v p : Nat) (G : Bool) (ha : at_ < 9) (hv : v < 100) (hp : p < 100) (hro : ∀ k, ro k ≤ 7) (hpi : ∀ k, k < at_ → 1 ≤ pi k ∧ pi k ≤ 3) (hvn : ∀ k, vn k ≤ 4) (hne : ∀ k, ne k ≤ 7) (kk : V X 0 0 (wMod cI ad vc vr vn ne vs li ba de qp qt ql qs qc ch ap un ro pi si pl rq dy en th) 145 [(0, .ref (ad 0)), (1, .int (nI at_)), (2, .int (nI v)), (3, .int (nI p)), (4, .int (b2i (G && allN (gk vn ne ro pi p v) at_))), (5, .int (nI at_))] []) : ∀ (m j : Nat), at_ - j < m → j ≤ at_ → V X 0 0 (wMod cI ad vc vr vn ne vs li ba de qp qt ql qs qc ch ap un ro pi si pl rq dy en th) 32 [(0, .ref (ad 0)), (1, .int (nI at_)), (2, .int (nI v)), (3, .int (nI p)), (4, .int (b2i (G && allN (gk vn ne ro pi p v) j))), (5, .int (nI j))] [] := by
  intro m
  induction m with
  | zero => intro j h1; exact absurd h1 (Nat.not_lt_zero _)
  | succ m ih =>
    intro j h1 h2
    refine V_iload (pc := 32) o dX9_goes_32 rfl ?_
    refine V_iload_n (pc := 34) o dX9_goes_34 rfl ?_
    refine V_icmp_geN (pc := 35) o 145 j at_ rfl rfl (by omega) (by omega) dX9_goes_35 (by decide) (fun c35 => ?_) (fun c35 => ?_)
    · have e1 : j = at_ := by omega
      rw [e1]
      exact V_sub (lc2 := [(0, .ref (ad 0)), (1, .int (nI at_)), (2, .int (nI v)), (3, .int (nI p)), (4, .int (b2i (G && allN (gk vn ne ro pi p v) at_))), (5, .int (nI at_))]) ⟨rfl, rfl, rfl, rfl, rfl, rfl, trivial⟩ kk
    · refine V_iconst (pc := 38) o 3 dX9_goes_38 (by decide) ?_
      refine V_aload_n (pc := 39) o dX9_goes_39 rfl ?_
      refine V_get (pc := 40) o 0 19 hiX9_goes rfl rfl (by decide) lkX9_goes_58 rfl rfl dX9_goes_40 ?_
      refine V_iload (pc := 43) o dX9_goes_43 rfl ?_
      refine V_ialdN (pc := 45) o 17 ro j rfl ht rfl (by have := hpi j (by omega); have := hro j; omega) (by decide) dX9_goes_45 ?_
      refine V_imulN (pc := 46) o 3 (ro j) rfl rfl dX9_goes_46 ?_
      refine V_aload_n (pc := 47) o dX9_goes_47 rfl ?_
      refine V_get (pc := 48) o 0 20 hiX9_goes rfl rfl (by decide) lkX9_goes_61 rfl rfl dX9_goes_48 ?_
      refine V_iload (pc := 51) o dX9_goes_51 rfl ?_
      refine V_ialdN (pc := 53) o 18 pi j rfl ht rfl (by have := hpi j (by omega); have := hro j; omega) (by decide) dX9_goes_53 ?_
      refine V_iaddN (pc := 54) o (3 * (ro j)) (pi j) rfl rfl dX9_goes_54 ?_
      refine V_iconst (pc := 55) o 1 dX9_goes_55 (by decide) ?_
      refine V_isubN (pc := 56) o ((3 * (ro j)) + (pi j)) 1 rfl rfl (by have := hpi j (by omega); have := hro j; omega) dX9_goes_56 ?_
      refine V_istore (pc := 57) o dX9_goes_57 (by rw [hn]; decide) ?_
      refine V_iconst (pc := 59) o 0 dX9_goes_59 (by decide) ?_
      refine V_istore (pc := 60) o dX9_goes_60 (by rw [hn]; decide) ?_
      have i1 := hpi j (by omega)
      have i2 := hro j
      refine V_sub (lc2 := [(0, .ref (ad 0)), (1, .int (nI at_)), (2, .int (nI v)), (3, .int (nI p)), (4, .int (b2i ((G && allN (gk vn ne ro pi p v) j) && allN (gb ne p v (gx ro pi j)) 0))), (5, .int (nI j)), (6, .int (nI (gx ro pi j))), (7, .int (nI 0))]) ⟨rfl, rfl, rfl, rfl, lc_e (by rw [allN, Bool.and_true]), rfl, rfl, rfl, trivial⟩ ?_
      refine lpX9_goesB o hn cI ht ad vc vr vn ne vs li ba de qp qt ql qs qc ch ap un ro pi si pl rq dy en th at_ v p j (gx ro pi j) (G && allN (gk vn ne ro pi p v) j) (by unfold gx; omega) hv hp hvn hne ?_ (vn (gx ro pi j) + 1) 0 (by omega) (by omega)
      refine V_iincN (pc := 139) o j 1 rfl dX9_goes_139 (by rw [hn]; decide) rfl (by decide) ?_
      refine V_goto (pc := 142) o 32 dX9_goes_142 (by decide) ?_
      refine V_sub (lc2 := [(0, .ref (ad 0)), (1, .int (nI at_)), (2, .int (nI v)), (3, .int (nI p)), (4, .int (b2i (G && allN (gk vn ne ro pi p v) (j + 1)))), (5, .int (nI (j + 1)))]) ⟨rfl, rfl, rfl, rfl, lc_e (by rw [allN, gk, Bool.and_assoc]), rfl, trivial⟩ ?_
      exact ih (j + 1) (by omega) (by omega)
theorem gc_1 {ne : Nat → Nat} {pi : Nat → Nat} {pl : Nat → Int32} {at_ x j : Nat} (h : pl (ne (12 * x + 3 * j)) < 0) : gc ne pi pl at_ x j = true := by simp [gc, h]
theorem gc_2 {ne : Nat → Nat} {pi : Nat → Nat} {pl : Nat → Int32} {at_ x j : Nat} (h : nI at_ ≤ pl (ne (12 * x + 3 * j))) : gc ne pi pl at_ x j = true := by simp [gc, h]
theorem gc_3 {ne : Nat → Nat} {pi : Nat → Nat} {pl : Nat → Int32} {at_ x j t : Nat} (e : pl (ne (12 * x + 3 * j)) = nI t) (ht : t < 100) (h : ne (12 * x + 3 * j + 1) ≤ pi t ∧ pi t ≤ ne (12 * x + 3 * j + 2)) : gc ne pi pl at_ x j = true := by
  have e2 : (pl (ne (12 * x + 3 * j))).toNatClampNeg = t := by rw [e, nI_clamp (by omega)]
  simp only [gc, e2, decide_eq_true h.1, decide_eq_true h.2, Bool.and_true, Bool.or_true]
theorem gc_4 {ne : Nat → Nat} {pi : Nat → Nat} {pl : Nat → Int32} {at_ x j t : Nat} (e : pl (ne (12 * x + 3 * j)) = nI t) (ht : t < 100) (h0 : ¬ nI at_ ≤ nI t) (h : ¬ (ne (12 * x + 3 * j + 1) ≤ pi t ∧ pi t ≤ ne (12 * x + 3 * j + 2))) : gc ne pi pl at_ x j = false := by
  have e2 : (pl (ne (12 * x + 3 * j))).toNatClampNeg = t := by rw [e, nI_clamp (by omega)]
  have e3 : decide (pl (ne (12 * x + 3 * j)) < 0) = false := decide_eq_false (by rw [e]; exact nI_pos (by omega))
  have e4 : decide (nI at_ ≤ pl (ne (12 * x + 3 * j))) = false := decide_eq_false (by rw [e]; exact h0)
  simp only [gc, e2, e3, e4, Bool.false_or]
  rw [← Bool.decide_and]
  exact decide_eq_false h
theorem lkX9_goes_67 : Cond.fieldLink RX9 67 RX9 "place" "[I" ∈ wsX9_goes := by decide +kernel
set_option maxHeartbeats 4000000 in
set_option maxRecDepth 100000 in
theorem lpX9_goesC {X : XT} (o : OkX X cX9_goes RX9 wsX9_goes 1) (hn : XN X = 9) (cI : ClassId) (ht : (XK X)[0]? = some (cI, .int)) (ad : Nat → Nat) (vc : Nat → Nat) (vr : Nat → Nat) (vn : Nat → Nat) (ne : Nat → Nat) (vs : Nat → Nat) (li : Nat → Nat) (ba : Nat → Nat) (de : Nat → Nat) (qp : Nat → Nat) (qt : Nat → Nat) (ql : Nat → Nat) (qs : Nat → Nat) (qc : Nat → Nat) (ch : Nat → Nat) (ap : Nat → Nat) (un : Nat → Int32) (ro : Nat → Nat) (pi : Nat → Nat) (si : Nat → Nat) (pl : Nat → Int32) (rq : Nat) (dy : Nat) (en : Nat) (th : Int32) (at_ v p x : Nat) (G : Bool) (ha : at_ < 9) (hx : x < 24) (hpi : ∀ k, pi k ≤ 4) (hvn : ∀ k, vn k ≤ 4) (hne : ∀ k, ne k ≤ 7) (kk : V X 0 0 (wMod cI ad vc vr vn ne vs li ba de qp qt ql qs qc ch ap un ro pi si pl rq dy en th) 254 [(0, .ref (ad 0)), (1, .int (nI at_)), (2, .int (nI v)), (3, .int (nI p)), (4, .int (b2i (G && allN (gc ne pi pl at_ x) (vn x)))), (5, .int (nI x)), (6, .int (nI ((vn x))))] []) : ∀ (m j : Nat), (vn x) - j < m → j ≤ (vn x) → V X 0 0 (wMod cI ad vc vr vn ne vs li ba de qp qt ql qs qc ch ap un ro pi si pl rq dy en th) 157 [(0, .ref (ad 0)), (1, .int (nI at_)), (2, .int (nI v)), (3, .int (nI p)), (4, .int (b2i (G && allN (gc ne pi pl at_ x) j))), (5, .int (nI x)), (6, .int (nI j))] [] := by
  intro m
  induction m with
  | zero => intro j h1; exact absurd h1 (Nat.not_lt_zero _)
  | succ m ih =>
    intro j h1 h2
    refine V_iload (pc := 157) o dX9_goes_157 rfl ?_
    refine V_aload_n (pc := 159) o dX9_goes_159 rfl ?_
    refine V_get (pc := 160) o 0 2 hiX9_goes rfl rfl (by decide) lkX9_goes_16 rfl rfl dX9_goes_160 ?_
    refine V_iload (pc := 163) o dX9_goes_163 rfl ?_
    refine V_ialdN (pc := 165) o 3 vn x rfl ht rfl (by have := hvn x; have := hne (12 * x + 3 * j); omega) (by decide) dX9_goes_165 ?_
    refine V_icmp_geN (pc := 166) o 254 j (vn x) rfl rfl (by have := hvn x; have := hne (12 * x + 3 * j); omega) (by have := hvn x; have := hne (12 * x + 3 * j); omega) dX9_goes_166 (by decide) (fun c166 => ?_) (fun c166 => ?_)
    · have e1 : j = (vn x) := by omega
      rw [e1]
      exact V_sub (lc2 := [(0, .ref (ad 0)), (1, .int (nI at_)), (2, .int (nI v)), (3, .int (nI p)), (4, .int (b2i (G && allN (gc ne pi pl at_ x) (vn x)))), (5, .int (nI x)), (6, .int (nI ((vn x))))]) ⟨rfl, rfl, rfl, rfl, rfl, rfl, rfl, trivial⟩ kk
    · refine V_bipush (pc := 169) o 12 dX9_goes_169 (by decide) ?_
      refine V_iload (pc := 171) o dX9_goes_171 rfl ?_
      refine V_imulN (pc := 173) o 12 x rfl rfl dX9_goes_173 ?_
      refine V_iconst (pc := 174) o 3 dX9_goes_174 (by decide) ?_
      refine V_iload (pc := 175) o dX9_goes_175 rfl ?_
      refine V_imulN (pc := 177) o 3 j rfl rfl dX9_goes_177 ?_
      refine V_iaddN (pc := 178) o (12 * x) (3 * j) rfl rfl dX9_goes_178 ?_
      refine V_istore (pc := 179) o dX9_goes_179 (by rw [hn]; decide) ?_
      refine V_aload_n (pc := 181) o dX9_goes_181 rfl ?_
      refine V_get (pc := 182) o 0 22 hiX9_goes rfl rfl (by decide) lkX9_goes_67 rfl rfl dX9_goes_182 ?_
      refine V_aload_n (pc := 185) o dX9_goes_185 rfl ?_
      refine V_get (pc := 186) o 0 3 hiX9_goes rfl rfl (by decide) lkX9_goes_19 rfl rfl dX9_goes_186 ?_
      refine V_iload (pc := 189) o dX9_goes_189 rfl ?_
      refine V_ialdN (pc := 191) o 4 ne ((12 * x) + (3 * j)) rfl ht rfl (by have := hvn x; have := hne (12 * x + 3 * j); omega) (by decide) dX9_goes_191 ?_
      refine V_ialdI (pc := 192) o 20 pl (ne ((12 * x) + (3 * j))) rfl ht rfl (by have := hvn x; have := hne (12 * x + 3 * j); omega) (by decide) dX9_goes_192 ?_
      refine V_istore (pc := 193) o dX9_goes_193 (by rw [hn]; decide) ?_
      refine V_iload (pc := 195) o dX9_goes_195 rfl ?_
      refine V_iload (pc := 197) o dX9_goes_197 rfl ?_
      refine V_if_lt (pc := 199) o 240 dX9_goes_199 (by decide) (fun c199 => ?_) (fun c199 => ?_)
      · refine V_iconst (pc := 240) o 1 dX9_goes_240 (by decide) ?_
        refine V_goto (pc := 241) o 245 dX9_goes_241 (by decide) ?_
        refine V_iand (pc := 245) o dX9_goes_245 ?_
        refine V_istore (pc := 246) o dX9_goes_246 (by rw [hn]; decide) ?_
        refine V_iincN (pc := 248) o j 1 rfl dX9_goes_248 (by rw [hn]; decide) rfl (by decide) ?_
        refine V_goto (pc := 251) o 157 dX9_goes_251 (by decide) ?_
        refine V_eq (ws2 := wMod cI ad vc vr vn ne vs li ba de qp qt ql qs qc ch ap un ro pi si pl rq dy en th) (by rfl) rfl ?_
        refine V_sub (lc2 := [(0, .ref (ad 0)), (1, .int (nI at_)), (2, .int (nI v)), (3, .int (nI p)), (4, .int (b2i (G && allN (gc ne pi pl at_ x) (j + 1)))), (5, .int (nI x)), (6, .int (nI ((j + 1))))]) ⟨rfl, rfl, rfl, rfl, lc_e (by first | exact bi_t (gc_1 (by assumption)) | exact bi_t (gc_2 (by assumption)) | exact bi_t (gc_3 et (by omega) (by assumption)) | exact bi_f (gc_4 et (by omega) (by assumption) (by assumption))), rfl, lc_e (by rfl), trivial⟩ ?_
        exact ih (j + 1) (by omega) (by omega)
      · refine V_iload (pc := 202) o dX9_goes_202 rfl ?_
        refine V_iload_n (pc := 204) o dX9_goes_204 rfl ?_
        refine V_icmp_ge (pc := 205) o 240 dX9_goes_205 (by decide) (fun c205 => ?_) (fun c205 => ?_)
        · refine V_iconst (pc := 240) o 1 dX9_goes_240 (by decide) ?_
          refine V_goto (pc := 241) o 245 dX9_goes_241 (by decide) ?_
          refine V_iand (pc := 245) o dX9_goes_245 ?_
          refine V_istore (pc := 246) o dX9_goes_246 (by rw [hn]; decide) ?_
          refine V_iincN (pc := 248) o j 1 rfl dX9_goes_248 (by rw [hn]; decide) rfl (by decide) ?_
          refine V_goto (pc := 251) o 157 dX9_goes_251 (by decide) ?_
          refine V_eq (ws2 := wMod cI ad vc vr vn ne vs li ba de qp qt ql qs qc ch ap un ro pi si pl rq dy en th) (by rfl) rfl ?_
          refine V_sub (lc2 := [(0, .ref (ad 0)), (1, .int (nI at_)), (2, .int (nI v)), (3, .int (nI p)), (4, .int (b2i (G && allN (gc ne pi pl at_ x) (j + 1)))), (5, .int (nI x)), (6, .int (nI ((j + 1))))]) ⟨rfl, rfl, rfl, rfl, lc_e (by first | exact bi_t (gc_1 (by assumption)) | exact bi_t (gc_2 (by assumption)) | exact bi_t (gc_3 et (by omega) (by assumption)) | exact bi_f (gc_4 et (by omega) (by assumption) (by assumption))), rfl, lc_e (by rfl), trivial⟩ ?_
          exact ih (j + 1) (by omega) (by omega)
        · have h0 := Decidable.em (nI at_ ≤ pl (ne (12 * x + 3 * j)))
          obtain ⟨t, htl, et⟩ := nI_of c199
          rw [et] at c205 ⊢
          have h7 : t < at_ := by
            rcases Nat.lt_or_ge t at_ with q | q
            · exact q
            · exact absurd (nI_le q htl) c205
          refine V_aload_n (pc := 208) o dX9_goes_208 rfl ?_
          refine V_aload_n (pc := 209) o dX9_goes_209 rfl ?_
          refine V_get (pc := 210) o 0 20 hiX9_goes rfl rfl (by decide) lkX9_goes_61 rfl rfl dX9_goes_210 ?_
          refine V_iload (pc := 213) o dX9_goes_213 rfl ?_
          refine V_ialdN (pc := 215) o 18 pi t rfl ht rfl (by have := hvn x; have := hne (12 * x + 3 * j); omega) (by decide) dX9_goes_215 ?_
          refine V_aload_n (pc := 216) o dX9_goes_216 rfl ?_
          refine V_get (pc := 217) o 0 3 hiX9_goes rfl rfl (by decide) lkX9_goes_19 rfl rfl dX9_goes_217 ?_
          refine V_iload (pc := 220) o dX9_goes_220 rfl ?_
          refine V_iconst (pc := 222) o 1 dX9_goes_222 (by decide) ?_
          refine V_iaddN (pc := 223) o ((12 * x) + (3 * j)) 1 rfl rfl dX9_goes_223 ?_
          refine V_ialdN (pc := 224) o 4 ne (((12 * x) + (3 * j)) + 1) rfl ht rfl (by have := hvn x; have := hne (12 * x + 3 * j); omega) (by decide) dX9_goes_224 ?_
          refine V_aload_n (pc := 225) o dX9_goes_225 rfl ?_
          refine V_get (pc := 226) o 0 3 hiX9_goes rfl rfl (by decide) lkX9_goes_19 rfl rfl dX9_goes_226 ?_
          refine V_iload (pc := 229) o dX9_goes_229 rfl ?_
          refine V_iconst (pc := 231) o 2 dX9_goes_231 (by decide) ?_
          refine V_iaddN (pc := 232) o ((12 * x) + (3 * j)) 2 rfl rfl dX9_goes_232 ?_
          refine V_ialdN (pc := 233) o 4 ne (((12 * x) + (3 * j)) + 2) rfl ht rfl (by have := hvn x; have := hne (12 * x + 3 * j); omega) (by decide) dX9_goes_233 ?_
          refine V_rVi (pc := 234) o (k9_inN _ _ _ cI ht ad vc vr vn ne vs li ba de qp qt ql qs qc ch ap un ro pi si pl rq dy en th (pi t) (ne (((12 * x) + (3 * j)) + 1)) (ne (((12 * x) + (3 * j)) + 2)) (by have := hne (12 * x + 3 * j + 1); have := hne (12 * x + 3 * j + 2); have := hpi t; omega) (by have := hne (12 * x + 3 * j + 1); have := hne (12 * x + 3 * j + 2); have := hpi t; omega) (by have := hne (12 * x + 3 * j + 1); have := hne (12 * x + 3 * j + 2); have := hpi t; omega)) 0 21 gX9_goes_X9_in rfl hdX9_in ⟨by omega, by decide⟩ rfl rfl rfl (Nat.le_of_ble_eq_true rfl) dX9_goes_234 rfl ?_
          refine V_ite (fun b234 => ?_) (fun b234 => ?_)
          · refine V_if_eq (pc := 237) o 244 dX9_goes_237 (by decide) (fun c237 => absurd c237 (by decide)) (fun _ => ?_)
            refine V_iconst (pc := 240) o 1 dX9_goes_240 (by decide) ?_
            refine V_goto (pc := 241) o 245 dX9_goes_241 (by decide) ?_
            refine V_iand (pc := 245) o dX9_goes_245 ?_
            refine V_istore (pc := 246) o dX9_goes_246 (by rw [hn]; decide) ?_
            refine V_iincN (pc := 248) o j 1 rfl dX9_goes_248 (by rw [hn]; decide) rfl (by decide) ?_
            refine V_goto (pc := 251) o 157 dX9_goes_251 (by decide) ?_
            refine V_eq (ws2 := wMod cI ad vc vr vn ne vs li ba de qp qt ql qs qc ch ap un ro pi si pl rq dy en th) (by rfl) rfl ?_
            refine V_sub (lc2 := [(0, .ref (ad 0)), (1, .int (nI at_)), (2, .int (nI v)), (3, .int (nI p)), (4, .int (b2i (G && allN (gc ne pi pl at_ x) (j + 1)))), (5, .int (nI x)), (6, .int (nI ((j + 1))))]) ⟨rfl, rfl, rfl, rfl, lc_e (by first | exact bi_t (gc_1 (by assumption)) | exact bi_t (gc_2 (by assumption)) | exact bi_t (gc_3 et (by omega) (by assumption)) | exact bi_f (gc_4 et (by omega) (by assumption) (by assumption))), rfl, lc_e (by rfl), trivial⟩ ?_
            exact ih (j + 1) (by omega) (by omega)
          · refine V_if_eq (pc := 237) o 244 dX9_goes_237 (by decide) (fun _ => ?_) (fun c237 => absurd c237 (by decide))
            refine V_iconst (pc := 244) o 0 dX9_goes_244 (by decide) ?_
            refine V_iand (pc := 245) o dX9_goes_245 ?_
            refine V_istore (pc := 246) o dX9_goes_246 (by rw [hn]; decide) ?_
            refine V_iincN (pc := 248) o j 1 rfl dX9_goes_248 (by rw [hn]; decide) rfl (by decide) ?_
            refine V_goto (pc := 251) o 157 dX9_goes_251 (by decide) ?_
            refine V_eq (ws2 := wMod cI ad vc vr vn ne vs li ba de qp qt ql qs qc ch ap un ro pi si pl rq dy en th) (by rfl) rfl ?_
            refine V_sub (lc2 := [(0, .ref (ad 0)), (1, .int (nI at_)), (2, .int (nI v)), (3, .int (nI p)), (4, .int (b2i (G && allN (gc ne pi pl at_ x) (j + 1)))), (5, .int (nI x)), (6, .int (nI ((j + 1))))]) ⟨rfl, rfl, rfl, rfl, lc_e (by first | exact bi_t (gc_1 (by assumption)) | exact bi_t (gc_2 (by assumption)) | exact bi_t (gc_3 et (by omega) (by assumption)) | exact bi_f (gc_4 et (by omega) (by assumption) (by assumption))), rfl, lc_e (by rfl), trivial⟩ ?_
            exact ih (j + 1) (by omega) (by omega)
theorem hdX9_goes : yX9_goes.cls = RX9 ∧ yX9_goes.cls ≠ "java/lang/invoke/MethodHandle" ∧ yX9_goes.cls ≠ "java/lang/invoke/VarHandle" ∧ (parseMethodDescriptor yX9_goes.desc).map (fun d => d.parameters.length) = some 2 := by decide +kernel
theorem lkX9_goes_13 : Cond.fieldLink RX9 13 RX9 "vr" "[I" ∈ wsX9_goes := by decide +kernel
set_option maxHeartbeats 4000000 in
set_option maxRecDepth 100000 in
/-- reference: goes -/
theorem k9_goes (l : Launch) (D : va_G) (tys : List (ClassId × FieldType)) (cI : ClassId) (ht : tys[0]? = some (cI, .int)) (ad : Nat → Nat) (vc : Nat → Nat) (vr : Nat → Nat) (vn : Nat → Nat) (ne : Nat → Nat) (vs : Nat → Nat) (li : Nat → Nat) (ba : Nat → Nat) (de : Nat → Nat) (qp : Nat → Nat) (qt : Nat → Nat) (ql : Nat → Nat) (qs : Nat → Nat) (qc : Nat → Nat) (ch : Nat → Nat) (ap : Nat → Nat) (un : Nat → Int32) (ro : Nat → Nat) (pi : Nat → Nat) (si : Nat → Nat) (pl : Nat → Int32) (rq : Nat) (dy : Nat) (en : Nat) (th : Int32) (at_ v : Nat) (ha : at_ < 9) (hv : 1 ≤ v ∧ v ≤ 3) (hro : ∀ k, ro k ≤ 7) (hpi : ∀ k, k < at_ → 1 ≤ pi k ∧ pi k ≤ 3) (hpi4 : ∀ k, pi k ≤ 4) (hvr : ∀ k, vr k ≤ 1) (hvn : ∀ k, vn k ≤ 4) (hne : ∀ k, ne k ≤ 7) : CId l yX9_goes wsX9_goes 1 D tys [.ref (ad 0), .int (nI at_), .int (nI v)] (wMod cI ad vc vr vn ne vs li ba de qp qt ql qs qc ch ap un ro pi si pl rq dy en th) (b2i (goF vr vn ne ro pi pl at_ v)) (wMod cI ad vc vr vn ne vs li ba de qp qt ql qs qc ch ap un ro pi si pl rq dy en th) := by
  have h77 := hro at_
  refine CI_of (maxL := 9) (cc := cX9_goes) (y := yX9_goes) rfl rfl (Nat.le_of_ble_eq_true rfl) (fun X hl hD hk hn hcz hsz o fin => ?_)
  subst hl; subst hD; subst hk
  refine V_aload_n (pc := 0) o dX9_goes_0 rfl ?_
  refine V_get (pc := 1) o 0 19 hiX9_goes rfl rfl (by decide) lkX9_goes_58 rfl rfl dX9_goes_1 ?_
  refine V_iload_n (pc := 4) o dX9_goes_4 rfl ?_
  refine V_ialdN (pc := 5) o 17 ro at_ rfl ht rfl (by have := hvr (3 * ro at_ + v - 1); have := hro at_; omega) (by decide) dX9_goes_5 ?_
  refine V_istore_n (pc := 6) o dX9_goes_6 (by rw [hn]; decide) ?_
  refine V_aload_n (pc := 7) o dX9_goes_7 rfl ?_
  refine V_get (pc := 8) o 0 1 hiX9_goes rfl rfl (by decide) lkX9_goes_13 rfl rfl dX9_goes_8 ?_
  refine V_iconst (pc := 11) o 3 dX9_goes_11 (by decide) ?_
  refine V_iload_n (pc := 12) o dX9_goes_12 rfl ?_
  refine V_imulN (pc := 13) o 3 (ro at_) rfl rfl dX9_goes_13 ?_
  refine V_iload_n (pc := 14) o dX9_goes_14 rfl ?_
  refine V_iaddN (pc := 15) o (3 * (ro at_)) v rfl rfl dX9_goes_15 ?_
  refine V_iconst (pc := 16) o 1 dX9_goes_16 (by decide) ?_
  refine V_isubN (pc := 17) o ((3 * (ro at_)) + v) 1 rfl rfl (by have := hvr (3 * ro at_ + v - 1); have := hro at_; omega) dX9_goes_17 ?_
  refine V_ialdN (pc := 18) o 2 vr (((3 * (ro at_)) + v) - 1) rfl ht rfl (by have := hvr (3 * ro at_ + v - 1); have := hro at_; omega) (by decide) dX9_goes_18 ?_
  refine V_if_neN (pc := 19) o 26 (vr (((3 * (ro at_)) + v) - 1)) rfl (by have := hvr (3 * ro at_ + v - 1); have := hro at_; omega) dX9_goes_19 (by decide) (fun c19 => ?_) (fun c19 => ?_)
  · refine V_iconst (pc := 26) o 0 dX9_goes_26 (by decide) ?_
    refine V_istore (pc := 27) o dX9_goes_27 (by rw [hn]; decide) ?_
    refine V_iconst (pc := 29) o 0 dX9_goes_29 (by decide) ?_
    refine V_istore (pc := 30) o dX9_goes_30 (by rw [hn]; decide) ?_
    refine V_sub (lc2 := [(0, .ref (ad 0)), (1, .int (nI at_)), (2, .int (nI v)), (3, .int (nI (ro at_))), (4, .int (b2i (decide (vr (3 * ro at_ + v - 1) = 0) && allN (gk vn ne ro pi (ro at_) v) 0))), (5, .int (nI 0))]) ⟨rfl, rfl, rfl, rfl, lc_e (by first | (rw [show decide (vr (3 * ro at_ + v - 1) = 0) = true from decide_eq_true (by omega)]; rfl) | (rw [show decide (vr (3 * ro at_ + v - 1) = 0) = false from decide_eq_false (by omega)]; rfl)), rfl, trivial⟩ ?_
    refine lpX9_goesA o hn cI ht ad vc vr vn ne vs li ba de qp qt ql qs qc ch ap un ro pi si pl rq dy en th at_ v (ro at_) (decide (vr (3 * ro at_ + v - 1) = 0)) ha (by omega) (by omega) hro hpi hvn hne ?_ (at_ + 1) 0 (by omega) (by omega)
    refine V_iconst (pc := 145) o 3 dX9_goes_145 (by decide) ?_
    refine V_iload_n (pc := 146) o dX9_goes_146 rfl ?_
    refine V_imulN (pc := 147) o 3 (ro at_) rfl rfl dX9_goes_147 ?_
    refine V_iload_n (pc := 148) o dX9_goes_148 rfl ?_
    refine V_iaddN (pc := 149) o (3 * (ro at_)) v rfl rfl dX9_goes_149 ?_
    refine V_iconst (pc := 150) o 1 dX9_goes_150 (by decide) ?_
    refine V_isubN (pc := 151) o ((3 * (ro at_)) + v) 1 rfl rfl (by have := hvr (3 * ro at_ + v - 1); have := hro at_; omega) dX9_goes_151 ?_
    refine V_istore (pc := 152) o dX9_goes_152 (by rw [hn]; decide) ?_
    refine V_iconst (pc := 154) o 0 dX9_goes_154 (by decide) ?_
    refine V_istore (pc := 155) o dX9_goes_155 (by rw [hn]; decide) ?_
    refine V_sub (lc2 := [(0, .ref (ad 0)), (1, .int (nI at_)), (2, .int (nI v)), (3, .int (nI (ro at_))), (4, .int (b2i ((decide (vr (3 * ro at_ + v - 1) = 0) && allN (gk vn ne ro pi (ro at_) v) at_) && allN (gc ne pi pl at_ (3 * ro at_ + v - 1)) 0))), (5, .int (nI (3 * ro at_ + v - 1))), (6, .int (nI 0))]) ⟨rfl, rfl, rfl, rfl, lc_e (by rw [allN, Bool.and_true]), rfl, rfl, trivial⟩ ?_
    refine lpX9_goesC o hn cI ht ad vc vr vn ne vs li ba de qp qt ql qs qc ch ap un ro pi si pl rq dy en th at_ v (ro at_) (3 * ro at_ + v - 1) (decide (vr (3 * ro at_ + v - 1) = 0) && allN (gk vn ne ro pi (ro at_) v) at_) ha (by omega) hpi4 hvn hne ?_ (vn (3 * ro at_ + v - 1) + 1) 0 (by omega) (by omega)
    refine V_iload (pc := 254) o dX9_goes_254 rfl ?_
    exact fin 256 _ _ () dX9_goes_256 (b_fit _) rfl
  · refine V_iconst (pc := 22) o 1 dX9_goes_22 (by decide) ?_
    refine V_goto (pc := 23) o 27 dX9_goes_23 (by decide) ?_
    refine V_istore (pc := 27) o dX9_goes_27 (by rw [hn]; decide) ?_
    refine V_iconst (pc := 29) o 0 dX9_goes_29 (by decide) ?_
    refine V_istore (pc := 30) o dX9_goes_30 (by rw [hn]; decide) ?_
    refine V_sub (lc2 := [(0, .ref (ad 0)), (1, .int (nI at_)), (2, .int (nI v)), (3, .int (nI (ro at_))), (4, .int (b2i (decide (vr (3 * ro at_ + v - 1) = 0) && allN (gk vn ne ro pi (ro at_) v) 0))), (5, .int (nI 0))]) ⟨rfl, rfl, rfl, rfl, lc_e (by first | (rw [show decide (vr (3 * ro at_ + v - 1) = 0) = true from decide_eq_true (by omega)]; rfl) | (rw [show decide (vr (3 * ro at_ + v - 1) = 0) = false from decide_eq_false (by omega)]; rfl)), rfl, trivial⟩ ?_
    refine lpX9_goesA o hn cI ht ad vc vr vn ne vs li ba de qp qt ql qs qc ch ap un ro pi si pl rq dy en th at_ v (ro at_) (decide (vr (3 * ro at_ + v - 1) = 0)) ha (by omega) (by omega) hro hpi hvn hne ?_ (at_ + 1) 0 (by omega) (by omega)
    refine V_iconst (pc := 145) o 3 dX9_goes_145 (by decide) ?_
    refine V_iload_n (pc := 146) o dX9_goes_146 rfl ?_
    refine V_imulN (pc := 147) o 3 (ro at_) rfl rfl dX9_goes_147 ?_
    refine V_iload_n (pc := 148) o dX9_goes_148 rfl ?_
    refine V_iaddN (pc := 149) o (3 * (ro at_)) v rfl rfl dX9_goes_149 ?_
    refine V_iconst (pc := 150) o 1 dX9_goes_150 (by decide) ?_
    refine V_isubN (pc := 151) o ((3 * (ro at_)) + v) 1 rfl rfl (by have := hvr (3 * ro at_ + v - 1); have := hro at_; omega) dX9_goes_151 ?_
    refine V_istore (pc := 152) o dX9_goes_152 (by rw [hn]; decide) ?_
    refine V_iconst (pc := 154) o 0 dX9_goes_154 (by decide) ?_
    refine V_istore (pc := 155) o dX9_goes_155 (by rw [hn]; decide) ?_
    refine V_sub (lc2 := [(0, .ref (ad 0)), (1, .int (nI at_)), (2, .int (nI v)), (3, .int (nI (ro at_))), (4, .int (b2i ((decide (vr (3 * ro at_ + v - 1) = 0) && allN (gk vn ne ro pi (ro at_) v) at_) && allN (gc ne pi pl at_ (3 * ro at_ + v - 1)) 0))), (5, .int (nI (3 * ro at_ + v - 1))), (6, .int (nI 0))]) ⟨rfl, rfl, rfl, rfl, lc_e (by rw [allN, Bool.and_true]), rfl, rfl, trivial⟩ ?_
    refine lpX9_goesC o hn cI ht ad vc vr vn ne vs li ba de qp qt ql qs qc ch ap un ro pi si pl rq dy en th at_ v (ro at_) (3 * ro at_ + v - 1) (decide (vr (3 * ro at_ + v - 1) = 0) && allN (gk vn ne ro pi (ro at_) v) at_) ha (by omega) hpi4 hvn hne ?_ (vn (3 * ro at_ + v - 1) + 1) 0 (by omega) (by omega)
    refine V_iload (pc := 254) o dX9_goes_254 rfl ?_
    exact fin 256 _ _ () dX9_goes_256 (b_fit _) rfl
