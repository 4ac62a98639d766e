/-! The reference: resolve, strain. -/
def rsC (ro pi : Nat → Nat) (q : Nat) (ch : Nat → Nat) : Nat → Nat → Nat
  | 0 => ch
  | j + 1 => va_up (rsC ro pi q ch j) (8 * q + ro j) (pi j)
def rsS (vc ro pi : Nat → Nat) : Nat → Nat
  | 0 => 0
  | j + 1 => rsS vc ro pi j + vc (3 * ro j + pi j - 1)
theorem up_add (f : Nat → Nat) (q a b : Nat) : va_up (va_up f q a) q (va_up f q a q + b) = va_up f q (a + b) := by
  funext k
  unfold va_up
  by_cases h : k = q <;> simp [h]
def mxN (li ba : Nat → Nat) (dy a c : Nat) : Nat → Int32
  | 0 => -1
  | j + 1 => if ¬ j = a ∧ ba j ≤ dy ∧ c ≤ li j ∧ mxN li ba dy a c j < nI (li j) then nI (li j) else mxN li ba dy a c j
theorem mxN_b {li : Nat → Nat} (hli : ∀ k, li k ≤ 10000) (ba : Nat → Nat) (dy a c : Nat) : ∀ j, mxN li ba dy a c j = -1 ∨ ∃ w, w ≤ 10000 ∧ mxN li ba dy a c j = nI w
  | 0 => Or.inl rfl
  | j + 1 => by
    unfold mxN
    split
    · exact Or.inr ⟨li j, hli j, rfl⟩
    · exact mxN_b hli ba dy a c j
def CFd (l : Launch) (y : MethodName) (w : List Cond) (d : Nat) (D : va_G) (tys : List (ClassId × FieldType)) (as : List Value) (ws : va_W) (r : UInt32) (ws2 : va_W) : Prop :=
  ∀ sz : Nat, Met l y w (rmd d 0 0) (va_Pc as (PrW D tys sz ws)) (va_Qf (fun x (_ : Unit) => x = r) (fun _ t => AtW D tys (va_A ws sz) ws2 t) (va_A ws sz)) 0 0 (va_A ws sz)
theorem CF_of {l : Launch} {y : MethodName} {w w0 : List Cond} {cc : ByteArray} {maxL d : Nat} {D : va_G} {tys : List (ClassId × FieldType)} {as : List Value} {ws ws2 : va_W} {r : UInt32}
    (hy : plainName y.cls = true) (hw : w = Cond.code y cc maxL (some .float) :: w0) (hlen : (lg_sl as).length ≤ maxL)
    (body : ∀ X : XT, XL X = l → XD X = D → XK X = tys → XN X = maxL → (XR X).cells = 0 → (XR X).slots = 0 → OkX X cc y.cls w d →
      (∀ (pc : Nat) (lc : List (Nat × Value)) (v : UInt32), decode cc pc = .ok (.freturn, 1) → v = r → V X 0 0 ws2 pc lc [.float v]) → V X 0 0 ws 0 (lv_args 0 as) []) :
    CFd l y w d D tys as ws r ws2 := by
  intro sz
  refine Met.ofW (cc := cc) (maxL := maxL) (ret := some .float) hy hw ?_
  intro p e s m args below meth c s₁ B hml hv
  obtain ⟨rfl, hsz, hP, hK, hD0⟩ := hv
  subst hsz
  have hlocks : meth.locks = false := B.notSynchronized
  have hx := B.exec
  have hb := B.bytes
  have hr := B.returns
  rw [lg_entry_eq]
  refine body (p, l, e, (headSpec w (rmd d 0 0)).room, s, m, _, below, meth, c, D, tys, va_A ws s.heap.size, MQ below (va_Qf (fun x (_ : Unit) => x = r) (fun _ t => AtW D tys (va_A ws s.heap.size) ws2 t) (va_A ws s.heap.size)) _ s 0 0 (va_A ws s.heap.size), maxL) rfl rfl rfl rfl rfl rfl ⟨hx, hb, hml, findClass_of_methodNamed B.named, atoms_spec (ws := w) B.pre, hK, fun q h => Or.inr h, Nat.le_refl _, Nat.le_refl _⟩ ?_ _ s.heap [] (lv_entry as hlen) hP hD0.self va_S.rf
  intro pc lc v dg hp ls H locs hl hP1 hD1 hS
  exact W.fret hx hb hr (fun t ht hW => ⟨⟨v, (), rfl, hp, by rw [ht]; exact hP1, va_K.moved hW.alike hK, hD1⟩, hS.F ht⟩) hS.2.2 dg
theorem hdX9_resolve : yX9_resolve.cls = RX9 ∧ yX9_resolve.cls ≠ "java/lang/invoke/MethodHandle" ∧ yX9_resolve.cls ≠ "java/lang/invoke/VarHandle" ∧ (parseMethodDescriptor yX9_resolve.desc).map (fun d => d.parameters.length) = some 1 := by decide +kernel
set_option maxHeartbeats 4000000 in
set_option maxRecDepth 100000 in
/-- reference: resolve1 -/
theorem k9_resolve1 (l : Launch) (D : va_G) (tys : List (ClassId × FieldType)) (cI : ClassId) (ht : tys[0]? = some (cI, .int)) (ad : Nat → Nat) (vc : Nat → Nat) (vr : Nat → Nat) (vn : Nat → Nat) (ne : Nat → Nat) (vs : Nat → Nat) (li : Nat → Nat) (ba : Nat → Nat) (de : Nat → Nat) (qp : Nat → Nat) (qt : Nat → Nat) (ql : Nat → Nat) (qs : Nat → Nat) (qc : Nat → Nat) (ch : Nat → Nat) (ap : Nat → Nat) (un : Nat → Int32) (ro : Nat → Nat) (pi : Nat → Nat) (si : Nat → Nat) (pl : Nat → Int32) (rq : Nat) (dy : Nat) (en : Nat) (th : Int32) (q : Int32) (h : q < 0 ∨ nI rq ≤ q) (hrq : rq ≤ 30) : CId l yX9_resolve wsX9_resolve 2 D tys [.ref (ad 0), .int q] (wMod cI ad vc vr vn ne vs li ba de qp qt ql qs qc ch ap un ro pi si pl rq dy en th) (-1) (wMod cI ad vc vr vn ne vs li ba de qp qt ql qs qc ch ap un ro pi si pl rq dy en 1) := by
  refine CI_of (maxL := 5) (cc := cX9_resolve) (y := yX9_resolve) rfl rfl (Nat.le_of_ble_eq_true rfl) (fun X hl hD hk hn hcz hsz o fin => ?_)
  subst hl; subst hD; subst hk
  refine V_aload_n (pc := 0) o dX9_resolve_0 rfl ?_
  refine V_aload_n (pc := 1) o dX9_resolve_1 rfl ?_
  refine V_iload_n (pc := 2) o dX9_resolve_2 rfl ?_
  refine V_rVi (pc := 3) o (k9_reqF _ _ _ cI ht ad vc vr vn ne vs li ba de qp qt ql qs qc ch ap un ro pi si pl rq dy en th q h hrq) 0 21 gX9_resolve_X9_isRequest rfl hdX9_isRequest ⟨by omega, by decide⟩ rfl rfl rfl (Nat.le_of_ble_eq_true rfl) dX9_resolve_3 rfl ?_
  refine V_if_ne (pc := 6) o 13 dX9_resolve_6 (by decide) (fun c6 => absurd c6 (by decide)) (fun _ => ?_)
  refine V_iconst (pc := 9) o 1 dX9_resolve_9 (by decide) ?_
  refine V_goto (pc := 10) o 28 dX9_resolve_10 (by decide) ?_
  refine V_wVi (pc := 28) o (k9_holds _ _ _ cI ht ad vc vr vn ne vs li ba de qp qt ql qs qc ch ap un ro pi si pl rq dy en th 1) 0 21 (wMod cI ad vc vr vn ne vs li ba de qp qt ql qs qc ch ap un ro pi si pl rq dy en 1) gX9_resolve_X9_holds rfl hdX9_holds ⟨by omega, by decide⟩ rfl rfl rfl (Nat.le_of_ble_eq_true rfl) dX9_resolve_28 rfl rfl ?_
  refine V_ifT (by decide) ?_
  refine V_if_eq (pc := 31) o 36 dX9_resolve_31 (by decide) (fun c31 => absurd c31 (by decide)) (fun _ => ?_)
  refine V_iconst (pc := 34) o (-1) dX9_resolve_34 (by decide) ?_
  exact fin 35 _ _ () dX9_resolve_35 rfl rfl
theorem hiX9_resolve : ∀ w ∈ wsX90, w ∈ wsX9_resolve := by decide +kernel
theorem lkX9_resolve_43 : Cond.fieldLink RX9 43 RX9 "qs" "[I" ∈ wsX9_resolve := by decide +kernel
set_option maxHeartbeats 4000000 in
set_option maxRecDepth 100000 in
/-- reference: resolve2 -/
theorem k9_resolve2 (l : Launch) (D : va_G) (tys : List (ClassId × FieldType)) (cI : ClassId) (ht : tys[0]? = some (cI, .int)) (ad : Nat → Nat) (vc : Nat → Nat) (vr : Nat → Nat) (vn : Nat → Nat) (ne : Nat → Nat) (vs : Nat → Nat) (li : Nat → Nat) (ba : Nat → Nat) (de : Nat → Nat) (qp : Nat → Nat) (qt : Nat → Nat) (ql : Nat → Nat) (qs : Nat → Nat) (qc : Nat → Nat) (ch : Nat → Nat) (ap : Nat → Nat) (un : Nat → Int32) (ro : Nat → Nat) (pi : Nat → Nat) (si : Nat → Nat) (pl : Nat → Int32) (rq : Nat) (dy : Nat) (en : Nat) (th : Int32) (q : Nat) (hq : q < rq) (hrq : rq ≤ 30) (hqs : ∀ k, qs k ≤ 2) (h : qs q = 2) : CId l yX9_resolve wsX9_resolve 2 D tys [.ref (ad 0), .int (nI q)] (wMod cI ad vc vr vn ne vs li ba de qp qt ql qs qc ch ap un ro pi si pl rq dy en th) (-1) (wMod cI ad vc vr vn ne vs li ba de qp qt ql qs qc ch ap un ro pi si pl rq dy en 2) := by
  refine CI_of (maxL := 5) (cc := cX9_resolve) (y := yX9_resolve) rfl rfl (Nat.le_of_ble_eq_true rfl) (fun X hl hD hk hn hcz hsz o fin => ?_)
  subst hl; subst hD; subst hk
  refine V_aload_n (pc := 0) o dX9_resolve_0 rfl ?_
  refine V_aload_n (pc := 1) o dX9_resolve_1 rfl ?_
  refine V_iload_n (pc := 2) o dX9_resolve_2 rfl ?_
  refine V_rVi (pc := 3) o (k9_reqT _ _ _ cI ht ad vc vr vn ne vs li ba de qp qt ql qs qc ch ap un ro pi si pl rq dy en th q (by omega) hrq) 0 21 gX9_resolve_X9_isRequest rfl hdX9_isRequest ⟨by omega, by decide⟩ rfl rfl rfl (Nat.le_of_ble_eq_true rfl) dX9_resolve_3 rfl ?_
  refine V_if_ne (pc := 6) o 13 dX9_resolve_6 (by decide) (fun _ => ?_) (fun c6 => absurd c6 (by decide))
  refine V_aload_n (pc := 13) o dX9_resolve_13 rfl ?_
  refine V_get (pc := 14) o 0 11 hiX9_resolve rfl rfl (by decide) lkX9_resolve_43 rfl rfl dX9_resolve_14 ?_
  refine V_iload_n (pc := 17) o dX9_resolve_17 rfl ?_
  refine V_ialdN (pc := 18) o 12 qs q rfl ht rfl (by omega) (by decide) dX9_resolve_18 ?_
  refine V_iconst (pc := 19) o 2 dX9_resolve_19 (by decide) ?_
  refine V_icmp_neN (pc := 20) o 27 (qs q) 2 rfl rfl (by have := hqs q; omega) (by have := hqs q; omega) dX9_resolve_20 (by decide) (fun c20 => absurd c20 (by omega)) (fun c20 => ?_)
  refine V_iconst (pc := 23) o 2 dX9_resolve_23 (by decide) ?_
  refine V_goto (pc := 24) o 28 dX9_resolve_24 (by decide) ?_
  refine V_wVi (pc := 28) o (k9_holds _ _ _ cI ht ad vc vr vn ne vs li ba de qp qt ql qs qc ch ap un ro pi si pl rq dy en th 2) 0 21 (wMod cI ad vc vr vn ne vs li ba de qp qt ql qs qc ch ap un ro pi si pl rq dy en 2) gX9_resolve_X9_holds rfl hdX9_holds ⟨by omega, by decide⟩ rfl rfl rfl (Nat.le_of_ble_eq_true rfl) dX9_resolve_28 rfl rfl ?_
  refine V_ifT (by decide) ?_
  refine V_if_eq (pc := 31) o 36 dX9_resolve_31 (by decide) (fun c31 => absurd c31 (by decide)) (fun _ => ?_)
  refine V_iconst (pc := 34) o (-1) dX9_resolve_34 (by decide) ?_
  exact fin 35 _ _ () dX9_resolve_35 rfl rfl
theorem lkX9_resolve_49 : Cond.fieldLink RX9 49 RX9 "chosen" "[I" ∈ wsX9_resolve := by decide +kernel
theorem lkX9_resolve_58 : Cond.fieldLink RX9 58 RX9 "row" "[I" ∈ wsX9_resolve := by decide +kernel
theorem lkX9_resolve_61 : Cond.fieldLink RX9 61 RX9 "pick" "[I" ∈ wsX9_resolve := by decide +kernel
theorem lkX9_resolve_46 : Cond.fieldLink RX9 46 RX9 "qc" "[I" ∈ wsX9_resolve := by decide +kernel
theorem lkX9_resolve_7 : Cond.fieldLink RX9 7 RX9 "vc" "[I" ∈ wsX9_resolve := by decide +kernel
set_option maxHeartbeats 4000000 in
set_option maxRecDepth 100000 in
theorem lpX9_resolve {X : XT} (o : OkX X cX9_resolve RX9 wsX9_resolve 4) (hn : XN X = 5) (cI : ClassId) (ht : (XK X)[0]? = some (cI, .int)) (ad : Nat → Nat) (vc : Nat → Nat) (vr : Nat → Nat) (vn : Nat → Nat) (ne : Nat → Nat) (vs : Nat → Nat) (li : Nat → Nat) (ba : Nat → Nat) (de : Nat → Nat) (qp : Nat → Nat) (qt : Nat → Nat) (ql : Nat → Nat) (qs : Nat → Nat) (qc : Nat → Nat) (ch : Nat → Nat) (ap : Nat → Nat) (un : Nat → Int32) (ro : Nat → Nat) (pi : Nat → Nat) (si : Nat → Nat) (pl : Nat → Int32) (rq : Nat) (dy : Nat) (en : Nat) (th : Int32) (q mm g : Nat) (hq : q < 30) (hm : mm ≤ 8) (hro : ∀ k, k < mm → ro k < 8) (hpi : ∀ k, k < mm → 1 ≤ pi k ∧ pi k ≤ 3) (kk : V X 0 0 (wMod cI ad vc vr vn ne vs li ba de qp qt ql qs (va_up qc q (rsS vc ro pi mm)) (rsC ro pi q ch mm) ap un ro pi si pl rq dy en th) 138 [(0, .ref (ad 0)), (1, .int (nI q)), (2, .int (nI mm)), (3, .int (nI g)), (4, .int (nI mm))] []) : ∀ (m j : Nat), mm - j < m → j ≤ mm → V X 0 0 (wMod cI ad vc vr vn ne vs li ba de qp qt ql qs (va_up qc q (rsS vc ro pi j)) (rsC ro pi q ch j) ap un ro pi si pl rq dy en th) 69 [(0, .ref (ad 0)), (1, .int (nI q)), (2, .int (nI mm)), (3, .int (nI g)), (4, .int (nI j))] [] := by
  intro m
  induction m with
  | zero => intro j h1; exact absurd h1 (Nat.not_lt_zero _)
  | succ m ih =>
    intro j h1 h2
    refine V_iload (pc := 69) o dX9_resolve_69 rfl ?_
    refine V_iload_n (pc := 71) o dX9_resolve_71 rfl ?_
    refine V_icmp_geN (pc := 72) o 138 j mm rfl rfl (by omega) (by omega) dX9_resolve_72 (by decide) (fun c72 => ?_) (fun c72 => ?_)
    · have e1 : j = mm := by omega
      rw [e1]
      exact V_sub (lc2 := [(0, .ref (ad 0)), (1, .int (nI q)), (2, .int (nI mm)), (3, .int (nI g)), (4, .int (nI mm))]) ⟨rfl, rfl, rfl, rfl, rfl, trivial⟩ kk
    · refine V_aload_n (pc := 75) o dX9_resolve_75 rfl ?_
      refine V_get (pc := 76) o 0 13 hiX9_resolve rfl rfl (by decide) lkX9_resolve_49 rfl rfl dX9_resolve_76 ?_
      refine V_bipush (pc := 79) o 8 dX9_resolve_79 (by decide) ?_
      refine V_iload_n (pc := 81) o dX9_resolve_81 rfl ?_
      refine V_imulN (pc := 82) o 8 q rfl rfl dX9_resolve_82 ?_
      refine V_aload_n (pc := 83) o dX9_resolve_83 rfl ?_
      refine V_get (pc := 84) o 0 19 hiX9_resolve rfl rfl (by decide) lkX9_resolve_58 rfl rfl dX9_resolve_84 ?_
      refine V_iload (pc := 87) o dX9_resolve_87 rfl ?_
      refine V_ialdN (pc := 89) o 17 ro j rfl ht rfl (by have := hro j (by omega); have := hpi j (by omega); omega) (by decide) dX9_resolve_89 ?_
      refine V_iaddN (pc := 90) o (8 * q) (ro j) rfl rfl dX9_resolve_90 ?_
      refine V_aload_n (pc := 91) o dX9_resolve_91 rfl ?_
      refine V_get (pc := 92) o 0 20 hiX9_resolve rfl rfl (by decide) lkX9_resolve_61 rfl rfl dX9_resolve_92 ?_
      refine V_iload (pc := 95) o dX9_resolve_95 rfl ?_
      refine V_ialdN (pc := 97) o 18 pi j rfl ht rfl (by have := hro j (by omega); have := hpi j (by omega); omega) (by decide) dX9_resolve_97 ?_
      refine V_iastN (pc := 98) o 14 (rsC ro pi q ch j) ((8 * q) + (ro j)) (pi j) rfl ht rfl rfl (by have := hro j (by omega); have := hpi j (by omega); omega) (by decide) dX9_resolve_98 ?_
      refine V_eq (ws2 := wMod cI ad vc vr vn ne vs li ba de qp qt ql qs (va_up qc q (rsS vc ro pi j)) (va_up (rsC ro pi q ch j) ((8 * q) + (ro j)) (pi j)) ap un ro pi si pl rq dy en th) rfl rfl ?_
      refine V_aload_n (pc := 99) o dX9_resolve_99 rfl ?_
      refine V_get (pc := 100) o 0 12 hiX9_resolve rfl rfl (by decide) lkX9_resolve_46 rfl rfl dX9_resolve_100 ?_
      refine V_iload_n (pc := 103) o dX9_resolve_103 rfl ?_
      refine V_dup2 (pc := 104) o rfl rfl dX9_resolve_104 ?_
      refine V_ialdN (pc := 105) o 13 (va_up qc q (rsS vc ro pi j)) q rfl ht rfl (by have := hro j (by omega); have := hpi j (by omega); omega) (by decide) dX9_resolve_105 ?_
      refine V_aload_n (pc := 106) o dX9_resolve_106 rfl ?_
      refine V_get (pc := 107) o 0 0 hiX9_resolve rfl rfl (by decide) lkX9_resolve_7 rfl rfl dX9_resolve_107 ?_
      refine V_iconst (pc := 110) o 3 dX9_resolve_110 (by decide) ?_
      refine V_aload_n (pc := 111) o dX9_resolve_111 rfl ?_
      refine V_get (pc := 112) o 0 19 hiX9_resolve rfl rfl (by decide) lkX9_resolve_58 rfl rfl dX9_resolve_112 ?_
      refine V_iload (pc := 115) o dX9_resolve_115 rfl ?_
      refine V_ialdN (pc := 117) o 17 ro j rfl ht rfl (by have := hro j (by omega); have := hpi j (by omega); omega) (by decide) dX9_resolve_117 ?_
      refine V_imulN (pc := 118) o 3 (ro j) rfl rfl dX9_resolve_118 ?_
      refine V_aload_n (pc := 119) o dX9_resolve_119 rfl ?_
      refine V_get (pc := 120) o 0 20 hiX9_resolve rfl rfl (by decide) lkX9_resolve_61 rfl rfl dX9_resolve_120 ?_
      refine V_iload (pc := 123) o dX9_resolve_123 rfl ?_
      refine V_ialdN (pc := 125) o 18 pi j rfl ht rfl (by have := hro j (by omega); have := hpi j (by omega); omega) (by decide) dX9_resolve_125 ?_
      refine V_iaddN (pc := 126) o (3 * (ro j)) (pi j) rfl rfl dX9_resolve_126 ?_
      refine V_iconst (pc := 127) o 1 dX9_resolve_127 (by decide) ?_
      refine V_isubN (pc := 128) o ((3 * (ro j)) + (pi j)) 1 rfl rfl (by have := hro j (by omega); have := hpi j (by omega); omega) dX9_resolve_128 ?_
      refine V_ialdN (pc := 129) o 1 vc (((3 * (ro j)) + (pi j)) - 1) rfl ht rfl (by have := hro j (by omega); have := hpi j (by omega); omega) (by decide) dX9_resolve_129 ?_
      refine V_iaddN (pc := 130) o ((va_up qc q (rsS vc ro pi j)) q) (vc (((3 * (ro j)) + (pi j)) - 1)) rfl rfl dX9_resolve_130 ?_
      refine V_iastN (pc := 131) o 13 (va_up qc q (rsS vc ro pi j)) q (((va_up qc q (rsS vc ro pi j)) q) + (vc (((3 * (ro j)) + (pi j)) - 1))) rfl ht rfl rfl (by have := hro j (by omega); have := hpi j (by omega); omega) (by decide) dX9_resolve_131 ?_
      refine V_eq (ws2 := wMod cI ad vc vr vn ne vs li ba de qp qt ql qs (va_up (va_up qc q (rsS vc ro pi j)) q (((va_up qc q (rsS vc ro pi j)) q) + (vc (((3 * (ro j)) + (pi j)) - 1)))) (va_up (rsC ro pi q ch j) ((8 * q) + (ro j)) (pi j)) ap un ro pi si pl rq dy en th) rfl rfl ?_
      refine V_iincN (pc := 132) o j 1 rfl dX9_resolve_132 (by rw [hn]; decide) rfl (by decide) ?_
      refine V_goto (pc := 135) o 69 dX9_resolve_135 (by decide) ?_
      refine V_eq (ws2 := wMod cI ad vc vr vn ne vs li ba de qp qt ql qs (va_up qc q (rsS vc ro pi (j + 1))) (rsC ro pi q ch (j + 1)) ap un ro pi si pl rq dy en th) (by simp only [up_add, rsS, rsC]) rfl ?_
      refine V_sub (lc2 := [(0, .ref (ad 0)), (1, .int (nI q)), (2, .int (nI mm)), (3, .int (nI g)), (4, .int (nI ((j + 1))))]) ⟨rfl, rfl, rfl, rfl, lc_e (by rfl), trivial⟩ ?_
      exact ih (j + 1) (by omega) (by omega)
set_option maxHeartbeats 4000000 in
set_option maxRecDepth 100000 in
/-- reference: resolveN -/
theorem k9_resolveN (l : Launch) (D : va_G) (tys : List (ClassId × FieldType)) (cI : ClassId) (ht : tys[0]? = some (cI, .int)) (ad : Nat → Nat) (vc : Nat → Nat) (vr : Nat → Nat) (vn : Nat → Nat) (ne : Nat → Nat) (vs : Nat → Nat) (li : Nat → Nat) (ba : Nat → Nat) (de : Nat → Nat) (qp : Nat → Nat) (qt : Nat → Nat) (ql : Nat → Nat) (qs : Nat → Nat) (qc : Nat → Nat) (ch : Nat → Nat) (ap : Nat → Nat) (un : Nat → Int32) (ro : Nat → Nat) (pi : Nat → Nat) (si : Nat → Nat) (pl : Nat → Int32) (rq : Nat) (dy : Nat) (en : Nat) (th : Int32) (q : Nat) (hq : q < rq) (hrq : rq ≤ 30) (hqs : ∀ k, qs k ≤ 2) (hqt : ∀ k, qt k ≤ 7) (hvn : ∀ k, vn k ≤ 4) (hne : ∀ k, ne k ≤ 7) (hvs : ∀ k, vs k ≤ 3) (hvr : ∀ k, vr k ≤ 1) (hql : 1 ≤ ql q ∧ ql q ≤ 3) (N : Nat) (St : Nat → SS) (hs : ∀ i, i < N → St (i + 1) = sF vr vn ne vs ql q (St i)) (hr : ∀ i, i < N → 1 ≤ (St i).1 ∧ (St i).1 ≤ (St i).2.1 ∧ sR vr vn ne ql q (St i)) (h0 : St 0 = (1, 1, va_up ro 0 (qt q), va_up pi 0 (vs (qt q) + 1), va_up si 0 1, va_up (ipP pl 8) (qt q) 0)) (hex : (St N).1 = 0 ∨ (St N).2.1 < (St N).1) (hb : (St N).1 < 100 ∧ (St N).2.1 < 100) (h : ¬ qs q = 2) (hA : (St N).1 = 0) : CId l yX9_resolve wsX9_resolve 4 D tys [.ref (ad 0), .int (nI q)] (wMod cI ad vc vr vn ne vs li ba de qp qt ql qs qc ch ap un ro pi si pl rq dy en th) (-1) (wMod cI ad vc vr vn ne vs li ba de qp qt ql qs qc ch ap un ((St N).2.2.1) ((St N).2.2.2.1) ((St N).2.2.2.2.1) ((St N).2.2.2.2.2) rq dy en 0) := by
  refine CI_of (maxL := 5) (cc := cX9_resolve) (y := yX9_resolve) rfl rfl (Nat.le_of_ble_eq_true rfl) (fun X hl hD hk hn hcz hsz o fin => ?_)
  subst hl; subst hD; subst hk
  refine V_aload_n (pc := 0) o dX9_resolve_0 rfl ?_
  refine V_aload_n (pc := 1) o dX9_resolve_1 rfl ?_
  refine V_iload_n (pc := 2) o dX9_resolve_2 rfl ?_
  refine V_rVi (pc := 3) o (k9_reqT _ _ _ cI ht ad vc vr vn ne vs li ba de qp qt ql qs qc ch ap un ro pi si pl rq dy en th q (by omega) hrq) 0 21 gX9_resolve_X9_isRequest rfl hdX9_isRequest ⟨by omega, by decide⟩ rfl rfl rfl (Nat.le_of_ble_eq_true rfl) dX9_resolve_3 rfl ?_
  refine V_if_ne (pc := 6) o 13 dX9_resolve_6 (by decide) (fun _ => ?_) (fun c6 => absurd c6 (by decide))
  refine V_aload_n (pc := 13) o dX9_resolve_13 rfl ?_
  refine V_get (pc := 14) o 0 11 hiX9_resolve rfl rfl (by decide) lkX9_resolve_43 rfl rfl dX9_resolve_14 ?_
  refine V_iload_n (pc := 17) o dX9_resolve_17 rfl ?_
  refine V_ialdN (pc := 18) o 12 qs q rfl ht rfl (by omega) (by decide) dX9_resolve_18 ?_
  refine V_iconst (pc := 19) o 2 dX9_resolve_19 (by decide) ?_
  refine V_icmp_neN (pc := 20) o 27 (qs q) 2 rfl rfl (by have := hqs q; omega) (by have := hqs q; omega) dX9_resolve_20 (by decide) (fun c20 => ?_) (fun c20 => absurd c20 (by omega))
  refine V_iconst (pc := 27) o 0 dX9_resolve_27 (by decide) ?_
  refine V_wVi (pc := 28) o (k9_holds _ _ _ cI ht ad vc vr vn ne vs li ba de qp qt ql qs qc ch ap un ro pi si pl rq dy en th 0) 0 21 (wMod cI ad vc vr vn ne vs li ba de qp qt ql qs qc ch ap un ro pi si pl rq dy en 0) gX9_resolve_X9_holds rfl hdX9_holds ⟨by omega, by decide⟩ rfl rfl rfl (Nat.le_of_ble_eq_true rfl) dX9_resolve_28 rfl rfl ?_
  refine V_ifF (by decide) ?_
  refine V_if_eq (pc := 31) o 36 dX9_resolve_31 (by decide) (fun _ => ?_) (fun c31 => absurd c31 (by decide))
  refine V_aload_n (pc := 36) o dX9_resolve_36 rfl ?_
  refine V_iload_n (pc := 37) o dX9_resolve_37 rfl ?_
  refine V_wVi (pc := 38) o (k9_search _ _ _ cI ht ad vc vr vn ne vs li ba de qp qt ql qs qc ch ap un ro pi si pl rq dy en 0 q (by omega) hqt hvn hne hvs hvr hql N St hs hr h0 hex hb) 0 21 (wMod cI ad vc vr vn ne vs li ba de qp qt ql qs qc ch ap un ((St N).2.2.1) ((St N).2.2.2.1) ((St N).2.2.2.2.1) ((St N).2.2.2.2.2) rq dy en 0) gX9_resolve_X9_search rfl hdX9_search ⟨by omega, by decide⟩ rfl rfl rfl (Nat.le_of_ble_eq_true rfl) dX9_resolve_38 rfl rfl ?_
  refine V_eq (st2 := .int (nI 0) :: []) rfl (by rw [if_pos hA]; rfl) ?_
  refine V_istore_n (pc := 41) o dX9_resolve_41 (by rw [hn]; decide) ?_
  refine V_iload_n (pc := 42) o dX9_resolve_42 rfl ?_
  refine V_if_ne (pc := 43) o 48 dX9_resolve_43 (by decide) (fun c43 => absurd c43 (by decide)) (fun _ => ?_)
  refine V_iconst (pc := 46) o (-1) dX9_resolve_46 (by decide) ?_
  exact fin 47 _ _ () dX9_resolve_47 rfl rfl
theorem lkX9_resolve_88 : Cond.fieldLink RX9 88 RX9 "entries" "I" ∈ wsX9_resolve := by decide +kernel
set_option maxHeartbeats 4000000 in
set_option maxRecDepth 100000 in
/-- reference: resolveK -/
theorem k9_resolveK (l : Launch) (D : va_G) (tys : List (ClassId × FieldType)) (cI : ClassId) (ht : tys[0]? = some (cI, .int)) (ad : Nat → Nat) (vc : Nat → Nat) (vr : Nat → Nat) (vn : Nat → Nat) (ne : Nat → Nat) (vs : Nat → Nat) (li : Nat → Nat) (ba : Nat → Nat) (de : Nat → Nat) (qp : Nat → Nat) (qt : Nat → Nat) (ql : Nat → Nat) (qs : Nat → Nat) (qc : Nat → Nat) (ch : Nat → Nat) (ap : Nat → Nat) (un : Nat → Int32) (ro : Nat → Nat) (pi : Nat → Nat) (si : Nat → Nat) (pl : Nat → Int32) (rq : Nat) (dy : Nat) (en : Nat) (th : Int32) (q : Nat) (hq : q < rq) (hrq : rq ≤ 30) (hqs : ∀ k, qs k ≤ 2) (hqt : ∀ k, qt k ≤ 7) (hvn : ∀ k, vn k ≤ 4) (hne : ∀ k, ne k ≤ 7) (hvs : ∀ k, vs k ≤ 3) (hvr : ∀ k, vr k ≤ 1) (hql : 1 ≤ ql q ∧ ql q ≤ 3) (N : Nat) (St : Nat → SS) (hs : ∀ i, i < N → St (i + 1) = sF vr vn ne vs ql q (St i)) (hr : ∀ i, i < N → 1 ≤ (St i).1 ∧ (St i).1 ≤ (St i).2.1 ∧ sR vr vn ne ql q (St i)) (h0 : St 0 = (1, 1, va_up ro 0 (qt q), va_up pi 0 (vs (qt q) + 1), va_up si 0 1, va_up (ipP pl 8) (qt q) 0)) (hex : (St N).1 = 0 ∨ (St N).2.1 < (St N).1) (hb : (St N).1 < 100 ∧ (St N).2.1 < 100) (h : ¬ qs q = 2) (hA : ¬ (St N).1 = 0) (hap : ∀ k, ap k ≤ 8) (hm : 1 ≤ ((St N).2.1) ∧ ((St N).2.1) ≤ 8) (hro : ∀ k, k < ((St N).2.1) → ((St N).2.2.1) k < 8) (hpi : ∀ k, k < ((St N).2.1) → 1 ≤ ((St N).2.2.2.1) k ∧ ((St N).2.2.2.1) k ≤ 3) : CId l yX9_resolve wsX9_resolve 4 D tys [.ref (ad 0), .int (nI q)] (wMod cI ad vc vr vn ne vs li ba de qp qt ql qs qc ch ap un ro pi si pl rq dy en th) (nI (rsS vc ((St N).2.2.1) ((St N).2.2.2.1) ((St N).2.1))) (wMod cI ad vc vr vn ne vs li ba de qp qt ql (va_up qs q 1) (va_up qc q (rsS vc ((St N).2.2.1) ((St N).2.2.2.1) ((St N).2.1))) (rsC ((St N).2.2.1) ((St N).2.2.2.1) q (emC ch q 8) ((St N).2.1)) (enA ap q 8) un ((St N).2.2.1) ((St N).2.2.2.1) ((St N).2.2.2.2.1) ((St N).2.2.2.2.2) rq dy (en + 1) 0) := by
  refine CI_of (maxL := 5) (cc := cX9_resolve) (y := yX9_resolve) rfl rfl (Nat.le_of_ble_eq_true rfl) (fun X hl hD hk hn hcz hsz o fin => ?_)
  subst hl; subst hD; subst hk
  refine V_aload_n (pc := 0) o dX9_resolve_0 rfl ?_
  refine V_aload_n (pc := 1) o dX9_resolve_1 rfl ?_
  refine V_iload_n (pc := 2) o dX9_resolve_2 rfl ?_
  refine V_rVi (pc := 3) o (k9_reqT _ _ _ cI ht ad vc vr vn ne vs li ba de qp qt ql qs qc ch ap un ro pi si pl rq dy en th q (by omega) hrq) 0 21 gX9_resolve_X9_isRequest rfl hdX9_isRequest ⟨by omega, by decide⟩ rfl rfl rfl (Nat.le_of_ble_eq_true rfl) dX9_resolve_3 rfl ?_
  refine V_if_ne (pc := 6) o 13 dX9_resolve_6 (by decide) (fun _ => ?_) (fun c6 => absurd c6 (by decide))
  refine V_aload_n (pc := 13) o dX9_resolve_13 rfl ?_
  refine V_get (pc := 14) o 0 11 hiX9_resolve rfl rfl (by decide) lkX9_resolve_43 rfl rfl dX9_resolve_14 ?_
  refine V_iload_n (pc := 17) o dX9_resolve_17 rfl ?_
  refine V_ialdN (pc := 18) o 12 qs q rfl ht rfl (by omega) (by decide) dX9_resolve_18 ?_
  refine V_iconst (pc := 19) o 2 dX9_resolve_19 (by decide) ?_
  refine V_icmp_neN (pc := 20) o 27 (qs q) 2 rfl rfl (by have := hqs q; omega) (by have := hqs q; omega) dX9_resolve_20 (by decide) (fun c20 => ?_) (fun c20 => absurd c20 (by omega))
  refine V_iconst (pc := 27) o 0 dX9_resolve_27 (by decide) ?_
  refine V_wVi (pc := 28) o (k9_holds _ _ _ cI ht ad vc vr vn ne vs li ba de qp qt ql qs qc ch ap un ro pi si pl rq dy en th 0) 0 21 (wMod cI ad vc vr vn ne vs li ba de qp qt ql qs qc ch ap un ro pi si pl rq dy en 0) gX9_resolve_X9_holds rfl hdX9_holds ⟨by omega, by decide⟩ rfl rfl rfl (Nat.le_of_ble_eq_true rfl) dX9_resolve_28 rfl rfl ?_
  refine V_ifF (by decide) ?_
  refine V_if_eq (pc := 31) o 36 dX9_resolve_31 (by decide) (fun _ => ?_) (fun c31 => absurd c31 (by decide))
  refine V_aload_n (pc := 36) o dX9_resolve_36 rfl ?_
  refine V_iload_n (pc := 37) o dX9_resolve_37 rfl ?_
  refine V_wVi (pc := 38) o (k9_search _ _ _ cI ht ad vc vr vn ne vs li ba de qp qt ql qs qc ch ap un ro pi si pl rq dy en 0 q (by omega) hqt hvn hne hvs hvr hql N St hs hr h0 hex hb) 0 21 (wMod cI ad vc vr vn ne vs li ba de qp qt ql qs qc ch ap un ((St N).2.2.1) ((St N).2.2.2.1) ((St N).2.2.2.2.1) ((St N).2.2.2.2.2) rq dy en 0) gX9_resolve_X9_search rfl hdX9_search ⟨by omega, by decide⟩ rfl rfl rfl (Nat.le_of_ble_eq_true rfl) dX9_resolve_38 rfl rfl ?_
  refine V_eq (st2 := .int (nI (((St N).2.1))) :: []) rfl (by rw [if_neg hA]) ?_
  refine V_istore_n (pc := 41) o dX9_resolve_41 (by rw [hn]; decide) ?_
  refine V_iload_n (pc := 42) o dX9_resolve_42 rfl ?_
  refine V_if_neN (pc := 43) o 48 (((St N).2.1)) rfl (by omega) dX9_resolve_43 (by decide) (fun c43 => ?_) (fun c43 => absurd c43 (by omega))
  refine V_aload_n (pc := 48) o dX9_resolve_48 rfl ?_
  refine V_iload_n (pc := 49) o dX9_resolve_49 rfl ?_
  refine V_wVv (pc := 50) o (k9_empty _ _ _ cI ht ad vc vr vn ne vs li ba de qp qt ql qs qc ch ap un ((St N).2.2.1) ((St N).2.2.2.1) ((St N).2.2.2.2.1) ((St N).2.2.2.2.2) rq dy en 0 q (by omega)) 0 21 (wMod cI ad vc vr vn ne vs li ba de qp qt ql qs qc (emC ch q 8) ap un ((St N).2.2.1) ((St N).2.2.2.1) ((St N).2.2.2.2.1) ((St N).2.2.2.2.2) rq dy en 0) gX9_resolve_X9_empty rfl hdX9_empty ⟨by omega, by decide⟩ rfl rfl rfl (Nat.le_of_ble_eq_true rfl) dX9_resolve_50 rfl rfl ?_
  refine V_aload_n (pc := 53) o dX9_resolve_53 rfl ?_
  refine V_iload_n (pc := 54) o dX9_resolve_54 rfl ?_
  refine V_wVi (pc := 55) o (k9_ends _ _ _ cI ht ad vc vr vn ne vs li ba de qp qt ql qs qc (emC ch q 8) ap un ((St N).2.2.1) ((St N).2.2.2.1) ((St N).2.2.2.2.1) ((St N).2.2.2.2.2) rq dy en 0 q (by omega) hap) 0 21 (wMod cI ad vc vr vn ne vs li ba de qp qt ql qs qc (emC ch q 8) (enA ap q 8) un ((St N).2.2.1) ((St N).2.2.2.1) ((St N).2.2.2.2.1) ((St N).2.2.2.2.2) rq dy en 0) gX9_resolve_X9_ends rfl hdX9_ends ⟨by omega, by decide⟩ rfl rfl rfl (Nat.le_of_ble_eq_true rfl) dX9_resolve_55 rfl rfl ?_
  refine V_istore_n (pc := 58) o dX9_resolve_58 (by rw [hn]; decide) ?_
  refine V_aload_n (pc := 59) o dX9_resolve_59 rfl ?_
  refine V_get (pc := 60) o 0 12 hiX9_resolve rfl rfl (by decide) lkX9_resolve_46 rfl rfl dX9_resolve_60 ?_
  refine V_iload_n (pc := 63) o dX9_resolve_63 rfl ?_
  refine V_iconst (pc := 64) o 0 dX9_resolve_64 (by decide) ?_
  refine V_iastN (pc := 65) o 13 qc q 0 rfl ht rfl rfl (by omega) (by decide) dX9_resolve_65 ?_
  refine V_eq (ws2 := wMod cI ad vc vr vn ne vs li ba de qp qt ql qs (va_up qc q 0) (emC ch q 8) (enA ap q 8) un ((St N).2.2.1) ((St N).2.2.2.1) ((St N).2.2.2.2.1) ((St N).2.2.2.2.2) rq dy en 0) rfl rfl ?_
  refine V_iconst (pc := 66) o 0 dX9_resolve_66 (by decide) ?_
  refine V_istore (pc := 67) o dX9_resolve_67 (by rw [hn]; decide) ?_
  refine V_eq (ws2 := wMod cI ad vc vr vn ne vs li ba de qp qt ql qs (va_up qc q (rsS vc ((St N).2.2.1) ((St N).2.2.2.1) 0)) (rsC ((St N).2.2.1) ((St N).2.2.2.1) q (emC ch q 8) 0) (enA ap q 8) un ((St N).2.2.1) ((St N).2.2.2.1) ((St N).2.2.2.2.1) ((St N).2.2.2.2.2) rq dy en 0) rfl rfl ?_
  refine V_sub (lc2 := [(0, .ref (ad 0)), (1, .int (nI q)), (2, .int (nI ((St N).2.1))), (3, .int (nI (enS ap q 8))), (4, .int (nI 0))]) ⟨rfl, rfl, rfl, rfl, rfl, trivial⟩ ?_
  refine lpX9_resolve o hn cI ht ad vc vr vn ne vs li ba de qp qt ql qs qc (emC ch q 8) (enA ap q 8) un ((St N).2.2.1) ((St N).2.2.2.1) ((St N).2.2.2.2.1) ((St N).2.2.2.2.2) rq dy en 0 q ((St N).2.1) (enS ap q 8) (by omega) hm.2 hro hpi ?_ (((St N).2.1) + 1) 0 (by omega) (by omega)
  refine V_aload_n (pc := 138) o dX9_resolve_138 rfl ?_
  refine V_get (pc := 139) o 0 11 hiX9_resolve rfl rfl (by decide) lkX9_resolve_43 rfl rfl dX9_resolve_139 ?_
  refine V_iload_n (pc := 142) o dX9_resolve_142 rfl ?_
  refine V_iconst (pc := 143) o 1 dX9_resolve_143 (by decide) ?_
  refine V_iastN (pc := 144) o 12 qs q 1 rfl ht rfl rfl (by omega) (by decide) dX9_resolve_144 ?_
  refine V_eq (ws2 := wMod cI ad vc vr vn ne vs li ba de qp qt ql (va_up qs q 1) (va_up qc q (rsS vc ((St N).2.2.1) ((St N).2.2.2.1) ((St N).2.1))) (rsC ((St N).2.2.1) ((St N).2.2.2.1) q (emC ch q 8) ((St N).2.1)) (enA ap q 8) un ((St N).2.2.1) ((St N).2.2.2.1) ((St N).2.2.2.2.1) ((St N).2.2.2.2.2) rq dy en 0) rfl rfl ?_
  refine V_aload_n (pc := 145) o dX9_resolve_145 rfl ?_
  refine V_dup (pc := 146) o rfl dX9_resolve_146 ?_
  refine V_get (pc := 147) o 0 18 hiX9_resolve rfl rfl (by decide) lkX9_resolve_88 rfl rfl dX9_resolve_147 ?_
  refine V_iconst (pc := 150) o 1 dX9_resolve_150 (by decide) ?_
  refine V_iaddN (pc := 151) o en 1 rfl rfl dX9_resolve_151 ?_
  refine V_put (pc := 152) o 0 18 hiX9_resolve tyX9 tyX9_ok nmX9 rfl rfl (by decide) lkX9_resolve_88 rfl rfl rfl rfl rfl (Nat.le_of_ble_eq_true rfl) dX9_resolve_152 ?_
  refine V_eq (ws2 := wMod cI ad vc vr vn ne vs li ba de qp qt ql (va_up qs q 1) (va_up qc q (rsS vc ((St N).2.2.1) ((St N).2.2.2.1) ((St N).2.1))) (rsC ((St N).2.2.1) ((St N).2.2.2.1) q (emC ch q 8) ((St N).2.1)) (enA ap q 8) un ((St N).2.2.1) ((St N).2.2.2.1) ((St N).2.2.2.2.1) ((St N).2.2.2.2.2) rq dy (en + 1) 0) rfl rfl ?_
  refine V_aload_n (pc := 155) o dX9_resolve_155 rfl ?_
  refine V_get (pc := 156) o 0 12 hiX9_resolve rfl rfl (by decide) lkX9_resolve_46 rfl rfl dX9_resolve_156 ?_
  refine V_iload_n (pc := 159) o dX9_resolve_159 rfl ?_
  refine V_ialdN (pc := 160) o 13 (va_up qc q (rsS vc ((St N).2.2.1) ((St N).2.2.2.1) ((St N).2.1))) q rfl ht rfl (by omega) (by decide) dX9_resolve_160 ?_
  exact fin 161 _ _ () dX9_resolve_161 rfl (by first | rfl | simp [va_up])
theorem hiX9_strain : ∀ w ∈ wsX90, w ∈ wsX9_strain := by decide +kernel
theorem lkX9_strain_34 : Cond.fieldLink RX9 34 RX9 "qp" "[I" ∈ wsX9_strain := by decide +kernel
theorem lkX9_strain_25 : Cond.fieldLink RX9 25 RX9 "lim" "[I" ∈ wsX9_strain := by decide +kernel
theorem lkX9_strain_46 : Cond.fieldLink RX9 46 RX9 "qc" "[I" ∈ wsX9_strain := by decide +kernel
set_option maxHeartbeats 4000000 in
set_option maxRecDepth 100000 in
theorem lpX9_strain {X : XT} (o : OkX X cX9_strain RX9 wsX9_strain 2) (hn : XN X = 5) (cI : ClassId) (ht : (XK X)[0]? = some (cI, .int)) (ad : Nat → Nat) (vc : Nat → Nat) (vr : Nat → Nat) (vn : Nat → Nat) (ne : Nat → Nat) (vs : Nat → Nat) (li : Nat → Nat) (ba : Nat → Nat) (de : Nat → Nat) (qp : Nat → Nat) (qt : Nat → Nat) (ql : Nat → Nat) (qs : Nat → Nat) (qc : Nat → Nat) (ch : Nat → Nat) (ap : Nat → Nat) (un : Nat → Int32) (ro : Nat → Nat) (pi : Nat → Nat) (si : Nat → Nat) (pl : Nat → Int32) (rq : Nat) (dy : Nat) (en : Nat) (th : Int32) (q : Nat) (hq : q < 30) (hba : ∀ k, ba k ≤ 40000) (hdy : dy ≤ 40000) (hli : ∀ k, li k ≤ 10000) (hqc : ∀ k, qc k ≤ 8000) (hqp : ∀ k, qp k ≤ 7) (kk : V X 0 0 (wMod cI ad vc vr vn ne vs li ba de qp qt ql qs qc ch ap un ro pi si pl rq dy en th) 114 [(0, .ref (ad 0)), (1, .int (nI q)), (2, .int (mxN li ba dy (qp q) (qc q) 8)), (3, .int (nI 8))] []) : ∀ (m j : Nat), 8 - j < m → j ≤ 8 → V X 0 0 (wMod cI ad vc vr vn ne vs li ba de qp qt ql qs qc ch ap un ro pi si pl rq dy en th) 36 [(0, .ref (ad 0)), (1, .int (nI q)), (2, .int (mxN li ba dy (qp q) (qc q) j)), (3, .int (nI j))] [] := by
  intro m
  induction m with
  | zero => intro j h1; exact absurd h1 (Nat.not_lt_zero _)
  | succ m ih =>
    intro j h1 h2
    rcases Nat.lt_or_ge dy (ba j) with ha | ha
    · refine V_iload_n (pc := 36) o dX9_strain_36 rfl ?_
      refine V_bipush (pc := 37) o 8 dX9_strain_37 (by decide) ?_
      refine V_icmp_geN (pc := 39) o 114 j 8 rfl rfl (by have := hqp q; have := hli j; have := hqc q; omega) (by have := hqp q; have := hli j; have := hqc q; omega) dX9_strain_39 (by decide) (fun c39 => ?_) (fun c39 => ?_)
      · have e1 : j = 8 := by omega
        rw [e1]
        exact kk
      · refine V_iload_n (pc := 42) o dX9_strain_42 rfl ?_
        refine V_aload_n (pc := 43) o dX9_strain_43 rfl ?_
        refine V_get (pc := 44) o 0 8 hiX9_strain rfl rfl (by decide) lkX9_strain_34 rfl rfl dX9_strain_44 ?_
        refine V_iload_n (pc := 47) o dX9_strain_47 rfl ?_
        refine V_ialdN (pc := 48) o 9 qp q rfl ht rfl (by have := hqp q; have := hli j; have := hqc q; omega) (by decide) dX9_strain_48 ?_
        refine V_icmp_eqN (pc := 49) o 79 j (qp q) rfl rfl (by have := hqp q; have := hli j; have := hqc q; omega) (by have := hqp q; have := hli j; have := hqc q; omega) dX9_strain_49 (by decide) (fun c49 => ?_) (fun c49 => ?_)
        · refine V_iconst (pc := 79) o 0 dX9_strain_79 (by decide) ?_
          refine V_istore (pc := 80) o dX9_strain_80 (by rw [hn]; decide) ?_
          refine V_iload (pc := 82) o dX9_strain_82 rfl ?_
          refine V_if_eq (pc := 84) o 106 dX9_strain_84 (by decide) (fun _ => ?_) (fun c84 => absurd c84 (by decide))
          refine V_iload_n (pc := 106) o dX9_strain_106 rfl ?_
          refine V_istore_n (pc := 107) o dX9_strain_107 (by rw [hn]; decide) ?_
          refine V_iincN (pc := 108) o j 1 rfl dX9_strain_108 (by rw [hn]; decide) rfl (by decide) ?_
          refine V_goto (pc := 111) o 36 dX9_strain_111 (by decide) ?_
          exact V_sub (lc2 := [(0, .ref (ad 0)), (1, .int (nI q)), (2, .int (mxN li ba dy (qp q) (qc q) (j + 1))), (3, .int (nI (j + 1)))]) ⟨rfl, rfl, lc_e (by first | (rw [mxN, if_pos ⟨by omega, by omega, by omega, Int32.not_le.mp (by assumption)⟩]; done) | (rw [mxN, if_neg (by rintro ⟨x1, x2, x3, x4⟩; first | omega | exact absurd x4 (Int32.not_lt.mpr (by assumption)))]; done)), rfl, trivial⟩ (ih (j + 1) (by omega) (by omega))
        · refine V_aload_n (pc := 52) o dX9_strain_52 rfl ?_
          refine V_iload_n (pc := 53) o dX9_strain_53 rfl ?_
          refine V_rVi (pc := 54) o (k9_awayT _ _ _ cI ht ad vc vr vn ne vs li ba de qp qt ql qs qc ch ap un ro pi si pl rq dy en th j (by omega) hba hdy (by omega)) 0 21 gX9_strain_X9_isAway rfl hdX9_isAway ⟨by omega, by decide⟩ rfl rfl rfl (Nat.le_of_ble_eq_true rfl) dX9_strain_54 rfl ?_
          refine V_if_ne (pc := 57) o 79 dX9_strain_57 (by decide) (fun _ => ?_) (fun c57 => absurd c57 (by decide))
          refine V_iconst (pc := 79) o 0 dX9_strain_79 (by decide) ?_
          refine V_istore (pc := 80) o dX9_strain_80 (by rw [hn]; decide) ?_
          refine V_iload (pc := 82) o dX9_strain_82 rfl ?_
          refine V_if_eq (pc := 84) o 106 dX9_strain_84 (by decide) (fun _ => ?_) (fun c84 => absurd c84 (by decide))
          refine V_iload_n (pc := 106) o dX9_strain_106 rfl ?_
          refine V_istore_n (pc := 107) o dX9_strain_107 (by rw [hn]; decide) ?_
          refine V_iincN (pc := 108) o j 1 rfl dX9_strain_108 (by rw [hn]; decide) rfl (by decide) ?_
          refine V_goto (pc := 111) o 36 dX9_strain_111 (by decide) ?_
          exact V_sub (lc2 := [(0, .ref (ad 0)), (1, .int (nI q)), (2, .int (mxN li ba dy (qp q) (qc q) (j + 1))), (3, .int (nI (j + 1)))]) ⟨rfl, rfl, lc_e (by first | (rw [mxN, if_pos ⟨by omega, by omega, by omega, Int32.not_le.mp (by assumption)⟩]; done) | (rw [mxN, if_neg (by rintro ⟨x1, x2, x3, x4⟩; first | omega | exact absurd x4 (Int32.not_lt.mpr (by assumption)))]; done)), rfl, trivial⟩ (ih (j + 1) (by omega) (by omega))
    · refine V_iload_n (pc := 36) o dX9_strain_36 rfl ?_
      refine V_bipush (pc := 37) o 8 dX9_strain_37 (by decide) ?_
      refine V_icmp_geN (pc := 39) o 114 j 8 rfl rfl (by have := hqp q; have := hli j; have := hqc q; omega) (by have := hqp q; have := hli j; have := hqc q; omega) dX9_strain_39 (by decide) (fun c39 => ?_) (fun c39 => ?_)
      · have e1 : j = 8 := by omega
        rw [e1]
        exact kk
      · refine V_iload_n (pc := 42) o dX9_strain_42 rfl ?_
        refine V_aload_n (pc := 43) o dX9_strain_43 rfl ?_
        refine V_get (pc := 44) o 0 8 hiX9_strain rfl rfl (by decide) lkX9_strain_34 rfl rfl dX9_strain_44 ?_
        refine V_iload_n (pc := 47) o dX9_strain_47 rfl ?_
        refine V_ialdN (pc := 48) o 9 qp q rfl ht rfl (by have := hqp q; have := hli j; have := hqc q; omega) (by decide) dX9_strain_48 ?_
        refine V_icmp_eqN (pc := 49) o 79 j (qp q) rfl rfl (by have := hqp q; have := hli j; have := hqc q; omega) (by have := hqp q; have := hli j; have := hqc q; omega) dX9_strain_49 (by decide) (fun c49 => ?_) (fun c49 => ?_)
        · refine V_iconst (pc := 79) o 0 dX9_strain_79 (by decide) ?_
          refine V_istore (pc := 80) o dX9_strain_80 (by rw [hn]; decide) ?_
          refine V_iload (pc := 82) o dX9_strain_82 rfl ?_
          refine V_if_eq (pc := 84) o 106 dX9_strain_84 (by decide) (fun _ => ?_) (fun c84 => absurd c84 (by decide))
          refine V_iload_n (pc := 106) o dX9_strain_106 rfl ?_
          refine V_istore_n (pc := 107) o dX9_strain_107 (by rw [hn]; decide) ?_
          refine V_iincN (pc := 108) o j 1 rfl dX9_strain_108 (by rw [hn]; decide) rfl (by decide) ?_
          refine V_goto (pc := 111) o 36 dX9_strain_111 (by decide) ?_
          exact V_sub (lc2 := [(0, .ref (ad 0)), (1, .int (nI q)), (2, .int (mxN li ba dy (qp q) (qc q) (j + 1))), (3, .int (nI (j + 1)))]) ⟨rfl, rfl, lc_e (by first | (rw [mxN, if_pos ⟨by omega, by omega, by omega, Int32.not_le.mp (by assumption)⟩]; done) | (rw [mxN, if_neg (by rintro ⟨x1, x2, x3, x4⟩; first | omega | exact absurd x4 (Int32.not_lt.mpr (by assumption)))]; done)), rfl, trivial⟩ (ih (j + 1) (by omega) (by omega))
        · refine V_aload_n (pc := 52) o dX9_strain_52 rfl ?_
          refine V_iload_n (pc := 53) o dX9_strain_53 rfl ?_
          refine V_rVi (pc := 54) o (k9_awayF _ _ _ cI ht ad vc vr vn ne vs li ba de qp qt ql qs qc ch ap un ro pi si pl rq dy en th j (by omega) hba hdy (by omega)) 0 21 gX9_strain_X9_isAway rfl hdX9_isAway ⟨by omega, by decide⟩ rfl rfl rfl (Nat.le_of_ble_eq_true rfl) dX9_strain_54 rfl ?_
          refine V_if_ne (pc := 57) o 79 dX9_strain_57 (by decide) (fun c57 => absurd c57 (by decide)) (fun _ => ?_)
          refine V_aload_n (pc := 60) o dX9_strain_60 rfl ?_
          refine V_get (pc := 61) o 0 5 hiX9_strain rfl rfl (by decide) lkX9_strain_25 rfl rfl dX9_strain_61 ?_
          refine V_iload_n (pc := 64) o dX9_strain_64 rfl ?_
          refine V_ialdN (pc := 65) o 6 li j rfl ht rfl (by have := hqp q; have := hli j; have := hqc q; omega) (by decide) dX9_strain_65 ?_
          refine V_aload_n (pc := 66) o dX9_strain_66 rfl ?_
          refine V_get (pc := 67) o 0 12 hiX9_strain rfl rfl (by decide) lkX9_strain_46 rfl rfl dX9_strain_67 ?_
          refine V_iload_n (pc := 70) o dX9_strain_70 rfl ?_
          refine V_ialdN (pc := 71) o 13 qc q rfl ht rfl (by have := hqp q; have := hli j; have := hqc q; omega) (by decide) dX9_strain_71 ?_
          refine V_icmp_ltN (pc := 72) o 79 (li j) (qc q) rfl rfl (by have := hqp q; have := hli j; have := hqc q; omega) (by have := hqp q; have := hli j; have := hqc q; omega) dX9_strain_72 (by decide) (fun c72 => ?_) (fun c72 => ?_)
          · refine V_iconst (pc := 79) o 0 dX9_strain_79 (by decide) ?_
            refine V_istore (pc := 80) o dX9_strain_80 (by rw [hn]; decide) ?_
            refine V_iload (pc := 82) o dX9_strain_82 rfl ?_
            refine V_if_eq (pc := 84) o 106 dX9_strain_84 (by decide) (fun _ => ?_) (fun c84 => absurd c84 (by decide))
            refine V_iload_n (pc := 106) o dX9_strain_106 rfl ?_
            refine V_istore_n (pc := 107) o dX9_strain_107 (by rw [hn]; decide) ?_
            refine V_iincN (pc := 108) o j 1 rfl dX9_strain_108 (by rw [hn]; decide) rfl (by decide) ?_
            refine V_goto (pc := 111) o 36 dX9_strain_111 (by decide) ?_
            exact V_sub (lc2 := [(0, .ref (ad 0)), (1, .int (nI q)), (2, .int (mxN li ba dy (qp q) (qc q) (j + 1))), (3, .int (nI (j + 1)))]) ⟨rfl, rfl, lc_e (by first | (rw [mxN, if_pos ⟨by omega, by omega, by omega, Int32.not_le.mp (by assumption)⟩]; done) | (rw [mxN, if_neg (by rintro ⟨x1, x2, x3, x4⟩; first | omega | exact absurd x4 (Int32.not_lt.mpr (by assumption)))]; done)), rfl, trivial⟩ (ih (j + 1) (by omega) (by omega))
          · refine V_iconst (pc := 75) o 1 dX9_strain_75 (by decide) ?_
            refine V_goto (pc := 76) o 80 dX9_strain_76 (by decide) ?_
            refine V_istore (pc := 80) o dX9_strain_80 (by rw [hn]; decide) ?_
            refine V_iload (pc := 82) o dX9_strain_82 rfl ?_
            refine V_if_eq (pc := 84) o 106 dX9_strain_84 (by decide) (fun c84 => absurd c84 (by decide)) (fun _ => ?_)
            refine V_aload_n (pc := 87) o dX9_strain_87 rfl ?_
            refine V_get (pc := 88) o 0 5 hiX9_strain rfl rfl (by decide) lkX9_strain_25 rfl rfl dX9_strain_88 ?_
            refine V_iload_n (pc := 91) o dX9_strain_91 rfl ?_
            refine V_ialdN (pc := 92) o 6 li j rfl ht rfl (by have := hqp q; have := hli j; have := hqc q; omega) (by decide) dX9_strain_92 ?_
            refine V_iload_n (pc := 93) o dX9_strain_93 rfl ?_
            refine V_icmp_le (pc := 94) o 106 dX9_strain_94 (by decide) (fun c94 => ?_) (fun c94 => ?_)
            · refine V_iload_n (pc := 106) o dX9_strain_106 rfl ?_
              refine V_istore_n (pc := 107) o dX9_strain_107 (by rw [hn]; decide) ?_
              refine V_iincN (pc := 108) o j 1 rfl dX9_strain_108 (by rw [hn]; decide) rfl (by decide) ?_
              refine V_goto (pc := 111) o 36 dX9_strain_111 (by decide) ?_
              exact V_sub (lc2 := [(0, .ref (ad 0)), (1, .int (nI q)), (2, .int (mxN li ba dy (qp q) (qc q) (j + 1))), (3, .int (nI (j + 1)))]) ⟨rfl, rfl, lc_e (by first | (rw [mxN, if_pos ⟨by omega, by omega, by omega, Int32.not_le.mp (by assumption)⟩]; done) | (rw [mxN, if_neg (by rintro ⟨x1, x2, x3, x4⟩; first | omega | exact absurd x4 (Int32.not_lt.mpr (by assumption)))]; done)), rfl, trivial⟩ (ih (j + 1) (by omega) (by omega))
            · refine V_aload_n (pc := 97) o dX9_strain_97 rfl ?_
              refine V_get (pc := 98) o 0 5 hiX9_strain rfl rfl (by decide) lkX9_strain_25 rfl rfl dX9_strain_98 ?_
              refine V_iload_n (pc := 101) o dX9_strain_101 rfl ?_
              refine V_ialdN (pc := 102) o 6 li j rfl ht rfl (by have := hqp q; have := hli j; have := hqc q; omega) (by decide) dX9_strain_102 ?_
              refine V_goto (pc := 103) o 107 dX9_strain_103 (by decide) ?_
              refine V_istore_n (pc := 107) o dX9_strain_107 (by rw [hn]; decide) ?_
              refine V_iincN (pc := 108) o j 1 rfl dX9_strain_108 (by rw [hn]; decide) rfl (by decide) ?_
              refine V_goto (pc := 111) o 36 dX9_strain_111 (by decide) ?_
              exact V_sub (lc2 := [(0, .ref (ad 0)), (1, .int (nI q)), (2, .int (mxN li ba dy (qp q) (qc q) (j + 1))), (3, .int (nI (j + 1)))]) ⟨rfl, rfl, lc_e (by first | (rw [mxN, if_pos ⟨by omega, by omega, by omega, Int32.not_le.mp (by assumption)⟩]; done) | (rw [mxN, if_neg (by rintro ⟨x1, x2, x3, x4⟩; first | omega | exact absurd x4 (Int32.not_lt.mpr (by assumption)))]; done)), rfl, trivial⟩ (ih (j + 1) (by omega) (by omega))
theorem ldfX9_strain : Cond.constantFloat RX9 134 3212836864 ∈ wsX9_strain := by decide +kernel
theorem hdX9_strain : yX9_strain.cls = RX9 ∧ yX9_strain.cls ≠ "java/lang/invoke/MethodHandle" ∧ yX9_strain.cls ≠ "java/lang/invoke/VarHandle" ∧ (parseMethodDescriptor yX9_strain.desc).map (fun d => d.parameters.length) = some 1 := by decide +kernel
set_option maxHeartbeats 4000000 in
set_option maxRecDepth 100000 in
theorem k9_strain1 (l : Launch) (D : va_G) (tys : List (ClassId × FieldType)) (cI : ClassId) (ht : tys[0]? = some (cI, .int)) (ad : Nat → Nat) (vc : Nat → Nat) (vr : Nat → Nat) (vn : Nat → Nat) (ne : Nat → Nat) (vs : Nat → Nat) (li : Nat → Nat) (ba : Nat → Nat) (de : Nat → Nat) (qp : Nat → Nat) (qt : Nat → Nat) (ql : Nat → Nat) (qs : Nat → Nat) (qc : Nat → Nat) (ch : Nat → Nat) (ap : Nat → Nat) (un : Nat → Int32) (ro : Nat → Nat) (pi : Nat → Nat) (si : Nat → Nat) (pl : Nat → Int32) (rq : Nat) (dy : Nat) (en : Nat) (th : Int32) (q : Int32) (h : q < 0 ∨ nI rq ≤ q) (hrq : rq ≤ 30) : CFd l yX9_strain wsX9_strain 2 D tys [.ref (ad 0), .int q] (wMod cI ad vc vr vn ne vs li ba de qp qt ql qs qc ch ap un ro pi si pl rq dy en th) (3212836864) (wMod cI ad vc vr vn ne vs li ba de qp qt ql qs qc ch ap un ro pi si pl rq dy en 1) := by
  refine CF_of (maxL := 5) (cc := cX9_strain) (y := yX9_strain) rfl rfl (Nat.le_of_ble_eq_true rfl) (fun X hl hD hk hn hcz hsz o fin => ?_)
  subst hl; subst hD; subst hk
  refine V_aload_n (pc := 0) o dX9_strain_0 rfl ?_
  refine V_aload_n (pc := 1) o dX9_strain_1 rfl ?_
  refine V_iload_n (pc := 2) o dX9_strain_2 rfl ?_
  refine V_rVi (pc := 3) o (k9_reqF _ _ _ cI ht ad vc vr vn ne vs li ba de qp qt ql qs qc ch ap un ro pi si pl rq dy en th q h hrq) 0 21 gX9_strain_X9_isRequest rfl hdX9_isRequest ⟨by omega, by decide⟩ rfl rfl rfl (Nat.le_of_ble_eq_true rfl) dX9_strain_3 rfl ?_
  refine V_if_eq (pc := 6) o 13 dX9_strain_6 (by decide) (fun _ => ?_) (fun c6 => absurd c6 (by decide))
  refine V_iconst (pc := 13) o 1 dX9_strain_13 (by decide) ?_
  refine V_wVi (pc := 14) o (k9_holds _ _ _ cI ht ad vc vr vn ne vs li ba de qp qt ql qs qc ch ap un ro pi si pl rq dy en th 1) 0 21 (wMod cI ad vc vr vn ne vs li ba de qp qt ql qs qc ch ap un ro pi si pl rq dy en 1) gX9_strain_X9_holds rfl hdX9_holds ⟨by omega, by decide⟩ rfl rfl rfl (Nat.le_of_ble_eq_true rfl) dX9_strain_14 rfl rfl ?_
  refine V_ifT (by decide) ?_
  refine V_if_ne (pc := 17) o 29 dX9_strain_17 (by decide) (fun _ => ?_) (fun c17 => absurd c17 (by decide))
  refine V_ldcf (pc := 29) o ldfX9_strain dX9_strain_29 ?_
  exact fin 31 _ _ dX9_strain_31 (by rfl)
theorem lkX9_strain_43 : Cond.fieldLink RX9 43 RX9 "qs" "[I" ∈ wsX9_strain := by decide +kernel
set_option maxHeartbeats 4000000 in
set_option maxRecDepth 100000 in
theorem k9_strain0 (l : Launch) (D : va_G) (tys : List (ClassId × FieldType)) (cI : ClassId) (ht : tys[0]? = some (cI, .int)) (ad : Nat → Nat) (vc : Nat → Nat) (vr : Nat → Nat) (vn : Nat → Nat) (ne : Nat → Nat) (vs : Nat → Nat) (li : Nat → Nat) (ba : Nat → Nat) (de : Nat → Nat) (qp : Nat → Nat) (qt : Nat → Nat) (ql : Nat → Nat) (qs : Nat → Nat) (qc : Nat → Nat) (ch : Nat → Nat) (ap : Nat → Nat) (un : Nat → Int32) (ro : Nat → Nat) (pi : Nat → Nat) (si : Nat → Nat) (pl : Nat → Int32) (rq : Nat) (dy : Nat) (en : Nat) (th : Int32) (q : Nat) (hq : q < rq) (hrq : rq ≤ 30) (hqs : ∀ k, qs k ≤ 2) (hba : ∀ k, ba k ≤ 40000) (hdy : dy ≤ 40000) (hli : ∀ k, li k ≤ 10000) (hqc : ∀ k, qc k ≤ 8000) (hqp : ∀ k, qp k ≤ 7) (h : qs q = 0) : CFd l yX9_strain wsX9_strain 2 D tys [.ref (ad 0), .int (nI q)] (wMod cI ad vc vr vn ne vs li ba de qp qt ql qs qc ch ap un ro pi si pl rq dy en th) (strF (nI (qs q)) (nI (qc q)) (mxN li ba dy (qp q) (qc q) 8)) (wMod cI ad vc vr vn ne vs li ba de qp qt ql qs qc ch ap un ro pi si pl rq dy en 0) := by
  refine CF_of (maxL := 5) (cc := cX9_strain) (y := yX9_strain) rfl rfl (Nat.le_of_ble_eq_true rfl) (fun X hl hD hk hn hcz hsz o fin => ?_)
  subst hl; subst hD; subst hk
  refine V_aload_n (pc := 0) o dX9_strain_0 rfl ?_
  refine V_aload_n (pc := 1) o dX9_strain_1 rfl ?_
  refine V_iload_n (pc := 2) o dX9_strain_2 rfl ?_
  refine V_rVi (pc := 3) o (k9_reqT _ _ _ cI ht ad vc vr vn ne vs li ba de qp qt ql qs qc ch ap un ro pi si pl rq dy en th q (by omega) hrq) 0 21 gX9_strain_X9_isRequest rfl hdX9_isRequest ⟨by omega, by decide⟩ rfl rfl rfl (Nat.le_of_ble_eq_true rfl) dX9_strain_3 rfl ?_
  refine V_if_eq (pc := 6) o 13 dX9_strain_6 (by decide) (fun c6 => absurd c6 (by decide)) (fun _ => ?_)
  refine V_iconst (pc := 9) o 0 dX9_strain_9 (by decide) ?_
  refine V_goto (pc := 10) o 14 dX9_strain_10 (by decide) ?_
  refine V_wVi (pc := 14) o (k9_holds _ _ _ cI ht ad vc vr vn ne vs li ba de qp qt ql qs qc ch ap un ro pi si pl rq dy en th 0) 0 21 (wMod cI ad vc vr vn ne vs li ba de qp qt ql qs qc ch ap un ro pi si pl rq dy en 0) gX9_strain_X9_holds rfl hdX9_holds ⟨by omega, by decide⟩ rfl rfl rfl (Nat.le_of_ble_eq_true rfl) dX9_strain_14 rfl rfl ?_
  refine V_ifF (by decide) ?_
  refine V_if_ne (pc := 17) o 29 dX9_strain_17 (by decide) (fun c17 => absurd c17 (by decide)) (fun _ => ?_)
  refine V_aload_n (pc := 20) o dX9_strain_20 rfl ?_
  refine V_get (pc := 21) o 0 11 hiX9_strain rfl rfl (by decide) lkX9_strain_43 rfl rfl dX9_strain_21 ?_
  refine V_iload_n (pc := 24) o dX9_strain_24 rfl ?_
  refine V_ialdN (pc := 25) o 12 qs q rfl ht rfl (by omega) (by decide) dX9_strain_25 ?_
  refine V_if_neN (pc := 26) o 32 (qs q) rfl (by have := hqs q; omega) dX9_strain_26 (by decide) (fun c26 => absurd c26 (by omega)) (fun c26 => ?_)
  refine V_ldcf (pc := 29) o ldfX9_strain dX9_strain_29 ?_
  exact fin 31 _ _ dX9_strain_31 (by rw [h]; rfl)
set_option maxHeartbeats 4000000 in
set_option maxRecDepth 100000 in
theorem k9_strainK (l : Launch) (D : va_G) (tys : List (ClassId × FieldType)) (cI : ClassId) (ht : tys[0]? = some (cI, .int)) (ad : Nat → Nat) (vc : Nat → Nat) (vr : Nat → Nat) (vn : Nat → Nat) (ne : Nat → Nat) (vs : Nat → Nat) (li : Nat → Nat) (ba : Nat → Nat) (de : Nat → Nat) (qp : Nat → Nat) (qt : Nat → Nat) (ql : Nat → Nat) (qs : Nat → Nat) (qc : Nat → Nat) (ch : Nat → Nat) (ap : Nat → Nat) (un : Nat → Int32) (ro : Nat → Nat) (pi : Nat → Nat) (si : Nat → Nat) (pl : Nat → Int32) (rq : Nat) (dy : Nat) (en : Nat) (th : Int32) (q : Nat) (hq : q < rq) (hrq : rq ≤ 30) (hqs : ∀ k, qs k ≤ 2) (hba : ∀ k, ba k ≤ 40000) (hdy : dy ≤ 40000) (hli : ∀ k, li k ≤ 10000) (hqc : ∀ k, qc k ≤ 8000) (hqp : ∀ k, qp k ≤ 7) (h : 0 < qs q) : CFd l yX9_strain wsX9_strain 2 D tys [.ref (ad 0), .int (nI q)] (wMod cI ad vc vr vn ne vs li ba de qp qt ql qs qc ch ap un ro pi si pl rq dy en th) (strF (nI (qs q)) (nI (qc q)) (mxN li ba dy (qp q) (qc q) 8)) (wMod cI ad vc vr vn ne vs li ba de qp qt ql qs qc ch ap un ro pi si pl rq dy en 0) := by
  refine CF_of (maxL := 5) (cc := cX9_strain) (y := yX9_strain) rfl rfl (Nat.le_of_ble_eq_true rfl) (fun X hl hD hk hn hcz hsz o fin => ?_)
  subst hl; subst hD; subst hk
  have n0 : ¬ nI (qs q) = 0 := fun x => by have := hqs q; have := (nI_eq (a := qs q) (b := 0) (by omega) (by decide)).mp x; omega
  have mxb := mxN_b hli ba dy (qp q) (qc q) 8
  have mx_m : ¬ (0 : Int32) ≤ mxN li ba dy (qp q) (qc q) 8 → mxN li ba dy (qp q) (qc q) 8 = -1 := fun x => by
    rcases mxb with y | ⟨w, hw, y⟩
    · exact y
    · rw [y] at x; exact absurd (nI_pos' (by omega)) x
  have mx_n : (0 : Int32) ≤ mxN li ba dy (qp q) (qc q) 8 → ¬ mxN li ba dy (qp q) (qc q) 8 = -1 := fun x y => by rw [y] at x; exact absurd x (by decide)
  refine V_aload_n (pc := 0) o dX9_strain_0 rfl ?_
  refine V_aload_n (pc := 1) o dX9_strain_1 rfl ?_
  refine V_iload_n (pc := 2) o dX9_strain_2 rfl ?_
  refine V_rVi (pc := 3) o (k9_reqT _ _ _ cI ht ad vc vr vn ne vs li ba de qp qt ql qs qc ch ap un ro pi si pl rq dy en th q (by omega) hrq) 0 21 gX9_strain_X9_isRequest rfl hdX9_isRequest ⟨by omega, by decide⟩ rfl rfl rfl (Nat.le_of_ble_eq_true rfl) dX9_strain_3 rfl ?_
  refine V_if_eq (pc := 6) o 13 dX9_strain_6 (by decide) (fun c6 => absurd c6 (by decide)) (fun _ => ?_)
  refine V_iconst (pc := 9) o 0 dX9_strain_9 (by decide) ?_
  refine V_goto (pc := 10) o 14 dX9_strain_10 (by decide) ?_
  refine V_wVi (pc := 14) o (k9_holds _ _ _ cI ht ad vc vr vn ne vs li ba de qp qt ql qs qc ch ap un ro pi si pl rq dy en th 0) 0 21 (wMod cI ad vc vr vn ne vs li ba de qp qt ql qs qc ch ap un ro pi si pl rq dy en 0) gX9_strain_X9_holds rfl hdX9_holds ⟨by omega, by decide⟩ rfl rfl rfl (Nat.le_of_ble_eq_true rfl) dX9_strain_14 rfl rfl ?_
  refine V_ifF (by decide) ?_
  refine V_if_ne (pc := 17) o 29 dX9_strain_17 (by decide) (fun c17 => absurd c17 (by decide)) (fun _ => ?_)
  refine V_aload_n (pc := 20) o dX9_strain_20 rfl ?_
  refine V_get (pc := 21) o 0 11 hiX9_strain rfl rfl (by decide) lkX9_strain_43 rfl rfl dX9_strain_21 ?_
  refine V_iload_n (pc := 24) o dX9_strain_24 rfl ?_
  refine V_ialdN (pc := 25) o 12 qs q rfl ht rfl (by omega) (by decide) dX9_strain_25 ?_
  refine V_if_neN (pc := 26) o 32 (qs q) rfl (by have := hqs q; omega) dX9_strain_26 (by decide) (fun c26 => ?_) (fun c26 => absurd c26 (by omega))
  refine V_iconst (pc := 32) o (-1) dX9_strain_32 (by decide) ?_
  refine V_istore_n (pc := 33) o dX9_strain_33 (by rw [hn]; decide) ?_
  refine V_iconst (pc := 34) o 0 dX9_strain_34 (by decide) ?_
  refine V_istore_n (pc := 35) o dX9_strain_35 (by rw [hn]; decide) ?_
  refine V_sub (lc2 := [(0, .ref (ad 0)), (1, .int (nI q)), (2, .int (mxN li ba dy (qp q) (qc q) 0)), (3, .int (nI 0))]) ⟨rfl, rfl, rfl, rfl, trivial⟩ ?_
  refine lpX9_strain o hn cI ht ad vc vr vn ne vs li ba de qp qt ql qs qc ch ap un ro pi si pl rq dy en 0 q (by omega) hba hdy hli hqc hqp ?_ (8 + 1) 0 (by omega) (by omega)
  refine V_iload_n (pc := 114) o dX9_strain_114 rfl ?_
  refine V_if_ge (pc := 115) o 123 dX9_strain_115 (by decide) (fun c115 => ?_) (fun c115 => ?_)
  · refine V_iload_n (pc := 123) o dX9_strain_123 rfl ?_
    refine V_if_ne (pc := 124) o 131 dX9_strain_124 (by decide) (fun c124 => ?_) (fun c124 => ?_)
    · refine V_aload_n (pc := 131) o dX9_strain_131 rfl ?_
      refine V_get (pc := 132) o 0 12 hiX9_strain rfl rfl (by decide) lkX9_strain_46 rfl rfl dX9_strain_132 ?_
      refine V_iload_n (pc := 135) o dX9_strain_135 rfl ?_
      refine V_ialdN (pc := 136) o 13 qc q rfl ht rfl (by omega) (by decide) dX9_strain_136 ?_
      refine V_i2f (pc := 137) o dX9_strain_137 ?_
      refine V_iload_n (pc := 138) o dX9_strain_138 rfl ?_
      refine V_i2f (pc := 139) o dX9_strain_139 ?_
      refine V_fdiv (pc := 140) o dX9_strain_140 (fdv_ok _ (by assumption)) ?_
      exact fin 141 _ _ dX9_strain_141 (by unfold strF; rw [if_neg n0]; first | (rw [if_pos (mx_m (by assumption))]; done) | (rw [if_neg (mx_n (by assumption)), if_pos (by assumption)]; done) | (rw [if_neg (mx_n (by assumption)), if_neg (by assumption)]; done))
    · refine V_fconst0 (pc := 127) o dX9_strain_127 ?_
      refine V_goto (pc := 128) o 141 dX9_strain_128 (by decide) ?_
      exact fin 141 _ _ dX9_strain_141 (by unfold strF; rw [if_neg n0]; first | (rw [if_pos (mx_m (by assumption))]; done) | (rw [if_neg (mx_n (by assumption)), if_pos (by assumption)]; done) | (rw [if_neg (mx_n (by assumption)), if_neg (by assumption)]; done))
  · refine V_ldcf (pc := 118) o ldfX9_strain dX9_strain_118 ?_
    refine V_goto (pc := 120) o 141 dX9_strain_120 (by decide) ?_
    exact fin 141 _ _ dX9_strain_141 (by unfold strF; rw [if_neg n0]; first | (rw [if_pos (mx_m (by assumption))]; done) | (rw [if_neg (mx_n (by assumption)), if_pos (by assumption)]; done) | (rw [if_neg (mx_n (by assumption)), if_neg (by assumption)]; done))
