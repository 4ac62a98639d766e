/-! Rows for the law's own body: its script, its two rows of one, calls of the wrappers. -/
def OkL : XT → Prop
  | (_, _, _, _, s, _, _, _, _, _, _, _, _, _, _) => EXL s
def OkS : XT → Nat → Nat → (Nat → Int32) → Prop
  | (_, _, _, _, s, _, _, _, _, _, _, _, A, _, _), b, L, xs => va_X b L xs s s.heap ∧ b < s.heap.size ∧ ¬ A b
section LRows
variable {X : XT} {k z : Nat} {ws : va_W} {pc : Nat} {lc : List (Nat × Value)} {st : List Value} {cc : ByteArray} {own : String} {Ts : List Cond} {d : Nat}
theorem V_sld (o : OkX X cc own Ts d) {b L : Nat} {xs : Nat → Int32} (sc : OkS X b L xs) {i : Int32} (j : Nat) (hi : i = nI j) (hj : j < L) (hL : L ≤ 4000) (dg : decode cc pc = .ok (.iaload, 1)) (kk : V X k z ws (pc + 1) lc (.int (xs j) :: st)) : V X k z ws pc lc (.int i :: .ref b :: st) := by
  obtain ⟨p, l, e', R, s, m, args, below, meth, c, D, tys, A, Q, n⟩ := X
  obtain ⟨hx, hb, hml, hown, hts, hK, hA, -⟩ := o
  obtain ⟨s1, s2, s3⟩ := sc
  subst hi
  intro ls H locs hl hP hD hS
  refine va_sld hx hb s1 s2 s3 hS (vp_in_nI hj (by omega)) dg ?_
  rw [nI_clamp (by omega)]
  exact kk ls H locs hl hP hD hS
theorem V_slen (o : OkX X cc own Ts d) {b L : Nat} {xs : Nat → Int32} (sc : OkS X b L xs) (dg : decode cc pc = .ok (.arraylength, 1)) (kk : V X k z ws (pc + 1) lc (.int (nI L) :: st)) : V X k z ws pc lc (.ref b :: st) := by
  obtain ⟨p, l, e', R, s, m, args, below, meth, c, D, tys, A, Q, n⟩ := X
  obtain ⟨hx, hb, hml, hown, hts, hK, hA, -⟩ := o
  obtain ⟨s1, s2, s3⟩ := sc
  intro ls H locs hl hP hD hS
  exact va_slen hx hb s1 s2 s3 hS dg (kk ls H locs hl hP hD hS)
theorem V_lald (o : OkX X cc own Ts d) {a n : Nat} {f : Nat → Int64} {cA : ClassId} {i : Int32} (q0 t0 : Nat) (he : ws[q0]? = some (a, .inl (cA, n, .inr (.inl f)))) (ht : (XK X)[t0]? = some (cA, .long)) (hi : vp_in i n) (dg : decode cc pc = .ok (.laload, 1)) (kk : V X k z ws (pc + 1) lc (.long (f i.toNatClampNeg) :: st)) : V X k z ws pc lc (.int i :: .ref a :: st) := by
  obtain ⟨p, l, e', R, s, m, args, below, meth, c, D, tys, A, Q, n⟩ := X
  obtain ⟨hx, hb, hml, hown, hts, hK, hA, -⟩ := o
  intro ls H locs hl hP hD hS
  exact va_lald hx hb hK hP q0 t0 he ht hi dg (kk ls H locs hl hP hD hS)
theorem V_dald (o : OkX X cc own Ts d) {a n : Nat} {f : Nat → UInt64} {cA : ClassId} {i : Int32} (q0 t0 : Nat) (he : ws[q0]? = some (a, .inl (cA, n, .inr (.inr (.inr (.inl f)))))) (ht : (XK X)[t0]? = some (cA, .double)) (hi : vp_in i n) (dg : decode cc pc = .ok (.daload, 1)) (kk : V X k z ws (pc + 1) lc (.double (f i.toNatClampNeg) :: st)) : V X k z ws pc lc (.int i :: .ref a :: st) := by
  obtain ⟨p, l, e', R, s, m, args, below, meth, c, D, tys, A, Q, n⟩ := X
  obtain ⟨hx, hb, hml, hown, hts, hK, hA, -⟩ := o
  intro ls H locs hl hP hD hS
  exact va_dald hx hb hK hP q0 t0 he ht hi dg (kk ls H locs hl hP hD hS)
theorem V_lcmp (o : OkX X cc own Ts d) {x y : Int64} (dg : decode cc pc = .ok (.lcmp, 1)) (kk : V X k z ws (pc + 1) lc (.int (lg_cmp x y) :: st)) : V X k z ws pc lc (.long y :: .long x :: st) :=
  V_go o (fun _ _ _ _ _ _ _ _ _ _ _ _ _ _ _ _ _ hx hb _ K => W.lcmp hx hb dg K) kk
theorem V_dcmp (o : OkX X cc own Ts d) {x y : UInt64} {op : CmpOp} (dg : decode cc pc = .ok (.dcmp op, 1)) (kk : V X k z ws (pc + 1) lc (.int (Op.cmpValue (FP.dcmp x y) op) :: st)) : V X k z ws pc lc (.double y :: .double x :: st) :=
  V_go o (fun _ _ _ _ _ _ _ _ _ _ _ _ _ _ _ _ _ hx hb _ K => lv_dcmp hx hb dg K) kk
theorem V_fload (o : OkX X cc own Ts d) {i : Nat} {x : UInt32} (dg : decode cc pc = .ok (.fload i, 2)) (e : lcAt lc i = some (.float x)) (kk : V X k z ws (pc + 2) lc (.float x :: st)) : V X k z ws pc lc st :=
  V_go o (fun _ _ _ _ _ _ _ _ _ _ _ _ _ _ _ _ _ hx hb hl K => lv_fload hx hb dg (lcAt_spec hl e) K) kk
theorem V_fstore (o : OkX X cc own Ts d) {i : Nat} {x : UInt32} (dg : decode cc pc = .ok (.fstore i, 2)) (hn : i < XN X) (kk : V X k z ws (pc + 2) (lcSet lc i (.float x)) st) : V X k z ws pc lc (.float x :: st) :=
  V_store o hn (fun _ _ _ _ _ _ _ _ _ _ _ _ _ _ _ _ _ hx hb hl hn K => lv_fstore hx hb dg hl hn rfl K) kk
theorem V_cSi (o : OkX X cc own Ts d) (xo : OkE X) (xl : OkL X) {y : MethodName} {w w0 : List Cond} {bytes : ByteArray} {maxL index d2 : Nat} {ret : Option FieldType} {hh : List (Nat × Nat × Nat × Nat)} {as rest : List Value} {wc wc2 : va_W} {r : Int32}
    (hM : CW (XL X) y w d2 (XD X) (XK X) as wc r wc2) (w1 w2 : va_W)
    (hG : GoodIn Ts (va_wsS own index y w)) (hw : w = Cond.codeWith y bytes maxL ret hh :: w0)
    (hd : y.cls ≠ "java/lang/invoke/MethodHandle" ∧ y.cls ≠ "java/lang/invoke/VarHandle" ∧ (parseMethodDescriptor y.desc).map (fun d => d.parameters.length) = some as.length)
    (hdd : d2 + 1 ≤ d ∧ maxL ≤ 21)
    (hst : st = as.reverse ++ rest) (hcat : (rest.map fun v => v.category).sum ≤ 8) (hk : k + 6 ≤ (XR X).cells ∧ z + 36 ≤ (XR X).slots)
    (dg : decode cc pc = .ok (.invokestatic index, 3)) (hws : ws = w1 ++ (wc ++ w2))
    (kk : V X (k + 6) (z + 36) (w1 ++ (wc2 ++ w2)) (pc + 3) lc (.int r :: rest)) : V X k z ws pc lc st := by
  obtain ⟨p, l, e', R, s, m, args, below, meth, c, D, tys, A, Q, n⟩ := X
  obtain ⟨hx, hb, hml, hown, hts, hK, hA, hR1, hR2⟩ := o
  obtain ⟨hfl, hE⟩ := xo
  have hL : EXL s := xl
  subst hws; subst hst
  intro ls H locs hl hP hD hS
  have hP' := pw_iff.mp hP
  have hPc : va_P D vwCl wc H := pw_iff.mpr fun q hq => hP' q (List.mem_append_right _ (List.mem_append_left _ hq))
  have hDc : va_D A wc := by
    have h := dw_iff.mp hD
    simp only [List.map_append, List.nodup_append] at h
    exact dw_iff.mpr ⟨h.1.2.1.1, fun q hq => h.2 q (List.mem_append_right _ (List.mem_append_left _ hq))⟩
  have hFc := aw_in hD hS hA
  dsimp only [XR, XL, XD, XK] at hM hk
  have hR1' : d ≤ R.frames := hR1
  have hR2' : 40 * d ≤ R.locals := hR2
  refine va_calli (vx_runSW (As := as) (rest := rest) ⟨hx, hb, hml, hown, hts⟩ (hM hfl H.size) (vx_cwSW as.length hts hG hw rfl rfl hd ⟨Nat.le_trans hdd.1 hR1', ?_⟩) ⟨prl_blind, fun U hU hW => ⟨rfl, ⟨⟨by rw [hU], by rw [hU]; exact hPc, va_K.moved hW.alike hK, hDc.weaken (fun _ _ _ _ => trivial)⟩, EX.warm hW (fun a h1 h2 => by rw [hU]; exact hS.2.1 a h1 h2) (fun q h => hFc q h) hE⟩, EXL.moved hW.alike hL⟩⟩ rfl rfl hl.1 rfl (lv_room hcat) dg hk) hS (fun q _ h => hFc q h) hFc (fun r2 u t H1 locs1 ht hvm hw1 hB hz1 hk1 hS1 => ?_)
  · show 8 + (maxL + 11) + 40 * d2 ≤ R.locals
    omega
  · obtain ⟨hP1, hK1, hD1⟩ := hB
    rw [ht] at hP1
    obtain ⟨hP2, hD2⟩ := splice hP hD hk1 hFc hP1 hD1
    have hr : r2 = r := hw1
    subst hr
    exact kk ls H1 locs1 hl hP2 hD2 hS1
theorem V_callVf (o : OkX X cc own Ts d) {C : String} {y : MethodName} {w w0 : List Cond} {bytes : ByteArray} {maxL index d2 b q0 ci N : Nat} {ret : Option FieldType} {as rest fs : List Value} {T : u_T} {wc wc2 : va_W} {r : UInt32}
    (hM : CFd (XL X) y w d2 (XD X) (XK X) (.ref b :: as) wc r wc2) (w1 w2 : va_W)
    (hG : GoodIn Ts (wsV own index C y w)) (hw : w = Cond.code y bytes maxL ret :: w0)
    (hd : y.cls = C ∧ y.cls ≠ "java/lang/invoke/MethodHandle" ∧ y.cls ≠ "java/lang/invoke/VarHandle" ∧ (parseMethodDescriptor y.desc).map (fun d => d.parameters.length) = some as.length)
    (hdd : d2 + 1 ≤ d ∧ maxL ≤ 21) (he : wc[q0]? = some (b, .inr (ci, fs))) (hc : vwCl[ci]? = some (C, T, N))
    (hst : st = as.reverse ++ .ref b :: rest) (hcat : (rest.map fun v => v.category).sum ≤ 8) (hk : k + 0 ≤ (XR X).cells ∧ z + 0 ≤ (XR X).slots)
    (dg : decode cc pc = .ok (.invokevirtual index, 3)) (hws : ws = w1 ++ (wc ++ w2))
    (kk : V X (k + 0) (z + 0) (w1 ++ (wc2 ++ w2)) (pc + 3) lc (.float r :: rest)) : V X k z ws pc lc st := by
  obtain ⟨p, l, e', R, s, m, args, below, meth, c, D, tys, A, Q, n⟩ := X
  obtain ⟨hx, hb, hml, hown, hts, hK, hA, hR1, hR2⟩ := o
  subst hst
  subst hws
  intro ls H locs hl hP hD hS
  have hP' := pw_iff.mp hP
  have hPc : va_P D vwCl wc H := pw_iff.mpr fun q hq => hP' q (List.mem_append_right _ (List.mem_append_left _ hq))
  have hDc : va_D A wc := by
    have h := dw_iff.mp hD
    simp only [List.map_append, List.nodup_append] at h
    exact dw_iff.mpr ⟨h.1.2.1.1, fun q hq => h.2 q (List.mem_append_right _ (List.mem_append_left _ hq))⟩
  have hFc := aw_in hD hS hA
  dsimp only [XR, XL, XD, XK] at hM hk
  have hR1' : d ≤ R.frames := hR1
  have hR2' : 40 * d ≤ R.locals := hR2
  refine va_callf (va_runV (As := as) (rest := rest) ⟨hx, hb, hml, hown, hts⟩ (hM H.size) (cwV as.length hts hG hw rfl rfl hd ⟨Nat.le_trans hdd.1 hR1', ?_⟩) ⟨prw_blind, va_recv hK hPc (ci := ci) (q0 := q0) hc he, fun U hU hW => ⟨rfl, by rw [hU], by rw [hU]; exact hPc, va_K.moved hW.alike hK, hDc.weaken (fun _ _ _ _ => trivial)⟩⟩ rfl rfl hl.1 rfl (lv_room hcat) dg hk) hS (fun q _ h => hFc q h) hFc (fun r2 u t H1 locs1 ht hvm hw1 hB hz1 hk1 hS1 => ?_)
  · show 8 + (maxL + 11) + 40 * d2 ≤ R.locals
    omega
  · obtain ⟨hP1, hK1, hD1⟩ := hB
    rw [ht] at hP1
    obtain ⟨hP2, hD2⟩ := splice hP hD hk1 hFc hP1 hD1
    have hr : r2 = r := hw1
    subst hr
    exact kk ls H1 locs1 hl hP2 hD2 hS1
theorem cT_same {D : va_G} {tys : List (ClassId × FieldType)} {s : State} {cA cI : ClassId} {ty : FieldType} {t0 : Nat} (hp : ∀ c, va_RA s c ty → s.vm.findClass ("[" ++ ty.toString) = some c) (hK : va_K D vwCl (tys ++ [(cA, ty)]) s) (ht : tys[t0]? = some (cI, ty)) : cA = cI := by
  have h1 := (hK.2 tys.length (cA, ty) (by rw [List.getElem?_append_right (Nat.le_refl _), Nat.sub_self]; rfl)).2
  have h2 := (hK.2 t0 (cI, ty) (by rw [List.getElem?_append_left (List.getElem?_eq_some_iff.mp ht).1]; exact ht)).2
  exact Option.some.inj ((hp _ h1).symm.trans (hp _ h2))
theorem V_newJ (o : OkX X cc own Ts d) {cJ : ClassId} (ht : (XK X)[1]? = some (cJ, .long)) (harr : Cond.arrayClass .long ∈ Ts) (hk : k + 1 ≤ (XR X).cells ∧ z + 1 ≤ (XR X).slots) (dg : decode cc pc = .ok (.newarray .long, 2)) (kk : ∀ q : Nat, V X (k + 1) (z + 1) (ws ++ [(q, .inl (cJ, 1, .inr (.inl (fun _ => 0))))]) (pc + 2) lc (.ref q :: st)) : V X k z ws pc lc (.int (nI 1) :: st) := by
  obtain ⟨p, l, e, R, s, m, args, below, meth, c, D, tys, A, Q, n2⟩ := X
  obtain ⟨hx, hb, hml, hown, hts, hK, hA, hR1, hR2⟩ := o
  intro ls H locs hl hP hD hS
  refine va_newa (atype := .long) (ty := .long) (n := nI 1) (N' := 1) (a0 := (1, .inr (.inl (fun _ => 0)))) hx hb (hts _ harr) rfl hK hP hD hS hA (fun _ => rfl) (nI_pos (by omega)) (nI_clamp (by omega)) (by decide) hk.1 hk.2 dg (fun q cA H1 hK1 hP1 hD1 hS1 => ?_)
  have e1 := cT_same (s := s) (ty := .long) (fun _ h => h) hK1 ht
  subst e1
  exact kk q ls H1 locs hl hP1 hD1 hS1
theorem V_newD (o : OkX X cc own Ts d) {cJ : ClassId} (ht : (XK X)[2]? = some (cJ, .double)) (harr : Cond.arrayClass .double ∈ Ts) (hk : k + 1 ≤ (XR X).cells ∧ z + 1 ≤ (XR X).slots) (dg : decode cc pc = .ok (.newarray .double, 2)) (kk : ∀ q : Nat, V X (k + 1) (z + 1) (ws ++ [(q, .inl (cJ, 1, .inr (.inr (.inr (.inl (fun _ => 0))))))]) (pc + 2) lc (.ref q :: st)) : V X k z ws pc lc (.int (nI 1) :: st) := by
  obtain ⟨p, l, e, R, s, m, args, below, meth, c, D, tys, A, Q, n2⟩ := X
  obtain ⟨hx, hb, hml, hown, hts, hK, hA, hR1, hR2⟩ := o
  intro ls H locs hl hP hD hS
  refine va_newa (atype := .double) (ty := .double) (n := nI 1) (N' := 1) (a0 := (1, .inr (.inr (.inr (.inl (fun _ => 0)))))) hx hb (hts _ harr) rfl hK hP hD hS hA (fun _ => rfl) (nI_pos (by omega)) (nI_clamp (by omega)) (by decide) hk.1 hk.2 dg (fun q cA H1 hK1 hP1 hD1 hS1 => ?_)
  have e1 := cT_same (s := s) (ty := .double) (fun _ h => h) hK1 ht
  subst e1
  exact kk q ls H1 locs hl hP1 hD1 hS1
end LRows
/-- the law's world -/
def LW (cJ cD : ClassId) (aL : Nat) (fL : Nat → Int64) (wA : va_W) (aD : Nat) (fD : Nat → UInt64) (wM : va_W) : va_W := (aL, .inl (cJ, 1, .inr (.inl fL))) :: (wA ++ ((aD, .inl (cD, 1, .inr (.inr (.inr (.inl fD))))) :: wM))
def lcL (b a1 a2 aL aD : Nat) (i : Int32) : List (Nat × Value) := [(5, .int i), (4, .ref aD), (3, .ref aL), (2, .ref a2), (1, .ref a1), (0, .ref b)]
def LCx (X : XT) (cI cJ cD : ClassId) (b L : Nat) (xs : Nat → Int32) : Prop := OkX X code RL wsL_law 16 ∧ OkE X ∧ OkL X ∧ OkS X b L xs ∧ XN X = 8 ∧ (XK X)[0]? = some (cI, .int) ∧ (XK X)[1]? = some (cJ, .long) ∧ (XK X)[2]? = some (cD, .double) ∧ (XR X).cells = 601024 ∧ (XR X).slots = 7293034 ∧ L ≤ 3072
theorem lgc_refl (x : Int64) : lg_cmp x x = 0 := by simp [lg_cmp]
theorem LW_d {cJ cD : ClassId} {aL : Nat} {fL : Nat → Int64} {wA : va_W} {aD : Nat} {fD : Nat → UInt64} {wM : va_W} : (LW cJ cD aL fL wA aD fD wM)[wA.length + 1]? = some (aD, .inl (cD, 1, .inr (.inr (.inr (.inl fD))))) := by
  unfold LW
  rw [List.getElem?_cons_succ, List.getElem?_append_right (Nat.le_refl _), Nat.sub_self]
  rfl
