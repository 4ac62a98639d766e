/-! The law's wrappers: a call of the class, its throw caught. -/
theorem last_at {α : Type} (l : List α) (x : α) : (([] : List α) ++ (l ++ [x]))[l.length]? = some x := by simp
theorem set_last {α : Type} (l : List α) (x y : α) : (([] : List α) ++ (l ++ [x])).set l.length y = l ++ [y] := by simp
def EXL (U : State) : Prop := (∀ a : Nat, (a = 1 ∨ a = 2 ∨ a = 3) → va_Nw (.castable (exn a) (exn a)) U) ∧ ∀ a b : Nat, (a = 1 ∨ a = 2 ∨ a = 3) → (b = 1 ∨ b = 2 ∨ b = 3) → ¬ a = b → va_Nc (exn a) (exn b) U
theorem EXL.moved {s U : State} (hW : s.vm.Alike U.vm) (h : EXL s) : EXL U :=
  ⟨fun a ha => bx_moved (w := .castable (exn a) (exn a)) rfl hW (h.1 a ha), fun a b ha hb hab => (h.2 a b ha hb hab).moved hW⟩
def PrL (D : va_G) (tys : List (ClassId × FieldType)) (sz : Nat) (ws : va_W) (U : State) : Prop := PrX D tys sz ws U ∧ EXL U
theorem prl_blind {D : va_G} {tys : List (ClassId × FieldType)} {sz : Nat} {ws : va_W} {as : List Value} : FrameBlind (va_Pc as (PrL D tys sz ws)) := fun a U g mk q => by
  obtain ⟨q0, ⟨⟨q1, qP, qK, qD⟩, qE⟩, qL⟩ := q
  exact ⟨q0, ⟨⟨q1, qP, va_K.moved (u := U) (U := U.calling g mk a) (Vm.Alike.refl U.vm) qK, qD⟩, EX.same (u := U) (U := U.calling g mk a) rfl rfl qE⟩, EXL.moved (s := U) (U := U.calling g mk a) (Vm.Alike.refl U.vm) qL⟩
/-- the contract of a wrapper: it answers r, whatever the class' method does -/
def CW (l : Launch) (y : MethodName) (w : List Cond) (d : Nat) (D : va_G) (tys : List (ClassId × FieldType)) (as : List Value) (ws : va_W) (r : Int32) (ws2 : va_W) : Prop :=
  l.stackTraces = false → ∀ sz : Nat, Met l y w (rmd d 6 36) (va_Pc as (PrL D tys sz ws)) (va_Qi (fun x (_ : Unit) => x = r) (fun _ t => AtW D tys (va_A ws sz) ws2 t) (va_A ws sz)) 6 36 (va_A ws sz)
def OkH : XT → List ExceptionTableEntry → Prop
  | (_, _, _, _, s, _, _, _, _, c, _, _, _, _, _), tb => c.exceptionTable.toList = tb ∧ EXL s
theorem CW_of {l : Launch} {y : MethodName} {w w0 : List Cond} {cc : ByteArray} {maxL d : Nat} {hh : List (Nat × Nat × Nat × Nat)} {D : va_G} {tys : List (ClassId × FieldType)} {as : List Value} {ws ws2 : va_W} {r : Int32}
    (hy : plainName y.cls = true) (hw : w = Cond.codeWith y cc maxL (some .int) hh :: w0) (hlen : (lg_sl as).length ≤ maxL)
    (body : ∀ X : XT, XL X = l → XD X = D → XK X = tys → XN X = maxL → (XR X).cells = 6 → (XR X).slots = 36 → OkX X cc y.cls w d → OkE X → OkH X (tableOf hh) →
      (∀ (pc : Nat) (lc : List (Nat × Value)) (v : Int32), decode cc pc = .ok (.ireturn, 1) → v = r → V X 6 36 ws2 pc lc [.int v]) → V X 0 0 ws 0 (lv_args 0 as) []) :
    CW l y w d D tys as ws r ws2 := by
  intro hfl sz
  refine va_MetW (cc := cc) (maxL := maxL) (ret := some .int) (hh := hh) hy hw ?_
  intro p e s m args below meth c s₁ B hml hv
  obtain ⟨rfl, ⟨⟨hsz, hP, hK, hD0⟩, hE⟩, hL⟩ := hv
  subst hsz
  have hlocks : meth.locks = false := B.notSynchronized
  have hx := B.exec
  have hb := B.bytes
  have hr := B.returns
  have hts := atoms_spec (ws := w) B.pre
  have htab := vx_table (x := y) B (hts (Cond.codeWith y cc maxL (some .int) hh) (by rw [hw]; exact List.mem_cons_self))
  rw [lg_entry_eq]
  refine body (p, l, e, (headSpec w (rmd d 6 36)).room, s, m, _, below, meth, c, D, tys, va_A ws s.heap.size, MQ below (va_Qi (fun x (_ : Unit) => x = r) (fun _ t => AtW D tys (va_A ws s.heap.size) ws2 t) (va_A ws s.heap.size)) _ s 6 36 (va_A ws s.heap.size), maxL) rfl rfl rfl rfl rfl rfl ⟨hx, hb, hml, findClass_of_methodNamed B.named, hts, hK, fun q h => Or.inr h, Nat.le_refl _, Nat.le_refl _⟩ ⟨hfl, hE⟩ ⟨htab, hL⟩ ?_ _ s.heap [] (lv_entry as hlen) hP hD0.self va_S.rf
  intro pc lc v dg hp ls H locs hl hP1 hD1 hS
  exact W.zret hx hb hr rfl (fun t ht hW => ⟨⟨v, (), rfl, hp, by rw [ht]; exact hP1, va_K.moved hW.alike hK, hD1⟩, hS.F ht⟩) hS.2.2 dg
section WRows
variable {X : XT} {k z : Nat} {ws : va_W} {pc : Nat} {lc : List (Nat × Value)} {st : List Value} {cc : ByteArray} {own : String} {Ts : List Cond} {d : Nat}
theorem V_catch (o : OkX X cc own Ts d) {tb : List ExceptionTableEntry} (oh : OkH X tb) {th : Nat} (hth : th = 1 ∨ th = 2 ∨ th = 3) (pre : List ExceptionTableEntry) (x : ExceptionTableEntry) (suf : List ExceptionTableEntry) (hsplit : tb = pre ++ x :: suf)
    (hpass : ∀ e ∈ pre, ∃ b : Nat, e.catchType ≠ 0 ∧ (b = 1 ∨ b = 2 ∨ b = 3) ∧ ¬ th = b ∧ Cond.classLink own e.catchType (exn b) ∈ Ts) (hx : covers x pc = true) (h0 : x.catchType ≠ 0) (hlink : Cond.classLink own x.catchType (exn th) ∈ Ts)
    (kk : ∀ q : Nat, V X k z ws x.handlerPc lc [.ref q]) : VX X k z ws pc lc st (exn th) := by
  obtain ⟨p, l, e', R, s, m, args, below, meth, c, D, tys, A, Q, n⟩ := X
  obtain ⟨hx1, hb, hml, hown, hts, hK, hA, hR1, hR2⟩ := o
  obtain ⟨htab, hL⟩ := oh
  intro ls H locs q ce hl hP hD hS hc1 hc2 hc3
  refine vx_catch hown pre x suf (htab.trans hsplit) (fun e he => ?_) hx h0 (hts _ hlink) (va_Nw.use rfl (hL.1 th hth)) hc1 hc2 hc3 (kk q ls H locs hl hP hD hS)
  obtain ⟨b, e0, hb1, hb2, hb3⟩ := hpass e he
  exact Or.inr ⟨e0, exn b, hts _ hb3, hL.2 th b hth hb1 hb2⟩
theorem V_lastU (o : OkX X cc own Ts d) {a n : Nat} {f : Nat → Int64} {cA : ClassId} {i : Int32} {x : Int64} (q0 t0 : Nat) (he : ws[q0]? = some (a, .inl (cA, n, .inr (.inl f)))) (ht : (XK X)[t0]? = some (cA, .long)) (hi : vp_in i n) (dg : decode cc pc = .ok (.lastore, 1)) (kk : V X k z (ws.set q0 (a, .inl (cA, n, .inr (.inl (vp_updL f i.toNatClampNeg x))))) (pc + 1) lc st) : V X k z ws pc lc (.long x :: .int i :: .ref a :: st) := by
  obtain ⟨p, l, e', R, s, m, args, below, meth, c, D, tys, A, Q, n⟩ := X
  obtain ⟨hx, hb, hml, hown, hts, hK, hA, -⟩ := o
  intro ls H locs hl hP hD hS
  exact va_last hx hb hK hP hD hS q0 t0 he ht hi dg (fun H1 locs1 hP1 hD1 hS1 => kk ls H1 locs1 hl hP1 hD1 hS1)
theorem V_dastU (o : OkX X cc own Ts d) {a n : Nat} {f : Nat → UInt64} {cA : ClassId} {i : Int32} {x : UInt64} (q0 t0 : Nat) (he : ws[q0]? = some (a, .inl (cA, n, .inr (.inr (.inr (.inl f)))))) (ht : (XK X)[t0]? = some (cA, .double)) (hi : vp_in i n) (dg : decode cc pc = .ok (.dastore, 1)) (kk : V X k z (ws.set q0 (a, .inl (cA, n, .inr (.inr (.inr (.inl (vf_upd f i.toNatClampNeg x))))))) (pc + 1) lc st) : V X k z ws pc lc (.double x :: .int i :: .ref a :: st) := by
  obtain ⟨p, l, e', R, s, m, args, below, meth, c, D, tys, A, Q, n⟩ := X
  obtain ⟨hx, hb, hml, hown, hts, hK, hA, -⟩ := o
  intro ls H locs hl hP hD hS
  exact va_dast hx hb hK hP hD hS q0 t0 he ht hi dg (fun H1 locs1 hP1 hD1 hS1 => kk ls H1 locs1 hl hP1 hD1 hS1)
theorem V_f2d (o : OkX X cc own Ts d) {x : UInt32} (dg : decode cc pc = .ok (.f2d, 1)) (hne : vf_n64 (FP.f2d x)) (kk : V X k z ws (pc + 1) lc (.double (FP.f2d x) :: st)) : V X k z ws pc lc (.float x :: st) :=
  V_go o (fun _ _ _ _ _ _ _ _ _ _ _ _ _ _ _ _ _ hx hb _ K => lv_f2d hx hb dg hne K) kk
theorem V_lconst (o : OkX X cc own Ts d) {n : Fin 2} (v : Int64) (dg : decode cc pc = .ok (.lconst n, 1)) (e : Int64.ofNat (n : Nat) = v) (kk : V X k z ws (pc + 1) lc (.long v :: st)) : V X k z ws pc lc st :=
  V_go o (fun _ _ _ _ _ _ _ _ _ _ _ _ _ _ _ _ _ hx hb _ K => lv_lconst hx hb dg e K) kk
theorem V_xVi (o : OkX X cc own Ts d) (xo : OkE X) {C : String} {y : MethodName} {w w0 : List Cond} {bytes : ByteArray} {maxL index d2 mc th b q0 ci N : Nat} {ret : Option FieldType} {as rest fs : List Value} {T : u_T} {wc wc2 : va_W} {r : Int32}
    (hM : CXi (XL X) y w d2 mc (XD X) (XK X) (.ref b :: as) wc th r wc2) (w1 w2 : va_W)
    (hG : GoodIn Ts (wsV own index C y w)) (hw : w = Cond.code y bytes maxL ret :: w0)
    (hd : y.cls = C ∧ y.cls ≠ "java/lang/invoke/MethodHandle" ∧ y.cls ≠ "java/lang/invoke/VarHandle" ∧ (parseMethodDescriptor y.desc).map (fun d => d.parameters.length) = some as.length)
    (hdd : d2 + 1 ≤ d ∧ maxL ≤ 21) (he : wc[q0]? = some (b, .inr (ci, fs))) (hc : vwCl[ci]? = some (C, T, N))
    (hst : st = as.reverse ++ .ref b :: rest) (hcat : (rest.map fun v => v.category).sum ≤ 8) (hk : k + mc ≤ (XR X).cells ∧ z + 6 * mc ≤ (XR X).slots)
    (dg : decode cc pc = .ok (.invokevirtual index, 3)) (hws : ws = w1 ++ (wc ++ w2))
    (kx : ¬ th = 0 → VX X (k + mc) (z + 6 * mc) (w1 ++ (wc ++ w2)) pc lc rest (exn th))
    (kk : th = 0 → V X (k + mc) (z + 6 * mc) (w1 ++ (wc2 ++ w2)) (pc + 3) lc (.int r :: rest)) : V X k z ws pc lc st := by
  obtain ⟨p, l, e', R, s, m, args, below, meth, c, D, tys, A, Q, n⟩ := X
  obtain ⟨hx, hb, hml, hown, hts, hK, hA, hR1, hR2⟩ := o
  obtain ⟨hfl, hE⟩ := xo
  subst hst
  subst hws
  intro ls H locs hl hP hD hS
  have hP' := pw_iff.mp hP
  have hPc : va_P D vwCl wc H := pw_iff.mpr fun q hq => hP' q (List.mem_append_right _ (List.mem_append_left _ hq))
  have hDc : va_D A wc := by
    have h := dw_iff.mp hD
    simp only [List.map_append, List.nodup_append] at h
    exact dw_iff.mpr ⟨h.1.2.1.1, fun q hq => h.2 q (List.mem_append_right _ (List.mem_append_left _ hq))⟩
  have hFc := aw_in hD hS hA
  dsimp only [XR, XL, XD, XK] at hM hk
  have hR1' : d ≤ R.frames := hR1
  have hR2' : 40 * d ≤ R.locals := hR2
  refine vx_calli (vx_runV (As := as) (rest := rest) ⟨hx, hb, hml, hown, hts⟩ (hM hfl H.size) (cwV as.length hts hG hw rfl rfl hd ⟨Nat.le_trans hdd.1 hR1', ?_⟩) ⟨prx_blind, va_recv hK hPc (ci := ci) (q0 := q0) hc he, fun U hU hW => ⟨rfl, ⟨by rw [hU], by rw [hU]; exact hPc, va_K.moved hW.alike hK, hDc.weaken (fun _ _ _ _ => trivial)⟩, EX.warm hW (fun a h1 h2 => by rw [hU]; exact hS.2.1 a h1 h2) (fun q h => hFc q h) hE⟩⟩ rfl rfl hl.1 rfl (lv_room hcat) dg hk) hS (fun q _ h => hFc q h) hFc (fun q _ h => hFc q h) (fun E ce q9 u t H1 locs1 ht hvm hw1 hB hz1 hk1 hS1 hc1 hc2 hc3 => ?_) (fun r2 u t H1 locs1 ht hvm hw1 hB hz1 hk1 hS1 => ?_)
  · show 8 + (maxL + 11) + 40 * d2 ≤ R.locals
    omega
  · obtain ⟨rfl, hP1, hK1, hD1⟩ := hB
    rw [ht] at hP1
    obtain ⟨hP2, hD2⟩ := splice hP hD hk1 hFc hP1 hD1
    exact kx hw1 ls H1 locs1 q9 ce hl hP2 hD2 hS1 hc1 hc2 hc3
  · obtain ⟨hP1, hK1, hD1⟩ := hB
    rw [ht] at hP1
    obtain ⟨hP2, hD2⟩ := splice hP hD hk1 hFc hP1 hD1
    obtain ⟨h0, rfl⟩ := hw1
    exact kk h0 ls H1 locs1 hl hP2 hD2 hS1
theorem V_xVw (o : OkX X cc own Ts d) (xo : OkE X) {C : String} {y : MethodName} {w w0 : List Cond} {bytes : ByteArray} {maxL index d2 mc th b q0 ci N : Nat} {ret : Option FieldType} {as rest fs : List Value} {T : u_T} {wc wc2 : va_W}
    (hM : CXv (XL X) y w d2 mc (XD X) (XK X) (.ref b :: as) wc th wc2) (w1 w2 : va_W)
    (hG : GoodIn Ts (wsV own index C y w)) (hw : w = Cond.code y bytes maxL ret :: w0)
    (hd : y.cls = C ∧ y.cls ≠ "java/lang/invoke/MethodHandle" ∧ y.cls ≠ "java/lang/invoke/VarHandle" ∧ (parseMethodDescriptor y.desc).map (fun d => d.parameters.length) = some as.length)
    (hdd : d2 + 1 ≤ d ∧ maxL ≤ 21) (he : wc[q0]? = some (b, .inr (ci, fs))) (hc : vwCl[ci]? = some (C, T, N))
    (hst : st = as.reverse ++ .ref b :: rest) (hcat : (rest.map fun v => v.category).sum ≤ 8) (hk : k + mc ≤ (XR X).cells ∧ z + 6 * mc ≤ (XR X).slots)
    (dg : decode cc pc = .ok (.invokevirtual index, 3)) (hws : ws = w1 ++ (wc ++ w2))
    (kx : ¬ th = 0 → VX X (k + mc) (z + 6 * mc) (w1 ++ (wc ++ w2)) pc lc rest (exn th))
    (kk : th = 0 → V X (k + mc) (z + 6 * mc) (w1 ++ (wc2 ++ w2)) (pc + 3) lc (rest)) : V X k z ws pc lc st := by
  obtain ⟨p, l, e', R, s, m, args, below, meth, c, D, tys, A, Q, n⟩ := X
  obtain ⟨hx, hb, hml, hown, hts, hK, hA, hR1, hR2⟩ := o
  obtain ⟨hfl, hE⟩ := xo
  subst hst
  subst hws
  intro ls H locs hl hP hD hS
  have hP' := pw_iff.mp hP
  have hPc : va_P D vwCl wc H := pw_iff.mpr fun q hq => hP' q (List.mem_append_right _ (List.mem_append_left _ hq))
  have hDc : va_D A wc := by
    have h := dw_iff.mp hD
    simp only [List.map_append, List.nodup_append] at h
    exact dw_iff.mpr ⟨h.1.2.1.1, fun q hq => h.2 q (List.mem_append_right _ (List.mem_append_left _ hq))⟩
  have hFc := aw_in hD hS hA
  dsimp only [XR, XL, XD, XK] at hM hk
  have hR1' : d ≤ R.frames := hR1
  have hR2' : 40 * d ≤ R.locals := hR2
  refine vx_callv (vx_runV (As := as) (rest := rest) ⟨hx, hb, hml, hown, hts⟩ (hM hfl H.size) (cwV as.length hts hG hw rfl rfl hd ⟨Nat.le_trans hdd.1 hR1', ?_⟩) ⟨prx_blind, va_recv hK hPc (ci := ci) (q0 := q0) hc he, fun U hU hW => ⟨rfl, ⟨by rw [hU], by rw [hU]; exact hPc, va_K.moved hW.alike hK, hDc.weaken (fun _ _ _ _ => trivial)⟩, EX.warm hW (fun a h1 h2 => by rw [hU]; exact hS.2.1 a h1 h2) (fun q h => hFc q h) hE⟩⟩ rfl rfl hl.1 rfl (lv_room hcat) dg hk) hS (fun q _ h => hFc q h) hFc (fun q _ h => hFc q h) (fun E ce q9 u t H1 locs1 ht hvm hw1 hB hz1 hk1 hS1 hc1 hc2 hc3 => ?_) (fun u t H1 locs1 ht hvm hw1 hB hz1 hk1 hS1 => ?_)
  · show 8 + (maxL + 11) + 40 * d2 ≤ R.locals
    omega
  · obtain ⟨rfl, hP1, hK1, hD1⟩ := hB
    rw [ht] at hP1
    obtain ⟨hP2, hD2⟩ := splice hP hD hk1 hFc hP1 hD1
    exact kx hw1 ls H1 locs1 q9 ce hl hP2 hD2 hS1 hc1 hc2 hc3
  · obtain ⟨hP1, hK1, hD1⟩ := hB
    rw [ht] at hP1
    obtain ⟨hP2, hD2⟩ := splice hP hD hk1 hFc hP1 hD1
    exact kk hw1 ls H1 locs1 hl hP2 hD2 hS1
theorem V_xVf (o : OkX X cc own Ts d) (xo : OkE X) {C : String} {y : MethodName} {w w0 : List Cond} {bytes : ByteArray} {maxL index d2 mc th b q0 ci N : Nat} {ret : Option FieldType} {as rest fs : List Value} {T : u_T} {wc wc2 : va_W} {r : UInt32}
    (hM : CXf (XL X) y w d2 mc (XD X) (XK X) (.ref b :: as) wc th r wc2) (w1 w2 : va_W)
    (hG : GoodIn Ts (wsV own index C y w)) (hw : w = Cond.code y bytes maxL ret :: w0)
    (hd : y.cls = C ∧ y.cls ≠ "java/lang/invoke/MethodHandle" ∧ y.cls ≠ "java/lang/invoke/VarHandle" ∧ (parseMethodDescriptor y.desc).map (fun d => d.parameters.length) = some as.length)
    (hdd : d2 + 1 ≤ d ∧ maxL ≤ 21) (he : wc[q0]? = some (b, .inr (ci, fs))) (hc : vwCl[ci]? = some (C, T, N))
    (hst : st = as.reverse ++ .ref b :: rest) (hcat : (rest.map fun v => v.category).sum ≤ 8) (hk : k + mc ≤ (XR X).cells ∧ z + 6 * mc ≤ (XR X).slots)
    (dg : decode cc pc = .ok (.invokevirtual index, 3)) (hws : ws = w1 ++ (wc ++ w2))
    (kx : ¬ th = 0 → VX X (k + mc) (z + 6 * mc) (w1 ++ (wc ++ w2)) pc lc rest (exn th))
    (kk : th = 0 → V X (k + mc) (z + 6 * mc) (w1 ++ (wc2 ++ w2)) (pc + 3) lc (.float r :: rest)) : V X k z ws pc lc st := by
  obtain ⟨p, l, e', R, s, m, args, below, meth, c, D, tys, A, Q, n⟩ := X
  obtain ⟨hx, hb, hml, hown, hts, hK, hA, hR1, hR2⟩ := o
  obtain ⟨hfl, hE⟩ := xo
  subst hst
  subst hws
  intro ls H locs hl hP hD hS
  have hP' := pw_iff.mp hP
  have hPc : va_P D vwCl wc H := pw_iff.mpr fun q hq => hP' q (List.mem_append_right _ (List.mem_append_left _ hq))
  have hDc : va_D A wc := by
    have h := dw_iff.mp hD
    simp only [List.map_append, List.nodup_append] at h
    exact dw_iff.mpr ⟨h.1.2.1.1, fun q hq => h.2 q (List.mem_append_right _ (List.mem_append_left _ hq))⟩
  have hFc := aw_in hD hS hA
  dsimp only [XR, XL, XD, XK] at hM hk
  have hR1' : d ≤ R.frames := hR1
  have hR2' : 40 * d ≤ R.locals := hR2
  refine vx_callf (vx_runV (As := as) (rest := rest) ⟨hx, hb, hml, hown, hts⟩ (hM hfl H.size) (cwV as.length hts hG hw rfl rfl hd ⟨Nat.le_trans hdd.1 hR1', ?_⟩) ⟨prx_blind, va_recv hK hPc (ci := ci) (q0 := q0) hc he, fun U hU hW => ⟨rfl, ⟨by rw [hU], by rw [hU]; exact hPc, va_K.moved hW.alike hK, hDc.weaken (fun _ _ _ _ => trivial)⟩, EX.warm hW (fun a h1 h2 => by rw [hU]; exact hS.2.1 a h1 h2) (fun q h => hFc q h) hE⟩⟩ rfl rfl hl.1 rfl (lv_room hcat) dg hk) hS (fun q _ h => hFc q h) hFc (fun q _ h => hFc q h) (fun E ce q9 u t H1 locs1 ht hvm hw1 hB hz1 hk1 hS1 hc1 hc2 hc3 => ?_) (fun r2 u t H1 locs1 ht hvm hw1 hB hz1 hk1 hS1 => ?_)
  · show 8 + (maxL + 11) + 40 * d2 ≤ R.locals
    omega
  · obtain ⟨rfl, hP1, hK1, hD1⟩ := hB
    rw [ht] at hP1
    obtain ⟨hP2, hD2⟩ := splice hP hD hk1 hFc hP1 hD1
    exact kx hw1 ls H1 locs1 q9 ce hl hP2 hD2 hS1 hc1 hc2 hc3
  · obtain ⟨hP1, hK1, hD1⟩ := hB
    rw [ht] at hP1
    obtain ⟨hP2, hD2⟩ := splice hP hD hk1 hFc hP1 hD1
    obtain ⟨h0, rfl⟩ := hw1
    exact kk h0 ls H1 locs1 hl hP2 hD2 hS1
end WRows
def lwC_version : Nat → Int32
  | 1 => 1
  | 2 => 2
  | 3 => 3
  | _ => 0
theorem hdX8L_version : yX8_version.cls = RX8 ∧ yX8_version.cls ≠ "java/lang/invoke/MethodHandle" ∧ yX8_version.cls ≠ "java/lang/invoke/VarHandle" ∧ (parseMethodDescriptor yX8_version.desc).map (fun d => d.parameters.length) = some 2 := by decide +kernel
set_option maxHeartbeats 4000000 in
set_option maxRecDepth 100000 in
theorem cL_version_met (l : Launch) (D : va_G) (tys : List (ClassId × FieldType)) (a ao : Nat) (p0 p1 : Int32) (fs : List Value) (wA wB : va_W) (h0 : wA[0]? = some (a, .inr (7, fs))) (th mc : Nat) (hmc : mc ≤ 6) (hth : th = 0 ∨ th = 1 ∨ th = 2 ∨ th = 3) (r : Int32) (hM : CXi l yX8_version wsX8_version 14 mc D tys [.ref a, .int p0, .int p1] wA th r wB) (cO : ClassId) (hO : tys[1]? = some (cO, .long)) (f : Nat → Int64) : CW l yL_version wsL_version 15 D tys [.ref a, .int p0, .int p1, .ref ao] ((ao, .inl (cO, 1, .inr (.inl f))) :: wA) (lwC_version th) (if th = 0 then (ao, .inl (cO, 1, .inr (.inl (vp_updL f 0 r.toInt64)))) :: wB else (ao, .inl (cO, 1, .inr (.inl f))) :: wA) := by
  refine CW_of (maxL := 5) (cc := cL_version) (y := yL_version) (hh := [(0, 10, 13, 13), (0, 10, 17, 15), (0, 10, 21, 17)]) rfl rfl (Nat.le_of_ble_eq_true rfl) (fun X hl hD hk hn hcz hsz o xo oh fin => ?_)
  subst hl; subst hD; subst hk
  refine V_aload_n (pc := 0) o dL_version_0 rfl ?_
  refine V_iconst (pc := 1) o 0 dL_version_1 (by decide) ?_
  refine V_aload_n (pc := 2) o dL_version_2 rfl ?_
  refine V_iload_n (pc := 3) o dL_version_3 rfl ?_
  refine V_iload_n (pc := 4) o dL_version_4 rfl ?_
  refine V_xVi (pc := 5) o xo hM ([(ao, .inl (cO, 1, .inr (.inl f)))]) ([]) gL_version_X8_version rfl hdX8L_version ⟨by omega, by decide⟩ h0 rfl rfl (Nat.le_of_ble_eq_true rfl) ⟨by omega, by omega⟩ dL_version_5 (by simp) (fun t0 => ?_) (fun t0 => ?_)
  · rcases hth with rfl | rfl | rfl | rfl
    · exact absurd rfl t0
    · refine V_catch (th := 1) o oh (by decide) [] ⟨0, 10, 13, 13⟩ [⟨0, 10, 17, 15⟩, ⟨0, 10, 21, 17⟩] rfl (fun _ h => absurd h List.not_mem_nil) (by decide) (by decide) (by decide +kernel) (fun q => ?_)
      refine V_astore (pc := 13) o dL_version_13 (by rw [hn]; decide) ?_
      refine V_iconst (pc := 15) o 1 dL_version_15 (by decide) ?_
      refine V_eq (ws2 := if 1 = 0 then (ao, .inl (cO, 1, .inr (.inl (vp_updL f 0 r.toInt64)))) :: wB else (ao, .inl (cO, 1, .inr (.inl f))) :: wA) (by simp) rfl ?_
      exact V_widen (by omega) (by omega) (fin 16 _ _ dL_version_16 rfl)
    · refine V_catch (th := 2) o oh (by decide) [⟨0, 10, 13, 13⟩] ⟨0, 10, 17, 15⟩ [⟨0, 10, 21, 17⟩] rfl (List.forall_mem_cons.mpr ⟨⟨1, by decide, by decide, by decide, by decide +kernel⟩, fun _ h => absurd h List.not_mem_nil⟩) (by decide) (by decide) (by decide +kernel) (fun q => ?_)
      refine V_astore (pc := 17) o dL_version_17 (by rw [hn]; decide) ?_
      refine V_iconst (pc := 19) o 2 dL_version_19 (by decide) ?_
      refine V_eq (ws2 := if 2 = 0 then (ao, .inl (cO, 1, .inr (.inl (vp_updL f 0 r.toInt64)))) :: wB else (ao, .inl (cO, 1, .inr (.inl f))) :: wA) (by simp) rfl ?_
      exact V_widen (by omega) (by omega) (fin 20 _ _ dL_version_20 rfl)
    · refine V_catch (th := 3) o oh (by decide) [⟨0, 10, 13, 13⟩, ⟨0, 10, 17, 15⟩] ⟨0, 10, 21, 17⟩ [] rfl (List.forall_mem_cons.mpr ⟨⟨1, by decide, by decide, by decide, by decide +kernel⟩, List.forall_mem_cons.mpr ⟨⟨2, by decide, by decide, by decide, by decide +kernel⟩, fun _ h => absurd h List.not_mem_nil⟩⟩) (by decide) (by decide) (by decide +kernel) (fun q => ?_)
      refine V_astore (pc := 21) o dL_version_21 (by rw [hn]; decide) ?_
      refine V_iconst (pc := 23) o 3 dL_version_23 (by decide) ?_
      refine V_eq (ws2 := if 3 = 0 then (ao, .inl (cO, 1, .inr (.inl (vp_updL f 0 r.toInt64)))) :: wB else (ao, .inl (cO, 1, .inr (.inl f))) :: wA) (by simp) rfl ?_
      exact V_widen (by omega) (by omega) (fin 24 _ _ dL_version_24 rfl)
  · subst t0
    refine V_i2l (pc := 8) o dL_version_8 ?_
    refine V_lastU (pc := 9) o 0 1 rfl hO (vp_in_nI (n := 0) (N := 1) (by omega) (by omega)) dL_version_9 ?_
    refine V_eq (ws2 := (ao, .inl (cO, 1, .inr (.inl (vp_updL f 0 r.toInt64)))) :: wB) (by simp) rfl ?_
    refine V_goto (pc := 10) o 25 dL_version_10 (by decide) ?_
    refine V_iconst (pc := 25) o 0 dL_version_25 (by decide) ?_
    refine V_eq (ws2 := if 0 = 0 then (ao, .inl (cO, 1, .inr (.inl (vp_updL f 0 r.toInt64)))) :: wB else (ao, .inl (cO, 1, .inr (.inl f))) :: wA) (by simp) rfl ?_
    exact V_widen (by omega) (by omega) (fin 26 _ _ dL_version_26 rfl)
def lwC_need : Nat → Int32
  | 1 => 1
  | 2 => 2
  | 3 => 3
  | _ => 0
theorem hdX8L_need : yX8_need.cls = RX8 ∧ yX8_need.cls ≠ "java/lang/invoke/MethodHandle" ∧ yX8_need.cls ≠ "java/lang/invoke/VarHandle" ∧ (parseMethodDescriptor yX8_need.desc).map (fun d => d.parameters.length) = some 5 := by decide +kernel
set_option maxHeartbeats 4000000 in
set_option maxRecDepth 100000 in
theorem cL_need_met (l : Launch) (D : va_G) (tys : List (ClassId × FieldType)) (a ao : Nat) (p0 p1 p2 p3 p4 : Int32) (fs : List Value) (wA wB : va_W) (h0 : wA[0]? = some (a, .inr (7, fs))) (th mc : Nat) (hmc : mc ≤ 6) (hth : th = 0 ∨ th = 1 ∨ th = 2 ∨ th = 3) (r : Int32) (hM : CXi l yX8_need wsX8_need 14 mc D tys [.ref a, .int p0, .int p1, .int p2, .int p3, .int p4] wA th r wB) (cO : ClassId) (hO : tys[1]? = some (cO, .long)) (f : Nat → Int64) : CW l yL_need wsL_need 15 D tys [.ref a, .int p0, .int p1, .int p2, .int p3, .int p4, .ref ao] ((ao, .inl (cO, 1, .inr (.inl f))) :: wA) (lwC_need th) (if th = 0 then (ao, .inl (cO, 1, .inr (.inl (vp_updL f 0 r.toInt64)))) :: wB else (ao, .inl (cO, 1, .inr (.inl f))) :: wA) := by
  refine CW_of (maxL := 8) (cc := cL_need) (y := yL_need) (hh := [(0, 16, 19, 13), (0, 16, 23, 15), (0, 16, 27, 17)]) rfl rfl (Nat.le_of_ble_eq_true rfl) (fun X hl hD hk hn hcz hsz o xo oh fin => ?_)
  subst hl; subst hD; subst hk
  refine V_aload (pc := 0) o dL_need_0 rfl ?_
  refine V_iconst (pc := 2) o 0 dL_need_2 (by decide) ?_
  refine V_aload_n (pc := 3) o dL_need_3 rfl ?_
  refine V_iload_n (pc := 4) o dL_need_4 rfl ?_
  refine V_iload_n (pc := 5) o dL_need_5 rfl ?_
  refine V_iload_n (pc := 6) o dL_need_6 rfl ?_
  refine V_iload (pc := 7) o dL_need_7 rfl ?_
  refine V_iload (pc := 9) o dL_need_9 rfl ?_
  refine V_xVi (pc := 11) o xo hM ([(ao, .inl (cO, 1, .inr (.inl f)))]) ([]) gL_need_X8_need rfl hdX8L_need ⟨by omega, by decide⟩ h0 rfl rfl (Nat.le_of_ble_eq_true rfl) ⟨by omega, by omega⟩ dL_need_11 (by simp) (fun t0 => ?_) (fun t0 => ?_)
  · rcases hth with rfl | rfl | rfl | rfl
    · exact absurd rfl t0
    · refine V_catch (th := 1) o oh (by decide) [] ⟨0, 16, 19, 13⟩ [⟨0, 16, 23, 15⟩, ⟨0, 16, 27, 17⟩] rfl (fun _ h => absurd h List.not_mem_nil) (by decide) (by decide) (by decide +kernel) (fun q => ?_)
      refine V_astore (pc := 19) o dL_need_19 (by rw [hn]; decide) ?_
      refine V_iconst (pc := 21) o 1 dL_need_21 (by decide) ?_
      refine V_eq (ws2 := if 1 = 0 then (ao, .inl (cO, 1, .inr (.inl (vp_updL f 0 r.toInt64)))) :: wB else (ao, .inl (cO, 1, .inr (.inl f))) :: wA) (by simp) rfl ?_
      exact V_widen (by omega) (by omega) (fin 22 _ _ dL_need_22 rfl)
    · refine V_catch (th := 2) o oh (by decide) [⟨0, 16, 19, 13⟩] ⟨0, 16, 23, 15⟩ [⟨0, 16, 27, 17⟩] rfl (List.forall_mem_cons.mpr ⟨⟨1, by decide, by decide, by decide, by decide +kernel⟩, fun _ h => absurd h List.not_mem_nil⟩) (by decide) (by decide) (by decide +kernel) (fun q => ?_)
      refine V_astore (pc := 23) o dL_need_23 (by rw [hn]; decide) ?_
      refine V_iconst (pc := 25) o 2 dL_need_25 (by decide) ?_
      refine V_eq (ws2 := if 2 = 0 then (ao, .inl (cO, 1, .inr (.inl (vp_updL f 0 r.toInt64)))) :: wB else (ao, .inl (cO, 1, .inr (.inl f))) :: wA) (by simp) rfl ?_
      exact V_widen (by omega) (by omega) (fin 26 _ _ dL_need_26 rfl)
    · refine V_catch (th := 3) o oh (by decide) [⟨0, 16, 19, 13⟩, ⟨0, 16, 23, 15⟩] ⟨0, 16, 27, 17⟩ [] rfl (List.forall_mem_cons.mpr ⟨⟨1, by decide, by decide, by decide, by decide +kernel⟩, List.forall_mem_cons.mpr ⟨⟨2, by decide, by decide, by decide, by decide +kernel⟩, fun _ h => absurd h List.not_mem_nil⟩⟩) (by decide) (by decide) (by decide +kernel) (fun q => ?_)
      refine V_astore (pc := 27) o dL_need_27 (by rw [hn]; decide) ?_
      refine V_iconst (pc := 29) o 3 dL_need_29 (by decide) ?_
      refine V_eq (ws2 := if 3 = 0 then (ao, .inl (cO, 1, .inr (.inl (vp_updL f 0 r.toInt64)))) :: wB else (ao, .inl (cO, 1, .inr (.inl f))) :: wA) (by simp) rfl ?_
      exact V_widen (by omega) (by omega) (fin 30 _ _ dL_need_30 rfl)
  · subst t0
    refine V_i2l (pc := 14) o dL_need_14 ?_
    refine V_lastU (pc := 15) o 0 1 rfl hO (vp_in_nI (n := 0) (N := 1) (by omega) (by omega)) dL_need_15 ?_
    refine V_eq (ws2 := (ao, .inl (cO, 1, .inr (.inl (vp_updL f 0 r.toInt64)))) :: wB) (by simp) rfl ?_
    refine V_goto (pc := 16) o 31 dL_need_16 (by decide) ?_
    refine V_iconst (pc := 31) o 0 dL_need_31 (by decide) ?_
    refine V_eq (ws2 := if 0 = 0 then (ao, .inl (cO, 1, .inr (.inl (vp_updL f 0 r.toInt64)))) :: wB else (ao, .inl (cO, 1, .inr (.inl f))) :: wA) (by simp) rfl ?_
    exact V_widen (by omega) (by omega) (fin 32 _ _ dL_need_32 rfl)
def lwC_replace : Nat → Int32
  | 1 => 1
  | 3 => 2
  | _ => 0
theorem hdX8L_replace : yX8_replace.cls = RX8 ∧ yX8_replace.cls ≠ "java/lang/invoke/MethodHandle" ∧ yX8_replace.cls ≠ "java/lang/invoke/VarHandle" ∧ (parseMethodDescriptor yX8_replace.desc).map (fun d => d.parameters.length) = some 2 := by decide +kernel
set_option maxHeartbeats 4000000 in
set_option maxRecDepth 100000 in
theorem cL_replace_met (l : Launch) (D : va_G) (tys : List (ClassId × FieldType)) (a ao : Nat) (p0 p1 : Int32) (fs : List Value) (wA wB : va_W) (h0 : wA[0]? = some (a, .inr (7, fs))) (th mc : Nat) (hmc : mc ≤ 6) (hth : th = 0 ∨ th = 1 ∨ th = 3) (r : Int32) (hM : CXi l yX8_replace wsX8_replace 14 mc D tys [.ref a, .int p0, .int p1] wA th r wB) (cO : ClassId) (hO : tys[1]? = some (cO, .long)) (f : Nat → Int64) : CW l yL_replace wsL_replace 15 D tys [.ref a, .int p0, .int p1, .ref ao] ((ao, .inl (cO, 1, .inr (.inl f))) :: wA) (lwC_replace th) (if th = 0 then (ao, .inl (cO, 1, .inr (.inl (vp_updL f 0 r.toInt64)))) :: wB else (ao, .inl (cO, 1, .inr (.inl f))) :: wA) := by
  refine CW_of (maxL := 5) (cc := cL_replace) (y := yL_replace) (hh := [(0, 10, 13, 13), (0, 10, 17, 17)]) rfl rfl (Nat.le_of_ble_eq_true rfl) (fun X hl hD hk hn hcz hsz o xo oh fin => ?_)
  subst hl; subst hD; subst hk
  refine V_aload_n (pc := 0) o dL_replace_0 rfl ?_
  refine V_iconst (pc := 1) o 0 dL_replace_1 (by decide) ?_
  refine V_aload_n (pc := 2) o dL_replace_2 rfl ?_
  refine V_iload_n (pc := 3) o dL_replace_3 rfl ?_
  refine V_iload_n (pc := 4) o dL_replace_4 rfl ?_
  refine V_xVi (pc := 5) o xo hM ([(ao, .inl (cO, 1, .inr (.inl f)))]) ([]) gL_replace_X8_replace rfl hdX8L_replace ⟨by omega, by decide⟩ h0 rfl rfl (Nat.le_of_ble_eq_true rfl) ⟨by omega, by omega⟩ dL_replace_5 (by simp) (fun t0 => ?_) (fun t0 => ?_)
  · rcases hth with rfl | rfl | rfl
    · exact absurd rfl t0
    · refine V_catch (th := 1) o oh (by decide) [] ⟨0, 10, 13, 13⟩ [⟨0, 10, 17, 17⟩] rfl (fun _ h => absurd h List.not_mem_nil) (by decide) (by decide) (by decide +kernel) (fun q => ?_)
      refine V_astore (pc := 13) o dL_replace_13 (by rw [hn]; decide) ?_
      refine V_iconst (pc := 15) o 1 dL_replace_15 (by decide) ?_
      refine V_eq (ws2 := if 1 = 0 then (ao, .inl (cO, 1, .inr (.inl (vp_updL f 0 r.toInt64)))) :: wB else (ao, .inl (cO, 1, .inr (.inl f))) :: wA) (by simp) rfl ?_
      exact V_widen (by omega) (by omega) (fin 16 _ _ dL_replace_16 rfl)
    · refine V_catch (th := 3) o oh (by decide) [⟨0, 10, 13, 13⟩] ⟨0, 10, 17, 17⟩ [] rfl (List.forall_mem_cons.mpr ⟨⟨1, by decide, by decide, by decide, by decide +kernel⟩, fun _ h => absurd h List.not_mem_nil⟩) (by decide) (by decide) (by decide +kernel) (fun q => ?_)
      refine V_astore (pc := 17) o dL_replace_17 (by rw [hn]; decide) ?_
      refine V_iconst (pc := 19) o 2 dL_replace_19 (by decide) ?_
      refine V_eq (ws2 := if 3 = 0 then (ao, .inl (cO, 1, .inr (.inl (vp_updL f 0 r.toInt64)))) :: wB else (ao, .inl (cO, 1, .inr (.inl f))) :: wA) (by simp) rfl ?_
      exact V_widen (by omega) (by omega) (fin 20 _ _ dL_replace_20 rfl)
  · subst t0
    refine V_i2l (pc := 8) o dL_replace_8 ?_
    refine V_lastU (pc := 9) o 0 1 rfl hO (vp_in_nI (n := 0) (N := 1) (by omega) (by omega)) dL_replace_9 ?_
    refine V_eq (ws2 := (ao, .inl (cO, 1, .inr (.inl (vp_updL f 0 r.toInt64)))) :: wB) (by simp) rfl ?_
    refine V_goto (pc := 10) o 21 dL_replace_10 (by decide) ?_
    refine V_iconst (pc := 21) o 0 dL_replace_21 (by decide) ?_
    refine V_eq (ws2 := if 0 = 0 then (ao, .inl (cO, 1, .inr (.inl (vp_updL f 0 r.toInt64)))) :: wB else (ao, .inl (cO, 1, .inr (.inl f))) :: wA) (by simp) rfl ?_
    exact V_widen (by omega) (by omega) (fin 22 _ _ dL_replace_22 rfl)
def lwC_request : Nat → Int32
  | 1 => 1
  | 2 => 2
  | 3 => 3
  | _ => 0
theorem hdX8L_request : yX8_request.cls = RX8 ∧ yX8_request.cls ≠ "java/lang/invoke/MethodHandle" ∧ yX8_request.cls ≠ "java/lang/invoke/VarHandle" ∧ (parseMethodDescriptor yX8_request.desc).map (fun d => d.parameters.length) = some 3 := by decide +kernel
set_option maxHeartbeats 4000000 in
set_option maxRecDepth 100000 in
theorem cL_request_met (l : Launch) (D : va_G) (tys : List (ClassId × FieldType)) (a ao : Nat) (p0 p1 p2 : Int32) (fs : List Value) (wA wB : va_W) (h0 : wA[0]? = some (a, .inr (7, fs))) (th mc : Nat) (hmc : mc ≤ 6) (hth : th = 0 ∨ th = 1 ∨ th = 2 ∨ th = 3) (r : Int32) (hM : CXi l yX8_request wsX8_request 14 mc D tys [.ref a, .int p0, .int p1, .int p2] wA th r wB) (cO : ClassId) (hO : tys[1]? = some (cO, .long)) (f : Nat → Int64) : CW l yL_request wsL_request 15 D tys [.ref a, .int p0, .int p1, .int p2, .ref ao] ((ao, .inl (cO, 1, .inr (.inl f))) :: wA) (lwC_request th) (if th = 0 then (ao, .inl (cO, 1, .inr (.inl (vp_updL f 0 r.toInt64)))) :: wB else (ao, .inl (cO, 1, .inr (.inl f))) :: wA) := by
  refine CW_of (maxL := 6) (cc := cL_request) (y := yL_request) (hh := [(0, 12, 15, 13), (0, 12, 19, 15), (0, 12, 23, 17)]) rfl rfl (Nat.le_of_ble_eq_true rfl) (fun X hl hD hk hn hcz hsz o xo oh fin => ?_)
  subst hl; subst hD; subst hk
  refine V_aload (pc := 0) o dL_request_0 rfl ?_
  refine V_iconst (pc := 2) o 0 dL_request_2 (by decide) ?_
  refine V_aload_n (pc := 3) o dL_request_3 rfl ?_
  refine V_iload_n (pc := 4) o dL_request_4 rfl ?_
  refine V_iload_n (pc := 5) o dL_request_5 rfl ?_
  refine V_iload_n (pc := 6) o dL_request_6 rfl ?_
  refine V_xVi (pc := 7) o xo hM ([(ao, .inl (cO, 1, .inr (.inl f)))]) ([]) gL_request_X8_request rfl hdX8L_request ⟨by omega, by decide⟩ h0 rfl rfl (Nat.le_of_ble_eq_true rfl) ⟨by omega, by omega⟩ dL_request_7 (by simp) (fun t0 => ?_) (fun t0 => ?_)
  · rcases hth with rfl | rfl | rfl | rfl
    · exact absurd rfl t0
    · refine V_catch (th := 1) o oh (by decide) [] ⟨0, 12, 15, 13⟩ [⟨0, 12, 19, 15⟩, ⟨0, 12, 23, 17⟩] rfl (fun _ h => absurd h List.not_mem_nil) (by decide) (by decide) (by decide +kernel) (fun q => ?_)
      refine V_astore (pc := 15) o dL_request_15 (by rw [hn]; decide) ?_
      refine V_iconst (pc := 17) o 1 dL_request_17 (by decide) ?_
      refine V_eq (ws2 := if 1 = 0 then (ao, .inl (cO, 1, .inr (.inl (vp_updL f 0 r.toInt64)))) :: wB else (ao, .inl (cO, 1, .inr (.inl f))) :: wA) (by simp) rfl ?_
      exact V_widen (by omega) (by omega) (fin 18 _ _ dL_request_18 rfl)
    · refine V_catch (th := 2) o oh (by decide) [⟨0, 12, 15, 13⟩] ⟨0, 12, 19, 15⟩ [⟨0, 12, 23, 17⟩] rfl (List.forall_mem_cons.mpr ⟨⟨1, by decide, by decide, by decide, by decide +kernel⟩, fun _ h => absurd h List.not_mem_nil⟩) (by decide) (by decide) (by decide +kernel) (fun q => ?_)
      refine V_astore (pc := 19) o dL_request_19 (by rw [hn]; decide) ?_
      refine V_iconst (pc := 21) o 2 dL_request_21 (by decide) ?_
      refine V_eq (ws2 := if 2 = 0 then (ao, .inl (cO, 1, .inr (.inl (vp_updL f 0 r.toInt64)))) :: wB else (ao, .inl (cO, 1, .inr (.inl f))) :: wA) (by simp) rfl ?_
      exact V_widen (by omega) (by omega) (fin 22 _ _ dL_request_22 rfl)
    · refine V_catch (th := 3) o oh (by decide) [⟨0, 12, 15, 13⟩, ⟨0, 12, 19, 15⟩] ⟨0, 12, 23, 17⟩ [] rfl (List.forall_mem_cons.mpr ⟨⟨1, by decide, by decide, by decide, by decide +kernel⟩, List.forall_mem_cons.mpr ⟨⟨2, by decide, by decide, by decide, by decide +kernel⟩, fun _ h => absurd h List.not_mem_nil⟩⟩) (by decide) (by decide) (by decide +kernel) (fun q => ?_)
      refine V_astore (pc := 23) o dL_request_23 (by rw [hn]; decide) ?_
      refine V_iconst (pc := 25) o 3 dL_request_25 (by decide) ?_
      refine V_eq (ws2 := if 3 = 0 then (ao, .inl (cO, 1, .inr (.inl (vp_updL f 0 r.toInt64)))) :: wB else (ao, .inl (cO, 1, .inr (.inl f))) :: wA) (by simp) rfl ?_
      exact V_widen (by omega) (by omega) (fin 26 _ _ dL_request_26 rfl)
  · subst t0
    refine V_i2l (pc := 10) o dL_request_10 ?_
    refine V_lastU (pc := 11) o 0 1 rfl hO (vp_in_nI (n := 0) (N := 1) (by omega) (by omega)) dL_request_11 ?_
    refine V_eq (ws2 := (ao, .inl (cO, 1, .inr (.inl (vp_updL f 0 r.toInt64)))) :: wB) (by simp) rfl ?_
    refine V_goto (pc := 12) o 27 dL_request_12 (by decide) ?_
    refine V_iconst (pc := 27) o 0 dL_request_27 (by decide) ?_
    refine V_eq (ws2 := if 0 = 0 then (ao, .inl (cO, 1, .inr (.inl (vp_updL f 0 r.toInt64)))) :: wB else (ao, .inl (cO, 1, .inr (.inl f))) :: wA) (by simp) rfl ?_
    exact V_widen (by omega) (by omega) (fin 28 _ _ dL_request_28 rfl)
def lwC_resolve : Nat → Int32
  | 1 => 1
  | 3 => 2
  | _ => 0
theorem hdX8L_resolve : yX8_resolve.cls = RX8 ∧ yX8_resolve.cls ≠ "java/lang/invoke/MethodHandle" ∧ yX8_resolve.cls ≠ "java/lang/invoke/VarHandle" ∧ (parseMethodDescriptor yX8_resolve.desc).map (fun d => d.parameters.length) = some 1 := by decide +kernel
set_option maxHeartbeats 4000000 in
set_option maxRecDepth 100000 in
theorem cL_resolve_met (l : Launch) (D : va_G) (tys : List (ClassId × FieldType)) (a ao : Nat) (p0 : Int32) (fs : List Value) (wA wB : va_W) (h0 : wA[0]? = some (a, .inr (7, fs))) (th mc : Nat) (hmc : mc ≤ 6) (hth : th = 0 ∨ th = 1 ∨ th = 3) (r : Int32) (hM : CXi l yX8_resolve wsX8_resolve 14 mc D tys [.ref a, .int p0] wA th r wB) (cO : ClassId) (hO : tys[1]? = some (cO, .long)) (f : Nat → Int64) : CW l yL_resolve wsL_resolve 15 D tys [.ref a, .int p0, .ref ao] ((ao, .inl (cO, 1, .inr (.inl f))) :: wA) (lwC_resolve th) (if th = 0 then (ao, .inl (cO, 1, .inr (.inl (vp_updL f 0 r.toInt64)))) :: wB else (ao, .inl (cO, 1, .inr (.inl f))) :: wA) := by
  refine CW_of (maxL := 4) (cc := cL_resolve) (y := yL_resolve) (hh := [(0, 9, 12, 13), (0, 9, 15, 17)]) rfl rfl (Nat.le_of_ble_eq_true rfl) (fun X hl hD hk hn hcz hsz o xo oh fin => ?_)
  subst hl; subst hD; subst hk
  refine V_aload_n (pc := 0) o dL_resolve_0 rfl ?_
  refine V_iconst (pc := 1) o 0 dL_resolve_1 (by decide) ?_
  refine V_aload_n (pc := 2) o dL_resolve_2 rfl ?_
  refine V_iload_n (pc := 3) o dL_resolve_3 rfl ?_
  refine V_xVi (pc := 4) o xo hM ([(ao, .inl (cO, 1, .inr (.inl f)))]) ([]) gL_resolve_X8_resolve rfl hdX8L_resolve ⟨by omega, by decide⟩ h0 rfl rfl (Nat.le_of_ble_eq_true rfl) ⟨by omega, by omega⟩ dL_resolve_4 (by simp) (fun t0 => ?_) (fun t0 => ?_)
  · rcases hth with rfl | rfl | rfl
    · exact absurd rfl t0
    · refine V_catch (th := 1) o oh (by decide) [] ⟨0, 9, 12, 13⟩ [⟨0, 9, 15, 17⟩] rfl (fun _ h => absurd h List.not_mem_nil) (by decide) (by decide) (by decide +kernel) (fun q => ?_)
      refine V_astore_n (pc := 12) o dL_resolve_12 (by rw [hn]; decide) ?_
      refine V_iconst (pc := 13) o 1 dL_resolve_13 (by decide) ?_
      refine V_eq (ws2 := if 1 = 0 then (ao, .inl (cO, 1, .inr (.inl (vp_updL f 0 r.toInt64)))) :: wB else (ao, .inl (cO, 1, .inr (.inl f))) :: wA) (by simp) rfl ?_
      exact V_widen (by omega) (by omega) (fin 14 _ _ dL_resolve_14 rfl)
    · refine V_catch (th := 3) o oh (by decide) [⟨0, 9, 12, 13⟩] ⟨0, 9, 15, 17⟩ [] rfl (List.forall_mem_cons.mpr ⟨⟨1, by decide, by decide, by decide, by decide +kernel⟩, fun _ h => absurd h List.not_mem_nil⟩) (by decide) (by decide) (by decide +kernel) (fun q => ?_)
      refine V_astore_n (pc := 15) o dL_resolve_15 (by rw [hn]; decide) ?_
      refine V_iconst (pc := 16) o 2 dL_resolve_16 (by decide) ?_
      refine V_eq (ws2 := if 3 = 0 then (ao, .inl (cO, 1, .inr (.inl (vp_updL f 0 r.toInt64)))) :: wB else (ao, .inl (cO, 1, .inr (.inl f))) :: wA) (by simp) rfl ?_
      exact V_widen (by omega) (by omega) (fin 17 _ _ dL_resolve_17 rfl)
  · subst t0
    refine V_i2l (pc := 7) o dL_resolve_7 ?_
    refine V_lastU (pc := 8) o 0 1 rfl hO (vp_in_nI (n := 0) (N := 1) (by omega) (by omega)) dL_resolve_8 ?_
    refine V_eq (ws2 := (ao, .inl (cO, 1, .inr (.inl (vp_updL f 0 r.toInt64)))) :: wB) (by simp) rfl ?_
    refine V_goto (pc := 9) o 18 dL_resolve_9 (by decide) ?_
    refine V_iconst (pc := 18) o 0 dL_resolve_18 (by decide) ?_
    refine V_eq (ws2 := if 0 = 0 then (ao, .inl (cO, 1, .inr (.inl (vp_updL f 0 r.toInt64)))) :: wB else (ao, .inl (cO, 1, .inr (.inl f))) :: wA) (by simp) rfl ?_
    exact V_widen (by omega) (by omega) (fin 19 _ _ dL_resolve_19 rfl)
def lwC_chosen : Nat → Int32
  | 1 => 1
  | _ => 0
theorem hdX8L_chosen : yX8_chosen.cls = RX8 ∧ yX8_chosen.cls ≠ "java/lang/invoke/MethodHandle" ∧ yX8_chosen.cls ≠ "java/lang/invoke/VarHandle" ∧ (parseMethodDescriptor yX8_chosen.desc).map (fun d => d.parameters.length) = some 2 := by decide +kernel
set_option maxHeartbeats 4000000 in
set_option maxRecDepth 100000 in
theorem cL_chosen_met (l : Launch) (D : va_G) (tys : List (ClassId × FieldType)) (a ao : Nat) (p0 p1 : Int32) (fs : List Value) (wA wB : va_W) (h0 : wA[0]? = some (a, .inr (7, fs))) (th mc : Nat) (hmc : mc ≤ 6) (hth : th = 0 ∨ th = 1) (r : Int32) (hM : CXi l yX8_chosen wsX8_chosen 14 mc D tys [.ref a, .int p0, .int p1] wA th r wB) (cO : ClassId) (hO : tys[1]? = some (cO, .long)) (f : Nat → Int64) : CW l yL_chosen wsL_chosen 15 D tys [.ref a, .int p0, .int p1, .ref ao] ((ao, .inl (cO, 1, .inr (.inl f))) :: wA) (lwC_chosen th) (if th = 0 then (ao, .inl (cO, 1, .inr (.inl (vp_updL f 0 r.toInt64)))) :: wB else (ao, .inl (cO, 1, .inr (.inl f))) :: wA) := by
  refine CW_of (maxL := 5) (cc := cL_chosen) (y := yL_chosen) (hh := [(0, 10, 13, 13)]) rfl rfl (Nat.le_of_ble_eq_true rfl) (fun X hl hD hk hn hcz hsz o xo oh fin => ?_)
  subst hl; subst hD; subst hk
  refine V_aload_n (pc := 0) o dL_chosen_0 rfl ?_
  refine V_iconst (pc := 1) o 0 dL_chosen_1 (by decide) ?_
  refine V_aload_n (pc := 2) o dL_chosen_2 rfl ?_
  refine V_iload_n (pc := 3) o dL_chosen_3 rfl ?_
  refine V_iload_n (pc := 4) o dL_chosen_4 rfl ?_
  refine V_xVi (pc := 5) o xo hM ([(ao, .inl (cO, 1, .inr (.inl f)))]) ([]) gL_chosen_X8_chosen rfl hdX8L_chosen ⟨by omega, by decide⟩ h0 rfl rfl (Nat.le_of_ble_eq_true rfl) ⟨by omega, by omega⟩ dL_chosen_5 (by simp) (fun t0 => ?_) (fun t0 => ?_)
  · rcases hth with rfl | rfl
    · exact absurd rfl t0
    · refine V_catch (th := 1) o oh (by decide) [] ⟨0, 10, 13, 13⟩ [] rfl (fun _ h => absurd h List.not_mem_nil) (by decide) (by decide) (by decide +kernel) (fun q => ?_)
      refine V_astore (pc := 13) o dL_chosen_13 (by rw [hn]; decide) ?_
      refine V_iconst (pc := 15) o 1 dL_chosen_15 (by decide) ?_
      refine V_eq (ws2 := if 1 = 0 then (ao, .inl (cO, 1, .inr (.inl (vp_updL f 0 r.toInt64)))) :: wB else (ao, .inl (cO, 1, .inr (.inl f))) :: wA) (by simp) rfl ?_
      exact V_widen (by omega) (by omega) (fin 16 _ _ dL_chosen_16 rfl)
  · subst t0
    refine V_i2l (pc := 8) o dL_chosen_8 ?_
    refine V_lastU (pc := 9) o 0 1 rfl hO (vp_in_nI (n := 0) (N := 1) (by omega) (by omega)) dL_chosen_9 ?_
    refine V_eq (ws2 := (ao, .inl (cO, 1, .inr (.inl (vp_updL f 0 r.toInt64)))) :: wB) (by simp) rfl ?_
    refine V_goto (pc := 10) o 17 dL_chosen_10 (by decide) ?_
    refine V_iconst (pc := 17) o 0 dL_chosen_17 (by decide) ?_
    refine V_eq (ws2 := if 0 = 0 then (ao, .inl (cO, 1, .inr (.inl (vp_updL f 0 r.toInt64)))) :: wB else (ao, .inl (cO, 1, .inr (.inl f))) :: wA) (by simp) rfl ?_
    exact V_widen (by omega) (by omega) (fin 18 _ _ dL_chosen_18 rfl)
def lwC_limit : Nat → Int32
  | 1 => 1
  | 2 => 2
  | _ => 0
theorem hdX8L_limit : yX8_limit.cls = RX8 ∧ yX8_limit.cls ≠ "java/lang/invoke/MethodHandle" ∧ yX8_limit.cls ≠ "java/lang/invoke/VarHandle" ∧ (parseMethodDescriptor yX8_limit.desc).map (fun d => d.parameters.length) = some 2 := by decide +kernel
set_option maxHeartbeats 4000000 in
set_option maxRecDepth 100000 in
theorem cL_limit_met (l : Launch) (D : va_G) (tys : List (ClassId × FieldType)) (a ao : Nat) (p0 p1 : Int32) (fs : List Value) (wA wB : va_W) (h0 : wA[0]? = some (a, .inr (7, fs))) (th mc : Nat) (hmc : mc ≤ 6) (hth : th = 0 ∨ th = 1 ∨ th = 2) (r : Int32) (hM : CXi l yX8_limit wsX8_limit 14 mc D tys [.ref a, .int p0, .int p1] wA th r wB) (cO : ClassId) (hO : tys[1]? = some (cO, .long)) (f : Nat → Int64) : CW l yL_limit wsL_limit 15 D tys [.ref a, .int p0, .int p1, .ref ao] ((ao, .inl (cO, 1, .inr (.inl f))) :: wA) (lwC_limit th) (if th = 0 then (ao, .inl (cO, 1, .inr (.inl (vp_updL f 0 r.toInt64)))) :: wB else (ao, .inl (cO, 1, .inr (.inl f))) :: wA) := by
  refine CW_of (maxL := 5) (cc := cL_limit) (y := yL_limit) (hh := [(0, 10, 13, 13), (0, 10, 17, 15)]) rfl rfl (Nat.le_of_ble_eq_true rfl) (fun X hl hD hk hn hcz hsz o xo oh fin => ?_)
  subst hl; subst hD; subst hk
  refine V_aload_n (pc := 0) o dL_limit_0 rfl ?_
  refine V_iconst (pc := 1) o 0 dL_limit_1 (by decide) ?_
  refine V_aload_n (pc := 2) o dL_limit_2 rfl ?_
  refine V_iload_n (pc := 3) o dL_limit_3 rfl ?_
  refine V_iload_n (pc := 4) o dL_limit_4 rfl ?_
  refine V_xVi (pc := 5) o xo hM ([(ao, .inl (cO, 1, .inr (.inl f)))]) ([]) gL_limit_X8_limit rfl hdX8L_limit ⟨by omega, by decide⟩ h0 rfl rfl (Nat.le_of_ble_eq_true rfl) ⟨by omega, by omega⟩ dL_limit_5 (by simp) (fun t0 => ?_) (fun t0 => ?_)
  · rcases hth with rfl | rfl | rfl
    · exact absurd rfl t0
    · refine V_catch (th := 1) o oh (by decide) [] ⟨0, 10, 13, 13⟩ [⟨0, 10, 17, 15⟩] rfl (fun _ h => absurd h List.not_mem_nil) (by decide) (by decide) (by decide +kernel) (fun q => ?_)
      refine V_astore (pc := 13) o dL_limit_13 (by rw [hn]; decide) ?_
      refine V_iconst (pc := 15) o 1 dL_limit_15 (by decide) ?_
      refine V_eq (ws2 := if 1 = 0 then (ao, .inl (cO, 1, .inr (.inl (vp_updL f 0 r.toInt64)))) :: wB else (ao, .inl (cO, 1, .inr (.inl f))) :: wA) (by simp) rfl ?_
      exact V_widen (by omega) (by omega) (fin 16 _ _ dL_limit_16 rfl)
    · refine V_catch (th := 2) o oh (by decide) [⟨0, 10, 13, 13⟩] ⟨0, 10, 17, 15⟩ [] rfl (List.forall_mem_cons.mpr ⟨⟨1, by decide, by decide, by decide, by decide +kernel⟩, fun _ h => absurd h List.not_mem_nil⟩) (by decide) (by decide) (by decide +kernel) (fun q => ?_)
      refine V_astore (pc := 17) o dL_limit_17 (by rw [hn]; decide) ?_
      refine V_iconst (pc := 19) o 2 dL_limit_19 (by decide) ?_
      refine V_eq (ws2 := if 2 = 0 then (ao, .inl (cO, 1, .inr (.inl (vp_updL f 0 r.toInt64)))) :: wB else (ao, .inl (cO, 1, .inr (.inl f))) :: wA) (by simp) rfl ?_
      exact V_widen (by omega) (by omega) (fin 20 _ _ dL_limit_20 rfl)
  · subst t0
    refine V_i2l (pc := 8) o dL_limit_8 ?_
    refine V_lastU (pc := 9) o 0 1 rfl hO (vp_in_nI (n := 0) (N := 1) (by omega) (by omega)) dL_limit_9 ?_
    refine V_eq (ws2 := (ao, .inl (cO, 1, .inr (.inl (vp_updL f 0 r.toInt64)))) :: wB) (by simp) rfl ?_
    refine V_goto (pc := 10) o 21 dL_limit_10 (by decide) ?_
    refine V_iconst (pc := 21) o 0 dL_limit_21 (by decide) ?_
    refine V_eq (ws2 := if 0 = 0 then (ao, .inl (cO, 1, .inr (.inl (vp_updL f 0 r.toInt64)))) :: wB else (ao, .inl (cO, 1, .inr (.inl f))) :: wA) (by simp) rfl ?_
    exact V_widen (by omega) (by omega) (fin 22 _ _ dL_limit_22 rfl)
def lwC_leave : Nat → Int32
  | 1 => 1
  | 2 => 2
  | _ => 0
theorem hdX8L_leave : yX8_leave.cls = RX8 ∧ yX8_leave.cls ≠ "java/lang/invoke/MethodHandle" ∧ yX8_leave.cls ≠ "java/lang/invoke/VarHandle" ∧ (parseMethodDescriptor yX8_leave.desc).map (fun d => d.parameters.length) = some 3 := by decide +kernel
set_option maxHeartbeats 4000000 in
set_option maxRecDepth 100000 in
theorem cL_leave_met (l : Launch) (D : va_G) (tys : List (ClassId × FieldType)) (a ao : Nat) (p0 p1 p2 : Int32) (fs : List Value) (wA wB : va_W) (h0 : wA[0]? = some (a, .inr (7, fs))) (th mc : Nat) (hmc : mc ≤ 6) (hth : th = 0 ∨ th = 1 ∨ th = 2) (r : Int32) (hM : CXi l yX8_leave wsX8_leave 14 mc D tys [.ref a, .int p0, .int p1, .int p2] wA th r wB) (cO : ClassId) (hO : tys[1]? = some (cO, .long)) (f : Nat → Int64) : CW l yL_leave wsL_leave 15 D tys [.ref a, .int p0, .int p1, .int p2, .ref ao] ((ao, .inl (cO, 1, .inr (.inl f))) :: wA) (lwC_leave th) (if th = 0 then (ao, .inl (cO, 1, .inr (.inl (vp_updL f 0 r.toInt64)))) :: wB else (ao, .inl (cO, 1, .inr (.inl f))) :: wA) := by
  refine CW_of (maxL := 6) (cc := cL_leave) (y := yL_leave) (hh := [(0, 12, 15, 13), (0, 12, 19, 15)]) rfl rfl (Nat.le_of_ble_eq_true rfl) (fun X hl hD hk hn hcz hsz o xo oh fin => ?_)
  subst hl; subst hD; subst hk
  refine V_aload (pc := 0) o dL_leave_0 rfl ?_
  refine V_iconst (pc := 2) o 0 dL_leave_2 (by decide) ?_
  refine V_aload_n (pc := 3) o dL_leave_3 rfl ?_
  refine V_iload_n (pc := 4) o dL_leave_4 rfl ?_
  refine V_iload_n (pc := 5) o dL_leave_5 rfl ?_
  refine V_iload_n (pc := 6) o dL_leave_6 rfl ?_
  refine V_xVi (pc := 7) o xo hM ([(ao, .inl (cO, 1, .inr (.inl f)))]) ([]) gL_leave_X8_leave rfl hdX8L_leave ⟨by omega, by decide⟩ h0 rfl rfl (Nat.le_of_ble_eq_true rfl) ⟨by omega, by omega⟩ dL_leave_7 (by simp) (fun t0 => ?_) (fun t0 => ?_)
  · rcases hth with rfl | rfl | rfl
    · exact absurd rfl t0
    · refine V_catch (th := 1) o oh (by decide) [] ⟨0, 12, 15, 13⟩ [⟨0, 12, 19, 15⟩] rfl (fun _ h => absurd h List.not_mem_nil) (by decide) (by decide) (by decide +kernel) (fun q => ?_)
      refine V_astore (pc := 15) o dL_leave_15 (by rw [hn]; decide) ?_
      refine V_iconst (pc := 17) o 1 dL_leave_17 (by decide) ?_
      refine V_eq (ws2 := if 1 = 0 then (ao, .inl (cO, 1, .inr (.inl (vp_updL f 0 r.toInt64)))) :: wB else (ao, .inl (cO, 1, .inr (.inl f))) :: wA) (by simp) rfl ?_
      exact V_widen (by omega) (by omega) (fin 18 _ _ dL_leave_18 rfl)
    · refine V_catch (th := 2) o oh (by decide) [⟨0, 12, 15, 13⟩] ⟨0, 12, 19, 15⟩ [] rfl (List.forall_mem_cons.mpr ⟨⟨1, by decide, by decide, by decide, by decide +kernel⟩, fun _ h => absurd h List.not_mem_nil⟩) (by decide) (by decide) (by decide +kernel) (fun q => ?_)
      refine V_astore (pc := 19) o dL_leave_19 (by rw [hn]; decide) ?_
      refine V_iconst (pc := 21) o 2 dL_leave_21 (by decide) ?_
      refine V_eq (ws2 := if 2 = 0 then (ao, .inl (cO, 1, .inr (.inl (vp_updL f 0 r.toInt64)))) :: wB else (ao, .inl (cO, 1, .inr (.inl f))) :: wA) (by simp) rfl ?_
      exact V_widen (by omega) (by omega) (fin 22 _ _ dL_leave_22 rfl)
  · subst t0
    refine V_i2l (pc := 10) o dL_leave_10 ?_
    refine V_lastU (pc := 11) o 0 1 rfl hO (vp_in_nI (n := 0) (N := 1) (by omega) (by omega)) dL_leave_11 ?_
    refine V_eq (ws2 := (ao, .inl (cO, 1, .inr (.inl (vp_updL f 0 r.toInt64)))) :: wB) (by simp) rfl ?_
    refine V_goto (pc := 12) o 23 dL_leave_12 (by decide) ?_
    refine V_iconst (pc := 23) o 0 dL_leave_23 (by decide) ?_
    refine V_eq (ws2 := if 0 = 0 then (ao, .inl (cO, 1, .inr (.inl (vp_updL f 0 r.toInt64)))) :: wB else (ao, .inl (cO, 1, .inr (.inl f))) :: wA) (by simp) rfl ?_
    exact V_widen (by omega) (by omega) (fin 24 _ _ dL_leave_24 rfl)
def lwC_approve : Nat → Int32
  | 1 => 1
  | 3 => 2
  | _ => 0
theorem hdX8L_approve : yX8_approve.cls = RX8 ∧ yX8_approve.cls ≠ "java/lang/invoke/MethodHandle" ∧ yX8_approve.cls ≠ "java/lang/invoke/VarHandle" ∧ (parseMethodDescriptor yX8_approve.desc).map (fun d => d.parameters.length) = some 2 := by decide +kernel
set_option maxHeartbeats 4000000 in
set_option maxRecDepth 100000 in
theorem cL_approve_met (l : Launch) (D : va_G) (tys : List (ClassId × FieldType)) (a ao : Nat) (p0 p1 : Int32) (fs : List Value) (wA wB : va_W) (h0 : wA[0]? = some (a, .inr (7, fs))) (th mc : Nat) (hmc : mc ≤ 6) (hth : th = 0 ∨ th = 1 ∨ th = 3) (r : Int32) (hM : CXi l yX8_approve wsX8_approve 14 mc D tys [.ref a, .int p0, .int p1] wA th r wB) (cO : ClassId) (hO : tys[1]? = some (cO, .long)) (f : Nat → Int64) : CW l yL_approve wsL_approve 15 D tys [.ref a, .int p0, .int p1, .ref ao] ((ao, .inl (cO, 1, .inr (.inl f))) :: wA) (lwC_approve th) (if th = 0 then (ao, .inl (cO, 1, .inr (.inl (vp_updL f 0 r.toInt64)))) :: wB else (ao, .inl (cO, 1, .inr (.inl f))) :: wA) := by
  refine CW_of (maxL := 5) (cc := cL_approve) (y := yL_approve) (hh := [(0, 10, 13, 13), (0, 10, 17, 17)]) rfl rfl (Nat.le_of_ble_eq_true rfl) (fun X hl hD hk hn hcz hsz o xo oh fin => ?_)
  subst hl; subst hD; subst hk
  refine V_aload_n (pc := 0) o dL_approve_0 rfl ?_
  refine V_iconst (pc := 1) o 0 dL_approve_1 (by decide) ?_
  refine V_aload_n (pc := 2) o dL_approve_2 rfl ?_
  refine V_iload_n (pc := 3) o dL_approve_3 rfl ?_
  refine V_iload_n (pc := 4) o dL_approve_4 rfl ?_
  refine V_xVi (pc := 5) o xo hM ([(ao, .inl (cO, 1, .inr (.inl f)))]) ([]) gL_approve_X8_approve rfl hdX8L_approve ⟨by omega, by decide⟩ h0 rfl rfl (Nat.le_of_ble_eq_true rfl) ⟨by omega, by omega⟩ dL_approve_5 (by simp) (fun t0 => ?_) (fun t0 => ?_)
  · rcases hth with rfl | rfl | rfl
    · exact absurd rfl t0
    · refine V_catch (th := 1) o oh (by decide) [] ⟨0, 10, 13, 13⟩ [⟨0, 10, 17, 17⟩] rfl (fun _ h => absurd h List.not_mem_nil) (by decide) (by decide) (by decide +kernel) (fun q => ?_)
      refine V_astore (pc := 13) o dL_approve_13 (by rw [hn]; decide) ?_
      refine V_iconst (pc := 15) o 1 dL_approve_15 (by decide) ?_
      refine V_eq (ws2 := if 1 = 0 then (ao, .inl (cO, 1, .inr (.inl (vp_updL f 0 r.toInt64)))) :: wB else (ao, .inl (cO, 1, .inr (.inl f))) :: wA) (by simp) rfl ?_
      exact V_widen (by omega) (by omega) (fin 16 _ _ dL_approve_16 rfl)
    · refine V_catch (th := 3) o oh (by decide) [⟨0, 10, 13, 13⟩] ⟨0, 10, 17, 17⟩ [] rfl (List.forall_mem_cons.mpr ⟨⟨1, by decide, by decide, by decide, by decide +kernel⟩, fun _ h => absurd h List.not_mem_nil⟩) (by decide) (by decide) (by decide +kernel) (fun q => ?_)
      refine V_astore (pc := 17) o dL_approve_17 (by rw [hn]; decide) ?_
      refine V_iconst (pc := 19) o 2 dL_approve_19 (by decide) ?_
      refine V_eq (ws2 := if 3 = 0 then (ao, .inl (cO, 1, .inr (.inl (vp_updL f 0 r.toInt64)))) :: wB else (ao, .inl (cO, 1, .inr (.inl f))) :: wA) (by simp) rfl ?_
      exact V_widen (by omega) (by omega) (fin 20 _ _ dL_approve_20 rfl)
  · subst t0
    refine V_i2l (pc := 8) o dL_approve_8 ?_
    refine V_lastU (pc := 9) o 0 1 rfl hO (vp_in_nI (n := 0) (N := 1) (by omega) (by omega)) dL_approve_9 ?_
    refine V_eq (ws2 := (ao, .inl (cO, 1, .inr (.inl (vp_updL f 0 r.toInt64)))) :: wB) (by simp) rfl ?_
    refine V_goto (pc := 10) o 21 dL_approve_10 (by decide) ?_
    refine V_iconst (pc := 21) o 0 dL_approve_21 (by decide) ?_
    refine V_eq (ws2 := if 0 = 0 then (ao, .inl (cO, 1, .inr (.inl (vp_updL f 0 r.toInt64)))) :: wB else (ao, .inl (cO, 1, .inr (.inl f))) :: wA) (by simp) rfl ?_
    exact V_widen (by omega) (by omega) (fin 22 _ _ dL_approve_22 rfl)
def lwC_release : Nat → Int32
  | 1 => 1
  | 3 => 2
  | _ => 0
theorem hdX8L_release : yX8_release.cls = RX8 ∧ yX8_release.cls ≠ "java/lang/invoke/MethodHandle" ∧ yX8_release.cls ≠ "java/lang/invoke/VarHandle" ∧ (parseMethodDescriptor yX8_release.desc).map (fun d => d.parameters.length) = some 1 := by decide +kernel
set_option maxHeartbeats 4000000 in
set_option maxRecDepth 100000 in
theorem cL_release_met (l : Launch) (D : va_G) (tys : List (ClassId × FieldType)) (a ao : Nat) (p0 : Int32) (fs : List Value) (wA wB : va_W) (h0 : wA[0]? = some (a, .inr (7, fs))) (th mc : Nat) (hmc : mc ≤ 6) (hth : th = 0 ∨ th = 1 ∨ th = 3) (hM : CXv l yX8_release wsX8_release 14 mc D tys [.ref a, .int p0] wA th wB) : CW l yL_release wsL_release 15 D tys [.ref a, .int p0] (wA) (lwC_release th) (if th = 0 then wB else wA) := by
  refine CW_of (maxL := 3) (cc := cL_release) (y := yL_release) (hh := [(0, 5, 8, 13), (0, 5, 11, 17)]) rfl rfl (Nat.le_of_ble_eq_true rfl) (fun X hl hD hk hn hcz hsz o xo oh fin => ?_)
  subst hl; subst hD; subst hk
  refine V_aload_n (pc := 0) o dL_release_0 rfl ?_
  refine V_iload_n (pc := 1) o dL_release_1 rfl ?_
  refine V_xVw (pc := 2) o xo hM ([]) ([]) gL_release_X8_release rfl hdX8L_release ⟨by omega, by decide⟩ h0 rfl rfl (Nat.le_of_ble_eq_true rfl) ⟨by omega, by omega⟩ dL_release_2 (by simp) (fun t0 => ?_) (fun t0 => ?_)
  · rcases hth with rfl | rfl | rfl
    · exact absurd rfl t0
    · refine V_catch (th := 1) o oh (by decide) [] ⟨0, 5, 8, 13⟩ [⟨0, 5, 11, 17⟩] rfl (fun _ h => absurd h List.not_mem_nil) (by decide) (by decide) (by decide +kernel) (fun q => ?_)
      refine V_astore_n (pc := 8) o dL_release_8 (by rw [hn]; decide) ?_
      refine V_iconst (pc := 9) o 1 dL_release_9 (by decide) ?_
      refine V_eq (ws2 := if 1 = 0 then wB else wA) (by simp) rfl ?_
      exact V_widen (by omega) (by omega) (fin 10 _ _ dL_release_10 rfl)
    · refine V_catch (th := 3) o oh (by decide) [⟨0, 5, 8, 13⟩] ⟨0, 5, 11, 17⟩ [] rfl (List.forall_mem_cons.mpr ⟨⟨1, by decide, by decide, by decide, by decide +kernel⟩, fun _ h => absurd h List.not_mem_nil⟩) (by decide) (by decide) (by decide +kernel) (fun q => ?_)
      refine V_astore_n (pc := 11) o dL_release_11 (by rw [hn]; decide) ?_
      refine V_iconst (pc := 12) o 2 dL_release_12 (by decide) ?_
      refine V_eq (ws2 := if 3 = 0 then wB else wA) (by simp) rfl ?_
      exact V_widen (by omega) (by omega) (fin 13 _ _ dL_release_13 rfl)
  · subst t0
    refine V_goto (pc := 5) o 14 dL_release_5 (by decide) ?_
    refine V_iconst (pc := 14) o 0 dL_release_14 (by decide) ?_
    refine V_eq (ws2 := if 0 = 0 then wB else wA) (by simp) rfl ?_
    exact V_widen (by omega) (by omega) (fin 15 _ _ dL_release_15 rfl)
def lwC_pass : Nat → Int32
  | 2 => 1
  | _ => 0
theorem hdX8L_pass : yX8_pass.cls = RX8 ∧ yX8_pass.cls ≠ "java/lang/invoke/MethodHandle" ∧ yX8_pass.cls ≠ "java/lang/invoke/VarHandle" ∧ (parseMethodDescriptor yX8_pass.desc).map (fun d => d.parameters.length) = some 1 := by decide +kernel
set_option maxHeartbeats 4000000 in
set_option maxRecDepth 100000 in
theorem cL_pass_met (l : Launch) (D : va_G) (tys : List (ClassId × FieldType)) (a ao : Nat) (p0 : Int32) (fs : List Value) (wA wB : va_W) (h0 : wA[0]? = some (a, .inr (7, fs))) (th mc : Nat) (hmc : mc ≤ 6) (hth : th = 0 ∨ th = 2) (r : Int32) (hM : CXi l yX8_pass wsX8_pass 14 mc D tys [.ref a, .int p0] wA th r wB) (cO : ClassId) (hO : tys[1]? = some (cO, .long)) (f : Nat → Int64) : CW l yL_pass wsL_pass 15 D tys [.ref a, .int p0, .ref ao] ((ao, .inl (cO, 1, .inr (.inl f))) :: wA) (lwC_pass th) (if th = 0 then (ao, .inl (cO, 1, .inr (.inl (vp_updL f 0 r.toInt64)))) :: wB else (ao, .inl (cO, 1, .inr (.inl f))) :: wA) := by
  refine CW_of (maxL := 4) (cc := cL_pass) (y := yL_pass) (hh := [(0, 9, 12, 15)]) rfl rfl (Nat.le_of_ble_eq_true rfl) (fun X hl hD hk hn hcz hsz o xo oh fin => ?_)
  subst hl; subst hD; subst hk
  refine V_aload_n (pc := 0) o dL_pass_0 rfl ?_
  refine V_iconst (pc := 1) o 0 dL_pass_1 (by decide) ?_
  refine V_aload_n (pc := 2) o dL_pass_2 rfl ?_
  refine V_iload_n (pc := 3) o dL_pass_3 rfl ?_
  refine V_xVi (pc := 4) o xo hM ([(ao, .inl (cO, 1, .inr (.inl f)))]) ([]) gL_pass_X8_pass rfl hdX8L_pass ⟨by omega, by decide⟩ h0 rfl rfl (Nat.le_of_ble_eq_true rfl) ⟨by omega, by omega⟩ dL_pass_4 (by simp) (fun t0 => ?_) (fun t0 => ?_)
  · rcases hth with rfl | rfl
    · exact absurd rfl t0
    · refine V_catch (th := 2) o oh (by decide) [] ⟨0, 9, 12, 15⟩ [] rfl (fun _ h => absurd h List.not_mem_nil) (by decide) (by decide) (by decide +kernel) (fun q => ?_)
      refine V_astore_n (pc := 12) o dL_pass_12 (by rw [hn]; decide) ?_
      refine V_iconst (pc := 13) o 1 dL_pass_13 (by decide) ?_
      refine V_eq (ws2 := if 2 = 0 then (ao, .inl (cO, 1, .inr (.inl (vp_updL f 0 r.toInt64)))) :: wB else (ao, .inl (cO, 1, .inr (.inl f))) :: wA) (by simp) rfl ?_
      exact V_widen (by omega) (by omega) (fin 14 _ _ dL_pass_14 rfl)
  · subst t0
    refine V_i2l (pc := 7) o dL_pass_7 ?_
    refine V_lastU (pc := 8) o 0 1 rfl hO (vp_in_nI (n := 0) (N := 1) (by omega) (by omega)) dL_pass_8 ?_
    refine V_eq (ws2 := (ao, .inl (cO, 1, .inr (.inl (vp_updL f 0 r.toInt64)))) :: wB) (by simp) rfl ?_
    refine V_goto (pc := 9) o 15 dL_pass_9 (by decide) ?_
    refine V_iconst (pc := 15) o 0 dL_pass_15 (by decide) ?_
    refine V_eq (ws2 := if 0 = 0 then (ao, .inl (cO, 1, .inr (.inl (vp_updL f 0 r.toInt64)))) :: wB else (ao, .inl (cO, 1, .inr (.inl f))) :: wA) (by simp) rfl ?_
    exact V_widen (by omega) (by omega) (fin 16 _ _ dL_pass_16 rfl)
def lwC_ofRequest : Nat → Int32
  | 1 => 1
  | 2 => 2
  | _ => 0
theorem hdX8L_ofRequest : yX8_ofRequest.cls = RX8 ∧ yX8_ofRequest.cls ≠ "java/lang/invoke/MethodHandle" ∧ yX8_ofRequest.cls ≠ "java/lang/invoke/VarHandle" ∧ (parseMethodDescriptor yX8_ofRequest.desc).map (fun d => d.parameters.length) = some 2 := by decide +kernel
set_option maxHeartbeats 4000000 in
set_option maxRecDepth 100000 in
theorem cL_ofRequest_met (l : Launch) (D : va_G) (tys : List (ClassId × FieldType)) (a ao : Nat) (p0 p1 : Int32) (fs : List Value) (wA wB : va_W) (h0 : wA[0]? = some (a, .inr (7, fs))) (th mc : Nat) (hmc : mc ≤ 6) (hth : th = 0 ∨ th = 1 ∨ th = 2) (r : Int32) (hM : CXi l yX8_ofRequest wsX8_ofRequest 14 mc D tys [.ref a, .int p0, .int p1] wA th r wB) (cO : ClassId) (hO : tys[1]? = some (cO, .long)) (f : Nat → Int64) : CW l yL_ofRequest wsL_ofRequest 15 D tys [.ref a, .int p0, .int p1, .ref ao] ((ao, .inl (cO, 1, .inr (.inl f))) :: wA) (lwC_ofRequest th) (if th = 0 then (ao, .inl (cO, 1, .inr (.inl (vp_updL f 0 r.toInt64)))) :: wB else (ao, .inl (cO, 1, .inr (.inl f))) :: wA) := by
  refine CW_of (maxL := 5) (cc := cL_ofRequest) (y := yL_ofRequest) (hh := [(0, 10, 13, 13), (0, 10, 17, 15)]) rfl rfl (Nat.le_of_ble_eq_true rfl) (fun X hl hD hk hn hcz hsz o xo oh fin => ?_)
  subst hl; subst hD; subst hk
  refine V_aload_n (pc := 0) o dL_ofRequest_0 rfl ?_
  refine V_iconst (pc := 1) o 0 dL_ofRequest_1 (by decide) ?_
  refine V_aload_n (pc := 2) o dL_ofRequest_2 rfl ?_
  refine V_iload_n (pc := 3) o dL_ofRequest_3 rfl ?_
  refine V_iload_n (pc := 4) o dL_ofRequest_4 rfl ?_
  refine V_xVi (pc := 5) o xo hM ([(ao, .inl (cO, 1, .inr (.inl f)))]) ([]) gL_ofRequest_X8_ofRequest rfl hdX8L_ofRequest ⟨by omega, by decide⟩ h0 rfl rfl (Nat.le_of_ble_eq_true rfl) ⟨by omega, by omega⟩ dL_ofRequest_5 (by simp) (fun t0 => ?_) (fun t0 => ?_)
  · rcases hth with rfl | rfl | rfl
    · exact absurd rfl t0
    · refine V_catch (th := 1) o oh (by decide) [] ⟨0, 10, 13, 13⟩ [⟨0, 10, 17, 15⟩] rfl (fun _ h => absurd h List.not_mem_nil) (by decide) (by decide) (by decide +kernel) (fun q => ?_)
      refine V_astore (pc := 13) o dL_ofRequest_13 (by rw [hn]; decide) ?_
      refine V_iconst (pc := 15) o 1 dL_ofRequest_15 (by decide) ?_
      refine V_eq (ws2 := if 1 = 0 then (ao, .inl (cO, 1, .inr (.inl (vp_updL f 0 r.toInt64)))) :: wB else (ao, .inl (cO, 1, .inr (.inl f))) :: wA) (by simp) rfl ?_
      exact V_widen (by omega) (by omega) (fin 16 _ _ dL_ofRequest_16 rfl)
    · refine V_catch (th := 2) o oh (by decide) [⟨0, 10, 13, 13⟩] ⟨0, 10, 17, 15⟩ [] rfl (List.forall_mem_cons.mpr ⟨⟨1, by decide, by decide, by decide, by decide +kernel⟩, fun _ h => absurd h List.not_mem_nil⟩) (by decide) (by decide) (by decide +kernel) (fun q => ?_)
      refine V_astore (pc := 17) o dL_ofRequest_17 (by rw [hn]; decide) ?_
      refine V_iconst (pc := 19) o 2 dL_ofRequest_19 (by decide) ?_
      refine V_eq (ws2 := if 2 = 0 then (ao, .inl (cO, 1, .inr (.inl (vp_updL f 0 r.toInt64)))) :: wB else (ao, .inl (cO, 1, .inr (.inl f))) :: wA) (by simp) rfl ?_
      exact V_widen (by omega) (by omega) (fin 20 _ _ dL_ofRequest_20 rfl)
  · subst t0
    refine V_i2l (pc := 8) o dL_ofRequest_8 ?_
    refine V_lastU (pc := 9) o 0 1 rfl hO (vp_in_nI (n := 0) (N := 1) (by omega) (by omega)) dL_ofRequest_9 ?_
    refine V_eq (ws2 := (ao, .inl (cO, 1, .inr (.inl (vp_updL f 0 r.toInt64)))) :: wB) (by simp) rfl ?_
    refine V_goto (pc := 10) o 21 dL_ofRequest_10 (by decide) ?_
    refine V_iconst (pc := 21) o 0 dL_ofRequest_21 (by decide) ?_
    refine V_eq (ws2 := if 0 = 0 then (ao, .inl (cO, 1, .inr (.inl (vp_updL f 0 r.toInt64)))) :: wB else (ao, .inl (cO, 1, .inr (.inl f))) :: wA) (by simp) rfl ?_
    exact V_widen (by omega) (by omega) (fin 22 _ _ dL_ofRequest_22 rfl)
def lwC_isCoveredAnew : Nat → Int32
  | 1 => 1
  | _ => 0
theorem hdX8L_isCoveredAnew : yX8_isCoveredAnew.cls = RX8 ∧ yX8_isCoveredAnew.cls ≠ "java/lang/invoke/MethodHandle" ∧ yX8_isCoveredAnew.cls ≠ "java/lang/invoke/VarHandle" ∧ (parseMethodDescriptor yX8_isCoveredAnew.desc).map (fun d => d.parameters.length) = some 1 := by decide +kernel
set_option maxHeartbeats 4000000 in
set_option maxRecDepth 100000 in
theorem cL_isCoveredAnew_met (l : Launch) (D : va_G) (tys : List (ClassId × FieldType)) (a ao : Nat) (p0 : Int32) (fs : List Value) (wA wB : va_W) (h0 : wA[0]? = some (a, .inr (7, fs))) (th mc : Nat) (hmc : mc ≤ 6) (hth : th = 0 ∨ th = 1) (r : Int32) (hM : CXi l yX8_isCoveredAnew wsX8_isCoveredAnew 14 mc D tys [.ref a, .int p0] wA th r wB) (cO : ClassId) (hO : tys[1]? = some (cO, .long)) (f : Nat → Int64) : CW l yL_isCoveredAnew wsL_isCoveredAnew 15 D tys [.ref a, .int p0, .ref ao] ((ao, .inl (cO, 1, .inr (.inl f))) :: wA) (lwC_isCoveredAnew th) (if th = 0 then (ao, .inl (cO, 1, .inr (.inl (vp_updL f 0 (if r = 0 then 0 else 1))))) :: wB else (ao, .inl (cO, 1, .inr (.inl f))) :: wA) := by
  refine CW_of (maxL := 4) (cc := cL_isCoveredAnew) (y := yL_isCoveredAnew) (hh := [(0, 16, 19, 13)]) rfl rfl (Nat.le_of_ble_eq_true rfl) (fun X hl hD hk hn hcz hsz o xo oh fin => ?_)
  subst hl; subst hD; subst hk
  refine V_aload_n (pc := 0) o dL_isCoveredAnew_0 rfl ?_
  refine V_iconst (pc := 1) o 0 dL_isCoveredAnew_1 (by decide) ?_
  refine V_aload_n (pc := 2) o dL_isCoveredAnew_2 rfl ?_
  refine V_iload_n (pc := 3) o dL_isCoveredAnew_3 rfl ?_
  refine V_xVi (pc := 4) o xo hM ([(ao, .inl (cO, 1, .inr (.inl f)))]) ([]) gL_isCoveredAnew_X8_isCoveredAnew rfl hdX8L_isCoveredAnew ⟨by omega, by decide⟩ h0 rfl rfl (Nat.le_of_ble_eq_true rfl) ⟨by omega, by omega⟩ dL_isCoveredAnew_4 (by simp) (fun t0 => ?_) (fun t0 => ?_)
  · rcases hth with rfl | rfl
    · exact absurd rfl t0
    · refine V_catch (th := 1) o oh (by decide) [] ⟨0, 16, 19, 13⟩ [] rfl (fun _ h => absurd h List.not_mem_nil) (by decide) (by decide) (by decide +kernel) (fun q => ?_)
      refine V_astore_n (pc := 19) o dL_isCoveredAnew_19 (by rw [hn]; decide) ?_
      refine V_iconst (pc := 20) o 1 dL_isCoveredAnew_20 (by decide) ?_
      refine V_eq (ws2 := if 1 = 0 then (ao, .inl (cO, 1, .inr (.inl (vp_updL f 0 (if r = 0 then 0 else 1))))) :: wB else (ao, .inl (cO, 1, .inr (.inl f))) :: wA) (by simp) rfl ?_
      exact V_widen (by omega) (by omega) (fin 21 _ _ dL_isCoveredAnew_21 rfl)
  · subst t0
    refine V_if_eq (pc := 7) o 14 dL_isCoveredAnew_7 (by decide) (fun c7 => ?_) (fun c7 => ?_)
    · refine V_lconst (pc := 14) o 0 dL_isCoveredAnew_14 (by decide) ?_
      refine V_lastU (pc := 15) o 0 1 rfl hO (vp_in_nI (n := 0) (N := 1) (by omega) (by omega)) dL_isCoveredAnew_15 ?_
      refine V_eq (ws2 := (ao, .inl (cO, 1, .inr (.inl (vp_updL f 0 (if r = 0 then 0 else 1))))) :: wB) (by rw [if_pos c7]; simp) rfl ?_
      refine V_goto (pc := 16) o 22 dL_isCoveredAnew_16 (by decide) ?_
      refine V_iconst (pc := 22) o 0 dL_isCoveredAnew_22 (by decide) ?_
      refine V_eq (ws2 := if 0 = 0 then (ao, .inl (cO, 1, .inr (.inl (vp_updL f 0 (if r = 0 then 0 else 1))))) :: wB else (ao, .inl (cO, 1, .inr (.inl f))) :: wA) (by simp) rfl ?_
      exact V_widen (by omega) (by omega) (fin 23 _ _ dL_isCoveredAnew_23 rfl)
    · refine V_lconst (pc := 10) o 1 dL_isCoveredAnew_10 (by decide) ?_
      refine V_goto (pc := 11) o 15 dL_isCoveredAnew_11 (by decide) ?_
      refine V_lastU (pc := 15) o 0 1 rfl hO (vp_in_nI (n := 0) (N := 1) (by omega) (by omega)) dL_isCoveredAnew_15 ?_
      refine V_eq (ws2 := (ao, .inl (cO, 1, .inr (.inl (vp_updL f 0 (if r = 0 then 0 else 1))))) :: wB) (by rw [if_neg c7]; simp) rfl ?_
      refine V_goto (pc := 16) o 22 dL_isCoveredAnew_16 (by decide) ?_
      refine V_iconst (pc := 22) o 0 dL_isCoveredAnew_22 (by decide) ?_
      refine V_eq (ws2 := if 0 = 0 then (ao, .inl (cO, 1, .inr (.inl (vp_updL f 0 (if r = 0 then 0 else 1))))) :: wB else (ao, .inl (cO, 1, .inr (.inl f))) :: wA) (by simp) rfl ?_
      exact V_widen (by omega) (by omega) (fin 23 _ _ dL_isCoveredAnew_23 rfl)
def lwC_strain : Nat → Int32
  | 1 => 1
  | _ => 0
theorem hdX8L_strain : yX8_strain.cls = RX8 ∧ yX8_strain.cls ≠ "java/lang/invoke/MethodHandle" ∧ yX8_strain.cls ≠ "java/lang/invoke/VarHandle" ∧ (parseMethodDescriptor yX8_strain.desc).map (fun d => d.parameters.length) = some 1 := by decide +kernel
set_option maxHeartbeats 4000000 in
set_option maxRecDepth 100000 in
theorem cL_strain_met (l : Launch) (D : va_G) (tys : List (ClassId × FieldType)) (a ao : Nat) (p0 : Int32) (fs : List Value) (wA wB : va_W) (h0 : wA[0]? = some (a, .inr (7, fs))) (th mc : Nat) (hmc : mc ≤ 6) (hth : th = 0 ∨ th = 1) (r : UInt32) (hr : Jvm.FP.Core.fIsNaN r = false) (hM : CXf l yX8_strain wsX8_strain 14 mc D tys [.ref a, .int p0] wA th r wB) (cO : ClassId) (hO : tys[2]? = some (cO, .double)) (f : Nat → UInt64) : CW l yL_strain wsL_strain 15 D tys [.ref a, .int p0, .ref ao] (wA ++ [(ao, .inl (cO, 1, .inr (.inr (.inr (.inl f)))))]) (lwC_strain th) (if th = 0 then wB ++ [(ao, .inl (cO, 1, .inr (.inr (.inr (.inl (vf_upd f 0 (FP.f2d r)))))))] else wA ++ [(ao, .inl (cO, 1, .inr (.inr (.inr (.inl f)))))]) := by
  refine CW_of (maxL := 4) (cc := cL_strain) (y := yL_strain) (hh := [(0, 9, 12, 13)]) rfl rfl (Nat.le_of_ble_eq_true rfl) (fun X hl hD hk hn hcz hsz o xo oh fin => ?_)
  subst hl; subst hD; subst hk
  refine V_aload_n (pc := 0) o dL_strain_0 rfl ?_
  refine V_iconst (pc := 1) o 0 dL_strain_1 (by decide) ?_
  refine V_aload_n (pc := 2) o dL_strain_2 rfl ?_
  refine V_iload_n (pc := 3) o dL_strain_3 rfl ?_
  refine V_xVf (pc := 4) o xo hM ([]) ([(ao, .inl (cO, 1, .inr (.inr (.inr (.inl f)))))]) gL_strain_X8_strain rfl hdX8L_strain ⟨by omega, by decide⟩ h0 rfl rfl (Nat.le_of_ble_eq_true rfl) ⟨by omega, by omega⟩ dL_strain_4 (by simp) (fun t0 => ?_) (fun t0 => ?_)
  · rcases hth with rfl | rfl
    · exact absurd rfl t0
    · refine V_catch (th := 1) o oh (by decide) [] ⟨0, 9, 12, 13⟩ [] rfl (fun _ h => absurd h List.not_mem_nil) (by decide) (by decide) (by decide +kernel) (fun q => ?_)
      refine V_astore_n (pc := 12) o dL_strain_12 (by rw [hn]; decide) ?_
      refine V_iconst (pc := 13) o 1 dL_strain_13 (by decide) ?_
      refine V_eq (ws2 := if 1 = 0 then wB ++ [(ao, .inl (cO, 1, .inr (.inr (.inr (.inl (vf_upd f 0 (FP.f2d r)))))))] else wA ++ [(ao, .inl (cO, 1, .inr (.inr (.inr (.inl f)))))]) (by simp) rfl ?_
      exact V_widen (by omega) (by omega) (fin 14 _ _ dL_strain_14 rfl)
  · subst t0
    refine V_f2d (pc := 7) o dL_strain_7 (f2d_ok hr) ?_
    refine V_dastU (pc := 8) o wB.length 2 (last_at wB _) hO (vp_in_nI (n := 0) (N := 1) (by omega) (by omega)) dL_strain_8 ?_
    refine V_eq (ws2 := wB ++ [(ao, .inl (cO, 1, .inr (.inr (.inr (.inl (vf_upd f 0 (FP.f2d r)))))))]) (set_last wB _ _) rfl ?_
    refine V_goto (pc := 9) o 15 dL_strain_9 (by decide) ?_
    refine V_iconst (pc := 15) o 0 dL_strain_15 (by decide) ?_
    refine V_eq (ws2 := if 0 = 0 then wB ++ [(ao, .inl (cO, 1, .inr (.inr (.inr (.inl (vf_upd f 0 (FP.f2d r)))))))] else wA ++ [(ao, .inl (cO, 1, .inr (.inr (.inr (.inl f)))))]) (by simp) rfl ?_
    exact V_widen (by omega) (by omega) (fin 16 _ _ dL_strain_16 rfl)
