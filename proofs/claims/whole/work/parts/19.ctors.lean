/-! Constructors. -/
def OkI : XT → Prop
  | (_, _, _, _, _, _, _, _, meth, _, _, _, _, _, _) => meth.name = "<init>"
def isNest (w : Cond) : Bool := match w with
  | .methodLinkNest _ _ _ _ => true
  | _ => false
theorem nest_moved {w : Cond} {s U : State} (hk : isNest w = true) (hW : s.WarmedH U.vm) (h : va_Nw w s) : va_Nw w U := by
  cases w with
  | methodLinkNest a i x y => exact va_Nw.warmM hW h
  | _ => simp [isNest] at hk
theorem nest_same {w : Cond} {s U : State} (hk : isNest w = true) (hW : s.vm = U.vm) (h : va_Nw w s) : va_Nw w U := by
  cases w with
  | methodLinkNest a i x y => exact va_Nw.same rfl hW h
  | _ => simp [isNest] at hk
def NestOk (NW : List Cond) (U : State) : Prop := ∀ w ∈ NW, isNest w = true ∧ va_Nw w U
def OkN : XT → List Cond → Prop
  | (_, _, _, _, s, _, _, _, _, _, _, _, _, _, _), NW => NestOk NW s
def PrN (D : va_G) (tys : List (ClassId × FieldType)) (sz : Nat) (ws : va_W) (NW : List Cond) (U : State) : Prop := PrW D tys sz ws U ∧ NestOk NW U
theorem prn_blind {D : va_G} {tys : List (ClassId × FieldType)} {sz : Nat} {ws : va_W} {NW : List Cond} {as : List Value} : FrameBlind (va_Pc as (PrN D tys sz ws NW)) := fun a U g mk q => by
  obtain ⟨q0, ⟨q1, qP, qK, qD⟩, qN⟩ := q
  exact ⟨q0, ⟨q1, qP, va_K.moved (u := U) (U := U.calling g mk a) (Vm.Alike.refl U.vm) qK, qD⟩, fun w hw => ⟨(qN w hw).1, nest_same (qN w hw).1 (s := U) (U := U.calling g mk a) rfl (qN w hw).2⟩⟩
/-- the contract of a constructor -/
def CN (l : Launch) (y : MethodName) (w : List Cond) (d mc ms : Nat) (D : va_G) (tys : List (ClassId × FieldType)) (as : List Value) (ws : va_W) (NW : List Cond) (post : (Nat → Nat) → Prop) (ws2 : (Nat → Nat) → va_W) : Prop :=
  ∀ sz : Nat, Met l y w (rmd d mc ms) (va_Pc as (PrN D tys sz ws NW)) (va_Qv post (fun u t => AtW D tys (va_A ws sz) (ws2 u) t) (va_A ws sz)) mc ms (va_A ws sz)
theorem CN_of {l : Launch} {y : MethodName} {w w0 : List Cond} {cc : ByteArray} {maxL d mc ms : Nat} {D : va_G} {tys : List (ClassId × FieldType)} {as : List Value} {ws : va_W} {NW : List Cond} {post : (Nat → Nat) → Prop} {ws2 : (Nat → Nat) → va_W}
    (hy : plainName y.cls = true) (hw : w = Cond.code y cc maxL none :: w0) (hlen : (lg_sl as).length ≤ maxL) (hi : y.name = "<init>")
    (body : ∀ X : XT, XL X = l → XD X = D → XK X = tys → XN X = maxL → (XR X).cells = mc → (XR X).slots = ms → OkX X cc y.cls w d → OkI X → OkN X NW →
      (∀ (pc : Nat) (lc : List (Nat × Value)) (u : Nat → Nat), decode cc pc = .ok (.return_, 1) → post u → V X mc ms (ws2 u) pc lc []) → V X 0 0 ws 0 (lv_args 0 as) []) :
    CN l y w d mc ms D tys as ws NW post ws2 := by
  intro sz
  refine Met.ofW (cc := cc) (maxL := maxL) (ret := none) hy hw ?_
  intro p e s m args below meth c s₁ B hml hv
  obtain ⟨rfl, ⟨hsz, hP, hK, hD0⟩, hN⟩ := hv
  subst hsz
  have hlocks : meth.locks = false := B.notSynchronized
  have hx := B.exec
  have hb := B.bytes
  have hr := B.returns
  have hin : meth.name = "<init>" := (name_of_methodNamed B.named B.method).1.trans hi
  rw [lg_entry_eq]
  refine body (p, l, e, (headSpec w (rmd d mc ms)).room, s, m, _, below, meth, c, D, tys, va_A ws s.heap.size, MQ below (va_Qv post (fun u t => AtW D tys (va_A ws s.heap.size) (ws2 u) t) (va_A ws s.heap.size)) _ s mc ms (va_A ws s.heap.size), maxL) rfl rfl rfl rfl rfl rfl ⟨hx, hb, hml, findClass_of_methodNamed B.named, atoms_spec (ws := w) B.pre, hK, fun q h => Or.inr h, Nat.le_refl _, Nat.le_refl _⟩ hin hN ?_ _ s.heap [] (lv_entry as hlen) hP hD0.self va_S.rf
  intro pc lc u dg hp ls H locs hl hP1 hD1 hS
  exact W.vret hx hb hr (fun t ht hW => ⟨⟨u, rfl, hp, by rw [ht]; exact hP1, va_K.moved hW.alike hK, hD1⟩, hS.F ht⟩) hS.2.2 dg
section IRows
variable {X : XT} {k z : Nat} {ws : va_W} {pc : Nat} {lc : List (Nat × Value)} {st : List Value} {cc : ByteArray} {own : String} {Ts : List Cond} {d : Nat}
theorem V_objI (o : OkX X cc own Ts d) {a idx : Nat} (h1 : Cond.methodLink own idx objectInit ∈ Ts) (h2 : Cond.instanceMethod objectInit ∈ Ts) (h3 : Cond.code objectInit ⟨#[0xb1]⟩ 1 none ∈ Ts) (hd : 1 ≤ d) (hcat : (st.map fun v => v.category).sum ≤ 8) (dg : decode cc pc = .ok (.invokespecial idx, 3)) (kk : V X k z ws (pc + 3) lc st) : V X k z ws pc lc (.ref a :: st) := by
  obtain ⟨p, l, e, R, s, m, args, below, meth, c, D, tys, A, Q, n⟩ := X
  obtain ⟨hx, hb, hml, hown, hts, hK, hA, hR1, hR2⟩ := o
  intro ls H locs hl hP hD hS
  have hR1' : d ≤ R.frames := hR1
  have hR2' : 40 * d ≤ R.locals := hR2
  have h8 := lv_room (m := m) (pc := pc) (ls := ls) (rest := Value.ref a :: st) hcat
  refine W.objInit hx hb hown (hts _ h1) (hts _ h2) (hts _ h3) rfl (by rw [hml]; exact hl.1) rfl dg (Nat.le_trans hd hR1') (by omega) ?_
  exact kk ls H locs hl hP hD hS
theorem V_new (o : OkX X cc own Ts d) {C : String} {T : u_T} {N ci index : Nat} {fs : List Value} (hin : ∀ w ∈ u_ws C T N, w ∈ Ts) (ty : Nat → FieldType) (hty : ∀ k, k < N → parseFieldDescriptor (T k).2.2.1 = some (ty k)) (hcl : Cond.classLink own index C ∈ Ts) (hinst : Cond.instantiable C N ∈ Ts) (hini : Cond.initialized C ∈ Ts) (hc : vwCl[ci]? = some (C, T, N)) (hfs : ∀ j, j < N → defaultValue (ty j) = vp_V fs j) (hk : k + 1 ≤ (XR X).cells ∧ z + N ≤ (XR X).slots) (dg : decode cc pc = .ok (.new index, 3)) (kk : ∀ q : Nat, V X (k + 1) (z + N) (ws ++ [(q, .inr (ci, fs))]) (pc + 3) lc (.ref q :: st)) : V X k z ws pc lc st := by
  obtain ⟨p, l, e, R, s, m, args, below, meth, c, D, tys, A, Q, n⟩ := X
  obtain ⟨hx, hb, hml, hown, hts, hK, hA, hR1, hR2⟩ := o
  intro ls H locs hl hP hD hS
  exact va_new hx hb hts hin ty hty hown (hts _ hcl) (hts _ hinst) (hts _ hini) hK hP hD hS hA hc hfs hk.1 hk.2 dg (fun q H1 hP1 hD1 hS1 => kk q ls H1 locs hl hP1 hD1 hS1)
theorem cI_same {D : va_G} {tys : List (ClassId × FieldType)} {s : State} {cA cI : ClassId} (hK : va_K D vwCl (tys ++ [(cA, .int)]) s) (ht : tys[0]? = some (cI, .int)) : cA = cI := by
  have h1 := (hK.2 tys.length (cA, .int) (by rw [List.getElem?_append_right (Nat.le_refl _), Nat.sub_self]; rfl)).2
  have h2 := (hK.2 0 (cI, .int) (by rw [List.getElem?_append_left (List.getElem?_eq_some_iff.mp ht).1]; exact ht)).2
  exact Option.some.inj (Eq.trans (Eq.symm (show s.vm.findClass ("[" ++ FieldType.int.toString) = some cA from h1)) h2)
theorem V_newa (o : OkX X cc own Ts d) {n : Int32} {cI : ClassId} (N' : Nat) (ht : (XK X)[0]? = some (cI, .int)) (harr : Cond.arrayClass .int ∈ Ts) (hn : n = nI N') (hN : N' ≤ 4000) (hk : k + 1 ≤ (XR X).cells ∧ z + N' ≤ (XR X).slots) (dg : decode cc pc = .ok (.newarray .int, 2)) (kk : ∀ q : Nat, V X (k + 1) (z + N') (ws ++ [(q, .inl (cI, N', .inl (fun _ => 0)))]) (pc + 2) lc (.ref q :: st)) : V X k z ws pc lc (.int n :: st) := by
  obtain ⟨p, l, e, R, s, m, args, below, meth, c, D, tys, A, Q, n2⟩ := X
  obtain ⟨hx, hb, hml, hown, hts, hK, hA, hR1, hR2⟩ := o
  subst hn
  intro ls H locs hl hP hD hS
  refine va_newa (atype := .int) (ty := .int) (n := nI N') (N' := N') (a0 := (N', .inl (fun _ => 0))) hx hb (hts _ harr) rfl hK hP hD hS hA (fun _ => rfl) (nI_pos (by omega)) (nI_clamp (by omega)) (by show N' * 4 ≤ 536870912; omega) hk.1 hk.2 dg (fun q cA H1 hK1 hP1 hD1 hS1 => ?_)
  have e1 := cI_same hK1 ht
  subst e1
  exact kk q ls H1 locs hl hP1 hD1 hS1
theorem V_putF (o : OkX X cc own Ts d) (oi : OkI X) {ref C : String} {T : u_T} {N ci index : Nat} {fs : List Value} {a : Nat} {v : Value} {ty : FieldType} (q0 f : Nat) (hin : ∀ w ∈ u_ws C T N, w ∈ Ts) (ty0 : Nat → FieldType) (hty : ∀ k, k < N → parseFieldDescriptor (T k).2.2.1 = some (ty0 k)) (hnm : ∀ a, a < N → ∀ b, b < N → a ≠ b → (T a).2.1 ≠ (T b).2.1) (he : ws[q0]? = some (a, .inr (ci, fs))) (hc : vwCl[ci]? = some (C, T, N)) (hk : f < N) (hlink : Cond.fieldLink own index ref (T f).2.1 (T f).2.2.1 ∈ Ts) (hsame : (T f).1 = ref) (hfin : (T f).2.2.2 = true) (hdecl : (T f).1 = own) (hd : parseFieldDescriptor (T f).2.2.1 = some ty) (hn : narrow ty v = v) (hfit : fits ty v = true) (hl : f < fs.length) (dg : decode cc pc = .ok (.putfield index, 3)) (kk : V X k z (ws.set q0 (a, .inr (ci, fs.set f v))) (pc + 3) lc st) : V X k z ws pc lc (v :: .ref a :: st) := by
  obtain ⟨p, l, e', R, s, m, args, below, meth, c, D, tys, A, Q, n⟩ := X
  obtain ⟨hx, hb, hml, hown, hts, hK, hA, -⟩ := o
  intro ls H locs hl9 hP hD hS
  exact va_putF hx hb hts hin ty0 hty hnm hown hK hP hD hS q0 he hc f hk (hts _ hlink) (by rw [hsame]; exact fun _ h => h) hfin oi hdecl hd hn hfit hl dg (fun H1 locs1 hP1 hD1 hS1 => kk ls H1 locs1 hl9 hP1 hD1 hS1)
theorem V_callIv {NW NW2 : List Cond} (o : OkX X cc own Ts d) (no : OkN X NW) {y : MethodName} {w w0 : List Cond} {bytes : ByteArray} {maxL index d2 mc ms b : Nat} {as rest : List Value} {wc : va_W} {post : (Nat → Nat) → Prop} {wc2 : (Nat → Nat) → va_W}
    (hM : CN (XL X) y w d2 mc ms (XD X) (XK X) (.ref b :: as) wc NW2 post wc2) (hNW : ∀ w ∈ NW2, w ∈ NW) (w1 w2 : va_W)
    (hG : GoodIn Ts w) (hw : w = Cond.code y bytes maxL none :: w0) (hini : Cond.initialized y.cls ∈ Ts) (hli : Cond.methodLink own index y ∈ Ts) (hins : Cond.instanceMethod y ∈ Ts) (hy1 : y.name = "<init>")
    (hd : y.cls ≠ "java/lang/invoke/MethodHandle" ∧ y.cls ≠ "java/lang/invoke/VarHandle" ∧ (parseMethodDescriptor y.desc).map (fun d => d.parameters.length) = some as.length)
    (hdd : d2 + 1 ≤ d ∧ maxL ≤ 21)
    (hst : st = as.reverse ++ .ref b :: rest) (hcat : (rest.map fun v => v.category).sum ≤ 8) (hk : k + mc ≤ (XR X).cells ∧ z + ms ≤ (XR X).slots)
    (dg : decode cc pc = .ok (.invokespecial index, 3)) (hws : ws = w1 ++ (wc ++ w2))
    (kk : ∀ (u : Nat → Nat), post u → V X (k + mc) (z + ms) (w1 ++ (wc2 u ++ w2)) (pc + 3) lc rest) : V X k z ws pc lc st := by
  obtain ⟨p, l, e', R, s, m, args, below, meth, c, D, tys, A, Q, n⟩ := X
  obtain ⟨hx, hb, hml, hown, hts, hK, hA, hR1, hR2⟩ := o
  subst hws; subst hst
  intro ls H locs hl hP hD hS
  have hP' := pw_iff.mp hP
  have hPc : va_P D vwCl wc H := pw_iff.mpr fun q hq => hP' q (List.mem_append_right _ (List.mem_append_left _ hq))
  have hDc : va_D A wc := by
    have h := dw_iff.mp hD
    simp only [List.map_append, List.nodup_append] at h
    exact dw_iff.mpr ⟨h.1.2.1.1, fun q hq => h.2 q (List.mem_append_right _ (List.mem_append_left _ hq))⟩
  have hFc := aw_in hD hS hA
  have no' : NestOk NW s := no
  dsimp only [XR, XL, XD, XK] at hM hk
  have hR1' : d ≤ R.frames := hR1
  have hR2' : 40 * d ≤ R.locals := hR2
  refine va_callv (va_runI (As := as) (rest := rest) ⟨hx, hb, hml, hown, hts⟩ (hM H.size) (cwI as.length hts hG hw rfl rfl (hts _ hini) (hts _ hli) (hts _ hins) hy1 hd ⟨Nat.le_trans hdd.1 hR1', ?_⟩) ⟨prn_blind, fun U hU hW => ⟨rfl, ⟨by rw [hU], by rw [hU]; exact hPc, va_K.moved hW.alike hK, hDc.weaken (fun _ _ _ _ => trivial)⟩, fun w h => ⟨(no' w (hNW w h)).1, nest_moved (no' w (hNW w h)).1 hW (no' w (hNW w h)).2⟩⟩⟩ rfl rfl hl.1 rfl (lv_room hcat) dg hk) hS (fun q _ h => hFc q h) hFc (fun u t H1 locs1 ht hvm hw1 hB hz1 hk1 hS1 => ?_)
  · show 8 + (maxL + 11) + 40 * d2 ≤ R.locals
    omega
  · obtain ⟨hP1, hK1, hD1⟩ := hB
    rw [ht] at hP1
    obtain ⟨hP2, hD2⟩ := splice hP hD hk1 hFc hP1 hD1
    exact kk u hw1 ls H1 locs1 hl hP2 hD2 hS1
theorem V_callIn {NW NW2 : List Cond} (o : OkX X cc own Ts d) (no : OkN X NW) {y : MethodName} {host : String} {w w0 : List Cond} {bytes : ByteArray} {maxL index d2 mc ms b : Nat} {as rest : List Value} {wc : va_W} {post : (Nat → Nat) → Prop} {wc2 : (Nat → Nat) → va_W}
    (hM : CN (XL X) y w d2 mc ms (XD X) (XK X) (.ref b :: as) wc NW2 post wc2) (hNW : ∀ w ∈ NW2, w ∈ NW) (w1 w2 : va_W)
    (hG : GoodIn Ts w) (hw : w = Cond.code y bytes maxL none :: w0) (hini : Cond.initialized y.cls ∈ Ts) (hli : Cond.methodLinkNest own index y host ∈ NW) (hins : Cond.instanceMethod y ∈ Ts) (hy1 : y.name = "<init>")
    (hd : y.cls ≠ "java/lang/invoke/MethodHandle" ∧ y.cls ≠ "java/lang/invoke/VarHandle" ∧ (parseMethodDescriptor y.desc).map (fun d => d.parameters.length) = some as.length)
    (hdd : d2 + 1 ≤ d ∧ maxL ≤ 21)
    (hst : st = as.reverse ++ .ref b :: rest) (hcat : (rest.map fun v => v.category).sum ≤ 8) (hk : k + mc ≤ (XR X).cells ∧ z + ms ≤ (XR X).slots)
    (dg : decode cc pc = .ok (.invokespecial index, 3)) (hws : ws = w1 ++ (wc ++ w2))
    (kk : ∀ (u : Nat → Nat), post u → V X (k + mc) (z + ms) (w1 ++ (wc2 u ++ w2)) (pc + 3) lc rest) : V X k z ws pc lc st := by
  obtain ⟨p, l, e', R, s, m, args, below, meth, c, D, tys, A, Q, n⟩ := X
  obtain ⟨hx, hb, hml, hown, hts, hK, hA, hR1, hR2⟩ := o
  subst hws; subst hst
  intro ls H locs hl hP hD hS
  have hP' := pw_iff.mp hP
  have hPc : va_P D vwCl wc H := pw_iff.mpr fun q hq => hP' q (List.mem_append_right _ (List.mem_append_left _ hq))
  have hDc : va_D A wc := by
    have h := dw_iff.mp hD
    simp only [List.map_append, List.nodup_append] at h
    exact dw_iff.mpr ⟨h.1.2.1.1, fun q hq => h.2 q (List.mem_append_right _ (List.mem_append_left _ hq))⟩
  have hFc := aw_in hD hS hA
  have no' : NestOk NW s := no
  dsimp only [XR, XL, XD, XK] at hM hk
  have hR1' : d ≤ R.frames := hR1
  have hR2' : 40 * d ≤ R.locals := hR2
  refine va_callv (va_runIN (As := as) (rest := rest) ⟨hx, hb, hml, hown, hts⟩ (hM H.size) ⟨va_cnB as.length hts hG hw rfl rfl (no' _ hli).2 (hts _ hini) hd ⟨Nat.le_trans hdd.1 hR1', ?_⟩, hy1, hts _ hins⟩ ⟨prn_blind, fun U hU hW => ⟨rfl, ⟨by rw [hU], by rw [hU]; exact hPc, va_K.moved hW.alike hK, hDc.weaken (fun _ _ _ _ => trivial)⟩, fun w h => ⟨(no' w (hNW w h)).1, nest_moved (no' w (hNW w h)).1 hW (no' w (hNW w h)).2⟩⟩⟩ rfl rfl hl.1 rfl (lv_room hcat) dg hk) hS (fun q _ h => hFc q h) hFc (fun u t H1 locs1 ht hvm hw1 hB hz1 hk1 hS1 => ?_)
  · show 8 + (maxL + 11) + 40 * d2 ≤ R.locals
    omega
  · obtain ⟨hP1, hK1, hD1⟩ := hB
    rw [ht] at hP1
    obtain ⟨hP2, hD2⟩ := splice hP hD hk1 hFc hP1 hD1
    exact kk u hw1 ls H1 locs1 hl hP2 hD2 hS1
end IRows
def zr : Nat → Int32 := fun _ => 0
def adl (L : List Nat) : Nat → Nat := fun k => L.getD k 0
def adj (n : Nat) (f g : Nat → Nat) : Nat → Nat := fun k => if k < n then f k else g (k - n)
theorem hiX6_init_X6 : ∀ w ∈ wsX60, w ∈ wsX6_init := by decide +kernel
set_option maxHeartbeats 4000000 in
set_option maxRecDepth 100000 in
theorem cX6_init_met (l : Launch) (D : va_G) (tys : List (ClassId × FieldType)) (cI : ClassId) (ht : tys[0]? = some (cI, .int)) (b N : Nat) (hN : N ≤ 4000) : CN l yX6_init wsX6_init 2 1 N D tys [.ref b, .int (nI N)] [(b, .inr (5, [.null]))] [] (fun u => u 0 = b) (fun u => [(b, .inr (5, [.ref (u 1)])), (u 1, .inl (cI, N, .inl zr))]) := by
  refine CN_of (maxL := 2) (cc := cX6_init) (y := yX6_init) rfl rfl (Nat.le_of_ble_eq_true rfl) rfl (fun X hl hD hk hn hcz hsz o oi no fin => ?_)
  subst hl; subst hD; subst hk
  refine V_aload_n (pc := 0) o dX6_init_0 rfl ?_
  refine V_objI (pc := 1) o (by decide +kernel) (by decide +kernel) (by decide +kernel) (by omega) (Nat.le_of_ble_eq_true rfl) dX6_init_1 ?_
  refine V_aload_n (pc := 4) o dX6_init_4 rfl ?_
  refine V_iload_n (pc := 5) o dX6_init_5 rfl ?_
  refine V_if_ge (pc := 6) o 13 dX6_init_6 (by decide) (fun _ => ?_) (fun c6 => absurd (nI_pos' (by omega)) c6)
  refine V_iload_n (pc := 13) o dX6_init_13 rfl ?_
  refine V_newa (pc := 14) o N ht (by decide +kernel) rfl hN ⟨by omega, by omega⟩ dX6_init_14 (fun q => ?_)
  refine V_putF (pc := 16) o oi 0 0 hiX6_init_X6 tyX6 tyX6_ok nmX6 rfl rfl (by decide) (by decide +kernel) rfl rfl rfl rfl rfl rfl (Nat.le_of_ble_eq_true rfl) dX6_init_16 ?_
  refine V_eq (ws2 := [(b, .inr (5, [.ref (adl [b, q] 1)])), (adl [b, q] 1, .inl (cI, N, .inl zr))]) rfl rfl ?_
  refine V_widen (by omega) (by omega) (fin 19 _ (adl [b, q]) dX6_init_19 rfl)
theorem hdX6_init : yX6_init.cls ≠ "java/lang/invoke/MethodHandle" ∧ yX6_init.cls ≠ "java/lang/invoke/VarHandle" ∧ (parseMethodDescriptor yX6_init.desc).map (fun d => d.parameters.length) = some 1 := by decide +kernel
theorem hiX0_init_X6 : ∀ w ∈ wsX60, w ∈ wsX0_init := by decide +kernel
theorem hiX0_init_X0 : ∀ w ∈ wsX00, w ∈ wsX0_init := by decide +kernel
set_option maxHeartbeats 4000000 in
set_option maxRecDepth 100000 in
theorem cX0_init_met (l : Launch) (D : va_G) (tys : List (ClassId × FieldType)) (cI : ClassId) (ht : tys[0]? = some (cI, .int)) (b : Nat) : CN l yX0_init wsX0_init 3 2 3073 D tys [.ref b] [(b, .inr (0, [.null, .int 0]))] [] (fun u => u 0 = b) (fun u => wBook cI u zr 0) := by
  refine CN_of (maxL := 1) (cc := cX0_init) (y := yX0_init) rfl rfl (Nat.le_of_ble_eq_true rfl) rfl (fun X hl hD hk hn hcz hsz o oi no fin => ?_)
  subst hl; subst hD; subst hk
  refine V_aload_n (pc := 0) o dX0_init_0 rfl ?_
  refine V_objI (pc := 1) o (by decide +kernel) (by decide +kernel) (by decide +kernel) (by omega) (Nat.le_of_ble_eq_true rfl) dX0_init_1 ?_
  refine V_aload_n (pc := 4) o dX0_init_4 rfl ?_
  refine V_new (pc := 5) (ci := 5) (fs := [.null]) o hiX0_init_X6 tyX6 tyX6_ok (by decide +kernel) (by decide +kernel) (by decide +kernel) rfl (fun j hj => match j, hj with | 0, _ => rfl | _ + 1, hj => absurd hj (by omega)) ⟨by omega, by omega⟩ dX0_init_5 (fun q0 => ?_)
  refine V_eq (ws2 := [(b, .inr (0, [.null, .int 0])), (q0, .inr (5, [.null]))]) rfl rfl ?_
  refine V_dup (pc := 8) o rfl dX0_init_8 ?_
  refine V_sipush (pc := 9) o 3072 dX0_init_9 (by decide) ?_
  refine V_callIv (pc := 12) o no (cX6_init_met _ _ _ cI ht q0 3072 (by omega)) (fun _ h => h) [(b, .inr (0, [.null, .int 0]))] [] gX0_init_X6_init rfl (by decide +kernel) (by decide +kernel) (by decide +kernel) rfl hdX6_init ⟨by omega, by decide⟩ rfl (Nat.le_of_ble_eq_true rfl) ⟨by omega, by omega⟩ dX0_init_12 rfl (fun u0 hu0 => ?_)
  obtain ⟨r0, er0⟩ : ∃ r, r = u0 1 := ⟨_, rfl⟩
  refine V_eq (ws2 := [(b, .inr (0, [.null, .int 0])), (q0, .inr (5, [.ref r0])), (r0, .inl (cI, 3072, .inl zr))]) (by rw [er0]; rfl) rfl ?_
  refine V_putF (pc := 15) o oi 0 0 hiX0_init_X0 tyX0 tyX0_ok nmX0 rfl rfl (by decide) (by decide +kernel) rfl rfl rfl rfl rfl rfl (Nat.le_of_ble_eq_true rfl) dX0_init_15 ?_
  refine V_eq (ws2 := [(b, .inr (0, [.ref q0, .int 0])), (q0, .inr (5, [.ref r0])), (r0, .inl (cI, 3072, .inl zr))]) rfl rfl ?_
  exact fin 18 _ (adl [b, q0, r0]) dX0_init_18 rfl
theorem hdX0_init : yX0_init.cls ≠ "java/lang/invoke/MethodHandle" ∧ yX0_init.cls ≠ "java/lang/invoke/VarHandle" ∧ (parseMethodDescriptor yX0_init.desc).map (fun d => d.parameters.length) = some 0 := by decide +kernel
theorem hiX3_init_X6 : ∀ w ∈ wsX60, w ∈ wsX3_init := by decide +kernel
theorem hiX3_init_X3 : ∀ w ∈ wsX30, w ∈ wsX3_init := by decide +kernel
set_option maxHeartbeats 4000000 in
set_option maxRecDepth 100000 in
theorem cX3_init_met (l : Launch) (D : va_G) (tys : List (ClassId × FieldType)) (cI : ClassId) (ht : tys[0]? = some (cI, .int)) (b : Nat) : CN l yX3_init wsX3_init 3 12 278 D tys [.ref b] [(b, .inr (2, [.null, .null, .null, .null, .null, .null]))] [] (fun u => u 0 = b) (fun u => wParts cI u zr zr zr zr zr zr) := by
  refine CN_of (maxL := 1) (cc := cX3_init) (y := yX3_init) rfl rfl (Nat.le_of_ble_eq_true rfl) rfl (fun X hl hD hk hn hcz hsz o oi no fin => ?_)
  subst hl; subst hD; subst hk
  refine V_aload_n (pc := 0) o dX3_init_0 rfl ?_
  refine V_objI (pc := 1) o (by decide +kernel) (by decide +kernel) (by decide +kernel) (by omega) (Nat.le_of_ble_eq_true rfl) dX3_init_1 ?_
  refine V_aload_n (pc := 4) o dX3_init_4 rfl ?_
  refine V_new (pc := 5) (ci := 5) (fs := [.null]) o hiX3_init_X6 tyX6 tyX6_ok (by decide +kernel) (by decide +kernel) (by decide +kernel) rfl (fun j hj => match j, hj with | 0, _ => rfl | _ + 1, hj => absurd hj (by omega)) ⟨by omega, by omega⟩ dX3_init_5 (fun q0 => ?_)
  refine V_eq (ws2 := [(b, .inr (2, [.null, .null, .null, .null, .null, .null])), (q0, .inr (5, [.null]))]) rfl rfl ?_
  refine V_dup (pc := 8) o rfl dX3_init_8 ?_
  refine V_bipush (pc := 9) o 8 dX3_init_9 (by decide) ?_
  refine V_callIv (pc := 11) o no (cX6_init_met _ _ _ cI ht q0 8 (by omega)) (fun _ h => h) [(b, .inr (2, [.null, .null, .null, .null, .null, .null]))] [] gX3_init_X6_init rfl (by decide +kernel) (by decide +kernel) (by decide +kernel) rfl hdX6_init ⟨by omega, by decide⟩ rfl (Nat.le_of_ble_eq_true rfl) ⟨by omega, by omega⟩ dX3_init_11 rfl (fun u0 hu0 => ?_)
  obtain ⟨r0, er0⟩ : ∃ r, r = u0 1 := ⟨_, rfl⟩
  refine V_eq (ws2 := [(b, .inr (2, [.null, .null, .null, .null, .null, .null])), (q0, .inr (5, [.ref r0])), (r0, .inl (cI, 8, .inl zr))]) (by rw [er0]; rfl) rfl ?_
  refine V_putF (pc := 14) o oi 0 0 hiX3_init_X3 tyX3 tyX3_ok nmX3 rfl rfl (by decide) (by decide +kernel) rfl rfl rfl rfl rfl rfl (Nat.le_of_ble_eq_true rfl) dX3_init_14 ?_
  refine V_eq (ws2 := [(b, .inr (2, [.ref q0, .null, .null, .null, .null, .null])), (q0, .inr (5, [.ref r0])), (r0, .inl (cI, 8, .inl zr))]) rfl rfl ?_
  refine V_aload_n (pc := 17) o dX3_init_17 rfl ?_
  refine V_new (pc := 18) (ci := 5) (fs := [.null]) o hiX3_init_X6 tyX6 tyX6_ok (by decide +kernel) (by decide +kernel) (by decide +kernel) rfl (fun j hj => match j, hj with | 0, _ => rfl | _ + 1, hj => absurd hj (by omega)) ⟨by omega, by omega⟩ dX3_init_18 (fun q1 => ?_)
  refine V_eq (ws2 := [(b, .inr (2, [.ref q0, .null, .null, .null, .null, .null])), (q0, .inr (5, [.ref r0])), (r0, .inl (cI, 8, .inl zr)), (q1, .inr (5, [.null]))]) rfl rfl ?_
  refine V_dup (pc := 21) o rfl dX3_init_21 ?_
  refine V_bipush (pc := 22) o 24 dX3_init_22 (by decide) ?_
  refine V_callIv (pc := 24) o no (cX6_init_met _ _ _ cI ht q1 24 (by omega)) (fun _ h => h) [(b, .inr (2, [.ref q0, .null, .null, .null, .null, .null])), (q0, .inr (5, [.ref r0])), (r0, .inl (cI, 8, .inl zr))] [] gX3_init_X6_init rfl (by decide +kernel) (by decide +kernel) (by decide +kernel) rfl hdX6_init ⟨by omega, by decide⟩ rfl (Nat.le_of_ble_eq_true rfl) ⟨by omega, by omega⟩ dX3_init_24 rfl (fun u1 hu1 => ?_)
  obtain ⟨r1, er1⟩ : ∃ r, r = u1 1 := ⟨_, rfl⟩
  refine V_eq (ws2 := [(b, .inr (2, [.ref q0, .null, .null, .null, .null, .null])), (q0, .inr (5, [.ref r0])), (r0, .inl (cI, 8, .inl zr)), (q1, .inr (5, [.ref r1])), (r1, .inl (cI, 24, .inl zr))]) (by rw [er1]; rfl) rfl ?_
  refine V_putF (pc := 27) o oi 0 1 hiX3_init_X3 tyX3 tyX3_ok nmX3 rfl rfl (by decide) (by decide +kernel) rfl rfl rfl rfl rfl rfl (Nat.le_of_ble_eq_true rfl) dX3_init_27 ?_
  refine V_eq (ws2 := [(b, .inr (2, [.ref q0, .ref q1, .null, .null, .null, .null])), (q0, .inr (5, [.ref r0])), (r0, .inl (cI, 8, .inl zr)), (q1, .inr (5, [.ref r1])), (r1, .inl (cI, 24, .inl zr))]) rfl rfl ?_
  refine V_aload_n (pc := 30) o dX3_init_30 rfl ?_
  refine V_new (pc := 31) (ci := 5) (fs := [.null]) o hiX3_init_X6 tyX6 tyX6_ok (by decide +kernel) (by decide +kernel) (by decide +kernel) rfl (fun j hj => match j, hj with | 0, _ => rfl | _ + 1, hj => absurd hj (by omega)) ⟨by omega, by omega⟩ dX3_init_31 (fun q2 => ?_)
  refine V_eq (ws2 := [(b, .inr (2, [.ref q0, .ref q1, .null, .null, .null, .null])), (q0, .inr (5, [.ref r0])), (r0, .inl (cI, 8, .inl zr)), (q1, .inr (5, [.ref r1])), (r1, .inl (cI, 24, .inl zr)), (q2, .inr (5, [.null]))]) rfl rfl ?_
  refine V_dup (pc := 34) o rfl dX3_init_34 ?_
  refine V_bipush (pc := 35) o 24 dX3_init_35 (by decide) ?_
  refine V_callIv (pc := 37) o no (cX6_init_met _ _ _ cI ht q2 24 (by omega)) (fun _ h => h) [(b, .inr (2, [.ref q0, .ref q1, .null, .null, .null, .null])), (q0, .inr (5, [.ref r0])), (r0, .inl (cI, 8, .inl zr)), (q1, .inr (5, [.ref r1])), (r1, .inl (cI, 24, .inl zr))] [] gX3_init_X6_init rfl (by decide +kernel) (by decide +kernel) (by decide +kernel) rfl hdX6_init ⟨by omega, by decide⟩ rfl (Nat.le_of_ble_eq_true rfl) ⟨by omega, by omega⟩ dX3_init_37 rfl (fun u2 hu2 => ?_)
  obtain ⟨r2, er2⟩ : ∃ r, r = u2 1 := ⟨_, rfl⟩
  refine V_eq (ws2 := [(b, .inr (2, [.ref q0, .ref q1, .null, .null, .null, .null])), (q0, .inr (5, [.ref r0])), (r0, .inl (cI, 8, .inl zr)), (q1, .inr (5, [.ref r1])), (r1, .inl (cI, 24, .inl zr)), (q2, .inr (5, [.ref r2])), (r2, .inl (cI, 24, .inl zr))]) (by rw [er2]; rfl) rfl ?_
  refine V_putF (pc := 40) o oi 0 2 hiX3_init_X3 tyX3 tyX3_ok nmX3 rfl rfl (by decide) (by decide +kernel) rfl rfl rfl rfl rfl rfl (Nat.le_of_ble_eq_true rfl) dX3_init_40 ?_
  refine V_eq (ws2 := [(b, .inr (2, [.ref q0, .ref q1, .ref q2, .null, .null, .null])), (q0, .inr (5, [.ref r0])), (r0, .inl (cI, 8, .inl zr)), (q1, .inr (5, [.ref r1])), (r1, .inl (cI, 24, .inl zr)), (q2, .inr (5, [.ref r2])), (r2, .inl (cI, 24, .inl zr))]) rfl rfl ?_
  refine V_aload_n (pc := 43) o dX3_init_43 rfl ?_
  refine V_new (pc := 44) (ci := 5) (fs := [.null]) o hiX3_init_X6 tyX6 tyX6_ok (by decide +kernel) (by decide +kernel) (by decide +kernel) rfl (fun j hj => match j, hj with | 0, _ => rfl | _ + 1, hj => absurd hj (by omega)) ⟨by omega, by omega⟩ dX3_init_44 (fun q3 => ?_)
  refine V_eq (ws2 := [(b, .inr (2, [.ref q0, .ref q1, .ref q2, .null, .null, .null])), (q0, .inr (5, [.ref r0])), (r0, .inl (cI, 8, .inl zr)), (q1, .inr (5, [.ref r1])), (r1, .inl (cI, 24, .inl zr)), (q2, .inr (5, [.ref r2])), (r2, .inl (cI, 24, .inl zr)), (q3, .inr (5, [.null]))]) rfl rfl ?_
  refine V_dup (pc := 47) o rfl dX3_init_47 ?_
  refine V_bipush (pc := 48) o 24 dX3_init_48 (by decide) ?_
  refine V_callIv (pc := 50) o no (cX6_init_met _ _ _ cI ht q3 24 (by omega)) (fun _ h => h) [(b, .inr (2, [.ref q0, .ref q1, .ref q2, .null, .null, .null])), (q0, .inr (5, [.ref r0])), (r0, .inl (cI, 8, .inl zr)), (q1, .inr (5, [.ref r1])), (r1, .inl (cI, 24, .inl zr)), (q2, .inr (5, [.ref r2])), (r2, .inl (cI, 24, .inl zr))] [] gX3_init_X6_init rfl (by decide +kernel) (by decide +kernel) (by decide +kernel) rfl hdX6_init ⟨by omega, by decide⟩ rfl (Nat.le_of_ble_eq_true rfl) ⟨by omega, by omega⟩ dX3_init_50 rfl (fun u3 hu3 => ?_)
  obtain ⟨r3, er3⟩ : ∃ r, r = u3 1 := ⟨_, rfl⟩
  refine V_eq (ws2 := [(b, .inr (2, [.ref q0, .ref q1, .ref q2, .null, .null, .null])), (q0, .inr (5, [.ref r0])), (r0, .inl (cI, 8, .inl zr)), (q1, .inr (5, [.ref r1])), (r1, .inl (cI, 24, .inl zr)), (q2, .inr (5, [.ref r2])), (r2, .inl (cI, 24, .inl zr)), (q3, .inr (5, [.ref r3])), (r3, .inl (cI, 24, .inl zr))]) (by rw [er3]; rfl) rfl ?_
  refine V_putF (pc := 53) o oi 0 3 hiX3_init_X3 tyX3 tyX3_ok nmX3 rfl rfl (by decide) (by decide +kernel) rfl rfl rfl rfl rfl rfl (Nat.le_of_ble_eq_true rfl) dX3_init_53 ?_
  refine V_eq (ws2 := [(b, .inr (2, [.ref q0, .ref q1, .ref q2, .ref q3, .null, .null])), (q0, .inr (5, [.ref r0])), (r0, .inl (cI, 8, .inl zr)), (q1, .inr (5, [.ref r1])), (r1, .inl (cI, 24, .inl zr)), (q2, .inr (5, [.ref r2])), (r2, .inl (cI, 24, .inl zr)), (q3, .inr (5, [.ref r3])), (r3, .inl (cI, 24, .inl zr))]) rfl rfl ?_
  refine V_aload_n (pc := 56) o dX3_init_56 rfl ?_
  refine V_new (pc := 57) (ci := 5) (fs := [.null]) o hiX3_init_X6 tyX6 tyX6_ok (by decide +kernel) (by decide +kernel) (by decide +kernel) rfl (fun j hj => match j, hj with | 0, _ => rfl | _ + 1, hj => absurd hj (by omega)) ⟨by omega, by omega⟩ dX3_init_57 (fun q4 => ?_)
  refine V_eq (ws2 := [(b, .inr (2, [.ref q0, .ref q1, .ref q2, .ref q3, .null, .null])), (q0, .inr (5, [.ref r0])), (r0, .inl (cI, 8, .inl zr)), (q1, .inr (5, [.ref r1])), (r1, .inl (cI, 24, .inl zr)), (q2, .inr (5, [.ref r2])), (r2, .inl (cI, 24, .inl zr)), (q3, .inr (5, [.ref r3])), (r3, .inl (cI, 24, .inl zr)), (q4, .inr (5, [.null]))]) rfl rfl ?_
  refine V_dup (pc := 60) o rfl dX3_init_60 ?_
  refine V_bipush (pc := 61) o 96 dX3_init_61 (by decide) ?_
  refine V_callIv (pc := 63) o no (cX6_init_met _ _ _ cI ht q4 96 (by omega)) (fun _ h => h) [(b, .inr (2, [.ref q0, .ref q1, .ref q2, .ref q3, .null, .null])), (q0, .inr (5, [.ref r0])), (r0, .inl (cI, 8, .inl zr)), (q1, .inr (5, [.ref r1])), (r1, .inl (cI, 24, .inl zr)), (q2, .inr (5, [.ref r2])), (r2, .inl (cI, 24, .inl zr)), (q3, .inr (5, [.ref r3])), (r3, .inl (cI, 24, .inl zr))] [] gX3_init_X6_init rfl (by decide +kernel) (by decide +kernel) (by decide +kernel) rfl hdX6_init ⟨by omega, by decide⟩ rfl (Nat.le_of_ble_eq_true rfl) ⟨by omega, by omega⟩ dX3_init_63 rfl (fun u4 hu4 => ?_)
  obtain ⟨r4, er4⟩ : ∃ r, r = u4 1 := ⟨_, rfl⟩
  refine V_eq (ws2 := [(b, .inr (2, [.ref q0, .ref q1, .ref q2, .ref q3, .null, .null])), (q0, .inr (5, [.ref r0])), (r0, .inl (cI, 8, .inl zr)), (q1, .inr (5, [.ref r1])), (r1, .inl (cI, 24, .inl zr)), (q2, .inr (5, [.ref r2])), (r2, .inl (cI, 24, .inl zr)), (q3, .inr (5, [.ref r3])), (r3, .inl (cI, 24, .inl zr)), (q4, .inr (5, [.ref r4])), (r4, .inl (cI, 96, .inl zr))]) (by rw [er4]; rfl) rfl ?_
  refine V_putF (pc := 66) o oi 0 4 hiX3_init_X3 tyX3 tyX3_ok nmX3 rfl rfl (by decide) (by decide +kernel) rfl rfl rfl rfl rfl rfl (Nat.le_of_ble_eq_true rfl) dX3_init_66 ?_
  refine V_eq (ws2 := [(b, .inr (2, [.ref q0, .ref q1, .ref q2, .ref q3, .ref q4, .null])), (q0, .inr (5, [.ref r0])), (r0, .inl (cI, 8, .inl zr)), (q1, .inr (5, [.ref r1])), (r1, .inl (cI, 24, .inl zr)), (q2, .inr (5, [.ref r2])), (r2, .inl (cI, 24, .inl zr)), (q3, .inr (5, [.ref r3])), (r3, .inl (cI, 24, .inl zr)), (q4, .inr (5, [.ref r4])), (r4, .inl (cI, 96, .inl zr))]) rfl rfl ?_
  refine V_aload_n (pc := 69) o dX3_init_69 rfl ?_
  refine V_new (pc := 70) (ci := 5) (fs := [.null]) o hiX3_init_X6 tyX6 tyX6_ok (by decide +kernel) (by decide +kernel) (by decide +kernel) rfl (fun j hj => match j, hj with | 0, _ => rfl | _ + 1, hj => absurd hj (by omega)) ⟨by omega, by omega⟩ dX3_init_70 (fun q5 => ?_)
  refine V_eq (ws2 := [(b, .inr (2, [.ref q0, .ref q1, .ref q2, .ref q3, .ref q4, .null])), (q0, .inr (5, [.ref r0])), (r0, .inl (cI, 8, .inl zr)), (q1, .inr (5, [.ref r1])), (r1, .inl (cI, 24, .inl zr)), (q2, .inr (5, [.ref r2])), (r2, .inl (cI, 24, .inl zr)), (q3, .inr (5, [.ref r3])), (r3, .inl (cI, 24, .inl zr)), (q4, .inr (5, [.ref r4])), (r4, .inl (cI, 96, .inl zr)), (q5, .inr (5, [.null]))]) rfl rfl ?_
  refine V_dup (pc := 73) o rfl dX3_init_73 ?_
  refine V_bipush (pc := 74) o 96 dX3_init_74 (by decide) ?_
  refine V_callIv (pc := 76) o no (cX6_init_met _ _ _ cI ht q5 96 (by omega)) (fun _ h => h) [(b, .inr (2, [.ref q0, .ref q1, .ref q2, .ref q3, .ref q4, .null])), (q0, .inr (5, [.ref r0])), (r0, .inl (cI, 8, .inl zr)), (q1, .inr (5, [.ref r1])), (r1, .inl (cI, 24, .inl zr)), (q2, .inr (5, [.ref r2])), (r2, .inl (cI, 24, .inl zr)), (q3, .inr (5, [.ref r3])), (r3, .inl (cI, 24, .inl zr)), (q4, .inr (5, [.ref r4])), (r4, .inl (cI, 96, .inl zr))] [] gX3_init_X6_init rfl (by decide +kernel) (by decide +kernel) (by decide +kernel) rfl hdX6_init ⟨by omega, by decide⟩ rfl (Nat.le_of_ble_eq_true rfl) ⟨by omega, by omega⟩ dX3_init_76 rfl (fun u5 hu5 => ?_)
  obtain ⟨r5, er5⟩ : ∃ r, r = u5 1 := ⟨_, rfl⟩
  refine V_eq (ws2 := [(b, .inr (2, [.ref q0, .ref q1, .ref q2, .ref q3, .ref q4, .null])), (q0, .inr (5, [.ref r0])), (r0, .inl (cI, 8, .inl zr)), (q1, .inr (5, [.ref r1])), (r1, .inl (cI, 24, .inl zr)), (q2, .inr (5, [.ref r2])), (r2, .inl (cI, 24, .inl zr)), (q3, .inr (5, [.ref r3])), (r3, .inl (cI, 24, .inl zr)), (q4, .inr (5, [.ref r4])), (r4, .inl (cI, 96, .inl zr)), (q5, .inr (5, [.ref r5])), (r5, .inl (cI, 96, .inl zr))]) (by rw [er5]; rfl) rfl ?_
  refine V_putF (pc := 79) o oi 0 5 hiX3_init_X3 tyX3 tyX3_ok nmX3 rfl rfl (by decide) (by decide +kernel) rfl rfl rfl rfl rfl rfl (Nat.le_of_ble_eq_true rfl) dX3_init_79 ?_
  refine V_eq (ws2 := [(b, .inr (2, [.ref q0, .ref q1, .ref q2, .ref q3, .ref q4, .ref q5])), (q0, .inr (5, [.ref r0])), (r0, .inl (cI, 8, .inl zr)), (q1, .inr (5, [.ref r1])), (r1, .inl (cI, 24, .inl zr)), (q2, .inr (5, [.ref r2])), (r2, .inl (cI, 24, .inl zr)), (q3, .inr (5, [.ref r3])), (r3, .inl (cI, 24, .inl zr)), (q4, .inr (5, [.ref r4])), (r4, .inl (cI, 96, .inl zr)), (q5, .inr (5, [.ref r5])), (r5, .inl (cI, 96, .inl zr))]) rfl rfl ?_
  exact fin 82 _ (adl [b, q0, r0, q1, r1, q2, r2, q3, r3, q4, r4, q5, r5]) dX3_init_82 rfl
theorem hdX3_init : yX3_init.cls ≠ "java/lang/invoke/MethodHandle" ∧ yX3_init.cls ≠ "java/lang/invoke/VarHandle" ∧ (parseMethodDescriptor yX3_init.desc).map (fun d => d.parameters.length) = some 0 := by decide +kernel
theorem hiX4_init_X6 : ∀ w ∈ wsX60, w ∈ wsX4_init := by decide +kernel
theorem hiX4_init_X4 : ∀ w ∈ wsX40, w ∈ wsX4_init := by decide +kernel
set_option maxHeartbeats 4000000 in
set_option maxRecDepth 100000 in
theorem cX4_init_met (l : Launch) (D : va_G) (tys : List (ClassId × FieldType)) (cI : ClassId) (ht : tys[0]? = some (cI, .int)) (b : Nat) : CN l yX4_init wsX4_init 3 6 27 D tys [.ref b] [(b, .inr (3, [.null, .null, .null, .int 0]))] [] (fun u => u 0 = b) (fun u => wPeople cI u zr zr zr 0) := by
  refine CN_of (maxL := 1) (cc := cX4_init) (y := yX4_init) rfl rfl (Nat.le_of_ble_eq_true rfl) rfl (fun X hl hD hk hn hcz hsz o oi no fin => ?_)
  subst hl; subst hD; subst hk
  refine V_aload_n (pc := 0) o dX4_init_0 rfl ?_
  refine V_objI (pc := 1) o (by decide +kernel) (by decide +kernel) (by decide +kernel) (by omega) (Nat.le_of_ble_eq_true rfl) dX4_init_1 ?_
  refine V_aload_n (pc := 4) o dX4_init_4 rfl ?_
  refine V_new (pc := 5) (ci := 5) (fs := [.null]) o hiX4_init_X6 tyX6 tyX6_ok (by decide +kernel) (by decide +kernel) (by decide +kernel) rfl (fun j hj => match j, hj with | 0, _ => rfl | _ + 1, hj => absurd hj (by omega)) ⟨by omega, by omega⟩ dX4_init_5 (fun q0 => ?_)
  refine V_eq (ws2 := [(b, .inr (3, [.null, .null, .null, .int 0])), (q0, .inr (5, [.null]))]) rfl rfl ?_
  refine V_dup (pc := 8) o rfl dX4_init_8 ?_
  refine V_bipush (pc := 9) o 8 dX4_init_9 (by decide) ?_
  refine V_callIv (pc := 11) o no (cX6_init_met _ _ _ cI ht q0 8 (by omega)) (fun _ h => h) [(b, .inr (3, [.null, .null, .null, .int 0]))] [] gX4_init_X6_init rfl (by decide +kernel) (by decide +kernel) (by decide +kernel) rfl hdX6_init ⟨by omega, by decide⟩ rfl (Nat.le_of_ble_eq_true rfl) ⟨by omega, by omega⟩ dX4_init_11 rfl (fun u0 hu0 => ?_)
  obtain ⟨r0, er0⟩ : ∃ r, r = u0 1 := ⟨_, rfl⟩
  refine V_eq (ws2 := [(b, .inr (3, [.null, .null, .null, .int 0])), (q0, .inr (5, [.ref r0])), (r0, .inl (cI, 8, .inl zr))]) (by rw [er0]; rfl) rfl ?_
  refine V_putF (pc := 14) o oi 0 0 hiX4_init_X4 tyX4 tyX4_ok nmX4 rfl rfl (by decide) (by decide +kernel) rfl rfl rfl rfl rfl rfl (Nat.le_of_ble_eq_true rfl) dX4_init_14 ?_
  refine V_eq (ws2 := [(b, .inr (3, [.ref q0, .null, .null, .int 0])), (q0, .inr (5, [.ref r0])), (r0, .inl (cI, 8, .inl zr))]) rfl rfl ?_
  refine V_aload_n (pc := 17) o dX4_init_17 rfl ?_
  refine V_new (pc := 18) (ci := 5) (fs := [.null]) o hiX4_init_X6 tyX6 tyX6_ok (by decide +kernel) (by decide +kernel) (by decide +kernel) rfl (fun j hj => match j, hj with | 0, _ => rfl | _ + 1, hj => absurd hj (by omega)) ⟨by omega, by omega⟩ dX4_init_18 (fun q1 => ?_)
  refine V_eq (ws2 := [(b, .inr (3, [.ref q0, .null, .null, .int 0])), (q0, .inr (5, [.ref r0])), (r0, .inl (cI, 8, .inl zr)), (q1, .inr (5, [.null]))]) rfl rfl ?_
  refine V_dup (pc := 21) o rfl dX4_init_21 ?_
  refine V_bipush (pc := 22) o 8 dX4_init_22 (by decide) ?_
  refine V_callIv (pc := 24) o no (cX6_init_met _ _ _ cI ht q1 8 (by omega)) (fun _ h => h) [(b, .inr (3, [.ref q0, .null, .null, .int 0])), (q0, .inr (5, [.ref r0])), (r0, .inl (cI, 8, .inl zr))] [] gX4_init_X6_init rfl (by decide +kernel) (by decide +kernel) (by decide +kernel) rfl hdX6_init ⟨by omega, by decide⟩ rfl (Nat.le_of_ble_eq_true rfl) ⟨by omega, by omega⟩ dX4_init_24 rfl (fun u1 hu1 => ?_)
  obtain ⟨r1, er1⟩ : ∃ r, r = u1 1 := ⟨_, rfl⟩
  refine V_eq (ws2 := [(b, .inr (3, [.ref q0, .null, .null, .int 0])), (q0, .inr (5, [.ref r0])), (r0, .inl (cI, 8, .inl zr)), (q1, .inr (5, [.ref r1])), (r1, .inl (cI, 8, .inl zr))]) (by rw [er1]; rfl) rfl ?_
  refine V_putF (pc := 27) o oi 0 1 hiX4_init_X4 tyX4 tyX4_ok nmX4 rfl rfl (by decide) (by decide +kernel) rfl rfl rfl rfl rfl rfl (Nat.le_of_ble_eq_true rfl) dX4_init_27 ?_
  refine V_eq (ws2 := [(b, .inr (3, [.ref q0, .ref q1, .null, .int 0])), (q0, .inr (5, [.ref r0])), (r0, .inl (cI, 8, .inl zr)), (q1, .inr (5, [.ref r1])), (r1, .inl (cI, 8, .inl zr))]) rfl rfl ?_
  refine V_aload_n (pc := 30) o dX4_init_30 rfl ?_
  refine V_new (pc := 31) (ci := 5) (fs := [.null]) o hiX4_init_X6 tyX6 tyX6_ok (by decide +kernel) (by decide +kernel) (by decide +kernel) rfl (fun j hj => match j, hj with | 0, _ => rfl | _ + 1, hj => absurd hj (by omega)) ⟨by omega, by omega⟩ dX4_init_31 (fun q2 => ?_)
  refine V_eq (ws2 := [(b, .inr (3, [.ref q0, .ref q1, .null, .int 0])), (q0, .inr (5, [.ref r0])), (r0, .inl (cI, 8, .inl zr)), (q1, .inr (5, [.ref r1])), (r1, .inl (cI, 8, .inl zr)), (q2, .inr (5, [.null]))]) rfl rfl ?_
  refine V_dup (pc := 34) o rfl dX4_init_34 ?_
  refine V_bipush (pc := 35) o 8 dX4_init_35 (by decide) ?_
  refine V_callIv (pc := 37) o no (cX6_init_met _ _ _ cI ht q2 8 (by omega)) (fun _ h => h) [(b, .inr (3, [.ref q0, .ref q1, .null, .int 0])), (q0, .inr (5, [.ref r0])), (r0, .inl (cI, 8, .inl zr)), (q1, .inr (5, [.ref r1])), (r1, .inl (cI, 8, .inl zr))] [] gX4_init_X6_init rfl (by decide +kernel) (by decide +kernel) (by decide +kernel) rfl hdX6_init ⟨by omega, by decide⟩ rfl (Nat.le_of_ble_eq_true rfl) ⟨by omega, by omega⟩ dX4_init_37 rfl (fun u2 hu2 => ?_)
  obtain ⟨r2, er2⟩ : ∃ r, r = u2 1 := ⟨_, rfl⟩
  refine V_eq (ws2 := [(b, .inr (3, [.ref q0, .ref q1, .null, .int 0])), (q0, .inr (5, [.ref r0])), (r0, .inl (cI, 8, .inl zr)), (q1, .inr (5, [.ref r1])), (r1, .inl (cI, 8, .inl zr)), (q2, .inr (5, [.ref r2])), (r2, .inl (cI, 8, .inl zr))]) (by rw [er2]; rfl) rfl ?_
  refine V_putF (pc := 40) o oi 0 2 hiX4_init_X4 tyX4 tyX4_ok nmX4 rfl rfl (by decide) (by decide +kernel) rfl rfl rfl rfl rfl rfl (Nat.le_of_ble_eq_true rfl) dX4_init_40 ?_
  refine V_eq (ws2 := [(b, .inr (3, [.ref q0, .ref q1, .ref q2, .int 0])), (q0, .inr (5, [.ref r0])), (r0, .inl (cI, 8, .inl zr)), (q1, .inr (5, [.ref r1])), (r1, .inl (cI, 8, .inl zr)), (q2, .inr (5, [.ref r2])), (r2, .inl (cI, 8, .inl zr))]) rfl rfl ?_
  exact fin 43 _ (adl [b, q0, r0, q1, r1, q2, r2]) dX4_init_43 rfl
theorem hdX4_init : yX4_init.cls ≠ "java/lang/invoke/MethodHandle" ∧ yX4_init.cls ≠ "java/lang/invoke/VarHandle" ∧ (parseMethodDescriptor yX4_init.desc).map (fun d => d.parameters.length) = some 0 := by decide +kernel
theorem hiX5_init_X6 : ∀ w ∈ wsX60, w ∈ wsX5_init := by decide +kernel
theorem hiX5_init_X5 : ∀ w ∈ wsX50, w ∈ wsX5_init := by decide +kernel
set_option maxHeartbeats 4000000 in
set_option maxRecDepth 100000 in
theorem cX5_init_met (l : Launch) (D : va_G) (tys : List (ClassId × FieldType)) (cI : ClassId) (ht : tys[0]? = some (cI, .int)) (b : Nat) : CN l yX5_init wsX5_init 3 14 427 D tys [.ref b] [(b, .inr (4, [.null, .null, .null, .null, .null, .null, .null, .int 0]))] [] (fun u => u 0 = b) (fun u => wReqs cI u zr zr zr zr zr zr zr 0) := by
  refine CN_of (maxL := 1) (cc := cX5_init) (y := yX5_init) rfl rfl (Nat.le_of_ble_eq_true rfl) rfl (fun X hl hD hk hn hcz hsz o oi no fin => ?_)
  subst hl; subst hD; subst hk
  refine V_aload_n (pc := 0) o dX5_init_0 rfl ?_
  refine V_objI (pc := 1) o (by decide +kernel) (by decide +kernel) (by decide +kernel) (by omega) (Nat.le_of_ble_eq_true rfl) dX5_init_1 ?_
  refine V_aload_n (pc := 4) o dX5_init_4 rfl ?_
  refine V_new (pc := 5) (ci := 5) (fs := [.null]) o hiX5_init_X6 tyX6 tyX6_ok (by decide +kernel) (by decide +kernel) (by decide +kernel) rfl (fun j hj => match j, hj with | 0, _ => rfl | _ + 1, hj => absurd hj (by omega)) ⟨by omega, by omega⟩ dX5_init_5 (fun q0 => ?_)
  refine V_eq (ws2 := [(b, .inr (4, [.null, .null, .null, .null, .null, .null, .null, .int 0])), (q0, .inr (5, [.null]))]) rfl rfl ?_
  refine V_dup (pc := 8) o rfl dX5_init_8 ?_
  refine V_bipush (pc := 9) o 30 dX5_init_9 (by decide) ?_
  refine V_callIv (pc := 11) o no (cX6_init_met _ _ _ cI ht q0 30 (by omega)) (fun _ h => h) [(b, .inr (4, [.null, .null, .null, .null, .null, .null, .null, .int 0]))] [] gX5_init_X6_init rfl (by decide +kernel) (by decide +kernel) (by decide +kernel) rfl hdX6_init ⟨by omega, by decide⟩ rfl (Nat.le_of_ble_eq_true rfl) ⟨by omega, by omega⟩ dX5_init_11 rfl (fun u0 hu0 => ?_)
  obtain ⟨r0, er0⟩ : ∃ r, r = u0 1 := ⟨_, rfl⟩
  refine V_eq (ws2 := [(b, .inr (4, [.null, .null, .null, .null, .null, .null, .null, .int 0])), (q0, .inr (5, [.ref r0])), (r0, .inl (cI, 30, .inl zr))]) (by rw [er0]; rfl) rfl ?_
  refine V_putF (pc := 14) o oi 0 0 hiX5_init_X5 tyX5 tyX5_ok nmX5 rfl rfl (by decide) (by decide +kernel) rfl rfl rfl rfl rfl rfl (Nat.le_of_ble_eq_true rfl) dX5_init_14 ?_
  refine V_eq (ws2 := [(b, .inr (4, [.ref q0, .null, .null, .null, .null, .null, .null, .int 0])), (q0, .inr (5, [.ref r0])), (r0, .inl (cI, 30, .inl zr))]) rfl rfl ?_
  refine V_aload_n (pc := 17) o dX5_init_17 rfl ?_
  refine V_new (pc := 18) (ci := 5) (fs := [.null]) o hiX5_init_X6 tyX6 tyX6_ok (by decide +kernel) (by decide +kernel) (by decide +kernel) rfl (fun j hj => match j, hj with | 0, _ => rfl | _ + 1, hj => absurd hj (by omega)) ⟨by omega, by omega⟩ dX5_init_18 (fun q1 => ?_)
  refine V_eq (ws2 := [(b, .inr (4, [.ref q0, .null, .null, .null, .null, .null, .null, .int 0])), (q0, .inr (5, [.ref r0])), (r0, .inl (cI, 30, .inl zr)), (q1, .inr (5, [.null]))]) rfl rfl ?_
  refine V_dup (pc := 21) o rfl dX5_init_21 ?_
  refine V_bipush (pc := 22) o 30 dX5_init_22 (by decide) ?_
  refine V_callIv (pc := 24) o no (cX6_init_met _ _ _ cI ht q1 30 (by omega)) (fun _ h => h) [(b, .inr (4, [.ref q0, .null, .null, .null, .null, .null, .null, .int 0])), (q0, .inr (5, [.ref r0])), (r0, .inl (cI, 30, .inl zr))] [] gX5_init_X6_init rfl (by decide +kernel) (by decide +kernel) (by decide +kernel) rfl hdX6_init ⟨by omega, by decide⟩ rfl (Nat.le_of_ble_eq_true rfl) ⟨by omega, by omega⟩ dX5_init_24 rfl (fun u1 hu1 => ?_)
  obtain ⟨r1, er1⟩ : ∃ r, r = u1 1 := ⟨_, rfl⟩
  refine V_eq (ws2 := [(b, .inr (4, [.ref q0, .null, .null, .null, .null, .null, .null, .int 0])), (q0, .inr (5, [.ref r0])), (r0, .inl (cI, 30, .inl zr)), (q1, .inr (5, [.ref r1])), (r1, .inl (cI, 30, .inl zr))]) (by rw [er1]; rfl) rfl ?_
  refine V_putF (pc := 27) o oi 0 1 hiX5_init_X5 tyX5 tyX5_ok nmX5 rfl rfl (by decide) (by decide +kernel) rfl rfl rfl rfl rfl rfl (Nat.le_of_ble_eq_true rfl) dX5_init_27 ?_
  refine V_eq (ws2 := [(b, .inr (4, [.ref q0, .ref q1, .null, .null, .null, .null, .null, .int 0])), (q0, .inr (5, [.ref r0])), (r0, .inl (cI, 30, .inl zr)), (q1, .inr (5, [.ref r1])), (r1, .inl (cI, 30, .inl zr))]) rfl rfl ?_
  refine V_aload_n (pc := 30) o dX5_init_30 rfl ?_
  refine V_new (pc := 31) (ci := 5) (fs := [.null]) o hiX5_init_X6 tyX6 tyX6_ok (by decide +kernel) (by decide +kernel) (by decide +kernel) rfl (fun j hj => match j, hj with | 0, _ => rfl | _ + 1, hj => absurd hj (by omega)) ⟨by omega, by omega⟩ dX5_init_31 (fun q2 => ?_)
  refine V_eq (ws2 := [(b, .inr (4, [.ref q0, .ref q1, .null, .null, .null, .null, .null, .int 0])), (q0, .inr (5, [.ref r0])), (r0, .inl (cI, 30, .inl zr)), (q1, .inr (5, [.ref r1])), (r1, .inl (cI, 30, .inl zr)), (q2, .inr (5, [.null]))]) rfl rfl ?_
  refine V_dup (pc := 34) o rfl dX5_init_34 ?_
  refine V_bipush (pc := 35) o 30 dX5_init_35 (by decide) ?_
  refine V_callIv (pc := 37) o no (cX6_init_met _ _ _ cI ht q2 30 (by omega)) (fun _ h => h) [(b, .inr (4, [.ref q0, .ref q1, .null, .null, .null, .null, .null, .int 0])), (q0, .inr (5, [.ref r0])), (r0, .inl (cI, 30, .inl zr)), (q1, .inr (5, [.ref r1])), (r1, .inl (cI, 30, .inl zr))] [] gX5_init_X6_init rfl (by decide +kernel) (by decide +kernel) (by decide +kernel) rfl hdX6_init ⟨by omega, by decide⟩ rfl (Nat.le_of_ble_eq_true rfl) ⟨by omega, by omega⟩ dX5_init_37 rfl (fun u2 hu2 => ?_)
  obtain ⟨r2, er2⟩ : ∃ r, r = u2 1 := ⟨_, rfl⟩
  refine V_eq (ws2 := [(b, .inr (4, [.ref q0, .ref q1, .null, .null, .null, .null, .null, .int 0])), (q0, .inr (5, [.ref r0])), (r0, .inl (cI, 30, .inl zr)), (q1, .inr (5, [.ref r1])), (r1, .inl (cI, 30, .inl zr)), (q2, .inr (5, [.ref r2])), (r2, .inl (cI, 30, .inl zr))]) (by rw [er2]; rfl) rfl ?_
  refine V_putF (pc := 40) o oi 0 2 hiX5_init_X5 tyX5 tyX5_ok nmX5 rfl rfl (by decide) (by decide +kernel) rfl rfl rfl rfl rfl rfl (Nat.le_of_ble_eq_true rfl) dX5_init_40 ?_
  refine V_eq (ws2 := [(b, .inr (4, [.ref q0, .ref q1, .ref q2, .null, .null, .null, .null, .int 0])), (q0, .inr (5, [.ref r0])), (r0, .inl (cI, 30, .inl zr)), (q1, .inr (5, [.ref r1])), (r1, .inl (cI, 30, .inl zr)), (q2, .inr (5, [.ref r2])), (r2, .inl (cI, 30, .inl zr))]) rfl rfl ?_
  refine V_aload_n (pc := 43) o dX5_init_43 rfl ?_
  refine V_new (pc := 44) (ci := 5) (fs := [.null]) o hiX5_init_X6 tyX6 tyX6_ok (by decide +kernel) (by decide +kernel) (by decide +kernel) rfl (fun j hj => match j, hj with | 0, _ => rfl | _ + 1, hj => absurd hj (by omega)) ⟨by omega, by omega⟩ dX5_init_44 (fun q3 => ?_)
  refine V_eq (ws2 := [(b, .inr (4, [.ref q0, .ref q1, .ref q2, .null, .null, .null, .null, .int 0])), (q0, .inr (5, [.ref r0])), (r0, .inl (cI, 30, .inl zr)), (q1, .inr (5, [.ref r1])), (r1, .inl (cI, 30, .inl zr)), (q2, .inr (5, [.ref r2])), (r2, .inl (cI, 30, .inl zr)), (q3, .inr (5, [.null]))]) rfl rfl ?_
  refine V_dup (pc := 47) o rfl dX5_init_47 ?_
  refine V_bipush (pc := 48) o 30 dX5_init_48 (by decide) ?_
  refine V_callIv (pc := 50) o no (cX6_init_met _ _ _ cI ht q3 30 (by omega)) (fun _ h => h) [(b, .inr (4, [.ref q0, .ref q1, .ref q2, .null, .null, .null, .null, .int 0])), (q0, .inr (5, [.ref r0])), (r0, .inl (cI, 30, .inl zr)), (q1, .inr (5, [.ref r1])), (r1, .inl (cI, 30, .inl zr)), (q2, .inr (5, [.ref r2])), (r2, .inl (cI, 30, .inl zr))] [] gX5_init_X6_init rfl (by decide +kernel) (by decide +kernel) (by decide +kernel) rfl hdX6_init ⟨by omega, by decide⟩ rfl (Nat.le_of_ble_eq_true rfl) ⟨by omega, by omega⟩ dX5_init_50 rfl (fun u3 hu3 => ?_)
  obtain ⟨r3, er3⟩ : ∃ r, r = u3 1 := ⟨_, rfl⟩
  refine V_eq (ws2 := [(b, .inr (4, [.ref q0, .ref q1, .ref q2, .null, .null, .null, .null, .int 0])), (q0, .inr (5, [.ref r0])), (r0, .inl (cI, 30, .inl zr)), (q1, .inr (5, [.ref r1])), (r1, .inl (cI, 30, .inl zr)), (q2, .inr (5, [.ref r2])), (r2, .inl (cI, 30, .inl zr)), (q3, .inr (5, [.ref r3])), (r3, .inl (cI, 30, .inl zr))]) (by rw [er3]; rfl) rfl ?_
  refine V_putF (pc := 53) o oi 0 3 hiX5_init_X5 tyX5 tyX5_ok nmX5 rfl rfl (by decide) (by decide +kernel) rfl rfl rfl rfl rfl rfl (Nat.le_of_ble_eq_true rfl) dX5_init_53 ?_
  refine V_eq (ws2 := [(b, .inr (4, [.ref q0, .ref q1, .ref q2, .ref q3, .null, .null, .null, .int 0])), (q0, .inr (5, [.ref r0])), (r0, .inl (cI, 30, .inl zr)), (q1, .inr (5, [.ref r1])), (r1, .inl (cI, 30, .inl zr)), (q2, .inr (5, [.ref r2])), (r2, .inl (cI, 30, .inl zr)), (q3, .inr (5, [.ref r3])), (r3, .inl (cI, 30, .inl zr))]) rfl rfl ?_
  refine V_aload_n (pc := 56) o dX5_init_56 rfl ?_
  refine V_new (pc := 57) (ci := 5) (fs := [.null]) o hiX5_init_X6 tyX6 tyX6_ok (by decide +kernel) (by decide +kernel) (by decide +kernel) rfl (fun j hj => match j, hj with | 0, _ => rfl | _ + 1, hj => absurd hj (by omega)) ⟨by omega, by omega⟩ dX5_init_57 (fun q4 => ?_)
  refine V_eq (ws2 := [(b, .inr (4, [.ref q0, .ref q1, .ref q2, .ref q3, .null, .null, .null, .int 0])), (q0, .inr (5, [.ref r0])), (r0, .inl (cI, 30, .inl zr)), (q1, .inr (5, [.ref r1])), (r1, .inl (cI, 30, .inl zr)), (q2, .inr (5, [.ref r2])), (r2, .inl (cI, 30, .inl zr)), (q3, .inr (5, [.ref r3])), (r3, .inl (cI, 30, .inl zr)), (q4, .inr (5, [.null]))]) rfl rfl ?_
  refine V_dup (pc := 60) o rfl dX5_init_60 ?_
  refine V_bipush (pc := 61) o 30 dX5_init_61 (by decide) ?_
  refine V_callIv (pc := 63) o no (cX6_init_met _ _ _ cI ht q4 30 (by omega)) (fun _ h => h) [(b, .inr (4, [.ref q0, .ref q1, .ref q2, .ref q3, .null, .null, .null, .int 0])), (q0, .inr (5, [.ref r0])), (r0, .inl (cI, 30, .inl zr)), (q1, .inr (5, [.ref r1])), (r1, .inl (cI, 30, .inl zr)), (q2, .inr (5, [.ref r2])), (r2, .inl (cI, 30, .inl zr)), (q3, .inr (5, [.ref r3])), (r3, .inl (cI, 30, .inl zr))] [] gX5_init_X6_init rfl (by decide +kernel) (by decide +kernel) (by decide +kernel) rfl hdX6_init ⟨by omega, by decide⟩ rfl (Nat.le_of_ble_eq_true rfl) ⟨by omega, by omega⟩ dX5_init_63 rfl (fun u4 hu4 => ?_)
  obtain ⟨r4, er4⟩ : ∃ r, r = u4 1 := ⟨_, rfl⟩
  refine V_eq (ws2 := [(b, .inr (4, [.ref q0, .ref q1, .ref q2, .ref q3, .null, .null, .null, .int 0])), (q0, .inr (5, [.ref r0])), (r0, .inl (cI, 30, .inl zr)), (q1, .inr (5, [.ref r1])), (r1, .inl (cI, 30, .inl zr)), (q2, .inr (5, [.ref r2])), (r2, .inl (cI, 30, .inl zr)), (q3, .inr (5, [.ref r3])), (r3, .inl (cI, 30, .inl zr)), (q4, .inr (5, [.ref r4])), (r4, .inl (cI, 30, .inl zr))]) (by rw [er4]; rfl) rfl ?_
  refine V_putF (pc := 66) o oi 0 4 hiX5_init_X5 tyX5 tyX5_ok nmX5 rfl rfl (by decide) (by decide +kernel) rfl rfl rfl rfl rfl rfl (Nat.le_of_ble_eq_true rfl) dX5_init_66 ?_
  refine V_eq (ws2 := [(b, .inr (4, [.ref q0, .ref q1, .ref q2, .ref q3, .ref q4, .null, .null, .int 0])), (q0, .inr (5, [.ref r0])), (r0, .inl (cI, 30, .inl zr)), (q1, .inr (5, [.ref r1])), (r1, .inl (cI, 30, .inl zr)), (q2, .inr (5, [.ref r2])), (r2, .inl (cI, 30, .inl zr)), (q3, .inr (5, [.ref r3])), (r3, .inl (cI, 30, .inl zr)), (q4, .inr (5, [.ref r4])), (r4, .inl (cI, 30, .inl zr))]) rfl rfl ?_
  refine V_aload_n (pc := 69) o dX5_init_69 rfl ?_
  refine V_new (pc := 70) (ci := 5) (fs := [.null]) o hiX5_init_X6 tyX6 tyX6_ok (by decide +kernel) (by decide +kernel) (by decide +kernel) rfl (fun j hj => match j, hj with | 0, _ => rfl | _ + 1, hj => absurd hj (by omega)) ⟨by omega, by omega⟩ dX5_init_70 (fun q5 => ?_)
  refine V_eq (ws2 := [(b, .inr (4, [.ref q0, .ref q1, .ref q2, .ref q3, .ref q4, .null, .null, .int 0])), (q0, .inr (5, [.ref r0])), (r0, .inl (cI, 30, .inl zr)), (q1, .inr (5, [.ref r1])), (r1, .inl (cI, 30, .inl zr)), (q2, .inr (5, [.ref r2])), (r2, .inl (cI, 30, .inl zr)), (q3, .inr (5, [.ref r3])), (r3, .inl (cI, 30, .inl zr)), (q4, .inr (5, [.ref r4])), (r4, .inl (cI, 30, .inl zr)), (q5, .inr (5, [.null]))]) rfl rfl ?_
  refine V_dup (pc := 73) o rfl dX5_init_73 ?_
  refine V_bipush (pc := 74) o 30 dX5_init_74 (by decide) ?_
  refine V_callIv (pc := 76) o no (cX6_init_met _ _ _ cI ht q5 30 (by omega)) (fun _ h => h) [(b, .inr (4, [.ref q0, .ref q1, .ref q2, .ref q3, .ref q4, .null, .null, .int 0])), (q0, .inr (5, [.ref r0])), (r0, .inl (cI, 30, .inl zr)), (q1, .inr (5, [.ref r1])), (r1, .inl (cI, 30, .inl zr)), (q2, .inr (5, [.ref r2])), (r2, .inl (cI, 30, .inl zr)), (q3, .inr (5, [.ref r3])), (r3, .inl (cI, 30, .inl zr)), (q4, .inr (5, [.ref r4])), (r4, .inl (cI, 30, .inl zr))] [] gX5_init_X6_init rfl (by decide +kernel) (by decide +kernel) (by decide +kernel) rfl hdX6_init ⟨by omega, by decide⟩ rfl (Nat.le_of_ble_eq_true rfl) ⟨by omega, by omega⟩ dX5_init_76 rfl (fun u5 hu5 => ?_)
  obtain ⟨r5, er5⟩ : ∃ r, r = u5 1 := ⟨_, rfl⟩
  refine V_eq (ws2 := [(b, .inr (4, [.ref q0, .ref q1, .ref q2, .ref q3, .ref q4, .null, .null, .int 0])), (q0, .inr (5, [.ref r0])), (r0, .inl (cI, 30, .inl zr)), (q1, .inr (5, [.ref r1])), (r1, .inl (cI, 30, .inl zr)), (q2, .inr (5, [.ref r2])), (r2, .inl (cI, 30, .inl zr)), (q3, .inr (5, [.ref r3])), (r3, .inl (cI, 30, .inl zr)), (q4, .inr (5, [.ref r4])), (r4, .inl (cI, 30, .inl zr)), (q5, .inr (5, [.ref r5])), (r5, .inl (cI, 30, .inl zr))]) (by rw [er5]; rfl) rfl ?_
  refine V_putF (pc := 79) o oi 0 5 hiX5_init_X5 tyX5 tyX5_ok nmX5 rfl rfl (by decide) (by decide +kernel) rfl rfl rfl rfl rfl rfl (Nat.le_of_ble_eq_true rfl) dX5_init_79 ?_
  refine V_eq (ws2 := [(b, .inr (4, [.ref q0, .ref q1, .ref q2, .ref q3, .ref q4, .ref q5, .null, .int 0])), (q0, .inr (5, [.ref r0])), (r0, .inl (cI, 30, .inl zr)), (q1, .inr (5, [.ref r1])), (r1, .inl (cI, 30, .inl zr)), (q2, .inr (5, [.ref r2])), (r2, .inl (cI, 30, .inl zr)), (q3, .inr (5, [.ref r3])), (r3, .inl (cI, 30, .inl zr)), (q4, .inr (5, [.ref r4])), (r4, .inl (cI, 30, .inl zr)), (q5, .inr (5, [.ref r5])), (r5, .inl (cI, 30, .inl zr))]) rfl rfl ?_
  refine V_aload_n (pc := 82) o dX5_init_82 rfl ?_
  refine V_new (pc := 83) (ci := 5) (fs := [.null]) o hiX5_init_X6 tyX6 tyX6_ok (by decide +kernel) (by decide +kernel) (by decide +kernel) rfl (fun j hj => match j, hj with | 0, _ => rfl | _ + 1, hj => absurd hj (by omega)) ⟨by omega, by omega⟩ dX5_init_83 (fun q6 => ?_)
  refine V_eq (ws2 := [(b, .inr (4, [.ref q0, .ref q1, .ref q2, .ref q3, .ref q4, .ref q5, .null, .int 0])), (q0, .inr (5, [.ref r0])), (r0, .inl (cI, 30, .inl zr)), (q1, .inr (5, [.ref r1])), (r1, .inl (cI, 30, .inl zr)), (q2, .inr (5, [.ref r2])), (r2, .inl (cI, 30, .inl zr)), (q3, .inr (5, [.ref r3])), (r3, .inl (cI, 30, .inl zr)), (q4, .inr (5, [.ref r4])), (r4, .inl (cI, 30, .inl zr)), (q5, .inr (5, [.ref r5])), (r5, .inl (cI, 30, .inl zr)), (q6, .inr (5, [.null]))]) rfl rfl ?_
  refine V_dup (pc := 86) o rfl dX5_init_86 ?_
  refine V_sipush (pc := 87) o 240 dX5_init_87 (by decide) ?_
  refine V_callIv (pc := 90) o no (cX6_init_met _ _ _ cI ht q6 240 (by omega)) (fun _ h => h) [(b, .inr (4, [.ref q0, .ref q1, .ref q2, .ref q3, .ref q4, .ref q5, .null, .int 0])), (q0, .inr (5, [.ref r0])), (r0, .inl (cI, 30, .inl zr)), (q1, .inr (5, [.ref r1])), (r1, .inl (cI, 30, .inl zr)), (q2, .inr (5, [.ref r2])), (r2, .inl (cI, 30, .inl zr)), (q3, .inr (5, [.ref r3])), (r3, .inl (cI, 30, .inl zr)), (q4, .inr (5, [.ref r4])), (r4, .inl (cI, 30, .inl zr)), (q5, .inr (5, [.ref r5])), (r5, .inl (cI, 30, .inl zr))] [] gX5_init_X6_init rfl (by decide +kernel) (by decide +kernel) (by decide +kernel) rfl hdX6_init ⟨by omega, by decide⟩ rfl (Nat.le_of_ble_eq_true rfl) ⟨by omega, by omega⟩ dX5_init_90 rfl (fun u6 hu6 => ?_)
  obtain ⟨r6, er6⟩ : ∃ r, r = u6 1 := ⟨_, rfl⟩
  refine V_eq (ws2 := [(b, .inr (4, [.ref q0, .ref q1, .ref q2, .ref q3, .ref q4, .ref q5, .null, .int 0])), (q0, .inr (5, [.ref r0])), (r0, .inl (cI, 30, .inl zr)), (q1, .inr (5, [.ref r1])), (r1, .inl (cI, 30, .inl zr)), (q2, .inr (5, [.ref r2])), (r2, .inl (cI, 30, .inl zr)), (q3, .inr (5, [.ref r3])), (r3, .inl (cI, 30, .inl zr)), (q4, .inr (5, [.ref r4])), (r4, .inl (cI, 30, .inl zr)), (q5, .inr (5, [.ref r5])), (r5, .inl (cI, 30, .inl zr)), (q6, .inr (5, [.ref r6])), (r6, .inl (cI, 240, .inl zr))]) (by rw [er6]; rfl) rfl ?_
  refine V_putF (pc := 93) o oi 0 6 hiX5_init_X5 tyX5 tyX5_ok nmX5 rfl rfl (by decide) (by decide +kernel) rfl rfl rfl rfl rfl rfl (Nat.le_of_ble_eq_true rfl) dX5_init_93 ?_
  refine V_eq (ws2 := [(b, .inr (4, [.ref q0, .ref q1, .ref q2, .ref q3, .ref q4, .ref q5, .ref q6, .int 0])), (q0, .inr (5, [.ref r0])), (r0, .inl (cI, 30, .inl zr)), (q1, .inr (5, [.ref r1])), (r1, .inl (cI, 30, .inl zr)), (q2, .inr (5, [.ref r2])), (r2, .inl (cI, 30, .inl zr)), (q3, .inr (5, [.ref r3])), (r3, .inl (cI, 30, .inl zr)), (q4, .inr (5, [.ref r4])), (r4, .inl (cI, 30, .inl zr)), (q5, .inr (5, [.ref r5])), (r5, .inl (cI, 30, .inl zr)), (q6, .inr (5, [.ref r6])), (r6, .inl (cI, 240, .inl zr))]) rfl rfl ?_
  exact fin 96 _ (adl [b, q0, r0, q1, r1, q2, r2, q3, r3, q4, r4, q5, r5, q6, r6]) dX5_init_96 rfl
theorem hdX5_init : yX5_init.cls ≠ "java/lang/invoke/MethodHandle" ∧ yX5_init.cls ≠ "java/lang/invoke/VarHandle" ∧ (parseMethodDescriptor yX5_init.desc).map (fun d => d.parameters.length) = some 0 := by decide +kernel
theorem hiX7_init_X6 : ∀ w ∈ wsX60, w ∈ wsX7_init := by decide +kernel
theorem hiX7_init_X7 : ∀ w ∈ wsX70, w ∈ wsX7_init := by decide +kernel
set_option maxHeartbeats 4000000 in
set_option maxRecDepth 100000 in
theorem cX7_init_met (l : Launch) (D : va_G) (tys : List (ClassId × FieldType)) (cI : ClassId) (ht : tys[0]? = some (cI, .int)) (b : Nat) : CN l yX7_init wsX7_init 3 4 82 D tys [.ref b] [(b, .inr (6, [.null, .null, .int 0, .int 0]))] [] (fun u => u 0 = b) (fun u => wSearch cI u zr zr 0 0) := by
  refine CN_of (maxL := 1) (cc := cX7_init) (y := yX7_init) rfl rfl (Nat.le_of_ble_eq_true rfl) rfl (fun X hl hD hk hn hcz hsz o oi no fin => ?_)
  subst hl; subst hD; subst hk
  refine V_aload_n (pc := 0) o dX7_init_0 rfl ?_
  refine V_objI (pc := 1) o (by decide +kernel) (by decide +kernel) (by decide +kernel) (by omega) (Nat.le_of_ble_eq_true rfl) dX7_init_1 ?_
  refine V_aload_n (pc := 4) o dX7_init_4 rfl ?_
  refine V_new (pc := 5) (ci := 5) (fs := [.null]) o hiX7_init_X6 tyX6 tyX6_ok (by decide +kernel) (by decide +kernel) (by decide +kernel) rfl (fun j hj => match j, hj with | 0, _ => rfl | _ + 1, hj => absurd hj (by omega)) ⟨by omega, by omega⟩ dX7_init_5 (fun q0 => ?_)
  refine V_eq (ws2 := [(b, .inr (6, [.null, .null, .int 0, .int 0])), (q0, .inr (5, [.null]))]) rfl rfl ?_
  refine V_dup (pc := 8) o rfl dX7_init_8 ?_
  refine V_bipush (pc := 9) o 8 dX7_init_9 (by decide) ?_
  refine V_callIv (pc := 11) o no (cX6_init_met _ _ _ cI ht q0 8 (by omega)) (fun _ h => h) [(b, .inr (6, [.null, .null, .int 0, .int 0]))] [] gX7_init_X6_init rfl (by decide +kernel) (by decide +kernel) (by decide +kernel) rfl hdX6_init ⟨by omega, by decide⟩ rfl (Nat.le_of_ble_eq_true rfl) ⟨by omega, by omega⟩ dX7_init_11 rfl (fun u0 hu0 => ?_)
  obtain ⟨r0, er0⟩ : ∃ r, r = u0 1 := ⟨_, rfl⟩
  refine V_eq (ws2 := [(b, .inr (6, [.null, .null, .int 0, .int 0])), (q0, .inr (5, [.ref r0])), (r0, .inl (cI, 8, .inl zr))]) (by rw [er0]; rfl) rfl ?_
  refine V_putF (pc := 14) o oi 0 0 hiX7_init_X7 tyX7 tyX7_ok nmX7 rfl rfl (by decide) (by decide +kernel) rfl rfl rfl rfl rfl rfl (Nat.le_of_ble_eq_true rfl) dX7_init_14 ?_
  refine V_eq (ws2 := [(b, .inr (6, [.ref q0, .null, .int 0, .int 0])), (q0, .inr (5, [.ref r0])), (r0, .inl (cI, 8, .inl zr))]) rfl rfl ?_
  refine V_aload_n (pc := 17) o dX7_init_17 rfl ?_
  refine V_new (pc := 18) (ci := 5) (fs := [.null]) o hiX7_init_X6 tyX6 tyX6_ok (by decide +kernel) (by decide +kernel) (by decide +kernel) rfl (fun j hj => match j, hj with | 0, _ => rfl | _ + 1, hj => absurd hj (by omega)) ⟨by omega, by omega⟩ dX7_init_18 (fun q1 => ?_)
  refine V_eq (ws2 := [(b, .inr (6, [.ref q0, .null, .int 0, .int 0])), (q0, .inr (5, [.ref r0])), (r0, .inl (cI, 8, .inl zr)), (q1, .inr (5, [.null]))]) rfl rfl ?_
  refine V_dup (pc := 21) o rfl dX7_init_21 ?_
  refine V_bipush (pc := 22) o 72 dX7_init_22 (by decide) ?_
  refine V_callIv (pc := 24) o no (cX6_init_met _ _ _ cI ht q1 72 (by omega)) (fun _ h => h) [(b, .inr (6, [.ref q0, .null, .int 0, .int 0])), (q0, .inr (5, [.ref r0])), (r0, .inl (cI, 8, .inl zr))] [] gX7_init_X6_init rfl (by decide +kernel) (by decide +kernel) (by decide +kernel) rfl hdX6_init ⟨by omega, by decide⟩ rfl (Nat.le_of_ble_eq_true rfl) ⟨by omega, by omega⟩ dX7_init_24 rfl (fun u1 hu1 => ?_)
  obtain ⟨r1, er1⟩ : ∃ r, r = u1 1 := ⟨_, rfl⟩
  refine V_eq (ws2 := [(b, .inr (6, [.ref q0, .null, .int 0, .int 0])), (q0, .inr (5, [.ref r0])), (r0, .inl (cI, 8, .inl zr)), (q1, .inr (5, [.ref r1])), (r1, .inl (cI, 72, .inl zr))]) (by rw [er1]; rfl) rfl ?_
  refine V_putF (pc := 27) o oi 0 1 hiX7_init_X7 tyX7 tyX7_ok nmX7 rfl rfl (by decide) (by decide +kernel) rfl rfl rfl rfl rfl rfl (Nat.le_of_ble_eq_true rfl) dX7_init_27 ?_
  refine V_eq (ws2 := [(b, .inr (6, [.ref q0, .ref q1, .int 0, .int 0])), (q0, .inr (5, [.ref r0])), (r0, .inl (cI, 8, .inl zr)), (q1, .inr (5, [.ref r1])), (r1, .inl (cI, 72, .inl zr))]) rfl rfl ?_
  exact fin 30 _ (adl [b, q0, r0, q1, r1]) dX7_init_30 rfl
theorem hdX7_init : yX7_init.cls ≠ "java/lang/invoke/MethodHandle" ∧ yX7_init.cls ≠ "java/lang/invoke/VarHandle" ∧ (parseMethodDescriptor yX7_init.desc).map (fun d => d.parameters.length) = some 0 := by decide +kernel
theorem hiX2_init_X2 : ∀ w ∈ wsX20, w ∈ wsX2_init := by decide +kernel
theorem hiX2_init_X3 : ∀ w ∈ wsX30, w ∈ wsX2_init := by decide +kernel
theorem hiX2_init_X4 : ∀ w ∈ wsX40, w ∈ wsX2_init := by decide +kernel
theorem hiX2_init_X5 : ∀ w ∈ wsX50, w ∈ wsX2_init := by decide +kernel
def nwX2 : List Cond := [Cond.methodLinkNest RX2 11 yX3_init "Approvalyard", Cond.methodLinkNest RX2 20 yX4_init "Approvalyard", Cond.methodLinkNest RX2 27 yX5_init "Approvalyard"]
set_option maxHeartbeats 4000000 in
set_option maxRecDepth 100000 in
theorem wDesk_adj (cI : ClassId) (b : Nat) (u0 u1 u2 : Nat → Nat) : (b, .inr (1, [.ref (u0 0), .ref (u1 0), .ref (u2 0)])) :: (wParts cI u0 zr zr zr zr zr zr ++ (wPeople cI u1 zr zr zr 0 ++ wReqs cI u2 zr zr zr zr zr zr zr 0)) = wDesk cI (adj 1 (fun _ => b) (adj 13 u0 (adj 7 u1 u2))) zr zr zr zr zr zr zr zr zr 0 zr zr zr zr zr zr zr 0 := rfl
set_option maxHeartbeats 4000000 in
set_option maxRecDepth 100000 in
theorem cX2_init_met (l : Launch) (D : va_G) (tys : List (ClassId × FieldType)) (cI : ClassId) (ht : tys[0]? = some (cI, .int)) (b : Nat) : CN l yX2_init wsX2_init 4 35 750 D tys [.ref b] [(b, .inr (1, [.null, .null, .null]))] nwX2 (fun u => u 0 = b) (fun u => wDesk cI u (rfi 8 zr 0) zr zr zr zr zr (rfi 8 zr 100) zr (rfi 8 zr 0) 0 zr zr zr zr zr zr zr 0) := by
  refine CN_of (maxL := 1) (cc := cX2_init) (y := yX2_init) rfl rfl (Nat.le_of_ble_eq_true rfl) rfl (fun X hl hD hk hn hcz hsz o oi no fin => ?_)
  subst hl; subst hD; subst hk
  refine V_aload_n (pc := 0) o dX2_init_0 rfl ?_
  refine V_objI (pc := 1) o (by decide +kernel) (by decide +kernel) (by decide +kernel) (by omega) (Nat.le_of_ble_eq_true rfl) dX2_init_1 ?_
  refine V_aload_n (pc := 4) o dX2_init_4 rfl ?_
  refine V_new (pc := 5) (ci := 2) (fs := [.null, .null, .null, .null, .null, .null]) o hiX2_init_X3 tyX3 tyX3_ok (by decide +kernel) (by decide +kernel) (by decide +kernel) rfl (fun j hj => match j, hj with | 0, _ => rfl | 1, _ => rfl | 2, _ => rfl | 3, _ => rfl | 4, _ => rfl | 5, _ => rfl | _ + 6, hj => absurd hj (by omega)) ⟨by omega, by omega⟩ dX2_init_5 (fun q0 => ?_)
  refine V_eq (ws2 := ([(b, .inr (1, [.null, .null, .null]))]) ++ ([(q0, .inr (2, [.null, .null, .null, .null, .null, .null]))] ++ [])) (by simp) rfl ?_
  refine V_dup (pc := 8) o rfl dX2_init_8 ?_
  refine V_callIn (pc := 9) (host := "Approvalyard") o no (cX3_init_met _ _ _ cI ht q0) (by decide +kernel) ([(b, .inr (1, [.null, .null, .null]))]) [] gX2_init_X3_init_n11 rfl (by decide +kernel) (by decide +kernel) (by decide +kernel) rfl hdX3_init ⟨by omega, by decide⟩ rfl (Nat.le_of_ble_eq_true rfl) ⟨by omega, by omega⟩ dX2_init_9 rfl (fun u0 hu0 => ?_)
  subst hu0
  refine V_eq (ws2 := (b, .inr (1, [.null, .null, .null])) :: (wParts cI u0 zr zr zr zr zr zr)) (by simp) rfl ?_
  refine V_putF (pc := 12) o oi 0 0 hiX2_init_X2 tyX2 tyX2_ok nmX2 rfl rfl (by decide) (by decide +kernel) rfl rfl rfl rfl rfl rfl (Nat.le_of_ble_eq_true rfl) dX2_init_12 ?_
  refine V_eq (ws2 := (b, .inr (1, [.ref (u0 0), .null, .null])) :: (wParts cI u0 zr zr zr zr zr zr)) rfl rfl ?_
  refine V_aload_n (pc := 15) o dX2_init_15 rfl ?_
  refine V_new (pc := 16) (ci := 3) (fs := [.null, .null, .null, .int 0]) o hiX2_init_X4 tyX4 tyX4_ok (by decide +kernel) (by decide +kernel) (by decide +kernel) rfl (fun j hj => match j, hj with | 0, _ => rfl | 1, _ => rfl | 2, _ => rfl | 3, _ => rfl | _ + 4, hj => absurd hj (by omega)) ⟨by omega, by omega⟩ dX2_init_16 (fun q1 => ?_)
  refine V_eq (ws2 := ((b, .inr (1, [.ref (u0 0), .null, .null])) :: (wParts cI u0 zr zr zr zr zr zr)) ++ ([(q1, .inr (3, [.null, .null, .null, .int 0]))] ++ [])) (by simp) rfl ?_
  refine V_dup (pc := 19) o rfl dX2_init_19 ?_
  refine V_callIn (pc := 20) (host := "Approvalyard") o no (cX4_init_met _ _ _ cI ht q1) (by decide +kernel) ((b, .inr (1, [.ref (u0 0), .null, .null])) :: (wParts cI u0 zr zr zr zr zr zr)) [] gX2_init_X4_init_n20 rfl (by decide +kernel) (by decide +kernel) (by decide +kernel) rfl hdX4_init ⟨by omega, by decide⟩ rfl (Nat.le_of_ble_eq_true rfl) ⟨by omega, by omega⟩ dX2_init_20 rfl (fun u1 hu1 => ?_)
  subst hu1
  refine V_eq (ws2 := (b, .inr (1, [.ref (u0 0), .null, .null])) :: (wParts cI u0 zr zr zr zr zr zr ++ (wPeople cI u1 zr zr zr 0))) (by simp) rfl ?_
  refine V_putF (pc := 23) o oi 0 1 hiX2_init_X2 tyX2 tyX2_ok nmX2 rfl rfl (by decide) (by decide +kernel) rfl rfl rfl rfl rfl rfl (Nat.le_of_ble_eq_true rfl) dX2_init_23 ?_
  refine V_eq (ws2 := (b, .inr (1, [.ref (u0 0), .ref (u1 0), .null])) :: (wParts cI u0 zr zr zr zr zr zr ++ (wPeople cI u1 zr zr zr 0))) rfl rfl ?_
  refine V_aload_n (pc := 26) o dX2_init_26 rfl ?_
  refine V_new (pc := 27) (ci := 4) (fs := [.null, .null, .null, .null, .null, .null, .null, .int 0]) o hiX2_init_X5 tyX5 tyX5_ok (by decide +kernel) (by decide +kernel) (by decide +kernel) rfl (fun j hj => match j, hj with | 0, _ => rfl | 1, _ => rfl | 2, _ => rfl | 3, _ => rfl | 4, _ => rfl | 5, _ => rfl | 6, _ => rfl | 7, _ => rfl | _ + 8, hj => absurd hj (by omega)) ⟨by omega, by omega⟩ dX2_init_27 (fun q2 => ?_)
  refine V_eq (ws2 := ((b, .inr (1, [.ref (u0 0), .ref (u1 0), .null])) :: (wParts cI u0 zr zr zr zr zr zr ++ (wPeople cI u1 zr zr zr 0))) ++ ([(q2, .inr (4, [.null, .null, .null, .null, .null, .null, .null, .int 0]))] ++ [])) (by simp) rfl ?_
  refine V_dup (pc := 30) o rfl dX2_init_30 ?_
  refine V_callIn (pc := 31) (host := "Approvalyard") o no (cX5_init_met _ _ _ cI ht q2) (by decide +kernel) ((b, .inr (1, [.ref (u0 0), .ref (u1 0), .null])) :: (wParts cI u0 zr zr zr zr zr zr ++ (wPeople cI u1 zr zr zr 0))) [] gX2_init_X5_init_n27 rfl (by decide +kernel) (by decide +kernel) (by decide +kernel) rfl hdX5_init ⟨by omega, by decide⟩ rfl (Nat.le_of_ble_eq_true rfl) ⟨by omega, by omega⟩ dX2_init_31 rfl (fun u2 hu2 => ?_)
  subst hu2
  refine V_eq (ws2 := (b, .inr (1, [.ref (u0 0), .ref (u1 0), .null])) :: (wParts cI u0 zr zr zr zr zr zr ++ (wPeople cI u1 zr zr zr 0 ++ (wReqs cI u2 zr zr zr zr zr zr zr 0)))) (by simp) rfl ?_
  refine V_putF (pc := 34) o oi 0 2 hiX2_init_X2 tyX2 tyX2_ok nmX2 rfl rfl (by decide) (by decide +kernel) rfl rfl rfl rfl rfl rfl (Nat.le_of_ble_eq_true rfl) dX2_init_34 ?_
  refine V_eq (ws2 := (b, .inr (1, [.ref (u0 0), .ref (u1 0), .ref (u2 0)])) :: (wParts cI u0 zr zr zr zr zr zr ++ (wPeople cI u1 zr zr zr 0 ++ (wReqs cI u2 zr zr zr zr zr zr zr 0)))) rfl rfl ?_
  refine V_eq (wDesk_adj cI b u0 u1 u2) rfl ?_
  refine V_aload_n (pc := 37) o dX2_init_37 rfl ?_
  refine V_wVv (pc := 38) o (cX2_clear_met _ _ _ cI ht (adj 1 (fun _ => b) (adj 13 u0 (adj 7 u1 u2))) zr zr zr zr zr zr zr zr zr 0 zr zr zr zr zr zr zr 0) 0 36 (wDesk cI (adj 1 (fun _ => b) (adj 13 u0 (adj 7 u1 u2))) (rfi 8 zr 0) zr zr zr zr zr (rfi 8 zr 100) zr (rfi 8 zr 0) 0 zr zr zr zr zr zr zr 0) gX2_init_X2_clear rfl hdX2_clear ⟨by omega, by decide⟩ rfl rfl rfl (Nat.le_of_ble_eq_true rfl) dX2_init_38 rfl rfl ?_ ⟨by omega, by omega⟩
  exact fin 41 _ (adj 1 (fun _ => b) (adj 13 u0 (adj 7 u1 u2))) dX2_init_41 rfl
theorem hdX2_init : yX2_init.cls ≠ "java/lang/invoke/MethodHandle" ∧ yX2_init.cls ≠ "java/lang/invoke/VarHandle" ∧ (parseMethodDescriptor yX2_init.desc).map (fun d => d.parameters.length) = some 0 := by decide +kernel
theorem hiX8_init_X8 : ∀ w ∈ wsX80, w ∈ wsX8_init := by decide +kernel
theorem hiX8_init_X0 : ∀ w ∈ wsX00, w ∈ wsX8_init := by decide +kernel
theorem hiX8_init_X2 : ∀ w ∈ wsX20, w ∈ wsX8_init := by decide +kernel
theorem hiX8_init_X7 : ∀ w ∈ wsX70, w ∈ wsX8_init := by decide +kernel
def nwX8 : List Cond := Cond.methodLinkNest RX8 9 yX0_init "Approvalyard" :: Cond.methodLinkNest RX8 28 yX7_init "Approvalyard" :: nwX2
set_option maxHeartbeats 4000000 in
set_option maxRecDepth 100000 in
theorem wApp_adj (cI : ClassId) (b : Nat) (u0 u1 u2 u3 : Nat → Nat) : (b, .inr (7, [.ref (u0 0), .ref (u1 0), .ref (u2 0), .ref (u3 0)])) :: (wBook cI u0 zr 0 ++ (wDesk cI u1 (rfi 8 zr 0) zr zr zr zr zr (rfi 8 zr 100) zr (rfi 8 zr 0) 0 zr zr zr zr zr zr zr 0 ++ (wDesk cI u2 (rfi 8 zr 0) zr zr zr zr zr (rfi 8 zr 100) zr (rfi 8 zr 0) 0 zr zr zr zr zr zr zr 0 ++ wSearch cI u3 zr zr 0 0))) = wApp cI (adj 1 (fun _ => b) (adj 3 u0 (adj 36 u1 (adj 36 u2 u3)))) zr 0 (rfi 8 zr 0) zr zr zr zr zr (rfi 8 zr 100) zr (rfi 8 zr 0) 0 zr zr zr zr zr zr zr 0 (rfi 8 zr 0) zr zr zr zr zr (rfi 8 zr 100) zr (rfi 8 zr 0) 0 zr zr zr zr zr zr zr 0 zr zr 0 0 := rfl
set_option maxHeartbeats 4000000 in
set_option maxRecDepth 100000 in
theorem cX8_init_met (l : Launch) (D : va_G) (tys : List (ClassId × FieldType)) (cI : ClassId) (ht : tys[0]? = some (cI, .int)) (b : Nat) : CN l yX8_init wsX8_init 5 80 4667 D tys [.ref b] [(b, .inr (7, [.null, .null, .null, .null]))] nwX8 (fun u => u 0 = b) (fun u => wApp cI u zr 0 (rfi 8 zr 0) zr zr zr zr zr (rfi 8 zr 100) zr (rfi 8 zr 0) 0 zr zr zr zr zr zr zr 0 (rfi 8 zr 0) zr zr zr zr zr (rfi 8 zr 100) zr (rfi 8 zr 0) 0 zr zr zr zr zr zr zr 0 zr zr 0 0) := by
  refine CN_of (maxL := 1) (cc := cX8_init) (y := yX8_init) rfl rfl (Nat.le_of_ble_eq_true rfl) rfl (fun X hl hD hk hn hcz hsz o oi no fin => ?_)
  subst hl; subst hD; subst hk
  refine V_aload_n (pc := 0) o dX8_init_0 rfl ?_
  refine V_objI (pc := 1) o (by decide +kernel) (by decide +kernel) (by decide +kernel) (by omega) (Nat.le_of_ble_eq_true rfl) dX8_init_1 ?_
  refine V_aload_n (pc := 4) o dX8_init_4 rfl ?_
  refine V_new (pc := 5) (ci := 0) (fs := [.null, .int 0]) o hiX8_init_X0 tyX0 tyX0_ok (by decide +kernel) (by decide +kernel) (by decide +kernel) rfl (fun j hj => match j, hj with | 0, _ => rfl | 1, _ => rfl | _ + 2, hj => absurd hj (by omega)) ⟨by omega, by omega⟩ dX8_init_5 (fun q0 => ?_)
  refine V_eq (ws2 := ([(b, .inr (7, [.null, .null, .null, .null]))]) ++ ([(q0, .inr (0, [.null, .int 0]))] ++ [])) (by simp) rfl ?_
  refine V_dup (pc := 8) o rfl dX8_init_8 ?_
  refine V_callIn (pc := 9) (host := "Approvalyard") o no (cX0_init_met _ _ _ cI ht q0) (by decide +kernel) ([(b, .inr (7, [.null, .null, .null, .null]))]) [] gX8_init_X0_init_n9 rfl (by decide +kernel) (by decide +kernel) (by decide +kernel) rfl hdX0_init ⟨by omega, by decide⟩ rfl (Nat.le_of_ble_eq_true rfl) ⟨by omega, by omega⟩ dX8_init_9 rfl (fun u0 hu0 => ?_)
  subst hu0
  refine V_eq (ws2 := (b, .inr (7, [.null, .null, .null, .null])) :: (wBook cI u0 zr 0)) (by simp) rfl ?_
  refine V_putF (pc := 12) o oi 0 0 hiX8_init_X8 tyX8 tyX8_ok nmX8 rfl rfl (by decide) (by decide +kernel) rfl rfl rfl rfl rfl rfl (Nat.le_of_ble_eq_true rfl) dX8_init_12 ?_
  refine V_eq (ws2 := (b, .inr (7, [.ref (u0 0), .null, .null, .null])) :: (wBook cI u0 zr 0)) rfl rfl ?_
  refine V_aload_n (pc := 15) o dX8_init_15 rfl ?_
  refine V_new (pc := 16) (ci := 1) (fs := [.null, .null, .null]) o hiX8_init_X2 tyX2 tyX2_ok (by decide +kernel) (by decide +kernel) (by decide +kernel) rfl (fun j hj => match j, hj with | 0, _ => rfl | 1, _ => rfl | 2, _ => rfl | _ + 3, hj => absurd hj (by omega)) ⟨by omega, by omega⟩ dX8_init_16 (fun q1 => ?_)
  refine V_eq (ws2 := ((b, .inr (7, [.ref (u0 0), .null, .null, .null])) :: (wBook cI u0 zr 0)) ++ ([(q1, .inr (1, [.null, .null, .null]))] ++ [])) (by simp) rfl ?_
  refine V_dup (pc := 19) o rfl dX8_init_19 ?_
  refine V_callIv (pc := 20) o no (cX2_init_met _ _ _ cI ht q1) (by decide +kernel) ((b, .inr (7, [.ref (u0 0), .null, .null, .null])) :: (wBook cI u0 zr 0)) [] gX8_init_X2_init rfl (by decide +kernel) (by decide +kernel) (by decide +kernel) rfl hdX2_init ⟨by omega, by decide⟩ rfl (Nat.le_of_ble_eq_true rfl) ⟨by omega, by omega⟩ dX8_init_20 rfl (fun u1 hu1 => ?_)
  subst hu1
  refine V_eq (ws2 := (b, .inr (7, [.ref (u0 0), .null, .null, .null])) :: (wBook cI u0 zr 0 ++ (wDesk cI u1 (rfi 8 zr 0) zr zr zr zr zr (rfi 8 zr 100) zr (rfi 8 zr 0) 0 zr zr zr zr zr zr zr 0))) (by simp) rfl ?_
  refine V_putF (pc := 23) o oi 0 1 hiX8_init_X8 tyX8 tyX8_ok nmX8 rfl rfl (by decide) (by decide +kernel) rfl rfl rfl rfl rfl rfl (Nat.le_of_ble_eq_true rfl) dX8_init_23 ?_
  refine V_eq (ws2 := (b, .inr (7, [.ref (u0 0), .ref (u1 0), .null, .null])) :: (wBook cI u0 zr 0 ++ (wDesk cI u1 (rfi 8 zr 0) zr zr zr zr zr (rfi 8 zr 100) zr (rfi 8 zr 0) 0 zr zr zr zr zr zr zr 0))) rfl rfl ?_
  refine V_aload_n (pc := 26) o dX8_init_26 rfl ?_
  refine V_new (pc := 27) (ci := 1) (fs := [.null, .null, .null]) o hiX8_init_X2 tyX2 tyX2_ok (by decide +kernel) (by decide +kernel) (by decide +kernel) rfl (fun j hj => match j, hj with | 0, _ => rfl | 1, _ => rfl | 2, _ => rfl | _ + 3, hj => absurd hj (by omega)) ⟨by omega, by omega⟩ dX8_init_27 (fun q2 => ?_)
  refine V_eq (ws2 := ((b, .inr (7, [.ref (u0 0), .ref (u1 0), .null, .null])) :: (wBook cI u0 zr 0 ++ (wDesk cI u1 (rfi 8 zr 0) zr zr zr zr zr (rfi 8 zr 100) zr (rfi 8 zr 0) 0 zr zr zr zr zr zr zr 0))) ++ ([(q2, .inr (1, [.null, .null, .null]))] ++ [])) (by simp) rfl ?_
  refine V_dup (pc := 30) o rfl dX8_init_30 ?_
  refine V_callIv (pc := 31) o no (cX2_init_met _ _ _ cI ht q2) (by decide +kernel) ((b, .inr (7, [.ref (u0 0), .ref (u1 0), .null, .null])) :: (wBook cI u0 zr 0 ++ (wDesk cI u1 (rfi 8 zr 0) zr zr zr zr zr (rfi 8 zr 100) zr (rfi 8 zr 0) 0 zr zr zr zr zr zr zr 0))) [] gX8_init_X2_init rfl (by decide +kernel) (by decide +kernel) (by decide +kernel) rfl hdX2_init ⟨by omega, by decide⟩ rfl (Nat.le_of_ble_eq_true rfl) ⟨by omega, by omega⟩ dX8_init_31 rfl (fun u2 hu2 => ?_)
  subst hu2
  refine V_eq (ws2 := (b, .inr (7, [.ref (u0 0), .ref (u1 0), .null, .null])) :: (wBook cI u0 zr 0 ++ (wDesk cI u1 (rfi 8 zr 0) zr zr zr zr zr (rfi 8 zr 100) zr (rfi 8 zr 0) 0 zr zr zr zr zr zr zr 0 ++ (wDesk cI u2 (rfi 8 zr 0) zr zr zr zr zr (rfi 8 zr 100) zr (rfi 8 zr 0) 0 zr zr zr zr zr zr zr 0)))) (by simp) rfl ?_
  refine V_putF (pc := 34) o oi 0 2 hiX8_init_X8 tyX8 tyX8_ok nmX8 rfl rfl (by decide) (by decide +kernel) rfl rfl rfl rfl rfl rfl (Nat.le_of_ble_eq_true rfl) dX8_init_34 ?_
  refine V_eq (ws2 := (b, .inr (7, [.ref (u0 0), .ref (u1 0), .ref (u2 0), .null])) :: (wBook cI u0 zr 0 ++ (wDesk cI u1 (rfi 8 zr 0) zr zr zr zr zr (rfi 8 zr 100) zr (rfi 8 zr 0) 0 zr zr zr zr zr zr zr 0 ++ (wDesk cI u2 (rfi 8 zr 0) zr zr zr zr zr (rfi 8 zr 100) zr (rfi 8 zr 0) 0 zr zr zr zr zr zr zr 0)))) rfl rfl ?_
  refine V_aload_n (pc := 37) o dX8_init_37 rfl ?_
  refine V_new (pc := 38) (ci := 6) (fs := [.null, .null, .int 0, .int 0]) o hiX8_init_X7 tyX7 tyX7_ok (by decide +kernel) (by decide +kernel) (by decide +kernel) rfl (fun j hj => match j, hj with | 0, _ => rfl | 1, _ => rfl | 2, _ => rfl | 3, _ => rfl | _ + 4, hj => absurd hj (by omega)) ⟨by omega, by omega⟩ dX8_init_38 (fun q3 => ?_)
  refine V_eq (ws2 := ((b, .inr (7, [.ref (u0 0), .ref (u1 0), .ref (u2 0), .null])) :: (wBook cI u0 zr 0 ++ (wDesk cI u1 (rfi 8 zr 0) zr zr zr zr zr (rfi 8 zr 100) zr (rfi 8 zr 0) 0 zr zr zr zr zr zr zr 0 ++ (wDesk cI u2 (rfi 8 zr 0) zr zr zr zr zr (rfi 8 zr 100) zr (rfi 8 zr 0) 0 zr zr zr zr zr zr zr 0)))) ++ ([(q3, .inr (6, [.null, .null, .int 0, .int 0]))] ++ [])) (by simp) rfl ?_
  refine V_dup (pc := 41) o rfl dX8_init_41 ?_
  refine V_callIn (pc := 42) (host := "Approvalyard") o no (cX7_init_met _ _ _ cI ht q3) (by decide +kernel) ((b, .inr (7, [.ref (u0 0), .ref (u1 0), .ref (u2 0), .null])) :: (wBook cI u0 zr 0 ++ (wDesk cI u1 (rfi 8 zr 0) zr zr zr zr zr (rfi 8 zr 100) zr (rfi 8 zr 0) 0 zr zr zr zr zr zr zr 0 ++ (wDesk cI u2 (rfi 8 zr 0) zr zr zr zr zr (rfi 8 zr 100) zr (rfi 8 zr 0) 0 zr zr zr zr zr zr zr 0)))) [] gX8_init_X7_init_n28 rfl (by decide +kernel) (by decide +kernel) (by decide +kernel) rfl hdX7_init ⟨by omega, by decide⟩ rfl (Nat.le_of_ble_eq_true rfl) ⟨by omega, by omega⟩ dX8_init_42 rfl (fun u3 hu3 => ?_)
  subst hu3
  refine V_eq (ws2 := (b, .inr (7, [.ref (u0 0), .ref (u1 0), .ref (u2 0), .null])) :: (wBook cI u0 zr 0 ++ (wDesk cI u1 (rfi 8 zr 0) zr zr zr zr zr (rfi 8 zr 100) zr (rfi 8 zr 0) 0 zr zr zr zr zr zr zr 0 ++ (wDesk cI u2 (rfi 8 zr 0) zr zr zr zr zr (rfi 8 zr 100) zr (rfi 8 zr 0) 0 zr zr zr zr zr zr zr 0 ++ (wSearch cI u3 zr zr 0 0))))) (by simp) rfl ?_
  refine V_putF (pc := 45) o oi 0 3 hiX8_init_X8 tyX8 tyX8_ok nmX8 rfl rfl (by decide) (by decide +kernel) rfl rfl rfl rfl rfl rfl (Nat.le_of_ble_eq_true rfl) dX8_init_45 ?_
  refine V_eq (ws2 := (b, .inr (7, [.ref (u0 0), .ref (u1 0), .ref (u2 0), .ref (u3 0)])) :: (wBook cI u0 zr 0 ++ (wDesk cI u1 (rfi 8 zr 0) zr zr zr zr zr (rfi 8 zr 100) zr (rfi 8 zr 0) 0 zr zr zr zr zr zr zr 0 ++ (wDesk cI u2 (rfi 8 zr 0) zr zr zr zr zr (rfi 8 zr 100) zr (rfi 8 zr 0) 0 zr zr zr zr zr zr zr 0 ++ (wSearch cI u3 zr zr 0 0))))) rfl rfl ?_
  refine V_eq (wApp_adj cI b u0 u1 u2 u3) rfl ?_
  exact fin 48 _ (adj 1 (fun _ => b) (adj 3 u0 (adj 36 u1 (adj 36 u2 u3)))) dX8_init_48 rfl
theorem hdX8_init : yX8_init.cls ≠ "java/lang/invoke/MethodHandle" ∧ yX8_init.cls ≠ "java/lang/invoke/VarHandle" ∧ (parseMethodDescriptor yX8_init.desc).map (fun d => d.parameters.length) = some 0 := by decide +kernel
