/-! Contracts over worlds, the splice of a callee's world into the caller's, call rows. -/
theorem pw_iff {D : va_G} {cl : List vw_C} {ws : va_W} {H : Heap} : va_P D cl ws H ↔ ∀ q ∈ ws, va_at D cl q H := by
  constructor
  · intro h q hq
    obtain ⟨j, hj⟩ := List.getElem?_of_mem hq
    exact h j q hj
  · intro h k q hk
    exact h q (List.mem_of_getElem? hk)
theorem dw_iff {A : Nat → Prop} {ws : va_W} : va_D A ws ↔ (ws.map Prod.fst).Nodup ∧ ∀ q ∈ ws, A q.1 := by
  constructor
  · intro hD
    refine ⟨?_, fun q hq => ?_⟩
    · rw [List.nodup_iff_pairwise_ne, List.pairwise_iff_getElem]
      intro i j hi hj hij he
      simp only [List.length_map] at hi hj
      simp only [List.getElem_map] at he
      exact absurd (hD.1 i j _ _ (List.getElem?_eq_getElem hi) (List.getElem?_eq_getElem hj) he) (by omega)
    · obtain ⟨j, hj⟩ := List.getElem?_of_mem hq
      exact hD.2 j q hj
  · rintro ⟨nd, hA⟩
    have key : ∀ i j : Nat, ∀ p q : Nat × va_E, i < j → ws[i]? = some p → ws[j]? = some q → p.1 ≠ q.1 := by
      intro i j p q hij hi hj
      obtain ⟨h1, e1⟩ := List.getElem?_eq_some_iff.mp hi
      obtain ⟨h2, e2⟩ := List.getElem?_eq_some_iff.mp hj
      have := List.pairwise_iff_getElem.mp (List.nodup_iff_pairwise_ne.mp nd) i j (by simpa using h1) (by simpa using h2) hij
      simp only [List.getElem_map] at this
      rw [e1, e2] at this
      exact this
    refine ⟨fun i j p q hi hj hpq => ?_, fun k q hk => hA q (List.mem_of_getElem? hk)⟩
    rcases Nat.lt_trichotomy i j with h | h | h
    · exact absurd hpq (key i j p q h hi hj)
    · exact h
    · exact absurd hpq.symm (key j i q p h hj hi)
theorem aw_iff {ws : va_W} {sz q : Nat} : va_A ws sz q ↔ q ∈ ws.map Prod.fst ∨ sz ≤ q := by
  unfold va_A
  constructor
  · rintro (⟨k, e, h⟩ | h)
    · exact Or.inl (List.mem_map.mpr ⟨(q, e), List.mem_of_getElem? h, rfl⟩)
    · exact Or.inr h
  · rintro (h | h)
    · obtain ⟨x, hx, rfl⟩ := List.mem_map.mp h
      obtain ⟨j, hj⟩ := List.getElem?_of_mem hx
      exact Or.inl ⟨j, x.2, hj⟩
    · exact Or.inr h
theorem aw_in {A0 : Nat → Prop} {w1 wc w2 : va_W} {H0 H : Heap} {locs : List Loc} (hD : va_D A0 (w1 ++ (wc ++ w2))) (hS : va_S A0 H0 H locs) (hA : ∀ q, H0.size ≤ q → A0 q) : ∀ q, va_A wc H.size q → A0 q := by
  intro q h
  rcases aw_iff.mp h with h | h
  · obtain ⟨x, hx, rfl⟩ := List.mem_map.mp h
    exact (dw_iff.mp hD).2 x (List.mem_append_right _ (List.mem_append_left _ hx))
  · exact hA q (Nat.le_trans hS.1 h)
theorem splice {A0 : Nat → Prop} {D : va_G} {cl : List vw_C} {w1 wc w2 wc2 : va_W} {H H1 : Heap} (hP : va_P D cl (w1 ++ (wc ++ w2)) H) (hD : va_D A0 (w1 ++ (wc ++ w2)))
    (hk : ∀ q : Nat, q < H.size → ¬ va_A wc H.size q → H1[q]? = H[q]?) (hF : ∀ q, va_A wc H.size q → A0 q) (hP1 : va_P D cl wc2 H1) (hD1 : va_D (va_A wc H.size) wc2) : va_P D cl (w1 ++ (wc2 ++ w2)) H1 ∧ va_D A0 (w1 ++ (wc2 ++ w2)) := by
  have hP' := pw_iff.mp hP
  obtain ⟨nd, hA⟩ := dw_iff.mp hD
  obtain ⟨nd1, hA1⟩ := dw_iff.mp hD1
  have hP1' := pw_iff.mp hP1
  simp only [List.map_append, List.nodup_append, List.mem_append] at nd
  obtain ⟨n1, ⟨n2, n3, n4⟩, n5⟩ := nd
  have out : ∀ q, q ∈ w1 ∨ q ∈ w2 → q.1 < H.size ∧ ¬ va_A wc H.size q.1 := by
    intro q hq
    have hl : q.1 < H.size := by
      rcases hq with h | h
      · exact (hP' q (List.mem_append_left _ h)).lt
      · exact (hP' q (List.mem_append_right _ (List.mem_append_right _ h))).lt
    refine ⟨hl, fun h => ?_⟩
    rcases aw_iff.mp h with h | h
    · rcases hq with g | g
      · exact n5 _ (List.mem_map.mpr ⟨q, g, rfl⟩) _ (Or.inl h) rfl
      · exact n4 _ h _ (List.mem_map.mpr ⟨q, g, rfl⟩) rfl
    · omega
  refine ⟨pw_iff.mpr fun q hq => ?_, dw_iff.mpr ⟨?_, fun q hq => ?_⟩⟩
  · rcases List.mem_append.mp hq with h | h
    · exact (hP' q (List.mem_append_left _ h)).kept (hk _ (out q (Or.inl h)).1 (out q (Or.inl h)).2)
    · rcases List.mem_append.mp h with h | h
      · exact hP1' q h
      · exact (hP' q (List.mem_append_right _ (List.mem_append_right _ h))).kept (hk _ (out q (Or.inr h)).1 (out q (Or.inr h)).2)
  · simp only [List.map_append, List.nodup_append, List.mem_append]
    refine ⟨n1, ⟨nd1, n3, fun a ha b hb hab => ?_⟩, fun a ha b hb hab => ?_⟩
    · obtain ⟨x, hx, rfl⟩ := List.mem_map.mp ha
      obtain ⟨y, hy, rfl⟩ := List.mem_map.mp hb
      exact (out y (Or.inr hy)).2 (hab ▸ hA1 x hx)
    · obtain ⟨x, hx, rfl⟩ := List.mem_map.mp ha
      rcases hb with hb | hb
      · obtain ⟨y, hy, rfl⟩ := List.mem_map.mp hb
        exact (out x (Or.inl hx)).2 (hab ▸ hA1 y hy)
      · exact n5 _ (List.mem_map.mpr ⟨x, hx, rfl⟩) _ (Or.inr hb) hab
  · rcases List.mem_append.mp hq with h | h
    · exact hA q (List.mem_append_left _ h)
    · rcases List.mem_append.mp h with h | h
      · exact hF _ (hA1 q h)
      · exact hA q (List.mem_append_right _ (List.mem_append_right _ h))
def rmd (d mc ms : Nat) : Room := { frames := d, cells := mc, slots := ms, locals := 40 * d }
def AtW (D : va_G) (tys : List (ClassId × FieldType)) (A : Nat → Prop) (ws : va_W) (t : State) : Prop := va_P D vwCl ws t.heap ∧ va_K D vwCl tys t ∧ va_D A ws
def PrW (D : va_G) (tys : List (ClassId × FieldType)) (sz : Nat) (ws : va_W) (U : State) : Prop := U.heap.size = sz ∧ AtW D tys (fun _ => True) ws U
theorem prw_blind {D : va_G} {tys : List (ClassId × FieldType)} {sz : Nat} {ws : va_W} {as : List Value} : FrameBlind (va_Pc as (PrW D tys sz ws)) := fun a U g mk q => by
  obtain ⟨q0, q1, qP, qK, qD⟩ := q
  exact ⟨q0, q1, qP, va_K.moved (u := U) (U := U.calling g mk a) (Vm.Alike.refl U.vm) qK, qD⟩
/-- a contract: an int (or boolean) is answered -/
def CI {S : Type} (l : Launch) (y : MethodName) (w : List Cond) (d mc ms : Nat) (D : va_G) (tys : List (ClassId × FieldType)) (as : List Value) (ws : va_W) (post : Int32 → S → Prop) (ws2 : S → va_W) : Prop :=
  ∀ sz : Nat, Met l y w (rmd d mc ms) (va_Pc as (PrW D tys sz ws)) (va_Qi post (fun u t => AtW D tys (va_A ws sz) (ws2 u) t) (va_A ws sz)) mc ms (va_A ws sz)
def CV {S : Type} (l : Launch) (y : MethodName) (w : List Cond) (d mc ms : Nat) (D : va_G) (tys : List (ClassId × FieldType)) (as : List Value) (ws : va_W) (post : S → Prop) (ws2 : S → va_W) : Prop :=
  ∀ sz : Nat, Met l y w (rmd d mc ms) (va_Pc as (PrW D tys sz ws)) (va_Qv post (fun u t => AtW D tys (va_A ws sz) (ws2 u) t) (va_A ws sz)) mc ms (va_A ws sz)
theorem CI_of {S : Type} {l : Launch} {y : MethodName} {w w0 : List Cond} {cc : ByteArray} {maxL d mc ms : Nat} {ret : FieldType} {D : va_G} {tys : List (ClassId × FieldType)} {as : List Value} {ws : va_W} {post : Int32 → S → Prop} {ws2 : S → va_W}
    (hy : plainName y.cls = true) (hw : w = Cond.code y cc maxL (some ret) :: w0) (hlen : (lg_sl as).length ≤ maxL)
    (body : ∀ X : XT, XL X = l → XD X = D → XK X = tys → XN X = maxL → (XR X).cells = mc → (XR X).slots = ms → OkX X cc y.cls w d →
      (∀ (pc : Nat) (lc : List (Nat × Value)) (v : Int32) (u : S), decode cc pc = .ok (.ireturn, 1) → narrow ret (.int v) = .int v → post v u → V X mc ms (ws2 u) pc lc [.int v]) → V X 0 0 ws 0 (lv_args 0 as) []) :
    CI l y w d mc ms D tys as ws post ws2 := by
  intro sz
  refine Met.ofW (cc := cc) (maxL := maxL) (ret := some ret) hy hw ?_
  intro p e s m args below meth c s₁ B hml hv
  obtain ⟨rfl, hsz, hP, hK, hD0⟩ := hv
  subst hsz
  have hlocks : meth.locks = false := B.notSynchronized
  have hx := B.exec
  have hb := B.bytes
  have hr := B.returns
  rw [lg_entry_eq]
  refine body (p, l, e, (headSpec w (rmd d mc ms)).room, s, m, _, below, meth, c, D, tys, va_A ws s.heap.size, MQ below (va_Qi post (fun u t => AtW D tys (va_A ws s.heap.size) (ws2 u) t) (va_A ws s.heap.size)) _ s mc ms (va_A ws s.heap.size), maxL) rfl rfl rfl rfl rfl rfl ⟨hx, hb, hml, findClass_of_methodNamed B.named, atoms_spec (ws := w) B.pre, hK, fun q h => Or.inr h, Nat.le_refl _, Nat.le_refl _⟩ ?_ _ s.heap [] (lv_entry as hlen) hP hD0.self va_S.rf
  intro pc lc v u dg hn hp ls H locs hl hP1 hD1 hS
  exact W.zret hx hb hr hn (fun t ht hW => ⟨⟨v, u, rfl, hp, by rw [ht]; exact hP1, va_K.moved hW.alike hK, hD1⟩, hS.F ht⟩) hS.2.2 dg
theorem CV_of {S : Type} {l : Launch} {y : MethodName} {w w0 : List Cond} {cc : ByteArray} {maxL d mc ms : Nat} {D : va_G} {tys : List (ClassId × FieldType)} {as : List Value} {ws : va_W} {post : S → Prop} {ws2 : S → va_W}
    (hy : plainName y.cls = true) (hw : w = Cond.code y cc maxL none :: w0) (hlen : (lg_sl as).length ≤ maxL)
    (body : ∀ X : XT, XL X = l → XD X = D → XK X = tys → XN X = maxL → (XR X).cells = mc → (XR X).slots = ms → OkX X cc y.cls w d →
      (∀ (pc : Nat) (lc : List (Nat × Value)) (u : S), decode cc pc = .ok (.return_, 1) → post u → V X mc ms (ws2 u) pc lc []) → V X 0 0 ws 0 (lv_args 0 as) []) :
    CV l y w d mc ms D tys as ws post ws2 := by
  intro sz
  refine Met.ofW (cc := cc) (maxL := maxL) (ret := none) hy hw ?_
  intro p e s m args below meth c s₁ B hml hv
  obtain ⟨rfl, hsz, hP, hK, hD0⟩ := hv
  subst hsz
  have hlocks : meth.locks = false := B.notSynchronized
  have hx := B.exec
  have hb := B.bytes
  have hr := B.returns
  rw [lg_entry_eq]
  refine body (p, l, e, (headSpec w (rmd d mc ms)).room, s, m, _, below, meth, c, D, tys, va_A ws s.heap.size, MQ below (va_Qv post (fun u t => AtW D tys (va_A ws s.heap.size) (ws2 u) t) (va_A ws s.heap.size)) _ s mc ms (va_A ws s.heap.size), maxL) rfl rfl rfl rfl rfl rfl ⟨hx, hb, hml, findClass_of_methodNamed B.named, atoms_spec (ws := w) B.pre, hK, fun q h => Or.inr h, Nat.le_refl _, Nat.le_refl _⟩ ?_ _ s.heap [] (lv_entry as hlen) hP hD0.self va_S.rf
  intro pc lc u dg hp ls H locs hl hP1 hD1 hS
  exact W.vret hx hb hr (fun t ht hW => ⟨⟨u, rfl, hp, by rw [ht]; exact hP1, va_K.moved hW.alike hK, hD1⟩, hS.F ht⟩) hS.2.2 dg
section Calls
variable {X : XT} {k z : Nat} {ws : va_W} {pc : Nat} {lc : List (Nat × Value)} {st : List Value} {cc : ByteArray} {own : String} {Ts : List Cond} {d : Nat}
theorem V_callVi {S : Type} (o : OkX X cc own Ts d) {C : String} {y : MethodName} {w w0 : List Cond} {bytes : ByteArray} {maxL index d2 mc ms b q0 ci N : Nat} {ret : Option FieldType} {as rest fs : List Value} {T : u_T} {wc : va_W} {post : Int32 → S → Prop} {wc2 : S → va_W}
    (hM : CI (XL X) y w d2 mc ms (XD X) (XK X) (.ref b :: as) wc post wc2) (w1 w2 : va_W)
    (hG : GoodIn Ts (wsV own index C y w)) (hw : w = Cond.code y bytes maxL ret :: w0)
    (hd : y.cls = C ∧ y.cls ≠ "java/lang/invoke/MethodHandle" ∧ y.cls ≠ "java/lang/invoke/VarHandle" ∧ (parseMethodDescriptor y.desc).map (fun d => d.parameters.length) = some as.length)
    (hdd : d2 + 1 ≤ d ∧ maxL ≤ 21) (he : wc[q0]? = some (b, .inr (ci, fs))) (hc : vwCl[ci]? = some (C, T, N))
    (hst : st = as.reverse ++ .ref b :: rest) (hcat : (rest.map fun v => v.category).sum ≤ 8) (hk : k + mc ≤ (XR X).cells ∧ z + ms ≤ (XR X).slots)
    (dg : decode cc pc = .ok (.invokevirtual index, 3)) (hws : ws = w1 ++ (wc ++ w2))
    (kk : ∀ (r : Int32) (u : S), post r u → V X (k + mc) (z + ms) (w1 ++ (wc2 u ++ w2)) (pc + 3) lc (.int r :: rest)) : V X k z ws pc lc st := by
  obtain ⟨p, l, e', R, s, m, args, below, meth, c, D, tys, A, Q, n⟩ := X
  obtain ⟨hx, hb, hml, hown, hts, hK, hA, hR1, hR2⟩ := o
  subst hws; subst hst
  intro ls H locs hl hP hD hS
  have hP' := pw_iff.mp hP
  have hPc : va_P D vwCl wc H := pw_iff.mpr fun q hq => hP' q (List.mem_append_right _ (List.mem_append_left _ hq))
  have hDc : va_D A wc := by
    have h := dw_iff.mp hD
    simp only [List.map_append, List.nodup_append] at h
    exact dw_iff.mpr ⟨h.1.2.1.1, fun q hq => h.2 q (List.mem_append_right _ (List.mem_append_left _ hq))⟩
  have hFc := aw_in hD hS hA
  dsimp only [XR, XL, XD, XK] at hM hk
  have hR1' : d ≤ R.frames := hR1
  have hR2' : 40 * d ≤ R.locals := hR2
  refine va_calli (va_runV (As := as) (rest := rest) ⟨hx, hb, hml, hown, hts⟩ (hM H.size) (cwV as.length hts hG hw rfl rfl hd ⟨Nat.le_trans hdd.1 hR1', ?_⟩) ⟨prw_blind, va_recv hK hPc (ci := ci) (q0 := q0) hc he, fun U hU hW => ⟨rfl, by rw [hU], by rw [hU]; exact hPc, va_K.moved hW.alike hK, hDc.weaken (fun _ _ _ _ => trivial)⟩⟩ rfl rfl hl.1 rfl (lv_room hcat) dg hk) hS (fun q _ h => hFc q h) hFc (fun r u t H1 locs1 ht hvm hw1 hB hz1 hk1 hS1 => ?_)
  · show 8 + (maxL + 11) + 40 * d2 ≤ R.locals
    omega
  · obtain ⟨hP1, hK1, hD1⟩ := hB
    rw [ht] at hP1
    obtain ⟨hP2, hD2⟩ := splice hP hD hk1 hFc hP1 hD1
    exact kk r u hw1 ls H1 locs1 hl hP2 hD2 hS1
theorem V_callVv {S : Type} (o : OkX X cc own Ts d) {C : String} {y : MethodName} {w w0 : List Cond} {bytes : ByteArray} {maxL index d2 mc ms b q0 ci N : Nat} {ret : Option FieldType} {as rest fs : List Value} {T : u_T} {wc : va_W} {post : S → Prop} {wc2 : S → va_W}
    (hM : CV (XL X) y w d2 mc ms (XD X) (XK X) (.ref b :: as) wc post wc2) (w1 w2 : va_W)
    (hG : GoodIn Ts (wsV own index C y w)) (hw : w = Cond.code y bytes maxL ret :: w0)
    (hd : y.cls = C ∧ y.cls ≠ "java/lang/invoke/MethodHandle" ∧ y.cls ≠ "java/lang/invoke/VarHandle" ∧ (parseMethodDescriptor y.desc).map (fun d => d.parameters.length) = some as.length)
    (hdd : d2 + 1 ≤ d ∧ maxL ≤ 21) (he : wc[q0]? = some (b, .inr (ci, fs))) (hc : vwCl[ci]? = some (C, T, N))
    (hst : st = as.reverse ++ .ref b :: rest) (hcat : (rest.map fun v => v.category).sum ≤ 8) (hk : k + mc ≤ (XR X).cells ∧ z + ms ≤ (XR X).slots)
    (dg : decode cc pc = .ok (.invokevirtual index, 3)) (hws : ws = w1 ++ (wc ++ w2))
    (kk : ∀ (u : S), post u → V X (k + mc) (z + ms) (w1 ++ (wc2 u ++ w2)) (pc + 3) lc rest) : V X k z ws pc lc st := by
  obtain ⟨p, l, e', R, s, m, args, below, meth, c, D, tys, A, Q, n⟩ := X
  obtain ⟨hx, hb, hml, hown, hts, hK, hA, hR1, hR2⟩ := o
  subst hws; subst hst
  intro ls H locs hl hP hD hS
  have hP' := pw_iff.mp hP
  have hPc : va_P D vwCl wc H := pw_iff.mpr fun q hq => hP' q (List.mem_append_right _ (List.mem_append_left _ hq))
  have hDc : va_D A wc := by
    have h := dw_iff.mp hD
    simp only [List.map_append, List.nodup_append] at h
    exact dw_iff.mpr ⟨h.1.2.1.1, fun q hq => h.2 q (List.mem_append_right _ (List.mem_append_left _ hq))⟩
  have hFc := aw_in hD hS hA
  dsimp only [XR, XL, XD, XK] at hM hk
  have hR1' : d ≤ R.frames := hR1
  have hR2' : 40 * d ≤ R.locals := hR2
  refine va_callv (va_runV (As := as) (rest := rest) ⟨hx, hb, hml, hown, hts⟩ (hM H.size) (cwV as.length hts hG hw rfl rfl hd ⟨Nat.le_trans hdd.1 hR1', ?_⟩) ⟨prw_blind, va_recv hK hPc (ci := ci) (q0 := q0) hc he, fun U hU hW => ⟨rfl, by rw [hU], by rw [hU]; exact hPc, va_K.moved hW.alike hK, hDc.weaken (fun _ _ _ _ => trivial)⟩⟩ rfl rfl hl.1 rfl (lv_room hcat) dg hk) hS (fun q _ h => hFc q h) hFc (fun u t H1 locs1 ht hvm hw1 hB hz1 hk1 hS1 => ?_)
  · show 8 + (maxL + 11) + 40 * d2 ≤ R.locals
    omega
  · obtain ⟨hP1, hK1, hD1⟩ := hB
    rw [ht] at hP1
    obtain ⟨hP2, hD2⟩ := splice hP hD hk1 hFc hP1 hD1
    exact kk u hw1 ls H1 locs1 hl hP2 hD2 hS1
theorem V_callSi {S : Type} (o : OkX X cc own Ts d) {y : MethodName} {w w0 : List Cond} {bytes : ByteArray} {maxL index d2 mc ms : Nat} {ret : Option FieldType} {as rest : List Value} {wc : va_W} {post : Int32 → S → Prop} {wc2 : S → va_W}
    (hM : CI (XL X) y w d2 mc ms (XD X) (XK X) as wc post wc2) (w1 w2 : va_W)
    (hG : GoodIn Ts (va_wsS own index y w)) (hw : w = Cond.code y bytes maxL ret :: w0)
    (hd : y.cls ≠ "java/lang/invoke/MethodHandle" ∧ y.cls ≠ "java/lang/invoke/VarHandle" ∧ (parseMethodDescriptor y.desc).map (fun d => d.parameters.length) = some as.length)
    (hdd : d2 + 1 ≤ d ∧ maxL ≤ 21)
    (hst : st = as.reverse ++ rest) (hcat : (rest.map fun v => v.category).sum ≤ 8) (hk : k + mc ≤ (XR X).cells ∧ z + ms ≤ (XR X).slots)
    (dg : decode cc pc = .ok (.invokestatic index, 3)) (hws : ws = w1 ++ (wc ++ w2))
    (kk : ∀ (r : Int32) (u : S), post r u → V X (k + mc) (z + ms) (w1 ++ (wc2 u ++ w2)) (pc + 3) lc (.int r :: rest)) : V X k z ws pc lc st := by
  obtain ⟨p, l, e', R, s, m, args, below, meth, c, D, tys, A, Q, n⟩ := X
  obtain ⟨hx, hb, hml, hown, hts, hK, hA, hR1, hR2⟩ := o
  subst hws; subst hst
  intro ls H locs hl hP hD hS
  have hP' := pw_iff.mp hP
  have hPc : va_P D vwCl wc H := pw_iff.mpr fun q hq => hP' q (List.mem_append_right _ (List.mem_append_left _ hq))
  have hDc : va_D A wc := by
    have h := dw_iff.mp hD
    simp only [List.map_append, List.nodup_append] at h
    exact dw_iff.mpr ⟨h.1.2.1.1, fun q hq => h.2 q (List.mem_append_right _ (List.mem_append_left _ hq))⟩
  have hFc := aw_in hD hS hA
  dsimp only [XR, XL, XD, XK] at hM hk
  have hR1' : d ≤ R.frames := hR1
  have hR2' : 40 * d ≤ R.locals := hR2
  refine va_calli (va_runS (As := as) (rest := rest) ⟨hx, hb, hml, hown, hts⟩ (hM H.size) (va_cwS as.length hts hG hw rfl rfl hd ⟨Nat.le_trans hdd.1 hR1', ?_⟩) ⟨prw_blind, fun U hU hW => ⟨rfl, by rw [hU], by rw [hU]; exact hPc, va_K.moved hW.alike hK, hDc.weaken (fun _ _ _ _ => trivial)⟩⟩ rfl rfl hl.1 rfl (lv_room hcat) dg hk) hS (fun q _ h => hFc q h) hFc (fun r u t H1 locs1 ht hvm hw1 hB hz1 hk1 hS1 => ?_)
  · show 8 + (maxL + 11) + 40 * d2 ≤ R.locals
    omega
  · obtain ⟨hP1, hK1, hD1⟩ := hB
    rw [ht] at hP1
    obtain ⟨hP2, hD2⟩ := splice hP hD hk1 hFc hP1 hD1
    exact kk r u hw1 ls H1 locs1 hl hP2 hD2 hS1
end Calls
/-- contracts of one answer and one world behind -/
abbrev CId (l : Launch) (y : MethodName) (w : List Cond) (d : Nat) (D : va_G) (tys : List (ClassId × FieldType)) (as : List Value) (ws : va_W) (r : Int32) (ws2 : va_W) : Prop := CI (S := Unit) l y w d 0 0 D tys as ws (fun x _ => x = r) (fun _ => ws2)
abbrev CVd (l : Launch) (y : MethodName) (w : List Cond) (d : Nat) (D : va_G) (tys : List (ClassId × FieldType)) (as : List Value) (ws : va_W) (ws2 : va_W) : Prop := CV (S := Unit) l y w d 0 0 D tys as ws (fun _ => True) (fun _ => ws2)
section Calls2
variable {X : XT} {k z : Nat} {ws : va_W} {pc : Nat} {lc : List (Nat × Value)} {st : List Value} {cc : ByteArray} {own : String} {Ts : List Cond} {d : Nat}
theorem V_wVi (o : OkX X cc own Ts d) {C : String} {y : MethodName} {w w0 : List Cond} {bytes : ByteArray} {maxL index d2 b ci N : Nat} {ret : Option FieldType} {as rest fs : List Value} {T : u_T} {wc wc2 : va_W} {r : Int32}
    (hM : CId (XL X) y w d2 (XD X) (XK X) (.ref b :: as) wc r wc2) (i len : Nat) (ws9 : va_W)
    (hG : GoodIn Ts (wsV own index C y w)) (hw : w = Cond.code y bytes maxL ret :: w0)
    (hd : y.cls = C ∧ y.cls ≠ "java/lang/invoke/MethodHandle" ∧ y.cls ≠ "java/lang/invoke/VarHandle" ∧ (parseMethodDescriptor y.desc).map (fun d => d.parameters.length) = some as.length)
    (hdd : d2 + 1 ≤ d ∧ maxL ≤ 21) (he : wc[0]? = some (b, .inr (ci, fs))) (hc : vwCl[ci]? = some (C, T, N))
    (hst : st = as.reverse ++ .ref b :: rest) (hcat : (rest.map fun v => v.category).sum ≤ 8)
    (dg : decode cc pc = .ok (.invokevirtual index, 3)) (hws : ws = ws.take i ++ (wc ++ ws.drop (i + len))) (hws9 : ws.take i ++ (wc2 ++ ws.drop (i + len)) = ws9)
    (kk : V X k z ws9 (pc + 3) lc (.int r :: rest)) (hcs : k ≤ (XR X).cells ∧ z ≤ (XR X).slots := by exact ⟨Nat.zero_le _, Nat.zero_le _⟩) : V X k z ws pc lc st :=
  V_callVi o hM (ws.take i) (ws.drop (i + len)) hG hw hd hdd he hc hst hcat hcs dg hws (fun r2 _ h => by subst h; rw [hws9]; exact kk)
theorem V_rVi (o : OkX X cc own Ts d) {C : String} {y : MethodName} {w w0 : List Cond} {bytes : ByteArray} {maxL index d2 b ci N : Nat} {ret : Option FieldType} {as rest fs : List Value} {T : u_T} {wc : va_W} {r : Int32}
    (hM : CId (XL X) y w d2 (XD X) (XK X) (.ref b :: as) wc r wc) (i len : Nat)
    (hG : GoodIn Ts (wsV own index C y w)) (hw : w = Cond.code y bytes maxL ret :: w0)
    (hd : y.cls = C ∧ y.cls ≠ "java/lang/invoke/MethodHandle" ∧ y.cls ≠ "java/lang/invoke/VarHandle" ∧ (parseMethodDescriptor y.desc).map (fun d => d.parameters.length) = some as.length)
    (hdd : d2 + 1 ≤ d ∧ maxL ≤ 21) (he : wc[0]? = some (b, .inr (ci, fs))) (hc : vwCl[ci]? = some (C, T, N))
    (hst : st = as.reverse ++ .ref b :: rest) (hcat : (rest.map fun v => v.category).sum ≤ 8)
    (dg : decode cc pc = .ok (.invokevirtual index, 3)) (hws : ws = ws.take i ++ (wc ++ ws.drop (i + len)))
    (kk : V X k z ws (pc + 3) lc (.int r :: rest)) (hcs : k ≤ (XR X).cells ∧ z ≤ (XR X).slots := by exact ⟨Nat.zero_le _, Nat.zero_le _⟩) : V X k z ws pc lc st :=
  V_callVi o hM (ws.take i) (ws.drop (i + len)) hG hw hd hdd he hc hst hcat hcs dg hws (fun r2 _ h => by subst h; rw [← hws]; exact kk)
theorem V_wVv (o : OkX X cc own Ts d) {C : String} {y : MethodName} {w w0 : List Cond} {bytes : ByteArray} {maxL index d2 b ci N : Nat} {ret : Option FieldType} {as rest fs : List Value} {T : u_T} {wc wc2 : va_W}
    (hM : CVd (XL X) y w d2 (XD X) (XK X) (.ref b :: as) wc wc2) (i len : Nat) (ws9 : va_W)
    (hG : GoodIn Ts (wsV own index C y w)) (hw : w = Cond.code y bytes maxL ret :: w0)
    (hd : y.cls = C ∧ y.cls ≠ "java/lang/invoke/MethodHandle" ∧ y.cls ≠ "java/lang/invoke/VarHandle" ∧ (parseMethodDescriptor y.desc).map (fun d => d.parameters.length) = some as.length)
    (hdd : d2 + 1 ≤ d ∧ maxL ≤ 21) (he : wc[0]? = some (b, .inr (ci, fs))) (hc : vwCl[ci]? = some (C, T, N))
    (hst : st = as.reverse ++ .ref b :: rest) (hcat : (rest.map fun v => v.category).sum ≤ 8)
    (dg : decode cc pc = .ok (.invokevirtual index, 3)) (hws : ws = ws.take i ++ (wc ++ ws.drop (i + len))) (hws9 : ws.take i ++ (wc2 ++ ws.drop (i + len)) = ws9)
    (kk : V X k z ws9 (pc + 3) lc rest) (hcs : k ≤ (XR X).cells ∧ z ≤ (XR X).slots := by exact ⟨Nat.zero_le _, Nat.zero_le _⟩) : V X k z ws pc lc st :=
  V_callVv o hM (ws.take i) (ws.drop (i + len)) hG hw hd hdd he hc hst hcat hcs dg hws (fun _ _ => by rw [hws9]; exact kk)
theorem V_rSi (o : OkX X cc own Ts d) {y : MethodName} {w w0 : List Cond} {bytes : ByteArray} {maxL index d2 : Nat} {ret : Option FieldType} {as rest : List Value} {wc : va_W} {r : Int32}
    (hM : CId (XL X) y w d2 (XD X) (XK X) as wc r wc) (i len : Nat)
    (hG : GoodIn Ts (va_wsS own index y w)) (hw : w = Cond.code y bytes maxL ret :: w0)
    (hd : y.cls ≠ "java/lang/invoke/MethodHandle" ∧ y.cls ≠ "java/lang/invoke/VarHandle" ∧ (parseMethodDescriptor y.desc).map (fun d => d.parameters.length) = some as.length)
    (hdd : d2 + 1 ≤ d ∧ maxL ≤ 21)
    (hst : st = as.reverse ++ rest) (hcat : (rest.map fun v => v.category).sum ≤ 8)
    (dg : decode cc pc = .ok (.invokestatic index, 3)) (hws : ws = ws.take i ++ (wc ++ ws.drop (i + len)))
    (kk : V X k z ws (pc + 3) lc (.int r :: rest)) (hcs : k ≤ (XR X).cells ∧ z ≤ (XR X).slots := by exact ⟨Nat.zero_le _, Nat.zero_le _⟩) : V X k z ws pc lc st :=
  V_callSi o hM (ws.take i) (ws.drop (i + len)) hG hw hd hdd hst hcat hcs dg hws (fun r2 _ h => by subst h; rw [← hws]; exact kk)
end Calls2
