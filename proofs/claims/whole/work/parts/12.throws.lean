/-! Methods that return or throw: contracts CXi, CXv, judgement VX. -/
def exn : Nat → String
  | 1 => "java/lang/IndexOutOfBoundsException"
  | 2 => "java/lang/IllegalArgumentException"
  | _ => "java/lang/IllegalStateException"
def exNames : List String := ["java/lang/RuntimeException", "java/lang/Exception"]
def exIk : Nat → Nat
  | 1 => 178
  | 2 => 37
  | _ => 54
def exIc : Nat → Nat
  | 1 => 182
  | 2 => 41
  | _ => 58
def strsX8 : List (Nat × String) := [(39, "the cost is out of range"), (56, "the part has all its versions"), (67, "a version needs other parts than its own"), (72, "the greatest version is out of range"), (78, "the version has all its needs"), (92, "the version is replaced"), (107, "there are all the requests that can be"), (115, "the request is released"), (135, "the limit is out of range"), (137, "the delegate is another person"), (145, "the person cannot approve the request now"), (151, "the request is not resolved and covered"), (159, "there is nothing of that number to tell"), (180, "there is no such part"), (183, "there is no such version"), (185, "there is no such person"), (187, "there is no such request"), (189, "the least version is out of range"), (191, "the days are out of range")]
def isCast (w : Cond) : Bool := match w with
  | .castable _ _ => true
  | .declares _ => true
  | _ => false
def bxW : List Cond := (vx_atS RX8 182 "java/lang/IndexOutOfBoundsException" exNames).filter (fun w => !goodWord w) ++ ((vx_atS RX8 41 "java/lang/IllegalArgumentException" exNames).filter (fun w => !goodWord w) ++ (vx_atS RX8 58 "java/lang/IllegalStateException" exNames).filter (fun w => !goodWord w))
theorem bxW_k : ∀ w ∈ bxW, isCast w = true := by decide +kernel
theorem vx_ok1 : ∀ w ∈ Cond.classLink RX8 178 "java/lang/IndexOutOfBoundsException" :: Cond.initialized "java/lang/IndexOutOfBoundsException" :: vx_atS RX8 182 "java/lang/IndexOutOfBoundsException" exNames, vx_ot w = true := by decide +kernel
theorem vx_ok2 : ∀ w ∈ Cond.classLink RX8 37 "java/lang/IllegalArgumentException" :: Cond.initialized "java/lang/IllegalArgumentException" :: vx_atS RX8 41 "java/lang/IllegalArgumentException" exNames, vx_ot w = true := by decide +kernel
theorem vx_ok3 : ∀ w ∈ Cond.classLink RX8 54 "java/lang/IllegalStateException" :: Cond.initialized "java/lang/IllegalStateException" :: vx_atS RX8 58 "java/lang/IllegalStateException" exNames, vx_ot w = true := by decide +kernel
theorem bx_moved {w : Cond} {s U : State} (hk : isCast w = true) (hW : s.vm.Alike U.vm) (h : va_Nw w s) : va_Nw w U := by
  cases w with
  | declares x => exact va_tabs rfl (rfl : (s.setVm U.vm).vm = U.vm) (by rw [Cond.declares_setVm hW]; exact h)
  | castable x y => exact va_tabs rfl (rfl : (s.setVm U.vm).vm = U.vm) (by rw [Cond.castable_setVm hW]; exact h)
  | _ => simp [isCast] at hk
def EX (A : Nat → Prop) (U : State) : Prop := vx_Zq Bundle.tN "UNASSIGNED_STACK" Bundle.steD A U U.heap ∧ vx_Zq Bundle.tN "SUPPRESSED_SENTINEL" Bundle.listD A U U.heap ∧ (∀ w ∈ bxW, va_Nw w U) ∧ ∀ q ∈ strsX8, ∃ a, vk_R RX8 q.1 q.2 a U
theorem EX.same {A : Nat → Prop} {u U : State} (hv : U.vm = u.vm) (hh : U.heap = u.heap) (h : EX A u) : EX A U := by
  obtain ⟨h1, h2, h3, h4⟩ := h
  have ha : u.vm.Alike U.vm := by rw [hv]; exact Vm.Alike.refl u.vm
  refine ⟨by rw [hh]; exact h1.moved ha, by rw [hh]; exact h2.moved ha, fun w hw => bx_moved (bxW_k w hw) ha (h3 w hw), fun q hq => ?_⟩
  obtain ⟨a, k⟩ := h4 q hq
  exact ⟨a, k.same hv⟩
theorem EX.warm {A A2 : Nat → Prop} {s U : State} (hW : s.WarmedH U.vm) (hq : ∀ a : Nat, a < s.heap.size → ¬ A a → U.heap[a]? = s.heap[a]?) (hA : ∀ q, A2 q → A q) (h : EX A s) : EX A2 U := by
  obtain ⟨h1, h2, h3, h4⟩ := h
  refine ⟨((h1.moved hW.alike).kept hq).narrow hA, ((h2.moved hW.alike).kept hq).narrow hA, fun w hw => bx_moved (bxW_k w hw) hW.alike (h3 w hw), fun q hq => ?_⟩
  obtain ⟨a, k⟩ := h4 q hq
  exact ⟨a, k.warm hW⟩
def PrX (D : va_G) (tys : List (ClassId × FieldType)) (sz : Nat) (ws : va_W) (U : State) : Prop := PrW D tys sz ws U ∧ EX (va_A ws sz) U
theorem prx_blind {D : va_G} {tys : List (ClassId × FieldType)} {sz : Nat} {ws : va_W} {as : List Value} : FrameBlind (va_Pc as (PrX D tys sz ws)) := fun a U g mk q => by
  obtain ⟨q0, ⟨q1, qP, qK, qD⟩, qE⟩ := q
  exact ⟨q0, ⟨q1, qP, va_K.moved (u := U) (U := U.calling g mk a) (Vm.Alike.refl U.vm) qK, qD⟩, EX.same (u := U) (U := U.calling g mk a) rfl rfl qE⟩
def CXi (l : Launch) (y : MethodName) (w : List Cond) (d mc : Nat) (D : va_G) (tys : List (ClassId × FieldType)) (as : List Value) (ws : va_W) (th : Nat) (r : Int32) (ws2 : va_W) : Prop :=
  l.stackTraces = false → ∀ sz : Nat, vx_Met l y w (rmd d mc (6 * mc)) (va_Pc as (PrX D tys sz ws)) (va_Qi (fun x (_ : Unit) => th = 0 ∧ x = r) (fun _ t => AtW D tys (va_A ws sz) ws2 t) (va_A ws sz)) (vx_X (fun _ : Unit => ¬ th = 0) (fun E _ t => E = exn th ∧ AtW D tys (va_A ws sz) ws t) (va_A ws sz)) mc (6 * mc) (va_A ws sz)
def CXv (l : Launch) (y : MethodName) (w : List Cond) (d mc : Nat) (D : va_G) (tys : List (ClassId × FieldType)) (as : List Value) (ws : va_W) (th : Nat) (ws2 : va_W) : Prop :=
  l.stackTraces = false → ∀ sz : Nat, vx_Met l y w (rmd d mc (6 * mc)) (va_Pc as (PrX D tys sz ws)) (va_Qv (fun (_ : Unit) => th = 0) (fun _ t => AtW D tys (va_A ws sz) ws2 t) (va_A ws sz)) (vx_X (fun _ : Unit => ¬ th = 0) (fun E _ t => E = exn th ∧ AtW D tys (va_A ws sz) ws t) (va_A ws sz)) mc (6 * mc) (va_A ws sz)
def OkE : XT → Prop
  | (_, l, _, _, s, _, _, _, _, _, _, _, A, _, _) => l.stackTraces = false ∧ EX A s
def VX : XT → Nat → Nat → va_W → Nat → List (Nat × Value) → List Value → String → Prop
  | (p, l, e, R, s, m, args, below, meth, c, D, tys, A, Q, n), k, z, ws, pc, lc, st, E => ∀ (ls : Array Slot) (H : Heap) (locs : List Loc) (q : Addr) (ce : Cell), lv_has ls n lc → va_P D vwCl ws H → va_D A ws → va_S A s.heap H locs → H[q]? = some ce → ce.vm = .none → s.vm.findClass E = some ce.cls → vx_W p l e R s m args below meth c H locs k z Q (F0 m pc ls st) q
section XCalls
variable {X : XT} {k z : Nat} {ws : va_W} {pc : Nat} {lc : List (Nat × Value)} {st : List Value} {cc : ByteArray} {own : String} {Ts : List Cond} {d : Nat}
theorem V_xSv (o : OkX X cc own Ts d) (xo : OkE X) {y : MethodName} {w w0 : List Cond} {bytes : ByteArray} {maxL index d2 mc th : Nat} {ret : Option FieldType} {as rest : List Value} {wc : va_W}
    (hM : CXv (XL X) y w d2 mc (XD X) (XK X) as wc th wc) (i len : Nat)
    (hG : GoodIn Ts (va_wsS own index y w)) (hw : w = Cond.code y bytes maxL ret :: w0)
    (hd : y.cls ≠ "java/lang/invoke/MethodHandle" ∧ y.cls ≠ "java/lang/invoke/VarHandle" ∧ (parseMethodDescriptor y.desc).map (fun d => d.parameters.length) = some as.length)
    (hdd : d2 + 1 ≤ d ∧ maxL ≤ 21)
    (hst : st = as.reverse ++ rest) (hcat : (rest.map fun v => v.category).sum ≤ 8) (hk : k + mc ≤ (XR X).cells ∧ z + 6 * mc ≤ (XR X).slots)
    (dg : decode cc pc = .ok (.invokestatic index, 3)) (hws : ws = ws.take i ++ (wc ++ ws.drop (i + len)))
    (kx : ¬ th = 0 → VX X (k + mc) (z + 6 * mc) ws pc lc rest (exn th))
    (kk : th = 0 → V X (k + mc) (z + 6 * mc) ws (pc + 3) lc rest) : V X k z ws pc lc st := by
  obtain ⟨p, l, e', R, s, m, args, below, meth, c, D, tys, A, Q, n⟩ := X
  obtain ⟨hx, hb, hml, hown, hts, hK, hA, hR1, hR2⟩ := o
  obtain ⟨hfl, hE⟩ := xo
  subst hst
  generalize ws.take i = w1 at hws
  generalize ws.drop (i + len) = w2 at hws
  subst hws
  intro ls H locs hl hP hD hS
  have hP' := pw_iff.mp hP
  have hPc : va_P D vwCl wc H := pw_iff.mpr fun q hq => hP' q (List.mem_append_right _ (List.mem_append_left _ hq))
  have hDc : va_D A wc := by
    have h := dw_iff.mp hD
    simp only [List.map_append, List.nodup_append] at h
    exact dw_iff.mpr ⟨h.1.2.1.1, fun q hq => h.2 q (List.mem_append_right _ (List.mem_append_left _ hq))⟩
  have hFc := aw_in hD hS hA
  dsimp only [XR, XL, XD, XK] at hM hk
  have hR1' : d ≤ R.frames := hR1
  have hR2' : 40 * d ≤ R.locals := hR2
  refine vx_callv (vx_runS (As := as) (rest := rest) ⟨hx, hb, hml, hown, hts⟩ (hM hfl H.size) (va_cwS as.length hts hG hw rfl rfl hd ⟨Nat.le_trans hdd.1 hR1', ?_⟩) ⟨prx_blind, fun U hU hW => ⟨rfl, ⟨by rw [hU], by rw [hU]; exact hPc, va_K.moved hW.alike hK, hDc.weaken (fun _ _ _ _ => trivial)⟩, EX.warm hW (fun a h1 h2 => by rw [hU]; exact hS.2.1 a h1 h2) (fun q h => hFc q h) hE⟩⟩ rfl rfl hl.1 rfl (lv_room hcat) dg hk) hS (fun q _ h => hFc q h) hFc (fun q _ h => hFc q h) (fun E ce q9 u t H1 locs1 ht hvm hw1 hB hz1 hk1 hS1 hc1 hc2 hc3 => ?_) (fun u t H1 locs1 ht hvm hw1 hB hz1 hk1 hS1 => ?_)
  · show 8 + (maxL + 11) + 40 * d2 ≤ R.locals
    omega
  · obtain ⟨rfl, hP1, hK1, hD1⟩ := hB
    rw [ht] at hP1
    obtain ⟨hP2, hD2⟩ := splice hP hD hk1 hFc hP1 hD1
    exact kx hw1 ls H1 locs1 q9 ce hl hP2 hD2 hS1 hc1 hc2 hc3
  · obtain ⟨hP1, hK1, hD1⟩ := hB
    rw [ht] at hP1
    obtain ⟨hP2, hD2⟩ := splice hP hD hk1 hFc hP1 hD1
    exact kk hw1 ls H1 locs1 hl hP2 hD2 hS1
theorem V_xVv (o : OkX X cc own Ts d) (xo : OkE X) {C : String} {y : MethodName} {w w0 : List Cond} {bytes : ByteArray} {maxL index d2 mc th b ci N : Nat} {ret : Option FieldType} {as rest fs : List Value} {T : u_T} {wc : va_W}
    (hM : CXv (XL X) y w d2 mc (XD X) (XK X) (.ref b :: as) wc th wc) (i len : Nat)
    (hG : GoodIn Ts (wsV own index C y w)) (hw : w = Cond.code y bytes maxL ret :: w0)
    (hd : y.cls = C ∧ y.cls ≠ "java/lang/invoke/MethodHandle" ∧ y.cls ≠ "java/lang/invoke/VarHandle" ∧ (parseMethodDescriptor y.desc).map (fun d => d.parameters.length) = some as.length)
    (hdd : d2 + 1 ≤ d ∧ maxL ≤ 21) (he : wc[0]? = some (b, .inr (ci, fs))) (hc : vwCl[ci]? = some (C, T, N))
    (hst : st = as.reverse ++ .ref b :: rest) (hcat : (rest.map fun v => v.category).sum ≤ 8) (hk : k + mc ≤ (XR X).cells ∧ z + 6 * mc ≤ (XR X).slots)
    (dg : decode cc pc = .ok (.invokevirtual index, 3)) (hws : ws = ws.take i ++ (wc ++ ws.drop (i + len)))
    (kx : ¬ th = 0 → VX X (k + mc) (z + 6 * mc) ws pc lc rest (exn th))
    (kk : th = 0 → V X (k + mc) (z + 6 * mc) ws (pc + 3) lc rest) : V X k z ws pc lc st := by
  obtain ⟨p, l, e', R, s, m, args, below, meth, c, D, tys, A, Q, n⟩ := X
  obtain ⟨hx, hb, hml, hown, hts, hK, hA, hR1, hR2⟩ := o
  obtain ⟨hfl, hE⟩ := xo
  subst hst
  generalize ws.take i = w1 at hws
  generalize ws.drop (i + len) = w2 at hws
  subst hws
  intro ls H locs hl hP hD hS
  have hP' := pw_iff.mp hP
  have hPc : va_P D vwCl wc H := pw_iff.mpr fun q hq => hP' q (List.mem_append_right _ (List.mem_append_left _ hq))
  have hDc : va_D A wc := by
    have h := dw_iff.mp hD
    simp only [List.map_append, List.nodup_append] at h
    exact dw_iff.mpr ⟨h.1.2.1.1, fun q hq => h.2 q (List.mem_append_right _ (List.mem_append_left _ hq))⟩
  have hFc := aw_in hD hS hA
  dsimp only [XR, XL, XD, XK] at hM hk
  have hR1' : d ≤ R.frames := hR1
  have hR2' : 40 * d ≤ R.locals := hR2
  refine vx_callv (vx_runV (As := as) (rest := rest) ⟨hx, hb, hml, hown, hts⟩ (hM hfl H.size) (cwV as.length hts hG hw rfl rfl hd ⟨Nat.le_trans hdd.1 hR1', ?_⟩) ⟨prx_blind, va_recv hK hPc (ci := ci) (q0 := 0) hc he, fun U hU hW => ⟨rfl, ⟨by rw [hU], by rw [hU]; exact hPc, va_K.moved hW.alike hK, hDc.weaken (fun _ _ _ _ => trivial)⟩, EX.warm hW (fun a h1 h2 => by rw [hU]; exact hS.2.1 a h1 h2) (fun q h => hFc q h) hE⟩⟩ rfl rfl hl.1 rfl (lv_room hcat) dg hk) hS (fun q _ h => hFc q h) hFc (fun q _ h => hFc q h) (fun E ce q9 u t H1 locs1 ht hvm hw1 hB hz1 hk1 hS1 hc1 hc2 hc3 => ?_) (fun u t H1 locs1 ht hvm hw1 hB hz1 hk1 hS1 => ?_)
  · show 8 + (maxL + 11) + 40 * d2 ≤ R.locals
    omega
  · obtain ⟨rfl, hP1, hK1, hD1⟩ := hB
    rw [ht] at hP1
    obtain ⟨hP2, hD2⟩ := splice hP hD hk1 hFc hP1 hD1
    exact kx hw1 ls H1 locs1 q9 ce hl hP2 hD2 hS1 hc1 hc2 hc3
  · obtain ⟨hP1, hK1, hD1⟩ := hB
    rw [ht] at hP1
    obtain ⟨hP2, hD2⟩ := splice hP hD hk1 hFc hP1 hD1
    exact kk hw1 ls H1 locs1 hl hP2 hD2 hS1
end XCalls
/-- what a throw of class k in the class Approvalyard asks of the method's words -/
def ThW (k : Nat) (w : List Cond) : Prop := Cond.classLink RX8 (exIk k) (exn k) ∈ w ∧ Cond.initialized (exn k) ∈ w ∧ ∀ q ∈ (vx_atS RX8 (exIc k) (exn k) exNames).filter goodWord, q ∈ w
theorem bx_in {k : Nat} (hk : k = 1 ∨ k = 2 ∨ k = 3) : ∀ w ∈ (vx_atS RX8 (exIc k) (exn k) exNames).filter (fun w => !goodWord w), w ∈ bxW := by
  intro w hw
  unfold bxW
  rcases hk with rfl | rfl | rfl
  · exact List.mem_append_left _ hw
  · exact List.mem_append_right _ (List.mem_append_left _ hw)
  · exact List.mem_append_right _ (List.mem_append_right _ hw)
theorem bx_ok {k : Nat} (hk : k = 1 ∨ k = 2 ∨ k = 3) : ∀ w ∈ Cond.classLink RX8 (exIk k) (exn k) :: Cond.initialized (exn k) :: vx_atS RX8 (exIc k) (exn k) exNames, vx_ot w = true := by
  rcases hk with rfl | rfl | rfl
  · exact vx_ok1
  · exact vx_ok2
  · exact vx_ok3
theorem ex_fit {k : Nat} (hk : k = 1 ∨ k = 2 ∨ k = 3) : Bundle.fit (exn k) = true := by
  rcases hk with rfl | rfl | rfl <;> decide +kernel
theorem ex_fitN : ∀ n ∈ exNames, Bundle.fit n = true := by decide +kernel
/-- the throw itself, in W -/
theorem W_thr {p : Program} {l : Launch} {e : Env} {R : Room} {s : State} {m : MethodId} {args : Array Value} {below : List Frame} {meth : Method} {c : Code} {H : Heap} {locs : List Loc} {k z mc ms pc i : Nat} {ls : Array Slot} {rest : List Value} {A free : Nat → Prop} {w : List Cond} {cc : ByteArray} {text : String} {is : Nat} {Qc : Array Value → State → Outcome → State → Prop} {XC : String → State → State → Prop}
    (hx : p.tables.exec = Jvm.exec) (hb : c.code = cc) (hl : l.stackTraces = false) (hown : s.vm.findClass RX8 = some m.cls) (hts : ∀ q ∈ w, q.before args s = true) (hE : EX A s) (hS : va_S A s.heap H locs) (hsize : ls.size = c.maxLocals) (hi : i = 1 ∨ i = 2 ∨ i = 3) (hT : ThW i w) (hs : (is, text) ∈ strsX8)
    (d0 : decode cc pc = .ok (.new (exIk i), 3)) (d3 : decode cc (pc + 3) = .ok (.dup, 1)) (d4 : decode cc (pc + 4) = .ok (.ldc is, 2)) (d6 : decode cc (pc + 6) = .ok (.invokespecial (exIc i), 3)) (d9 : decode cc (pc + 9) = .ok (.athrow, 1))
    (hout : ∀ x ∈ c.exceptionTable.toList, False) (hR1 : 6 ≤ R.frames) (hR2 : (rest.map fun v => v.category).sum + 82 ≤ R.locals) (hRc : k + 1 ≤ R.cells) (hRs : z + 6 ≤ R.slots) (hlocks : meth.locks = false)
    (hxc : ∀ t : State, s.vm.Alike t.vm → H.size ≤ t.heap.size → (∀ q : Nat, q < H.size → t.heap[q]? = H[q]?) → XC (exn i) s t)
    (hf : ∀ z ∈ locs, free z.base) (hc : k + 1 ≤ mc) (hz : z + 6 ≤ ms) : W p l e R s m args below meth c H locs k z (vx_MQ below Qc XC args s mc ms free) (F0 m pc ls rest) := by
  obtain ⟨h1, h2, h3, h4⟩ := hE
  obtain ⟨sa, hsa⟩ := h4 _ hs
  exact vx_throwS (names := exNames) (A := A) hx hb hl hown (ex_fit hi) ex_fitN (hts _ hT.1) (hts _ hT.2.1) hsa (vx_hat (fun q hq => hts q (hT.2.2 q hq)) (bx_in hi) (fun q hq => va_tabs (by have := bxW_k q hq; revert this; cases q <;> simp [isCast, Cond.onTables]) rfl (h3 q hq))) (bx_ok hi) h1 h2 hS hsize d0 d3 d4 d6 d9 (fun x hx => absurd (hout x hx) id) (by show 2 + 3 < R.frames; omega) (by show _ + (13 * (2 + 1) + 43) ≤ R.locals; omega) hRc hRs hlocks hxc hf hc hz
theorem CXi_of {l : Launch} {y : MethodName} {w w0 : List Cond} {cc : ByteArray} {maxL d mc th : Nat} {ret : FieldType} {D : va_G} {tys : List (ClassId × FieldType)} {as : List Value} {ws ws2 : va_W} {r : Int32}
    (hy : plainName y.cls = true) (hw : w = Cond.code y cc maxL (some ret) :: w0) (hlen : (lg_sl as).length ≤ maxL) (hy8 : y.cls = RX8) (hd6 : 6 ≤ d)
    (body : ∀ X : XT, XL X = l → XD X = D → XK X = tys → XN X = maxL → (XR X).cells = mc → (XR X).slots = 6 * mc → OkX X cc RX8 w d → OkE X →
      (∀ (pc : Nat) (lc : List (Nat × Value)) (v : Int32), decode cc pc = .ok (.ireturn, 1) → narrow ret (.int v) = .int v → th = 0 → v = r → V X mc (6 * mc) ws2 pc lc [.int v]) →
      (∀ (k z pc : Nat) (lc : List (Nat × Value)) (st : List Value) (E : String), k ≤ mc → z ≤ 6 * mc → ¬ th = 0 → E = exn th → VX X k z ws pc lc st E) →
      (∀ (k z pc i is : Nat) (text : String) (lc : List (Nat × Value)) (st : List Value), k + 1 ≤ mc → z + 6 ≤ 6 * mc → i = th → (i = 1 ∨ i = 2 ∨ i = 3) → ThW i w → (is, text) ∈ strsX8 → decode cc pc = .ok (.new (exIk i), 3) → decode cc (pc + 3) = .ok (.dup, 1) → decode cc (pc + 4) = .ok (.ldc is, 2) → decode cc (pc + 6) = .ok (.invokespecial (exIc i), 3) → decode cc (pc + 9) = .ok (.athrow, 1) → (st.map fun v => v.category).sum ≤ 8 → V X k z ws pc lc st) →
      V X 0 0 ws 0 (lv_args 0 as) []) :
    CXi l y w d mc D tys as ws th r ws2 := by
  intro hfl sz
  refine vx_ofW (cc := cc) (maxL := maxL) (ret := some ret) hy hw ?_
  intro p e s m args below meth c s₁ B hml hex hv
  obtain ⟨rfl, ⟨hsz, hP, hK, hD0⟩, hE⟩ := hv
  subst hsz
  have hlocks : meth.locks = false := B.notSynchronized
  have hx := B.exec
  have hb := B.bytes
  have hr := B.returns
  have hown : s.vm.findClass RX8 = some m.cls := by rw [← hy8]; exact findClass_of_methodNamed B.named
  have hts := atoms_spec (ws := w) B.pre
  rw [lg_entry_eq]
  refine body (p, l, e, (headSpec w (rmd d mc (6 * mc))).room, s, m, _, below, meth, c, D, tys, va_A ws s.heap.size, vx_MQ below (va_Qi (fun x (_ : Unit) => th = 0 ∧ x = r) (fun _ t => AtW D tys (va_A ws s.heap.size) ws2 t) (va_A ws s.heap.size)) (vx_X (fun _ : Unit => ¬ th = 0) (fun E _ t => E = exn th ∧ AtW D tys (va_A ws s.heap.size) ws t) (va_A ws s.heap.size)) _ s mc (6 * mc) (va_A ws s.heap.size), maxL) rfl rfl rfl rfl rfl rfl ⟨hx, hb, hml, hown, hts, hK, fun q h => Or.inr h, Nat.le_refl _, Nat.le_refl _⟩ ⟨hfl, hE⟩ ?_ ?_ ?_ _ s.heap [] (lv_entry as hlen) hP hD0.self va_S.rf
  · intro pc lc v dg hn h0 hp ls H locs hl hP1 hD1 hS
    exact vx_ret (W.zret hx hb hr hn (fun t ht hW => ⟨⟨v, (), rfl, ⟨h0, hp⟩, by rw [ht]; exact hP1, va_K.moved hW.alike hK, hD1⟩, hS.F ht⟩) hS.2.2 dg)
  · intro k z pc lc st E h1 h2 h3 h4 ls H locs q ce hl hP1 hD1 hS hc1 hc2 hc3
    exact vx_out (fun x hx => absurd (hex x hx) id) hlocks hc1 hc2 hc3 (fun t ht hW => ⟨(), h3, ⟨h4, by rw [ht]; exact hP1, va_K.moved hW hK, hD1⟩, hS.F ht⟩) hS.2.2 h1 h2
  · intro k z pc i is text lc st h1 h2 h3 hi hT hs d0 d3 d4 d6 d9 hst ls H locs hl hP1 hD1 hS
    have hth : ¬ th = 0 := by rcases hi with q | q | q <;> omega
    refine W_thr hx hb hfl hown hts hE hS (hl.1.trans hml.symm) hi hT hs d0 d3 d4 d6 d9 hex hd6 ?_ h1 h2 hlocks (fun t hW hz hq => ⟨(), hth, ⟨by rw [h3], hP1.kept (fun j q hj => hq _ (hP1 j q hj).lt), va_K.moved hW hK, hD1⟩, Nat.le_trans hS.1 hz, fun q g1 g2 => (hq q (Nat.lt_of_lt_of_le g1 hS.1)).trans (hS.2.1 q g1 g2)⟩) hS.2.2 h1 h2
    show _ ≤ 40 * d
    omega
theorem CXv_of {l : Launch} {y : MethodName} {w w0 : List Cond} {cc : ByteArray} {maxL d mc th : Nat} {D : va_G} {tys : List (ClassId × FieldType)} {as : List Value} {ws ws2 : va_W}
    (hy : plainName y.cls = true) (hw : w = Cond.code y cc maxL none :: w0) (hlen : (lg_sl as).length ≤ maxL) (hy8 : y.cls = RX8) (hd6 : 6 ≤ d)
    (body : ∀ X : XT, XL X = l → XD X = D → XK X = tys → XN X = maxL → (XR X).cells = mc → (XR X).slots = 6 * mc → OkX X cc RX8 w d → OkE X →
      (∀ (pc : Nat) (lc : List (Nat × Value)), decode cc pc = .ok (.return_, 1) → th = 0 → V X mc (6 * mc) ws2 pc lc []) →
      (∀ (k z pc : Nat) (lc : List (Nat × Value)) (st : List Value) (E : String), k ≤ mc → z ≤ 6 * mc → ¬ th = 0 → E = exn th → VX X k z ws pc lc st E) →
      (∀ (k z pc i is : Nat) (text : String) (lc : List (Nat × Value)) (st : List Value), k + 1 ≤ mc → z + 6 ≤ 6 * mc → i = th → (i = 1 ∨ i = 2 ∨ i = 3) → ThW i w → (is, text) ∈ strsX8 → decode cc pc = .ok (.new (exIk i), 3) → decode cc (pc + 3) = .ok (.dup, 1) → decode cc (pc + 4) = .ok (.ldc is, 2) → decode cc (pc + 6) = .ok (.invokespecial (exIc i), 3) → decode cc (pc + 9) = .ok (.athrow, 1) → (st.map fun v => v.category).sum ≤ 8 → V X k z ws pc lc st) →
      V X 0 0 ws 0 (lv_args 0 as) []) :
    CXv l y w d mc D tys as ws th ws2 := by
  intro hfl sz
  refine vx_ofW (cc := cc) (maxL := maxL) (ret := none) hy hw ?_
  intro p e s m args below meth c s₁ B hml hex hv
  obtain ⟨rfl, ⟨hsz, hP, hK, hD0⟩, hE⟩ := hv
  subst hsz
  have hlocks : meth.locks = false := B.notSynchronized
  have hx := B.exec
  have hb := B.bytes
  have hr := B.returns
  have hown : s.vm.findClass RX8 = some m.cls := by rw [← hy8]; exact findClass_of_methodNamed B.named
  have hts := atoms_spec (ws := w) B.pre
  rw [lg_entry_eq]
  refine body (p, l, e, (headSpec w (rmd d mc (6 * mc))).room, s, m, _, below, meth, c, D, tys, va_A ws s.heap.size, vx_MQ below (va_Qv (fun (_ : Unit) => th = 0) (fun _ t => AtW D tys (va_A ws s.heap.size) ws2 t) (va_A ws s.heap.size)) (vx_X (fun _ : Unit => ¬ th = 0) (fun E _ t => E = exn th ∧ AtW D tys (va_A ws s.heap.size) ws t) (va_A ws s.heap.size)) _ s mc (6 * mc) (va_A ws s.heap.size), maxL) rfl rfl rfl rfl rfl rfl ⟨hx, hb, hml, hown, hts, hK, fun q h => Or.inr h, Nat.le_refl _, Nat.le_refl _⟩ ⟨hfl, hE⟩ ?_ ?_ ?_ _ s.heap [] (lv_entry as hlen) hP hD0.self va_S.rf
  · intro pc lc dg h0 ls H locs hl hP1 hD1 hS
    exact vx_ret (W.vret hx hb hr (fun t ht hW => ⟨⟨(), rfl, h0, by rw [ht]; exact hP1, va_K.moved hW.alike hK, hD1⟩, hS.F ht⟩) hS.2.2 dg)
  · intro k z pc lc st E h1 h2 h3 h4 ls H locs q ce hl hP1 hD1 hS hc1 hc2 hc3
    exact vx_out (fun x hx => absurd (hex x hx) id) hlocks hc1 hc2 hc3 (fun t ht hW => ⟨(), h3, ⟨h4, by rw [ht]; exact hP1, va_K.moved hW hK, hD1⟩, hS.F ht⟩) hS.2.2 h1 h2
  · intro k z pc i is text lc st h1 h2 h3 hi hT hs d0 d3 d4 d6 d9 hst ls H locs hl hP1 hD1 hS
    have hth : ¬ th = 0 := by rcases hi with q | q | q <;> omega
    refine W_thr hx hb hfl hown hts hE hS (hl.1.trans hml.symm) hi hT hs d0 d3 d4 d6 d9 hex hd6 ?_ h1 h2 hlocks (fun t hW hz hq => ⟨(), hth, ⟨by rw [h3], hP1.kept (fun j q hj => hq _ (hP1 j q hj).lt), va_K.moved hW hK, hD1⟩, Nat.le_trans hS.1 hz, fun q g1 g2 => (hq q (Nat.lt_of_lt_of_le g1 hS.1)).trans (hS.2.1 q g1 g2)⟩) hS.2.2 h1 h2
    show _ ≤ 40 * d
    omega
