/-! The judgement V: a walk with its locals and its world in plain sight; contracts CI, CV over it. -/
def lcAt : List (Nat × Value) → Nat → Option Value
  | [], _ => none
  | q :: t, i => bif Nat.beq q.1 i then some q.2 else lcAt t i
theorem lcAt_mem : ∀ {lc : List (Nat × Value)} {i : Nat} {v : Value}, lcAt lc i = some v → (i, v) ∈ lc
  | [], _, _, h => by cases h
  | q :: t, i, v, h => by
    unfold lcAt at h
    cases hb : Nat.beq q.1 i with
    | true =>
      rw [hb] at h
      have e1 : q.1 = i := Nat.eq_of_beq_eq_true hb
      have e2 : q.2 = v := by simpa using h
      subst e1; subst e2
      exact List.mem_cons_self
    | false =>
      rw [hb] at h
      exact List.mem_cons_of_mem _ (lcAt_mem (by simpa using h))
theorem lcAt_spec {ls : Array Slot} {n i : Nat} {lc : List (Nat × Value)} {v : Value} (h : lv_has ls n lc) (e : lcAt lc i = some v) : ls[i]? = some (.val v) := h.2.2 (i, v) (lcAt_mem e)
def lcSet (lc : List (Nat × Value)) (i : Nat) (v : Value) : List (Nat × Value) := (i, v) :: lc.filter (fun q => !(q.1 == i) && !(q.1 + 1 == i && q.2.category == 2))
def lcOk (lc : List (Nat × Value)) : List (Nat × Value) → Prop
  | [] => True
  | q :: t => lcAt lc q.1 = some q.2 ∧ lcOk lc t
theorem lcOk_has {ls : Array Slot} {n : Nat} {lc lc2 : List (Nat × Value)} (h : lv_has ls n lc) (k : lcOk lc lc2) : lv_has ls n lc2 := by
  refine ⟨h.1, h.2.1, ?_⟩
  induction lc2 with
  | nil => intro q hq; cases hq
  | cons a t ih =>
    intro q hq
    rcases List.mem_cons.mp hq with rfl | hq
    · exact lcAt_spec h k.1
    · exact ih k.2 q hq
abbrev XT : Type := Program × Launch × Env × Room × State × MethodId × Array Value × List Frame × Method × Code × va_G × List (ClassId × FieldType) × (Nat → Prop) × (State → Prop) × Nat
abbrev XL (X : XT) : Launch := X.2.1
abbrev XR (X : XT) : Room := X.2.2.2.1
abbrev XD (X : XT) : va_G := X.2.2.2.2.2.2.2.2.2.2.1
abbrev XK (X : XT) : List (ClassId × FieldType) := X.2.2.2.2.2.2.2.2.2.2.2.1
abbrev XN (X : XT) : Nat := X.2.2.2.2.2.2.2.2.2.2.2.2.2.2
def V : XT → Nat → Nat → va_W → Nat → List (Nat × Value) → List Value → Prop
  | (p, l, e, R, s, m, args, below, meth, c, D, tys, A, Q, n), k, z, ws, pc, lc, st => ∀ (ls : Array Slot) (H : Heap) (locs : List Loc), lv_has ls n lc → va_P D vwCl ws H → va_D A ws → va_S A s.heap H locs → W p l e R s m args below meth c H locs k z Q (F0 m pc ls st)
def OkX : XT → ByteArray → String → List Cond → Nat → Prop
  | (p, _, _, R, s, m, args, _, _, c, D, tys, A, _, n), cc, own, Ts, d => p.tables.exec = Jvm.exec ∧ c.code = cc ∧ c.maxLocals = n ∧ s.vm.findClass own = some m.cls ∧ (∀ w ∈ Ts, w.before args s = true) ∧ va_K D vwCl tys s ∧ (∀ q : Nat, s.heap.size ≤ q → A q) ∧ d ≤ R.frames ∧ 40 * d ≤ R.locals
section Rows
variable {X : XT} {k z : Nat} {ws : va_W} {pc : Nat} {lc : List (Nat × Value)} {st : List Value} {cc : ByteArray} {own : String} {Ts : List Cond} {d : Nat}
theorem V_go {pc2 : Nat} {st2 : List Value} (o : OkX X cc own Ts d)
    (h : ∀ p l e R s m args below meth c H locs k z Q (ls : Array Slot) n, p.tables.exec = Jvm.exec → c.code = cc → lv_has ls n lc → W p l e R s m args below meth c H locs k z Q (F0 m pc2 ls st2) → W p l e R s m args below meth c H locs k z Q (F0 m pc ls st))
    (kk : V X k z ws pc2 lc st2) : V X k z ws pc lc st := by
  obtain ⟨p, l, e, R, s, m, args, below, meth, c, D, tys, A, Q, n⟩ := X
  obtain ⟨hx, hb, -⟩ := o
  intro ls H locs hl hP hD hS
  exact h _ _ _ _ _ _ _ _ _ _ _ _ _ _ _ _ _ hx hb hl (kk ls H locs hl hP hD hS)
theorem V_sub {lc2 : List (Nat × Value)} (h : lcOk lc lc2) (kk : V X k z ws pc lc2 st) : V X k z ws pc lc st := by
  obtain ⟨p, l, e, R, s, m, args, below, meth, c, D, tys, A, Q, n⟩ := X
  intro ls H locs hl hP hD hS
  exact kk ls H locs (lcOk_has hl h) hP hD hS
theorem V_perm {ws2 : va_W} (h : ws.Perm ws2) (kk : V X k z ws2 pc lc st) : V X k z ws pc lc st := by
  obtain ⟨p, l, e, R, s, m, args, below, meth, c, D, tys, A, Q, n⟩ := X
  intro ls H locs hl hP hD hS
  have nd : (ws.map Prod.fst).Nodup := by
    rw [List.nodup_iff_pairwise_ne, List.pairwise_iff_getElem]
    intro i j hi hj hij he
    simp only [List.length_map] at hi hj
    simp only [List.getElem_map] at he
    exact absurd (hD.1 i j _ _ (List.getElem?_eq_getElem hi) (List.getElem?_eq_getElem hj) he) (by omega)
  have nd2 : (ws2.map Prod.fst).Nodup := (h.map Prod.fst).nodup_iff.mp nd
  refine kk ls H locs hl (fun i q hq => ?_) ⟨fun i j a b hi hj hab => ?_, fun i q hq => ?_⟩ hS
  · obtain ⟨j, hj⟩ := List.getElem?_of_mem (h.mem_iff.mpr (List.mem_of_getElem? hq))
    exact hP j q hj
  · rcases Nat.lt_trichotomy i j with q | q | q
    · obtain ⟨h1, e1⟩ := List.getElem?_eq_some_iff.mp hi
      obtain ⟨h2, e2⟩ := List.getElem?_eq_some_iff.mp hj
      have := List.pairwise_iff_getElem.mp (List.nodup_iff_pairwise_ne.mp nd2) i j (by simpa using h1) (by simpa using h2) q
      simp only [List.getElem_map] at this
      rw [e1, e2] at this
      exact absurd hab this
    · exact q
    · obtain ⟨h1, e1⟩ := List.getElem?_eq_some_iff.mp hi
      obtain ⟨h2, e2⟩ := List.getElem?_eq_some_iff.mp hj
      have := List.pairwise_iff_getElem.mp (List.nodup_iff_pairwise_ne.mp nd2) j i (by simpa using h2) (by simpa using h1) q
      simp only [List.getElem_map] at this
      rw [e1, e2] at this
      exact absurd hab.symm this
  · obtain ⟨j, hj⟩ := List.getElem?_of_mem (h.mem_iff.mpr (List.mem_of_getElem? hq))
    exact hD.2 j q hj
theorem V_widen {k2 z2 : Nat} (h1 : k ≤ k2) (h2 : z ≤ z2) (kk : V X k2 z2 ws pc lc st) : V X k z ws pc lc st := by
  obtain ⟨p, l, e, R, s, m, args, below, meth, c, D, tys, A, Q, n⟩ := X
  intro ls H locs hl hP hD hS
  exact W.widen h1 h2 (kk ls H locs hl hP hD hS)
/-- loads, constants -/
theorem V_iload (o : OkX X cc own Ts d) {i : Nat} {x : Int32} (dg : decode cc pc = .ok (.iload i, 2)) (e : lcAt lc i = some (.int x)) (kk : V X k z ws (pc + 2) lc (.int x :: st)) : V X k z ws pc lc st :=
  V_go o (fun _ _ _ _ _ _ _ _ _ _ _ _ _ _ _ _ _ hx hb hl K => lv_iload hx hb dg (lcAt_spec hl e) K) kk
theorem V_iload_n (o : OkX X cc own Ts d) {i : Fin 4} {x : Int32} (dg : decode cc pc = .ok (.iload_n i, 1)) (e : lcAt lc i.val = some (.int x)) (kk : V X k z ws (pc + 1) lc (.int x :: st)) : V X k z ws pc lc st :=
  V_go o (fun _ _ _ _ _ _ _ _ _ _ _ _ _ _ _ _ _ hx hb hl K => lv_iload_n hx hb dg rfl (lcAt_spec hl e) K) kk
theorem V_aload (o : OkX X cc own Ts d) {i : Nat} {x : Nat} (dg : decode cc pc = .ok (.aload i, 2)) (e : lcAt lc i = some (.ref x)) (kk : V X k z ws (pc + 2) lc (.ref x :: st)) : V X k z ws pc lc st :=
  V_go o (fun _ _ _ _ _ _ _ _ _ _ _ _ _ _ _ _ _ hx hb hl K => lv_aload hx hb dg (lcAt_spec hl e) K) kk
theorem V_aload_n (o : OkX X cc own Ts d) {i : Fin 4} {x : Nat} (dg : decode cc pc = .ok (.aload_n i, 1)) (e : lcAt lc i.val = some (.ref x)) (kk : V X k z ws (pc + 1) lc (.ref x :: st)) : V X k z ws pc lc st :=
  V_go o (fun _ _ _ _ _ _ _ _ _ _ _ _ _ _ _ _ _ hx hb hl K => lv_aload_n hx hb dg rfl (lcAt_spec hl e) K) kk
theorem V_iconst (o : OkX X cc own Ts d) {n : Int} (v : Int32) (dg : decode cc pc = .ok (.iconst n, 1)) (e : Int32.ofInt n = v) (kk : V X k z ws (pc + 1) lc (.int v :: st)) : V X k z ws pc lc st :=
  V_go o (fun _ _ _ _ _ _ _ _ _ _ _ _ _ _ _ _ _ hx hb _ K => lv_iconst hx hb dg e K) kk
theorem V_bipush (o : OkX X cc own Ts d) {n : Int} (v : Int32) (dg : decode cc pc = .ok (.bipush n, 2)) (e : (Int8.ofInt n).toInt32 = v) (kk : V X k z ws (pc + 2) lc (.int v :: st)) : V X k z ws pc lc st :=
  V_go o (fun _ _ _ _ _ _ _ _ _ _ _ _ _ _ _ _ _ hx hb _ K => lv_bipush hx hb dg e K) kk
theorem V_sipush (o : OkX X cc own Ts d) {n : Int} (v : Int32) (dg : decode cc pc = .ok (.sipush n, 3)) (e : (Int16.ofInt n).toInt32 = v) (kk : V X k z ws (pc + 3) lc (.int v :: st)) : V X k z ws pc lc st :=
  V_go o (fun _ _ _ _ _ _ _ _ _ _ _ _ _ _ _ _ _ hx hb _ K => lv_sipush hx hb dg e K) kk
theorem V_iadd (o : OkX X cc own Ts d) {x y : Int32} (dg : decode cc pc = .ok (.iadd, 1)) (kk : V X k z ws (pc + 1) lc (.int (x + y) :: st)) : V X k z ws pc lc (.int y :: .int x :: st) :=
  V_go o (fun _ _ _ _ _ _ _ _ _ _ _ _ _ _ _ _ _ hx hb _ K => lv_iadd hx hb dg K) kk
theorem V_isub (o : OkX X cc own Ts d) {x y : Int32} (dg : decode cc pc = .ok (.isub, 1)) (kk : V X k z ws (pc + 1) lc (.int (x - y) :: st)) : V X k z ws pc lc (.int y :: .int x :: st) :=
  V_go o (fun _ _ _ _ _ _ _ _ _ _ _ _ _ _ _ _ _ hx hb _ K => lv_isub hx hb dg K) kk
theorem V_imul (o : OkX X cc own Ts d) {x y : Int32} (dg : decode cc pc = .ok (.imul, 1)) (kk : V X k z ws (pc + 1) lc (.int (x * y) :: st)) : V X k z ws pc lc (.int y :: .int x :: st) :=
  V_go o (fun _ _ _ _ _ _ _ _ _ _ _ _ _ _ _ _ _ hx hb _ K => lv_imul hx hb dg K) kk
theorem V_ishl (o : OkX X cc own Ts d) {x y : Int32} (dg : decode cc pc = .ok (.ishl, 1)) (kk : V X k z ws (pc + 1) lc (.int (x <<< (y &&& 31)) :: st)) : V X k z ws pc lc (.int y :: .int x :: st) :=
  V_go o (fun _ _ _ _ _ _ _ _ _ _ _ _ _ _ _ _ _ hx hb _ K => lv_ishl hx hb dg K) kk
theorem V_ishr (o : OkX X cc own Ts d) {x y : Int32} (dg : decode cc pc = .ok (.ishr, 1)) (kk : V X k z ws (pc + 1) lc (.int (x >>> (y &&& 31)) :: st)) : V X k z ws pc lc (.int y :: .int x :: st) :=
  V_go o (fun _ _ _ _ _ _ _ _ _ _ _ _ _ _ _ _ _ hx hb _ K => lv_ishr hx hb dg K) kk
theorem V_iand (o : OkX X cc own Ts d) {x y : Int32} (dg : decode cc pc = .ok (.iand, 1)) (kk : V X k z ws (pc + 1) lc (.int (x &&& y) :: st)) : V X k z ws pc lc (.int y :: .int x :: st) :=
  V_go o (fun _ _ _ _ _ _ _ _ _ _ _ _ _ _ _ _ _ hx hb _ K => lv_iand hx hb dg K) kk
theorem V_ior (o : OkX X cc own Ts d) {x y : Int32} (dg : decode cc pc = .ok (.ior, 1)) (kk : V X k z ws (pc + 1) lc (.int (x ||| y) :: st)) : V X k z ws pc lc (.int y :: .int x :: st) :=
  V_go o (fun _ _ _ _ _ _ _ _ _ _ _ _ _ _ _ _ _ hx hb _ K => lv_ior hx hb dg K) kk
theorem V_i2f (o : OkX X cc own Ts d) {x : Int32} (dg : decode cc pc = .ok (.i2f, 1)) (kk : V X k z ws (pc + 1) lc (.float (FP.i2f x) :: st)) : V X k z ws pc lc (.int x :: st) :=
  V_go o (fun _ _ _ _ _ _ _ _ _ _ _ _ _ _ _ _ _ hx hb _ K => lv_i2f hx hb dg K) kk
theorem V_i2l (o : OkX X cc own Ts d) {x : Int32} (dg : decode cc pc = .ok (.i2l, 1)) (kk : V X k z ws (pc + 1) lc (.long x.toInt64 :: st)) : V X k z ws pc lc (.int x :: st) :=
  V_go o (fun _ _ _ _ _ _ _ _ _ _ _ _ _ _ _ _ _ hx hb _ K => lv_i2l hx hb dg rfl K) kk
theorem V_dup (o : OkX X cc own Ts d) {v : Value} (hv : v.category = 1) (dg : decode cc pc = .ok (.dup, 1)) (kk : V X k z ws (pc + 1) lc (v :: v :: st)) : V X k z ws pc lc (v :: st) :=
  V_go o (fun _ _ _ _ _ _ _ _ _ _ _ _ _ _ _ _ _ hx hb _ K => lv_dup hx hb dg hv K) kk
theorem V_pop (o : OkX X cc own Ts d) {v : Value} (hv : v.category = 1) (dg : decode cc pc = .ok (.pop, 1)) (kk : V X k z ws (pc + 1) lc st) : V X k z ws pc lc (v :: st) :=
  V_go o (fun _ _ _ _ _ _ _ _ _ _ _ _ _ _ _ _ _ hx hb _ K => lv_pop hx hb dg hv K) kk
theorem V_goto (o : OkX X cc own Ts d) {off : Int} (tgt : Nat) (dg : decode cc pc = .ok (.goto off, 3)) (ht : (pc : Int) + off = (tgt : Int)) (kk : V X k z ws tgt lc st) : V X k z ws pc lc st :=
  V_go o (fun _ _ _ _ _ _ _ _ _ _ _ _ _ _ _ _ _ hx hb _ K => lv_goto hx hb dg ht K) kk
theorem V_store {len : Nat} {v : Value} {i : Nat} (o : OkX X cc own Ts d) (hn : i < XN X)
    (h : ∀ p l e R s m args below meth c H locs k z Q (ls : Array Slot) n, p.tables.exec = Jvm.exec → c.code = cc → lv_has ls n lc → i < n → (∀ ls' : Array Slot, lv_has ls' n (lcSet lc i v) → W p l e R s m args below meth c H locs k z Q (F0 m (pc + len) ls' st)) → W p l e R s m args below meth c H locs k z Q (F0 m pc ls (v :: st)))
    (kk : V X k z ws (pc + len) (lcSet lc i v) st) : V X k z ws pc lc (v :: st) := by
  obtain ⟨p, l, e, R, s, m, args, below, meth, c, D, tys, A, Q, n⟩ := X
  obtain ⟨hx, hb, -⟩ := o
  intro ls H locs hl hP hD hS
  exact h _ _ _ _ _ _ _ _ _ _ _ _ _ _ _ _ _ hx hb hl hn (fun ls' hl' => kk ls' H locs hl' hP hD hS)
theorem V_istore (o : OkX X cc own Ts d) {i : Nat} {x : Int32} (dg : decode cc pc = .ok (.istore i, 2)) (hn : i < XN X) (kk : V X k z ws (pc + 2) (lcSet lc i (.int x)) st) : V X k z ws pc lc (.int x :: st) :=
  V_store o hn (fun _ _ _ _ _ _ _ _ _ _ _ _ _ _ _ _ _ hx hb hl hn K => lv_istore hx hb dg hl hn rfl K) kk
theorem V_istore_n (o : OkX X cc own Ts d) {i : Fin 4} {x : Int32} (dg : decode cc pc = .ok (.istore_n i, 1)) (hn : i.val < XN X) (kk : V X k z ws (pc + 1) (lcSet lc i.val (.int x)) st) : V X k z ws pc lc (.int x :: st) :=
  V_store o hn (fun _ _ _ _ _ _ _ _ _ _ _ _ _ _ _ _ _ hx hb hl hn K => lv_istore_n hx hb dg rfl hl hn rfl K) kk
theorem V_astore (o : OkX X cc own Ts d) {i : Nat} {x : Nat} (dg : decode cc pc = .ok (.astore i, 2)) (hn : i < XN X) (kk : V X k z ws (pc + 2) (lcSet lc i (.ref x)) st) : V X k z ws pc lc (.ref x :: st) :=
  V_store o hn (fun _ _ _ _ _ _ _ _ _ _ _ _ _ _ _ _ _ hx hb hl hn K => lv_astore hx hb dg hl hn rfl K) kk
theorem V_astore_n (o : OkX X cc own Ts d) {i : Fin 4} {x : Nat} (dg : decode cc pc = .ok (.astore_n i, 1)) (hn : i.val < XN X) (kk : V X k z ws (pc + 1) (lcSet lc i.val (.ref x)) st) : V X k z ws pc lc (.ref x :: st) :=
  V_store o hn (fun _ _ _ _ _ _ _ _ _ _ _ _ _ _ _ _ _ hx hb hl hn K => lv_astore_n hx hb dg rfl hl hn rfl K) kk
theorem V_iinc (o : OkX X cc own Ts d) {i : Nat} {n : Int} {x : Int32} (y : Int32) (dg : decode cc pc = .ok (.iinc i n, 3)) (hn : i < XN X) (e : lcAt lc i = some (.int x)) (hy : Int32.ofInt n = y) (kk : V X k z ws (pc + 3) (lcSet lc i (.int (x + y))) st) : V X k z ws pc lc st := by
  obtain ⟨p, l, e', R, s, m, args, below, meth, c, D, tys, A, Q, n⟩ := X
  obtain ⟨hx, hb, -⟩ := o
  intro ls H locs hl hP hD hS
  obtain ⟨j, hj⟩ := List.getElem?_of_mem (lcAt_mem e)
  exact lv_iinc hx hb dg hl hj (by rw [hy]) hn rfl (fun ls' hl' => kk ls' H locs hl' hP hD hS)
theorem V_br {pc2 : Nat} {st2 : List Value} {c0 : Prop} (o : OkX X cc own Ts d)
    (h : ∀ p l e R s m args below meth c H locs k z Q (ls : Array Slot), p.tables.exec = Jvm.exec → c.code = cc → (c0 → W p l e R s m args below meth c H locs k z Q (F0 m pc2 ls st2)) → (¬ c0 → W p l e R s m args below meth c H locs k z Q (F0 m (pc + 3) ls st2)) → W p l e R s m args below meth c H locs k z Q (F0 m pc ls st))
    (kt : c0 → V X k z ws pc2 lc st2) (kf : ¬ c0 → V X k z ws (pc + 3) lc st2) : V X k z ws pc lc st := by
  obtain ⟨p, l, e, R, s, m, args, below, meth, c, D, tys, A, Q, n⟩ := X
  obtain ⟨hx, hb, -⟩ := o
  intro ls H locs hl hP hD hS
  exact h _ _ _ _ _ _ _ _ _ _ _ _ _ _ _ _ hx hb (fun q => kt q ls H locs hl hP hD hS) (fun q => kf q ls H locs hl hP hD hS)
theorem V_icmp_ge (o : OkX X cc own Ts d) {x y : Int32} {off : Int} (tgt : Nat) (dg : decode cc pc = .ok (.if_icmp .ge off, 3)) (ht : (pc : Int) + off = (tgt : Int)) (kt : y ≤ x → V X k z ws tgt lc st) (kf : ¬ y ≤ x → V X k z ws (pc + 3) lc st) : V X k z ws pc lc (.int y :: .int x :: st) :=
  V_br o (fun _ _ _ _ _ _ _ _ _ _ _ _ _ _ _ _ hx hb a b => lv_icmp_ge hx hb dg ht a b) kt kf
theorem V_icmp_lt (o : OkX X cc own Ts d) {x y : Int32} {off : Int} (tgt : Nat) (dg : decode cc pc = .ok (.if_icmp .lt off, 3)) (ht : (pc : Int) + off = (tgt : Int)) (kt : x < y → V X k z ws tgt lc st) (kf : ¬ x < y → V X k z ws (pc + 3) lc st) : V X k z ws pc lc (.int y :: .int x :: st) :=
  V_br o (fun _ _ _ _ _ _ _ _ _ _ _ _ _ _ _ _ hx hb a b => lv_icmp_lt hx hb dg ht a b) kt kf
theorem V_icmp_gt (o : OkX X cc own Ts d) {x y : Int32} {off : Int} (tgt : Nat) (dg : decode cc pc = .ok (.if_icmp .gt off, 3)) (ht : (pc : Int) + off = (tgt : Int)) (kt : y < x → V X k z ws tgt lc st) (kf : ¬ y < x → V X k z ws (pc + 3) lc st) : V X k z ws pc lc (.int y :: .int x :: st) :=
  V_br o (fun _ _ _ _ _ _ _ _ _ _ _ _ _ _ _ _ hx hb a b => lv_icmp_gt hx hb dg ht a b) kt kf
theorem V_icmp_le (o : OkX X cc own Ts d) {x y : Int32} {off : Int} (tgt : Nat) (dg : decode cc pc = .ok (.if_icmp .le off, 3)) (ht : (pc : Int) + off = (tgt : Int)) (kt : x ≤ y → V X k z ws tgt lc st) (kf : ¬ x ≤ y → V X k z ws (pc + 3) lc st) : V X k z ws pc lc (.int y :: .int x :: st) :=
  V_br o (fun _ _ _ _ _ _ _ _ _ _ _ _ _ _ _ _ hx hb a b => lv_icmp_le hx hb dg ht a b) kt kf
theorem V_icmp_eq (o : OkX X cc own Ts d) {x y : Int32} {off : Int} (tgt : Nat) (dg : decode cc pc = .ok (.if_icmp .eq off, 3)) (ht : (pc : Int) + off = (tgt : Int)) (kt : x = y → V X k z ws tgt lc st) (kf : ¬ x = y → V X k z ws (pc + 3) lc st) : V X k z ws pc lc (.int y :: .int x :: st) :=
  V_br o (fun _ _ _ _ _ _ _ _ _ _ _ _ _ _ _ _ hx hb a b => lv_icmp_eq hx hb dg ht a b) kt kf
theorem V_icmp_ne (o : OkX X cc own Ts d) {x y : Int32} {off : Int} (tgt : Nat) (dg : decode cc pc = .ok (.if_icmp .ne off, 3)) (ht : (pc : Int) + off = (tgt : Int)) (kt : ¬ x = y → V X k z ws tgt lc st) (kf : x = y → V X k z ws (pc + 3) lc st) : V X k z ws pc lc (.int y :: .int x :: st) :=
  V_br o (fun _ _ _ _ _ _ _ _ _ _ _ _ _ _ _ _ hx hb a b => lv_icmp_ne hx hb dg ht a (fun h => b (fun h2 => h2 h))) kt (fun h => kf (Decidable.not_not.mp h))
theorem V_if_eq (o : OkX X cc own Ts d) {x : Int32} {off : Int} (tgt : Nat) (dg : decode cc pc = .ok (.ifCond .eq off, 3)) (ht : (pc : Int) + off = (tgt : Int)) (kt : x = 0 → V X k z ws tgt lc st) (kf : ¬ x = 0 → V X k z ws (pc + 3) lc st) : V X k z ws pc lc (.int x :: st) :=
  V_br o (fun _ _ _ _ _ _ _ _ _ _ _ _ _ _ _ _ hx hb a b => lv_if_eq hx hb dg ht a b) kt kf
theorem V_if_ne (o : OkX X cc own Ts d) {x : Int32} {off : Int} (tgt : Nat) (dg : decode cc pc = .ok (.ifCond .ne off, 3)) (ht : (pc : Int) + off = (tgt : Int)) (kt : ¬ x = 0 → V X k z ws tgt lc st) (kf : x = 0 → V X k z ws (pc + 3) lc st) : V X k z ws pc lc (.int x :: st) :=
  V_br o (fun _ _ _ _ _ _ _ _ _ _ _ _ _ _ _ _ hx hb a b => lv_if_ne hx hb dg ht a (fun h => b (fun h2 => h2 h))) kt (fun h => kf (Decidable.not_not.mp h))
theorem V_if_lt (o : OkX X cc own Ts d) {x : Int32} {off : Int} (tgt : Nat) (dg : decode cc pc = .ok (.ifCond .lt off, 3)) (ht : (pc : Int) + off = (tgt : Int)) (kt : x < 0 → V X k z ws tgt lc st) (kf : ¬ x < 0 → V X k z ws (pc + 3) lc st) : V X k z ws pc lc (.int x :: st) :=
  V_br o (fun _ _ _ _ _ _ _ _ _ _ _ _ _ _ _ _ hx hb a b => lv_if_lt hx hb dg ht a b) kt kf
theorem V_if_ge (o : OkX X cc own Ts d) {x : Int32} {off : Int} (tgt : Nat) (dg : decode cc pc = .ok (.ifCond .ge off, 3)) (ht : (pc : Int) + off = (tgt : Int)) (kt : 0 ≤ x → V X k z ws tgt lc st) (kf : ¬ 0 ≤ x → V X k z ws (pc + 3) lc st) : V X k z ws pc lc (.int x :: st) :=
  V_br o (fun _ _ _ _ _ _ _ _ _ _ _ _ _ _ _ _ hx hb a b => lv_if_ge hx hb dg ht a b) kt kf
theorem V_if_le (o : OkX X cc own Ts d) {x : Int32} {off : Int} (tgt : Nat) (dg : decode cc pc = .ok (.ifCond .le off, 3)) (ht : (pc : Int) + off = (tgt : Int)) (kt : x ≤ 0 → V X k z ws tgt lc st) (kf : ¬ x ≤ 0 → V X k z ws (pc + 3) lc st) : V X k z ws pc lc (.int x :: st) :=
  V_br o (fun _ _ _ _ _ _ _ _ _ _ _ _ _ _ _ _ hx hb a b => lv_if_le hx hb dg ht a b) kt kf
theorem V_if_gt (o : OkX X cc own Ts d) {x : Int32} {off : Int} (tgt : Nat) (dg : decode cc pc = .ok (.ifCond .gt off, 3)) (ht : (pc : Int) + off = (tgt : Int)) (kt : 0 < x → V X k z ws tgt lc st) (kf : ¬ 0 < x → V X k z ws (pc + 3) lc st) : V X k z ws pc lc (.int x :: st) :=
  V_br o (fun _ _ _ _ _ _ _ _ _ _ _ _ _ _ _ _ hx hb a b => lv_if_gt hx hb dg ht a b) kt kf
theorem V_tableIn (o : OkX X cc own Ts d) {dflt lo hi : Int} {offs : Array Int} {len : Nat} {x : Int32} {off : Int} (tgt : Nat) (dg : decode cc pc = .ok (.tableswitch dflt lo hi offs, len)) (h1 : ¬ x.toInt < lo) (h2 : ¬ hi < x.toInt) (ho : offs[(x.toInt - lo).toNat]? = some off) (ht : (pc : Int) + off = (tgt : Int)) (kk : V X k z ws tgt lc st) : V X k z ws pc lc (.int x :: st) :=
  V_go o (fun _ _ _ _ _ _ _ _ _ _ _ _ _ _ _ _ _ hx hb _ K => lv_tableIn hx hb dg h1 h2 ho ht K) kk
theorem V_tableOut (o : OkX X cc own Ts d) {dflt lo hi : Int} {offs : Array Int} {len : Nat} {x : Int32} (tgt : Nat) (dg : decode cc pc = .ok (.tableswitch dflt lo hi offs, len)) (h : x.toInt < lo ∨ hi < x.toInt) (ht : (pc : Int) + dflt = (tgt : Int)) (kk : V X k z ws tgt lc st) : V X k z ws pc lc (.int x :: st) :=
  V_go o (fun _ _ _ _ _ _ _ _ _ _ _ _ _ _ _ _ _ hx hb _ K => lv_tableOut hx hb dg h ht K) kk
/-- fields, arrays -/
theorem V_get (o : OkX X cc own Ts d) {ref C : String} {T : u_T} {N ci index : Nat} {fs : List Value} {a : Nat} {v : Value} (q0 f : Nat) (hin : ∀ w ∈ u_ws C T N, w ∈ Ts) (he : ws[q0]? = some (a, .inr (ci, fs))) (hc : vwCl[ci]? = some (C, T, N)) (hk : f < N) (hlink : Cond.fieldLink own index ref (T f).2.1 (T f).2.2.1 ∈ Ts) (hsame : (T f).1 = ref) (hv : fs[f]? = some v) (dg : decode cc pc = .ok (.getfield index, 3)) (kk : V X k z ws (pc + 3) lc (v :: st)) : V X k z ws pc lc (.ref a :: st) := by
  obtain ⟨p, l, e', R, s, m, args, below, meth, c, D, tys, A, Q, n⟩ := X
  obtain ⟨hx, hb, hml, hown, hts, hK, hA, -⟩ := o
  intro ls H locs hl hP hD hS
  exact va_get hx hb hts hin hown hK hP q0 he hc f hk (hts _ hlink) (by rw [hsame]; exact fun _ h => h) hv dg (kk ls H locs hl hP hD hS)
theorem V_put (o : OkX X cc own Ts d) {ref C : String} {T : u_T} {N ci index : Nat} {fs : List Value} {a : Nat} {v : Value} {ty : FieldType} (q0 f : Nat) (hin : ∀ w ∈ u_ws C T N, w ∈ Ts) (ty0 : Nat → FieldType) (hty : ∀ k, k < N → parseFieldDescriptor (T k).2.2.1 = some (ty0 k)) (hnm : ∀ a, a < N → ∀ b, b < N → a ≠ b → (T a).2.1 ≠ (T b).2.1) (he : ws[q0]? = some (a, .inr (ci, fs))) (hc : vwCl[ci]? = some (C, T, N)) (hk : f < N) (hlink : Cond.fieldLink own index ref (T f).2.1 (T f).2.2.1 ∈ Ts) (hsame : (T f).1 = ref) (hfin : (T f).2.2.2 = false) (hd : parseFieldDescriptor (T f).2.2.1 = some ty) (hn : narrow ty v = v) (hfit : fits ty v = true) (hl : f < fs.length) (dg : decode cc pc = .ok (.putfield index, 3)) (kk : V X k z (ws.set q0 (a, .inr (ci, fs.set f v))) (pc + 3) lc st) : V X k z ws pc lc (v :: .ref a :: st) := by
  obtain ⟨p, l, e', R, s, m, args, below, meth, c, D, tys, A, Q, n⟩ := X
  obtain ⟨hx, hb, hml, hown, hts, hK, hA, -⟩ := o
  intro ls H locs hl9 hP hD hS
  exact va_put hx hb hts hin ty0 hty hnm hown hK hP hD hS q0 he hc f hk (hts _ hlink) (by rw [hsame]; exact fun _ h => h) hfin hd hn hfit hl dg (fun H1 locs1 hP1 hD1 hS1 => kk ls H1 locs1 hl9 hP1 hD1 hS1)
theorem V_iald (o : OkX X cc own Ts d) {a n : Nat} {f : Nat → Int32} {cA : ClassId} {i : Int32} (q0 t0 : Nat) (he : ws[q0]? = some (a, .inl (cA, n, .inl f))) (ht : (XK X)[t0]? = some (cA, .int)) (hi : vp_in i n) (dg : decode cc pc = .ok (.iaload, 1)) (kk : V X k z ws (pc + 1) lc (.int (f i.toNatClampNeg) :: st)) : V X k z ws pc lc (.int i :: .ref a :: st) := by
  obtain ⟨p, l, e', R, s, m, args, below, meth, c, D, tys, A, Q, n⟩ := X
  obtain ⟨hx, hb, hml, hown, hts, hK, hA, -⟩ := o
  intro ls H locs hl hP hD hS
  exact va_iald hx hb hK hP q0 t0 he ht hi dg (kk ls H locs hl hP hD hS)
theorem V_iast (o : OkX X cc own Ts d) {a n : Nat} {f : Nat → Int32} {cA : ClassId} {i x : Int32} (q0 t0 : Nat) (he : ws[q0]? = some (a, .inl (cA, n, .inl f))) (ht : (XK X)[t0]? = some (cA, .int)) (hi : vp_in i n) (dg : decode cc pc = .ok (.iastore, 1)) (kk : V X k z (ws.set q0 (a, .inl (cA, n, .inl (upd f i.toNatClampNeg x)))) (pc + 1) lc st) : V X k z ws pc lc (.int x :: .int i :: .ref a :: st) := by
  obtain ⟨p, l, e', R, s, m, args, below, meth, c, D, tys, A, Q, n⟩ := X
  obtain ⟨hx, hb, hml, hown, hts, hK, hA, -⟩ := o
  intro ls H locs hl hP hD hS
  exact va_iast hx hb hK hP hD hS q0 t0 he ht hi dg (fun H1 locs1 hP1 hD1 hS1 => kk ls H1 locs1 hl hP1 hD1 hS1)
theorem V_alen (o : OkX X cc own Ts d) {a : Nat} {x : vp_A} {cA : ClassId} {ty : FieldType} {v : Int32} (q0 t0 : Nat) (he : ws[q0]? = some (a, .inl (cA, x))) (ht : (XK X)[t0]? = some (cA, ty)) (hv : Int32.ofNat x.1 = v) (dg : decode cc pc = .ok (.arraylength, 1)) (kk : V X k z ws (pc + 1) lc (.int v :: st)) : V X k z ws pc lc (.ref a :: st) := by
  obtain ⟨p, l, e', R, s, m, args, below, meth, c, D, tys, A, Q, n⟩ := X
  obtain ⟨hx, hb, hml, hown, hts, hK, hA, -⟩ := o
  intro ls H locs hl hP hD hS
  exact va_alen hx hb hK hP q0 t0 he ht hv dg (kk ls H locs hl hP hD hS)
theorem V_top {x : Int32} (kk : ∀ y : Int32, y = x → V X k z ws pc lc (.int y :: st)) : V X k z ws pc lc (.int x :: st) := kk x rfl
theorem V_eq {ws2 : va_W} {st2 : List Value} (h1 : ws = ws2) (h2 : st = st2) (kk : V X k z ws2 pc lc st2) : V X k z ws pc lc st := by subst h1; subst h2; exact kk
end Rows
