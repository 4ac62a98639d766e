section
-- ===== PART A: goes FIRST, ahead of the names: the tables' words, and 'selects' of the private methods out of them =====
/-- a private method of a class that the tables say can be made, by its rows of tables_1 -/
def lw_okq (q : MethodName × Nat) : Prop := (q.1.cls ≠ "java/lang/invoke/MethodHandle" ∧ q.1.cls ≠ "java/lang/invoke/VarHandle") ∧ Cond.instantiable q.1.cls q.2 ∈ tables_1 ∧ Cond.privateMethod q.1 ∈ tables_1 ∧ Cond.instanceMethod q.1 ∈ tables_1
theorem lw_p0 : lw_okq (⟨"java/lang/Throwable", "fillInStackTrace", "(I)Ljava/lang/Throwable;"⟩, 6) := ⟨⟨by decide +kernel, by decide +kernel⟩, List.mem_of_getElem? (i := 264) (by decide +kernel), List.mem_of_getElem? (i := 262) (by decide +kernel), List.mem_of_getElem? (i := 263) (by decide +kernel)⟩
theorem lw_p1 : lw_okq (⟨"Approvalyard", "tell", "(IIII)I"⟩, 4) := ⟨⟨by decide +kernel, by decide +kernel⟩, List.mem_of_getElem? (i := 18) (by decide +kernel), List.mem_of_getElem? (i := 334) (by decide +kernel), List.mem_of_getElem? (i := 335) (by decide +kernel)⟩
theorem lw_p2 : lw_okq (⟨"Approvalyard$Requests", "endApprovals", "(I)V"⟩, 8) := ⟨⟨by decide +kernel, by decide +kernel⟩, List.mem_of_getElem? (i := 104) (by decide +kernel), List.mem_of_getElem? (i := 394) (by decide +kernel), List.mem_of_getElem? (i := 395) (by decide +kernel)⟩
theorem lw_p3 : lw_okq (⟨"Approvalyard$Requests", "reopen", "(I)V"⟩, 8) := ⟨⟨by decide +kernel, by decide +kernel⟩, List.mem_of_getElem? (i := 104) (by decide +kernel), List.mem_of_getElem? (i := 399) (by decide +kernel), List.mem_of_getElem? (i := 400) (by decide +kernel)⟩
theorem lw_p4 : lw_okq (⟨"Approvalyard$Desk", "takeApproval", "(II)I"⟩, 3) := ⟨⟨by decide +kernel, by decide +kernel⟩, List.mem_of_getElem? (i := 50) (by decide +kernel), List.mem_of_getElem? (i := 426) (by decide +kernel), List.mem_of_getElem? (i := 427) (by decide +kernel)⟩
theorem lw_p5 : lw_okq (⟨"Approvalyard", "checkVersion", "(II)V"⟩, 4) := ⟨⟨by decide +kernel, by decide +kernel⟩, List.mem_of_getElem? (i := 18) (by decide +kernel), List.mem_of_getElem? (i := 466) (by decide +kernel), List.mem_of_getElem? (i := 467) (by decide +kernel)⟩
theorem lw_p6 : lw_okq (⟨"Approvalyard", "checkRequest", "(I)V"⟩, 4) := ⟨⟨by decide +kernel, by decide +kernel⟩, List.mem_of_getElem? (i := 18) (by decide +kernel), List.mem_of_getElem? (i := 517) (by decide +kernel), List.mem_of_getElem? (i := 518) (by decide +kernel)⟩
theorem lw_p7 : lw_okq (⟨"Approvalyard$Search", "fill", "(LApprovalyard$Parts;I)Z"⟩, 4) := ⟨⟨by decide +kernel, by decide +kernel⟩, List.mem_of_getElem? (i := 171) (by decide +kernel), List.mem_of_getElem? (i := 547) (by decide +kernel), List.mem_of_getElem? (i := 548) (by decide +kernel)⟩
theorem lw_p8 : lw_okq (⟨"Approvalyard$Search", "take", "(LApprovalyard$Parts;II)Z"⟩, 4) := ⟨⟨by decide +kernel, by decide +kernel⟩, List.mem_of_getElem? (i := 171) (by decide +kernel), List.mem_of_getElem? (i := 551) (by decide +kernel), List.mem_of_getElem? (i := 552) (by decide +kernel)⟩
theorem lw_p9 : lw_okq (⟨"Approvalyard$Search", "await", "(I)V"⟩, 4) := ⟨⟨by decide +kernel, by decide +kernel⟩, List.mem_of_getElem? (i := 171) (by decide +kernel), List.mem_of_getElem? (i := 564) (by decide +kernel), List.mem_of_getElem? (i := 565) (by decide +kernel)⟩
theorem lw_p10 : lw_okq (⟨"ApprovalyardModel", "isEight", "(I)Z"⟩, 24) := ⟨⟨by decide +kernel, by decide +kernel⟩, List.mem_of_getElem? (i := 676) (by decide +kernel), List.mem_of_getElem? (i := 763) (by decide +kernel), List.mem_of_getElem? (i := 764) (by decide +kernel)⟩
theorem lw_p11 : lw_okq (⟨"ApprovalyardModel", "in", "(III)Z"⟩, 24) := ⟨⟨by decide +kernel, by decide +kernel⟩, List.mem_of_getElem? (i := 676) (by decide +kernel), List.mem_of_getElem? (i := 767) (by decide +kernel), List.mem_of_getElem? (i := 768) (by decide +kernel)⟩
theorem lw_p12 : lw_okq (⟨"ApprovalyardModel", "holds", "(I)Z"⟩, 24) := ⟨⟨by decide +kernel, by decide +kernel⟩, List.mem_of_getElem? (i := 676) (by decide +kernel), List.mem_of_getElem? (i := 771) (by decide +kernel), List.mem_of_getElem? (i := 772) (by decide +kernel)⟩
theorem lw_p13 : lw_okq (⟨"ApprovalyardModel", "isVersion", "(II)Z"⟩, 24) := ⟨⟨by decide +kernel, by decide +kernel⟩, List.mem_of_getElem? (i := 676) (by decide +kernel), List.mem_of_getElem? (i := 779) (by decide +kernel), List.mem_of_getElem? (i := 780) (by decide +kernel)⟩
theorem lw_p14 : lw_okq (⟨"ApprovalyardModel", "ends", "(I)I"⟩, 24) := ⟨⟨by decide +kernel, by decide +kernel⟩, List.mem_of_getElem? (i := 676) (by decide +kernel), List.mem_of_getElem? (i := 787) (by decide +kernel), List.mem_of_getElem? (i := 788) (by decide +kernel)⟩
theorem lw_p15 : lw_okq (⟨"ApprovalyardModel", "empty", "(I)V"⟩, 24) := ⟨⟨by decide +kernel, by decide +kernel⟩, List.mem_of_getElem? (i := 676) (by decide +kernel), List.mem_of_getElem? (i := 791) (by decide +kernel), List.mem_of_getElem? (i := 792) (by decide +kernel)⟩
def lw_privs_1 : List (MethodName × Nat) := [(⟨"java/lang/Throwable", "fillInStackTrace", "(I)Ljava/lang/Throwable;"⟩, 6), (⟨"Approvalyard", "tell", "(IIII)I"⟩, 4), (⟨"Approvalyard$Requests", "endApprovals", "(I)V"⟩, 8), (⟨"Approvalyard$Requests", "reopen", "(I)V"⟩, 8), (⟨"Approvalyard$Desk", "takeApproval", "(II)I"⟩, 3), (⟨"Approvalyard", "checkVersion", "(II)V"⟩, 4), (⟨"Approvalyard", "checkRequest", "(I)V"⟩, 4), (⟨"Approvalyard$Search", "fill", "(LApprovalyard$Parts;I)Z"⟩, 4), (⟨"Approvalyard$Search", "take", "(LApprovalyard$Parts;II)Z"⟩, 4), (⟨"Approvalyard$Search", "await", "(I)V"⟩, 4), (⟨"ApprovalyardModel", "isEight", "(I)Z"⟩, 24), (⟨"ApprovalyardModel", "in", "(III)Z"⟩, 24), (⟨"ApprovalyardModel", "holds", "(I)Z"⟩, 24), (⟨"ApprovalyardModel", "isVersion", "(II)Z"⟩, 24), (⟨"ApprovalyardModel", "ends", "(I)I"⟩, 24), (⟨"ApprovalyardModel", "empty", "(I)V"⟩, 24)]
theorem lw_r1 : ∀ q ∈ lw_privs_1, lw_okq q := List.forall_mem_cons.mpr ⟨lw_p0, List.forall_mem_cons.mpr ⟨lw_p1, List.forall_mem_cons.mpr ⟨lw_p2, List.forall_mem_cons.mpr ⟨lw_p3, List.forall_mem_cons.mpr ⟨lw_p4, List.forall_mem_cons.mpr ⟨lw_p5, List.forall_mem_cons.mpr ⟨lw_p6, List.forall_mem_cons.mpr ⟨lw_p7, List.forall_mem_cons.mpr ⟨lw_p8, List.forall_mem_cons.mpr ⟨lw_p9, List.forall_mem_cons.mpr ⟨lw_p10, List.forall_mem_cons.mpr ⟨lw_p11, List.forall_mem_cons.mpr ⟨lw_p12, List.forall_mem_cons.mpr ⟨lw_p13, List.forall_mem_cons.mpr ⟨lw_p14, List.forall_mem_cons.mpr ⟨lw_p15, fun _ h => absurd h List.not_mem_nil⟩⟩⟩⟩⟩⟩⟩⟩⟩⟩⟩⟩⟩⟩⟩⟩
theorem lw_p16 : lw_okq (⟨"ApprovalyardModel", "isRequest", "(I)Z"⟩, 24) := ⟨⟨by decide +kernel, by decide +kernel⟩, List.mem_of_getElem? (i := 676) (by decide +kernel), List.mem_of_getElem? (i := 803) (by decide +kernel), List.mem_of_getElem? (i := 804) (by decide +kernel)⟩
theorem lw_p17 : lw_okq (⟨"ApprovalyardModel", "search", "(I)I"⟩, 24) := ⟨⟨by decide +kernel, by decide +kernel⟩, List.mem_of_getElem? (i := 676) (by decide +kernel), List.mem_of_getElem? (i := 807) (by decide +kernel), List.mem_of_getElem? (i := 808) (by decide +kernel)⟩
theorem lw_p18 : lw_okq (⟨"ApprovalyardModel", "forget", "(I)V"⟩, 24) := ⟨⟨by decide +kernel, by decide +kernel⟩, List.mem_of_getElem? (i := 676) (by decide +kernel), List.mem_of_getElem? (i := 811) (by decide +kernel), List.mem_of_getElem? (i := 812) (by decide +kernel)⟩
theorem lw_p19 : lw_okq (⟨"ApprovalyardModel", "goes", "(II)Z"⟩, 24) := ⟨⟨by decide +kernel, by decide +kernel⟩, List.mem_of_getElem? (i := 676) (by decide +kernel), List.mem_of_getElem? (i := 815) (by decide +kernel), List.mem_of_getElem? (i := 816) (by decide +kernel)⟩
theorem lw_p20 : lw_okq (⟨"ApprovalyardModel", "comes", "(II)I"⟩, 24) := ⟨⟨by decide +kernel, by decide +kernel⟩, List.mem_of_getElem? (i := 676) (by decide +kernel), List.mem_of_getElem? (i := 819) (by decide +kernel), List.mem_of_getElem? (i := 820) (by decide +kernel)⟩
theorem lw_p21 : lw_okq (⟨"ApprovalyardModel", "forWhom", "(II)I"⟩, 24) := ⟨⟨by decide +kernel, by decide +kernel⟩, List.mem_of_getElem? (i := 676) (by decide +kernel), List.mem_of_getElem? (i := 839) (by decide +kernel), List.mem_of_getElem? (i := 840) (by decide +kernel)⟩
theorem lw_p22 : lw_okq (⟨"ApprovalyardModel", "isAway", "(I)Z"⟩, 24) := ⟨⟨by decide +kernel, by decide +kernel⟩, List.mem_of_getElem? (i := 676) (by decide +kernel), List.mem_of_getElem? (i := 843) (by decide +kernel), List.mem_of_getElem? (i := 844) (by decide +kernel)⟩
theorem lw_p23 : lw_okq (⟨"ApprovalyardModel", "covered", "(I)Z"⟩, 24) := ⟨⟨by decide +kernel, by decide +kernel⟩, List.mem_of_getElem? (i := 676) (by decide +kernel), List.mem_of_getElem? (i := 851) (by decide +kernel), List.mem_of_getElem? (i := 852) (by decide +kernel)⟩
theorem lw_p24 : lw_okq (⟨"ApprovalyardModel", "approvals", "(I)I"⟩, 24) := ⟨⟨by decide +kernel, by decide +kernel⟩, List.mem_of_getElem? (i := 676) (by decide +kernel), List.mem_of_getElem? (i := 855) (by decide +kernel), List.mem_of_getElem? (i := 856) (by decide +kernel)⟩
def lw_privs_2 : List (MethodName × Nat) := [(⟨"ApprovalyardModel", "isRequest", "(I)Z"⟩, 24), (⟨"ApprovalyardModel", "search", "(I)I"⟩, 24), (⟨"ApprovalyardModel", "forget", "(I)V"⟩, 24), (⟨"ApprovalyardModel", "goes", "(II)Z"⟩, 24), (⟨"ApprovalyardModel", "comes", "(II)I"⟩, 24), (⟨"ApprovalyardModel", "forWhom", "(II)I"⟩, 24), (⟨"ApprovalyardModel", "isAway", "(I)Z"⟩, 24), (⟨"ApprovalyardModel", "covered", "(I)Z"⟩, 24), (⟨"ApprovalyardModel", "approvals", "(I)I"⟩, 24)]
theorem lw_r2 : ∀ q ∈ lw_privs_2, lw_okq q := List.forall_mem_cons.mpr ⟨lw_p16, List.forall_mem_cons.mpr ⟨lw_p17, List.forall_mem_cons.mpr ⟨lw_p18, List.forall_mem_cons.mpr ⟨lw_p19, List.forall_mem_cons.mpr ⟨lw_p20, List.forall_mem_cons.mpr ⟨lw_p21, List.forall_mem_cons.mpr ⟨lw_p22, List.forall_mem_cons.mpr ⟨lw_p23, List.forall_mem_cons.mpr ⟨lw_p24, fun _ h => absurd h List.not_mem_nil⟩⟩⟩⟩⟩⟩⟩⟩⟩
def lw_privs : List (MethodName × Nat) := lw_privs_1 ++ (lw_privs_2)
def lw_tbl : List Cond := k2_sels lw_privs ++ tables_1
theorem lw_privs_ok : ∀ q ∈ lw_privs, lw_okq q := by
  show ∀ q ∈ lw_privs_1 ++ (lw_privs_2), lw_okq q
  exact List.forall_mem_append.mpr ⟨lw_r1, lw_r2⟩
/-- the streams that the claim lets the run draw from -/
abbrev lw_cs : List Choice := [Jvm.Choice.named "NaN.bits"]
theorem lw_bits : nanBits ∈ lw_cs := by first | decide | exact List.mem_cons_self | simp [lw_cs, nanBits]
end
section
/-! ===== BEGIN words of one list among another's, by their places ===== -/
theorem goodIn_r {big : List Cond} (ws : List Cond) (ps : List Nat) (hp : ws = ps.filterMap (fun i => big[i]?)) (h : ws.all goodWord = true) : GoodIn big ws := by
  intro w hw
  have h1 := List.all_eq_true.mp h w hw
  rw [hp] at hw
  obtain ⟨i, -, hi⟩ := List.mem_filterMap.mp hw
  have hm : w ∈ big := by first | exact List.mem_of_getElem? hi | exact List.getElem?_mem hi
  exact ⟨hm, good_of_word h1⟩
theorem goodIn_app {big a b : List Cond} (ha : GoodIn big a) (hb : GoodIn big b) : GoodIn big (a ++ b) := fun w h => (List.mem_append.mp h).elim (ha w) (hb w)
theorem goodIn_ca {big a b : List Cond} {c : Cond} (ha : GoodIn big (c :: a)) (hb : GoodIn big b) : GoodIn big (c :: (a ++ b)) := fun w h => (List.mem_cons.mp h).elim (fun e => ha w (List.mem_cons.mpr (Or.inl e))) (fun h => (List.mem_append.mp h).elim (fun h => ha w (List.mem_cons.mpr (Or.inr h))) (hb w))
theorem goodIn_sub {big ws : List Cond} (hm : ∀ w ∈ ws, w ∈ big) (h : ws.all goodWord = true) : GoodIn big ws := fun w hw => ⟨hm w hw, good_of_word (List.all_eq_true.mp h w hw)⟩
/-! ===== END ===== -/

/-! ===== BEGIN exceptions that leave a method, and their catching by the caller (launches without stack traces) ===== -/
section VXA
/-! The laws vx_back, vx_callV, vx_callS, vx_callSW, vx_throw0, vx_throwS follow proofs of the library, with one case more: JvmDerived/Free/Laws.lean (Back.of_free), Shelf42/LK1.lean (callV, callS), Shelf/KitTraced.lean (throwNew0V, throwNewS). -/
/-- where a method has thrown q: the class by its name, the cell, what was written, the world -/
def vx_T (XC : String → State → State → Prop) (st : State) (q : Addr) (t : State) (mc ms : Nat) (free : Addr → Prop) : Prop :=
  ∃ (E : String) (ce : Cell) (L : List Loc), XC E st t ∧ t.heap[q]? = some ce ∧ ce.vm = .none ∧ st.vm.findClass E = some ce.cls ∧ st.WarmedH t.vm ∧ st.sameButNew ({ t with vm := st.vm } : State) L mc ms ∧ ∀ z ∈ L, free z.base
def vx_Q (Qc : Array Value → State → Outcome → State → Prop) (XC : String → State → State → Prop) (mc ms : Nat) (free : Addr → Prop) : Array Value → State → Outcome → State → Prop := fun a st o t =>
  (Qc a st o t ∧ ∃ L, FrameEnd st o t L mc ms ∧ ∀ q ∈ L, free q.base) ∨ ∃ q, o = .threw q ∧ vx_T XC st q t mc ms free
/-- a callee that returns or throws -/
def vx_Met (l : Launch) (y : MethodName) (ws : List Cond) (rm : Room) (Pc : Array Value → State → Prop) (Qc : Array Value → State → Outcome → State → Prop) (XC : String → State → State → Prop) (mc ms : Nat) (free : Addr → Prop) : Prop :=
  MetFree l y (headSpec ws rm) Pc (fun _ _ _ _ _ => True) (vx_Q Qc XC mc ms free)
def vx_Post (XC : String → State → State → Prop) (mc ms : Nat) (free : Addr → Prop) : Pt → Array Value → Addr → Pt → Prop := fun A a q B =>
  ∃ (g : JFrame) (mk : MethodId) (t : State) (L : List Loc) (E : String) (ce : Cell), B.U.heap = t.heap ∧ B.U.vm = t.vm ∧ XC E (A.U.calling g mk a) t ∧ t.heap[q]? = some ce ∧ ce.vm = .none ∧ A.U.vm.findClass E = some ce.cls ∧ B.locs = A.locs ++ L ∧ (∀ z ∈ L, free z.base) ∧ B.cells = A.cells + mc ∧ B.slots = A.slots + ms
def vx_Back (l : Launch) (R : Room) (p : Program) (e : Env) (below : List Frame) (s : State) (sargs : Array Value) (y : MethodName) (len W9 : Nat)
    (Pre : Pt → Array Value → Prop) (Post : Pt → Array Value → Option Value → Pt → Prop) (PostX : Pt → Array Value → Addr → Pt → Prop) : Prop :=
  ∀ (m : MethodId) (meth : Method) (c : Code) (A : Pt) (g : JFrame) (ig : Instr) (mk : MethodId) (a : Array Value),
    Stand p l e R s m sargs below meth c A.U A.locs A.cells A.slots → g.method = m → g.locals.size = c.maxLocals → decode c.code g.pc = .ok (ig, len) →
    2 * g.monitorRoom + (g.stack.map fun v => v.category).sum ≤ W9 → A.U.methodNamed? y = some mk → Pre A a →
    (∃ (v : Option Value) (B : Pt), Stand p l e R s m sargs below meth c B.U B.locs B.cells B.slots ∧ Post A a v B ∧
      Steps p.tables e below (doInvoke e (A.U.setTop g) [] mk a).1 (B.U.setTop { g with pc := g.pc + len, stack := v.toList ++ g.stack })) ∨
    (∃ (q : Addr) (B : Pt), Stand p l e R s m sargs below meth c B.U B.locs B.cells B.slots ∧ PostX A a q B ∧
      Steps p.tables e below (doInvoke e (A.U.setTop g) [] mk a).1 ((B.U.setTop g).pushFrame (.throwing q)))
section Payer
variable {l : Launch} {R : Room} {p : Program} {e : Env} {below : List Frame} {s : State} {sargs : Array Value} {y : MethodName} {len W9 : Nat}
theorem vx_back {ws : List Cond} {rm : Room} {Pc : Array Value → State → Prop} {Qc : Array Value → State → Outcome → State → Prop} {XC : String → State → State → Prop} {mc ms : Nat} {free : Addr → Prop} {bytes : ByteArray} {maxL : Nat} {ret : Option FieldType}
    (hM : vx_Met l y ws rm Pc Qc XC mc ms free) (hblind : FrameBlind Pc) (hrc : rm.cells = mc) (hrs : rm.slots = ms)
    (hframes : rm.frames + 1 ≤ R.frames) (hlocals : W9 + (maxL + 11) + rm.locals ≤ R.locals)
    (hws : ∀ w ∈ ws, ∀ a' U, s.WarmedH U.vm → w.before a' U = true) (hcode : Cond.code y bytes maxL ret ∈ ws) (hinit : ∀ a' U, s.WarmedH U.vm → (Cond.initialized y.cls).before a' U = true) :
    vx_Back l R p e below s sargs y len W9 (PreOf R mc ms Pc) (PostOf Qc mc ms free) (vx_Post XC mc ms free) := by
  intro m meth c A g ig mk a X hg hsize hdg hW hn hp
  have h1 : (headSpec ws rm).pre.before a A.U = true := atoms_intro fun w hw => hws w hw _ _ X.warmed
  have h2 : (Cond.code y bytes maxL ret).before a A.U = true := hws _ hcode _ _ X.warmed
  have h3 : (Cond.initialized y.cls).before a A.U = true := hinit _ _ X.warmed
  have h4 : A.cells + (headSpec ws rm).room.cells ≤ R.cells := by rw [show (headSpec ws rm).room.cells = mc from hrc]; exact hp.1
  have h5 : A.slots + (headSpec ws rm).room.slots ≤ R.slots := by rw [show (headSpec ws rm).room.slots = ms from hrs]; exact hp.2.1
  have hPc : Pc a (A.U.calling g mk a) := hblind _ _ _ _ hp.2.2
  obtain ⟨U, Ls, c0, s0⟩ := A
  dsimp only [Pt.U, Pt.locs, Pt.cells, Pt.slots] at h1 h2 h3 h4 h5 X hn hPc ⊢
  obtain ⟨methY, cY, hmY, hcY, -, hlY, -, -, -, -⟩ := Cond.code_spec hn h2
  obtain ⟨kY, hkY, -⟩ := className_of_methodNamed hn
  have hinitY : kY.init = .initialized := Cond.initialized_spec (findClass_of_methodNamed hn) hkY h3
  have h : At U g.method c below := by rw [hg]; exact X.here
  have hlocals9 : W9 + (maxL + 11) + (headSpec ws rm).room.locals ≤ R.locals := hlocals
  have happ : (headSpec ws rm).appliesLoose y e.platform (U.calling g mk a) = true :=
    Spec.appliesLoose_calling (g := g) h hdg hn hkY hinitY
      (X.room_calling (g := g) (R' := (headSpec ws rm).room) hsize hmY hcY hframes (by rw [hlY]; omega) h4 h5) h1
  obtain ⟨mid, hmid⟩ := h.above
  have hfr : (U.setTop g).frames = (.java g :: mid) ++ below := by rw [State.frames_setTop' g h.top, hmid]; rfl
  obtain ⟨o, s₂, hsteps, -, hend, hq⟩ := Steps.callFree hM p X.admits X.cas X.clock (acts := []) hfr happ hPc trivial
  have hq' : vx_Q Qc XC mc ms free a (U.calling g mk a) o s₂ := hq
  rw [State.frames_setTop' g h.top] at hend
  obtain ⟨g₀, hg0⟩ := Option.isSome_iff_exists.mp h.top
  obtain ⟨r, hr⟩ := State.topJava?_eq_some.mp hg0
  have hr' : (({ U with heap := s₂.heap, slotsUsed := s₂.slotsUsed } : State).setVm s₂.vm).frames = .java g₀ :: r := hr
  rcases hq' with ⟨hqc, L, hfe, hL⟩ | ⟨q, rfl, E, ce, L, hx, hce, hcv, hcl, hW₂, hsm, hL⟩
  · obtain ⟨⟨v, rfl⟩, hW₂, e2, q2, q3, q4, q5, q6⟩ := id hfe
    have e3 : s₂ = ({ (U.calling g mk a).setFrames s₂.frames with heap := s₂.heap, slotsUsed := s₂.slotsUsed } : State).setVm s₂.vm := by
      have : s₂ = ({ s₂ with vm := (U.calling g mk a).vm } : State).setVm s₂.vm := rfl
      rw [e2] at this
      exact this
    obtain ⟨c₂, i₂, len₂, hc₂, hd₂, hf₂⟩ := hend
    have hW' : U.WarmedH s₂.vm := hW₂
    have hcc : c₂ = c := by
      have h1 : s₂.code? g.method = U.code? g.method := by
        rw [State.code?_eq, State.code?_eq, hW'.alike.method?]
      exact Option.some.inj (hc₂.symm.trans (h1.trans h.code))
    subst hcc
    have hlen : len₂ = len := by rw [hdg] at hd₂; cases hd₂; rfl
    subst hlen
    have hs₂ : s₂ = (({ U with heap := s₂.heap, slotsUsed := s₂.slotsUsed } : State).setVm s₂.vm).setTop { g with pc := g.pc + len₂, stack := v.toList ++ g.stack } := by
      refine e3.trans ?_
      rw [hf₂, State.calling_eq h.top, State.setFrames_setFrames, State.setTop_of_frames _ hr', hr]
      rfl
    have hsame : U.sameButNew ({ U with heap := s₂.heap, slotsUsed := s₂.slotsUsed } : State) L mc ms := by
      refine ⟨?_, q2, q3, q4, q5, q6⟩
      obtain ⟨t, ht, -⟩ := State.frames_cons hr
      show ({ U with heap := s₂.heap, slotsUsed := s₂.slotsUsed } : State) = { U.setFrames U.frames with heap := s₂.heap, slotsUsed := s₂.slotsUsed }
      rw [State.setFrames_self ht]
    subst hg
    refine Or.inl ⟨v, ⟨(({ U with heap := s₂.heap, slotsUsed := s₂.slotsUsed } : State).setVm s₂.vm), Ls ++ L, c0 + mc, s0 + ms⟩,
      ⟨X.admits, X.cas, X.clock, X.frames, X.room, X.hears, X.method, X.code, (X.here.setHeapUsed s₂.heap s₂.slotsUsed).setVm hW'.alike, X.tail, State.WarmedH.trans X.warmed hW', X.limits, X.bytes, X.same.trans (hsame.setVm s.vm)⟩,
      ⟨g, mk, s₂, L, rfl, rfl, hqc, rfl, hL, rfl, rfl⟩, ?_⟩
    show Steps p.tables e below _ ((({ U with heap := s₂.heap, slotsUsed := s₂.slotsUsed } : State).setVm s₂.vm).setTop { g with pc := g.pc + len₂, stack := v.toList ++ g.stack })
    rw [← hs₂]
    exact hsteps
  · obtain ⟨e2, q2, q3, q4, q5, q6⟩ := id hsm
    have e3 : s₂ = ({ (U.calling g mk a).setFrames s₂.frames with heap := s₂.heap, slotsUsed := s₂.slotsUsed } : State).setVm s₂.vm := by
      have : s₂ = ({ s₂ with vm := (U.calling g mk a).vm } : State).setVm s₂.vm := rfl
      rw [e2] at this
      exact this
    have hf₂ : s₂.frames = .throwing q :: .java g :: U.frames.tail := hend
    have hW' : U.WarmedH s₂.vm := hW₂
    have hs₂ : s₂ = ((({ U with heap := s₂.heap, slotsUsed := s₂.slotsUsed } : State).setVm s₂.vm).setTop g).pushFrame (.throwing q) := by
      refine e3.trans ?_
      rw [hf₂, State.calling_eq h.top, State.setFrames_setFrames, State.pushFrame, State.frames_setTop _ hr', State.setTop_of_frames _ hr', State.setFrames_setFrames, hr]
      rfl
    have hsame : U.sameButNew ({ U with heap := s₂.heap, slotsUsed := s₂.slotsUsed } : State) L mc ms := by
      refine ⟨?_, q2, q3, q4, q5, q6⟩
      obtain ⟨t, ht, -⟩ := State.frames_cons hr
      show ({ U with heap := s₂.heap, slotsUsed := s₂.slotsUsed } : State) = { U.setFrames U.frames with heap := s₂.heap, slotsUsed := s₂.slotsUsed }
      rw [State.setFrames_self ht]
    subst hg
    refine Or.inr ⟨q, ⟨(({ U with heap := s₂.heap, slotsUsed := s₂.slotsUsed } : State).setVm s₂.vm), Ls ++ L, c0 + mc, s0 + ms⟩,
      ⟨X.admits, X.cas, X.clock, X.frames, X.room, X.hears, X.method, X.code, (X.here.setHeapUsed s₂.heap s₂.slotsUsed).setVm hW'.alike, X.tail, State.WarmedH.trans X.warmed hW', X.limits, X.bytes, X.same.trans (hsame.setVm s.vm)⟩,
      ⟨g, mk, s₂, L, E, ce, rfl, rfl, hx, hce, hcv, hcl, rfl, hL, rfl, rfl⟩, ?_⟩
    show Steps p.tables e below _ (((({ U with heap := s₂.heap, slotsUsed := s₂.slotsUsed } : State).setVm s₂.vm).setTop g).pushFrame (.throwing q))
    rw [← hs₂]
    exact hsteps
end Payer
section Calls
variable {p : Program} {l : Launch} {e : Env} {R : Room} {s : State} {m : MethodId} {args : Array Value} {below : List Frame} {meth : Method} {c : Code} {T : State} {locs : List Loc} {cells slots : Nat}
theorem vx_callV (X : Stand p l e R s m args below meth c T locs cells slots) (hexec : p.tables.exec = Jvm.exec) {own C : String} {index : Nat} {y : MethodName} {bytes : ByteArray} {maxL : Nat} {ret : Option FieldType}
    (hown : s.vm.findClass own = some m.cls) (hlink : (Cond.methodLink own index y).before args s = true) (hinst : (Cond.instanceMethod y).before args s = true) (hsel : (Cond.selects C y y).before args s = true)
    (hcode : (Cond.code y bytes maxL ret).before args s = true) (hy : y.cls ≠ "java/lang/invoke/MethodHandle" ∧ y.cls ≠ "java/lang/invoke/VarHandle")
    {W9 : Nat} {Pre : Pt → Array Value → Prop} {Post : Pt → Array Value → Option Value → Pt → Prop} {PostX : Pt → Array Value → Addr → Pt → Prop} (hK : vx_Back l R p e below s args y 3 W9 Pre Post PostX)
    {b : Addr} {cellB : Cell} (hcell : T.heap[b]? = some cellB) (hobj : cellB.vm.isStatics = false) (hcls : s.vm.findClass C = some cellB.cls)
    {g : JFrame} (hg : g.method = m) (hsize : g.locals.size = c.maxLocals) {argsL rest : List Value} (hlen : ∀ sig, parseMethodDescriptor y.desc = some sig → argsL.length = sig.parameters.length)
    (hstack : g.stack = argsL.reverse ++ .ref b :: rest) (hW : 2 * g.monitorRoom + (rest.map fun v => v.category).sum ≤ W9) (hdg : decode c.code g.pc = .ok (.invokevirtual index, 3))
    (hpre : ∀ vm₁, s.WarmedH vm₁ → Pre ⟨T.setVm vm₁, locs, cells, slots⟩ (Value.ref b :: argsL).toArray) :
    (∃ (v : Option Value) (vm₁ : Vm) (B : Pt), s.WarmedH vm₁ ∧ Stand p l e R s m args below meth c B.U B.locs B.cells B.slots ∧ Post ⟨T.setVm vm₁, locs, cells, slots⟩ (Value.ref b :: argsL).toArray v B ∧
      ∀ target, Steps p.tables e below (B.U.setTop { g with pc := g.pc + 3, stack := v.toList ++ rest }) target → Steps p.tables e below (T.setTop g) target) ∨
    (∃ (q : Addr) (vm₁ : Vm) (B : Pt), s.WarmedH vm₁ ∧ Stand p l e R s m args below meth c B.U B.locs B.cells B.slots ∧ PostX ⟨T.setVm vm₁, locs, cells, slots⟩ (Value.ref b :: argsL).toArray q B ∧
      Steps p.tables e below (T.setTop g) ((B.U.setTop { g with stack := rest }).pushFrame (.throwing q))) := by
  obtain ⟨mk, methM, hnamed, hmethM, hstM, habM⟩ := Cond.instanceMethod_spec hinst
  obtain ⟨methM', cM, hmethM', -, -, -, -, -, -, hsigM⟩ := Cond.code_spec hnamed hcode
  cases hmethM.symm.trans hmethM'
  obtain ⟨c2, r2, m2, q1, q2, q3, q4, kP, hkP, hkPi⟩ := Cond.selects_spec hsel
  cases hcls.symm.trans q1
  cases (State.methodFound?_of_named hnamed hy).symm.trans q2
  cases hnamed.symm.trans q3
  have hselP : selectMethod e.platform s.vm cellB.cls mk = .method mk := by rw [Launch.admits_selectMethod X.admits]; exact q4
  obtain ⟨vm₁, X₁, hstep₁⟩ := X.invokevirtual hexec hown hlink hnamed hmethM hstM hkP hkPi hy (a := b) (cell := cellB) hcell
    (fun z h => by rw [h] at hobj; cases hobj) hselP hmethM habM hkP hkPi (g := g) hg (argsL := argsL) (rest := rest) (hlen _ hsigM) hstack hdg
  rcases hK m meth c ⟨T.setVm vm₁, locs, cells, slots⟩ { g with stack := rest } (.invokevirtual index) mk (Value.ref b :: argsL).toArray X₁ hg hsize hdg hW (X₁.named hnamed) (hpre vm₁ X₁.warmed) with ⟨v, B, X', hpost, hsteps⟩ | ⟨q, B, X', hpost, hsteps⟩
  · exact Or.inl ⟨v, vm₁, B, X₁.warmed, X', hpost, fun target h => hstep₁ _ fun acts => by rw [doInvoke_state]; exact hsteps.trans h⟩
  · exact Or.inr ⟨q, vm₁, B, X₁.warmed, X', hpost, hstep₁ _ fun acts => by rw [doInvoke_state]; exact hsteps⟩
theorem vx_callS (X : Stand p l e R s m args below meth c T locs cells slots) (hexec : p.tables.exec = Jvm.exec) {own : String} {index : Nat} {y : MethodName} {bytes : ByteArray} {maxL : Nat} {ret : Option FieldType}
    (hown : s.vm.findClass own = some m.cls) (hlink : (Cond.methodLink own index y).before args s = true) (hstat : (Cond.static y).before args s = true) (hinit : (Cond.initialized y.cls).before args s = true)
    (hcode : (Cond.code y bytes maxL ret).before args s = true) (hy : y.cls ≠ "java/lang/invoke/MethodHandle" ∧ y.cls ≠ "java/lang/invoke/VarHandle")
    {W9 : Nat} {Pre : Pt → Array Value → Prop} {Post : Pt → Array Value → Option Value → Pt → Prop} {PostX : Pt → Array Value → Addr → Pt → Prop} (hK : vx_Back l R p e below s args y 3 W9 Pre Post PostX)
    {g : JFrame} (hg : g.method = m) (hsize : g.locals.size = c.maxLocals) {argsL rest : List Value} (hlen : ∀ sig, parseMethodDescriptor y.desc = some sig → argsL.length = sig.parameters.length)
    (hstack : g.stack = argsL.reverse ++ rest) (hW : 2 * g.monitorRoom + (rest.map fun v => v.category).sum ≤ W9) (hdg : decode c.code g.pc = .ok (.invokestatic index, 3))
    (hpre : ∀ vm₁, s.WarmedH vm₁ → Pre ⟨T.setVm vm₁, locs, cells, slots⟩ argsL.toArray) :
    (∃ (v : Option Value) (vm₁ : Vm) (B : Pt), s.WarmedH vm₁ ∧ Stand p l e R s m args below meth c B.U B.locs B.cells B.slots ∧ Post ⟨T.setVm vm₁, locs, cells, slots⟩ argsL.toArray v B ∧
      ∀ target, Steps p.tables e below (B.U.setTop { g with pc := g.pc + 3, stack := v.toList ++ rest }) target → Steps p.tables e below (T.setTop g) target) ∨
    (∃ (q : Addr) (vm₁ : Vm) (B : Pt), s.WarmedH vm₁ ∧ Stand p l e R s m args below meth c B.U B.locs B.cells B.slots ∧ PostX ⟨T.setVm vm₁, locs, cells, slots⟩ argsL.toArray q B ∧
      Steps p.tables e below (T.setTop g) ((B.U.setTop { g with stack := rest }).pushFrame (.throwing q))) := by
  obtain ⟨mk, hnamed⟩ := Cond.code_named hcode
  obtain ⟨methM, cM, hmethM, -, -, -, -, -, -, hsigM⟩ := Cond.code_spec hnamed hcode
  have hstatic : methM.isStatic = true := Cond.static_spec hnamed hmethM hstat
  obtain ⟨kP, hkP, -⟩ := className_of_methodNamed hnamed
  have hinitP : kP.init = .initialized := Cond.initialized_spec (findClass_of_methodNamed hnamed) hkP hinit
  obtain ⟨vm₁, X₁, hstep₁⟩ := X.invokestatic hexec hown hlink hnamed hmethM hstatic hkP hinitP hy (g := g) hg (argsL := argsL) (rest := rest) (hlen _ hsigM) hstack hdg
  rcases hK m meth c ⟨T.setVm vm₁, locs, cells, slots⟩ { g with stack := rest } (.invokestatic index) mk argsL.toArray X₁ hg hsize hdg hW (X₁.named hnamed) (hpre vm₁ X₁.warmed) with ⟨v, B, X', hpost, hsteps⟩ | ⟨q, B, X', hpost, hsteps⟩
  · exact Or.inl ⟨v, vm₁, B, X₁.warmed, X', hpost, fun target h => hstep₁ _ fun acts => by rw [doInvoke_state]; exact hsteps.trans h⟩
  · exact Or.inr ⟨q, vm₁, B, X₁.warmed, X', hpost, hstep₁ _ fun acts => by rw [doInvoke_state]; exact hsteps⟩
end Calls
theorem vx_cls {s : State} {T : State} {vm₁ : Vm} {E : String} {k : ClassId} (hW : s.WarmedH vm₁) (h : (T.setVm vm₁).vm.findClass E = some k) : s.vm.findClass E = some k := by
  have h1 : vm₁.findClass E = some k := h
  rw [hW.alike.findClass] at h1
  exact h1
/-- the method's frame g, with q thrown over it -/
def vx_W (p : Program) (l : Launch) (e : Env) (R : Room) (s : State) (m : MethodId) (args : Array Value) (below : List Frame) (meth : Method) (c : Code) (H : Heap) (locs : List Loc) (cells slots : Nat) (Q : State → Prop) (g : JFrame) (q : Addr) : Prop :=
  ∀ T : State, T.heap = H → Stand p l e R s m args below meth c T locs cells slots → ∃ t, Steps p.tables e below ((T.setTop g).pushFrame (.throwing q)) t ∧ Q t
def vx_Run (p : Program) (l : Launch) (e : Env) (R : Room) (s : State) (m : MethodId) (args : Array Value) (below : List Frame) (meth : Method) (c : Code) (H : Heap) (locs : List Loc) (cells slots mc ms : Nat) (g : JFrame) (rest : List Value) (Qa : State → Outcome → State → Prop) (XC : String → State → State → Prop) (free : Addr → Prop) : Prop :=
  ∀ T : State, T.heap = H → Stand p l e R s m args below meth c T locs cells slots →
    (∃ (v : Option Value) (st₀ t T' : State) (L : List Loc), st₀.heap = H ∧ Stand p l e R s m args below meth c T' (locs ++ L) (cells + mc) (slots + ms) ∧ (∀ q ∈ L, free q.base) ∧ T'.heap = t.heap ∧ T'.vm = t.vm ∧ Qa st₀ (.returned v) t ∧
      Goes p e below T g T' { g with pc := g.pc + 3, stack := v.toList ++ rest }) ∨
    (∃ (q : Addr) (st₀ t T' : State) (L : List Loc) (E : String) (ce : Cell), st₀.heap = H ∧ Stand p l e R s m args below meth c T' (locs ++ L) (cells + mc) (slots + ms) ∧ (∀ z ∈ L, free z.base) ∧ T'.heap = t.heap ∧ T'.vm = t.vm ∧ XC E st₀ t ∧ t.heap[q]? = some ce ∧ ce.vm = .none ∧ s.vm.findClass E = some ce.cls ∧
      Steps p.tables e below (T.setTop g) ((T'.setTop { g with stack := rest }).pushFrame (.throwing q)))
def vx_X {S : Type} (px : S → Prop) (B : String → S → State → Prop) (A : Nat → Prop) : String → State → State → Prop := fun E st t => ∃ u : S, px u ∧ B E u t ∧ va_F A st t
section Runs
variable {p : Program} {l : Launch} {e : Env} {R : Room} {s : State} {m : MethodId} {args : Array Value} {below : List Frame} {meth : Method} {c : Code} {H : Heap} {locs : List Loc} {cells slots : Nat}
variable {y : MethodName} {bytes cc : ByteArray} {maxL nL mc ms n index : Nat} {ret : Option FieldType} {ws : List Cond} {rm : Room} {Pc : Array Value → State → Prop} {Qc : Array Value → State → Outcome → State → Prop} {XC : String → State → State → Prop} {free : Addr → Prop} {Ts : List Cond} {own C : String} {b : Addr} {As rest : List Value} {g : JFrame}
theorem vx_callBack (cb : CallB R s args own index y bytes maxL ret ws rm mc ms n) (hM : vx_Met l y ws rm Pc Qc XC mc ms free) (hbl : FrameBlind Pc) : vx_Back l R p e below s args y 3 8 (PreOf R mc ms Pc) (PostOf Qc mc ms free) (vx_Post XC mc ms free) := by
  obtain ⟨hrc, hrs, hfr, hlo, hws, hcw, -, hini, -⟩ := cb
  exact vx_back (bytes := bytes) (maxL := maxL) (ret := ret) hM hbl hrc hrs hfr hlo hws hcw (fun a' U hW => word_at hW (Or.inl (by first | rfl | simp [Cond.onTables, Cond.keeps, Cond.steady])) hini)
theorem vx_runV (S : CallFix p m c cc nL s args Ts own) (hM : vx_Met l y ws rm Pc Qc XC mc ms free) (cw : CallW R s args own C index y bytes maxL ret ws rm mc ms n) (hp : PreV s H C b Pc As)
    (hg : g.method = m) (hn : As.length = n) (hsize : g.locals.size = nL) (hstack : g.stack = As.reverse ++ .ref b :: rest) (hW : 2 * g.monitorRoom + (rest.map fun v => v.category).sum ≤ 8) (hdg : decode cc g.pc = .ok (.invokevirtual index, 3)) (hf : cells + mc ≤ R.cells ∧ slots + ms ≤ R.slots) :
    vx_Run p l e R s m args below meth c H locs cells slots mc ms g rest (Qc (Value.ref b :: As).toArray) XC free := by
  have hK : vx_Back l R p e below s args y 3 8 (PreOf R mc ms Pc) (PostOf Qc mc ms free) (vx_Post XC mc ms free) := vx_callBack cw.1 hM hp.1
  obtain ⟨⟨-, -, -, -, -, -, hcode, -, hy, hlen, hl⟩, hin, hse⟩ := cw
  obtain ⟨hx, hb, hml, ho, -⟩ := S
  obtain ⟨-, ⟨cellB, hcB, hoB, hclB⟩, hPc⟩ := hp
  intro T hT X
  rcases vx_callV X hx (C := C) (bytes := bytes) (maxL := maxL) (ret := ret) ho hl hin hse hcode hy hK (by rw [hT]; exact hcB) hoB hclB hg (hsize.trans hml.symm) (argsL := As) (rest := rest) (fun sig h => hn.trans (hlen sig h)) hstack hW (by rw [hb]; exact hdg)
    (fun vm₁ hW₁ => ⟨hf.1, hf.2, hPc (T.setVm vm₁) hT hW₁⟩) with ⟨v, vm₁, ⟨U', l2, c2, s2⟩, hW₁, X', ⟨g', mk, t, L, e1, e2, hq, h1, hL, h2, h3⟩, st⟩ | ⟨q, vm₁, ⟨U', l2, c2, s2⟩, hW₁, X', ⟨g', mk, t, L, E, ce, e1, e2, hq, hce, hcv, hcl, h1, hL, h2, h3⟩, st⟩
  · dsimp only [Pt.U, Pt.locs, Pt.cells, Pt.slots] at X' e1 e2 h1 h2 h3 st
    subst h1; subst h2; subst h3
    exact Or.inl ⟨v, (T.setVm vm₁).calling g' mk (Value.ref b :: As).toArray, t, U', L, hT, X', hL, e1, e2, hq, st⟩
  · dsimp only [Pt.U, Pt.locs, Pt.cells, Pt.slots] at X' e1 e2 h1 h2 h3 st hcl
    subst h1; subst h2; subst h3
    exact Or.inr ⟨q, (T.setVm vm₁).calling g' mk (Value.ref b :: As).toArray, t, U', L, E, ce, hT, X', hL, e1, e2, hq, hce, hcv, vx_cls hW₁ hcl, st⟩
theorem vx_runS (S : CallFix p m c cc nL s args Ts own) (hM : vx_Met l y ws rm Pc Qc XC mc ms free) (cw : CallB R s args own index y bytes maxL ret ws rm mc ms n ∧ (Cond.static y).before args s = true) (hp : PreS s H Pc As)
    (hg : g.method = m) (hn : As.length = n) (hsize : g.locals.size = nL) (hstack : g.stack = As.reverse ++ rest) (hW : 2 * g.monitorRoom + (rest.map fun v => v.category).sum ≤ 8) (hdg : decode cc g.pc = .ok (.invokestatic index, 3)) (hf : cells + mc ≤ R.cells ∧ slots + ms ≤ R.slots) :
    vx_Run p l e R s m args below meth c H locs cells slots mc ms g rest (Qc As.toArray) XC free := by
  have hK : vx_Back l R p e below s args y 3 8 (PreOf R mc ms Pc) (PostOf Qc mc ms free) (vx_Post XC mc ms free) := vx_callBack cw.1 hM hp.1
  obtain ⟨⟨-, -, -, -, -, -, hcode, hini, hy, hlen, hl⟩, hstt⟩ := cw
  obtain ⟨hx, hb, hml, ho, -⟩ := S
  intro T hT X
  rcases vx_callS X hx (bytes := bytes) (maxL := maxL) (ret := ret) ho hl hstt hini hcode hy hK hg (hsize.trans hml.symm) (argsL := As) (rest := rest) (fun sig h => hn.trans (hlen sig h)) hstack hW (by rw [hb]; exact hdg)
    (fun vm₁ hW₁ => ⟨hf.1, hf.2, hp.2 (T.setVm vm₁) hT hW₁⟩) with ⟨v, vm₁, ⟨U', l2, c2, s2⟩, hW₁, X', ⟨g', mk, t, L, e1, e2, hq, h1, hL, h2, h3⟩, st⟩ | ⟨q, vm₁, ⟨U', l2, c2, s2⟩, hW₁, X', ⟨g', mk, t, L, E, ce, e1, e2, hq, hce, hcv, hcl, h1, hL, h2, h3⟩, st⟩
  · dsimp only [Pt.U, Pt.locs, Pt.cells, Pt.slots] at X' e1 e2 h1 h2 h3 st
    subst h1; subst h2; subst h3
    exact Or.inl ⟨v, (T.setVm vm₁).calling g' mk As.toArray, t, U', L, hT, X', hL, e1, e2, hq, st⟩
  · dsimp only [Pt.U, Pt.locs, Pt.cells, Pt.slots] at X' e1 e2 h1 h2 h3 st hcl
    subst h1; subst h2; subst h3
    exact Or.inr ⟨q, (T.setVm vm₁).calling g' mk As.toArray, t, U', L, E, ce, hT, X', hL, e1, e2, hq, hce, hcv, vx_cls hW₁ hcl, st⟩
end Runs
section Rows
variable {p : Program} {l : Launch} {e : Env} {R : Room} {s : State} {m : MethodId} {args : Array Value} {below : List Frame} {meth : Method} {c : Code} {H : Heap} {locs : List Loc} {cells slots : Nat} {Q : State → Prop}
variable {mc ms : Nat} {free : Addr → Prop} {A0 A1 : Nat → Prop} {H0 : Heap} {a : Array Value} {pc : Nat} {ls : Array Slot} {st0 rest : List Value}
theorem vx_keep {st₀ t T' : State} {L : List Loc} (h0 : st₀.heap = H) (e1 : T'.heap = t.heap) (hS : va_S A0 H0 H locs) (hA : ∀ q, q < H.size → A1 q → A0 q) (hf : ∀ q, free q → A0 q) (hL : ∀ q ∈ L, free q.base) (hF : va_F A1 st₀ t) :
    H.size ≤ T'.heap.size ∧ (∀ q : Nat, q < H.size → ¬ A1 q → T'.heap[q]? = H[q]?) ∧ va_S A0 H0 T'.heap (locs ++ L) := by
  obtain ⟨hz, hk⟩ := hF
  rw [h0] at hz hk
  exact ⟨by rw [e1]; exact hz, fun q h1 h2 => by rw [e1]; exact hk q h1 h2,
    ⟨Nat.le_trans hS.1 (by rw [e1]; exact hz), fun q h1 h2 => by rw [e1, hk q (Nat.lt_of_lt_of_le h1 hS.1) (fun z => h2 (hA q (Nat.lt_of_lt_of_le h1 hS.1) z))]; exact hS.2.1 q h1 h2, fun q hq => by
      rcases List.mem_append.mp hq with h | h
      · exact hS.2.2 q h
      · exact hf _ (hL q h)⟩⟩
theorem vx_calli {S SX : Type} {post : Int32 → S → Prop} {px : SX → Prop} {B : S → State → Prop} {BX : String → SX → State → Prop} {AX : Nat → Prop} (hr : vx_Run p l e R s m args below meth c H locs cells slots mc ms (F0 m pc ls st0) rest (va_Qi post B A1 a) (vx_X px BX AX) free) (hS : va_S A0 H0 H locs) (hA : ∀ q, q < H.size → A1 q → A0 q) (hf : ∀ q, free q → A0 q) (hAX : ∀ q, q < H.size → AX q → A0 q)
    (kx : ∀ (E : String) (ce : Cell) (q9 : Addr) (u : SX) (t : State) (H1 : Heap) (locs1 : List Loc), t.heap = H1 → s.vm.Alike t.vm → px u → BX E u t → H.size ≤ H1.size → (∀ q : Nat, q < H.size → ¬ AX q → H1[q]? = H[q]?) → va_S A0 H0 H1 locs1 → H1[q9]? = some ce → ce.vm = .none → s.vm.findClass E = some ce.cls → vx_W p l e R s m args below meth c H1 locs1 (cells + mc) (slots + ms) Q (F0 m pc ls rest) q9)
    (kk : ∀ (r : Int32) (u : S) (t : State) (H1 : Heap) (locs1 : List Loc), t.heap = H1 → s.vm.Alike t.vm → post r u → B u t → H.size ≤ H1.size → (∀ q : Nat, q < H.size → ¬ A1 q → H1[q]? = H[q]?) → va_S A0 H0 H1 locs1 → W p l e R s m args below meth c H1 locs1 (cells + mc) (slots + ms) Q (F0 m (pc + 3) ls (.int r :: rest))) : W p l e R s m args below meth c H locs cells slots Q (F0 m pc ls st0) := by
  intro T hT X
  rcases hr T hT X with ⟨v, st₀, t, T', L, h0, X', hL, e1, e2, ⟨⟨r, u, hv, hp, hb⟩, hF⟩, st⟩ | ⟨q, st₀, t, T', L, E, ce, h0, X', hL, e1, e2, ⟨u, hp, hb, hF⟩, hce, hcv, hcl, st⟩
  · cases hv
    obtain ⟨k1, k2, k3⟩ := vx_keep h0 e1 hS hA hf hL hF
    obtain ⟨t2, a1, b1⟩ := kk r u t T'.heap (locs ++ L) e1.symm (by rw [← e2]; exact X'.warmed.alike) hp hb k1 k2 k3 T' rfl X'
    exact ⟨t2, st t2 a1, b1⟩
  · obtain ⟨k1, k2, k3⟩ := vx_keep h0 e1 hS hAX hf hL hF
    obtain ⟨t2, a1, b1⟩ := kx E ce q u t T'.heap (locs ++ L) e1.symm (by rw [← e2]; exact X'.warmed.alike) hp hb k1 k2 k3 (by rw [e1]; exact hce) hcv hcl T' rfl X'
    exact ⟨t2, st.trans a1, b1⟩
theorem vx_calll {S SX : Type} {post : Int64 → S → Prop} {px : SX → Prop} {B : S → State → Prop} {BX : String → SX → State → Prop} {AX : Nat → Prop} (hr : vx_Run p l e R s m args below meth c H locs cells slots mc ms (F0 m pc ls st0) rest (va_Ql post B A1 a) (vx_X px BX AX) free) (hS : va_S A0 H0 H locs) (hA : ∀ q, q < H.size → A1 q → A0 q) (hf : ∀ q, free q → A0 q) (hAX : ∀ q, q < H.size → AX q → A0 q)
    (kx : ∀ (E : String) (ce : Cell) (q9 : Addr) (u : SX) (t : State) (H1 : Heap) (locs1 : List Loc), t.heap = H1 → s.vm.Alike t.vm → px u → BX E u t → H.size ≤ H1.size → (∀ q : Nat, q < H.size → ¬ AX q → H1[q]? = H[q]?) → va_S A0 H0 H1 locs1 → H1[q9]? = some ce → ce.vm = .none → s.vm.findClass E = some ce.cls → vx_W p l e R s m args below meth c H1 locs1 (cells + mc) (slots + ms) Q (F0 m pc ls rest) q9)
    (kk : ∀ (r : Int64) (u : S) (t : State) (H1 : Heap) (locs1 : List Loc), t.heap = H1 → s.vm.Alike t.vm → post r u → B u t → H.size ≤ H1.size → (∀ q : Nat, q < H.size → ¬ A1 q → H1[q]? = H[q]?) → va_S A0 H0 H1 locs1 → W p l e R s m args below meth c H1 locs1 (cells + mc) (slots + ms) Q (F0 m (pc + 3) ls (.long r :: rest))) : W p l e R s m args below meth c H locs cells slots Q (F0 m pc ls st0) := by
  intro T hT X
  rcases hr T hT X with ⟨v, st₀, t, T', L, h0, X', hL, e1, e2, ⟨⟨r, u, hv, hp, hb⟩, hF⟩, st⟩ | ⟨q, st₀, t, T', L, E, ce, h0, X', hL, e1, e2, ⟨u, hp, hb, hF⟩, hce, hcv, hcl, st⟩
  · cases hv
    obtain ⟨k1, k2, k3⟩ := vx_keep h0 e1 hS hA hf hL hF
    obtain ⟨t2, a1, b1⟩ := kk r u t T'.heap (locs ++ L) e1.symm (by rw [← e2]; exact X'.warmed.alike) hp hb k1 k2 k3 T' rfl X'
    exact ⟨t2, st t2 a1, b1⟩
  · obtain ⟨k1, k2, k3⟩ := vx_keep h0 e1 hS hAX hf hL hF
    obtain ⟨t2, a1, b1⟩ := kx E ce q u t T'.heap (locs ++ L) e1.symm (by rw [← e2]; exact X'.warmed.alike) hp hb k1 k2 k3 (by rw [e1]; exact hce) hcv hcl T' rfl X'
    exact ⟨t2, st.trans a1, b1⟩
theorem vx_callf {S SX : Type} {post : UInt32 → S → Prop} {px : SX → Prop} {B : S → State → Prop} {BX : String → SX → State → Prop} {AX : Nat → Prop} (hr : vx_Run p l e R s m args below meth c H locs cells slots mc ms (F0 m pc ls st0) rest (va_Qf post B A1 a) (vx_X px BX AX) free) (hS : va_S A0 H0 H locs) (hA : ∀ q, q < H.size → A1 q → A0 q) (hf : ∀ q, free q → A0 q) (hAX : ∀ q, q < H.size → AX q → A0 q)
    (kx : ∀ (E : String) (ce : Cell) (q9 : Addr) (u : SX) (t : State) (H1 : Heap) (locs1 : List Loc), t.heap = H1 → s.vm.Alike t.vm → px u → BX E u t → H.size ≤ H1.size → (∀ q : Nat, q < H.size → ¬ AX q → H1[q]? = H[q]?) → va_S A0 H0 H1 locs1 → H1[q9]? = some ce → ce.vm = .none → s.vm.findClass E = some ce.cls → vx_W p l e R s m args below meth c H1 locs1 (cells + mc) (slots + ms) Q (F0 m pc ls rest) q9)
    (kk : ∀ (r : UInt32) (u : S) (t : State) (H1 : Heap) (locs1 : List Loc), t.heap = H1 → s.vm.Alike t.vm → post r u → B u t → H.size ≤ H1.size → (∀ q : Nat, q < H.size → ¬ A1 q → H1[q]? = H[q]?) → va_S A0 H0 H1 locs1 → W p l e R s m args below meth c H1 locs1 (cells + mc) (slots + ms) Q (F0 m (pc + 3) ls (.float r :: rest))) : W p l e R s m args below meth c H locs cells slots Q (F0 m pc ls st0) := by
  intro T hT X
  rcases hr T hT X with ⟨v, st₀, t, T', L, h0, X', hL, e1, e2, ⟨⟨r, u, hv, hp, hb⟩, hF⟩, st⟩ | ⟨q, st₀, t, T', L, E, ce, h0, X', hL, e1, e2, ⟨u, hp, hb, hF⟩, hce, hcv, hcl, st⟩
  · cases hv
    obtain ⟨k1, k2, k3⟩ := vx_keep h0 e1 hS hA hf hL hF
    obtain ⟨t2, a1, b1⟩ := kk r u t T'.heap (locs ++ L) e1.symm (by rw [← e2]; exact X'.warmed.alike) hp hb k1 k2 k3 T' rfl X'
    exact ⟨t2, st t2 a1, b1⟩
  · obtain ⟨k1, k2, k3⟩ := vx_keep h0 e1 hS hAX hf hL hF
    obtain ⟨t2, a1, b1⟩ := kx E ce q u t T'.heap (locs ++ L) e1.symm (by rw [← e2]; exact X'.warmed.alike) hp hb k1 k2 k3 (by rw [e1]; exact hce) hcv hcl T' rfl X'
    exact ⟨t2, st.trans a1, b1⟩
theorem vx_calld {S SX : Type} {post : UInt64 → S → Prop} {px : SX → Prop} {B : S → State → Prop} {BX : String → SX → State → Prop} {AX : Nat → Prop} (hr : vx_Run p l e R s m args below meth c H locs cells slots mc ms (F0 m pc ls st0) rest (va_Qd post B A1 a) (vx_X px BX AX) free) (hS : va_S A0 H0 H locs) (hA : ∀ q, q < H.size → A1 q → A0 q) (hf : ∀ q, free q → A0 q) (hAX : ∀ q, q < H.size → AX q → A0 q)
    (kx : ∀ (E : String) (ce : Cell) (q9 : Addr) (u : SX) (t : State) (H1 : Heap) (locs1 : List Loc), t.heap = H1 → s.vm.Alike t.vm → px u → BX E u t → H.size ≤ H1.size → (∀ q : Nat, q < H.size → ¬ AX q → H1[q]? = H[q]?) → va_S A0 H0 H1 locs1 → H1[q9]? = some ce → ce.vm = .none → s.vm.findClass E = some ce.cls → vx_W p l e R s m args below meth c H1 locs1 (cells + mc) (slots + ms) Q (F0 m pc ls rest) q9)
    (kk : ∀ (r : UInt64) (u : S) (t : State) (H1 : Heap) (locs1 : List Loc), t.heap = H1 → s.vm.Alike t.vm → post r u → B u t → H.size ≤ H1.size → (∀ q : Nat, q < H.size → ¬ A1 q → H1[q]? = H[q]?) → va_S A0 H0 H1 locs1 → W p l e R s m args below meth c H1 locs1 (cells + mc) (slots + ms) Q (F0 m (pc + 3) ls (.double r :: rest))) : W p l e R s m args below meth c H locs cells slots Q (F0 m pc ls st0) := by
  intro T hT X
  rcases hr T hT X with ⟨v, st₀, t, T', L, h0, X', hL, e1, e2, ⟨⟨r, u, hv, hp, hb⟩, hF⟩, st⟩ | ⟨q, st₀, t, T', L, E, ce, h0, X', hL, e1, e2, ⟨u, hp, hb, hF⟩, hce, hcv, hcl, st⟩
  · cases hv
    obtain ⟨k1, k2, k3⟩ := vx_keep h0 e1 hS hA hf hL hF
    obtain ⟨t2, a1, b1⟩ := kk r u t T'.heap (locs ++ L) e1.symm (by rw [← e2]; exact X'.warmed.alike) hp hb k1 k2 k3 T' rfl X'
    exact ⟨t2, st t2 a1, b1⟩
  · obtain ⟨k1, k2, k3⟩ := vx_keep h0 e1 hS hAX hf hL hF
    obtain ⟨t2, a1, b1⟩ := kx E ce q u t T'.heap (locs ++ L) e1.symm (by rw [← e2]; exact X'.warmed.alike) hp hb k1 k2 k3 (by rw [e1]; exact hce) hcv hcl T' rfl X'
    exact ⟨t2, st.trans a1, b1⟩
theorem vx_callv {S SX : Type} {post : S → Prop} {px : SX → Prop} {B : S → State → Prop} {BX : String → SX → State → Prop} {AX : Nat → Prop} (hr : vx_Run p l e R s m args below meth c H locs cells slots mc ms (F0 m pc ls st0) rest (va_Qv post B A1 a) (vx_X px BX AX) free) (hS : va_S A0 H0 H locs) (hA : ∀ q, q < H.size → A1 q → A0 q) (hf : ∀ q, free q → A0 q) (hAX : ∀ q, q < H.size → AX q → A0 q)
    (kx : ∀ (E : String) (ce : Cell) (q9 : Addr) (u : SX) (t : State) (H1 : Heap) (locs1 : List Loc), t.heap = H1 → s.vm.Alike t.vm → px u → BX E u t → H.size ≤ H1.size → (∀ q : Nat, q < H.size → ¬ AX q → H1[q]? = H[q]?) → va_S A0 H0 H1 locs1 → H1[q9]? = some ce → ce.vm = .none → s.vm.findClass E = some ce.cls → vx_W p l e R s m args below meth c H1 locs1 (cells + mc) (slots + ms) Q (F0 m pc ls rest) q9)
    (kk : ∀ (u : S) (t : State) (H1 : Heap) (locs1 : List Loc), t.heap = H1 → s.vm.Alike t.vm → post u → B u t → H.size ≤ H1.size → (∀ q : Nat, q < H.size → ¬ A1 q → H1[q]? = H[q]?) → va_S A0 H0 H1 locs1 → W p l e R s m args below meth c H1 locs1 (cells + mc) (slots + ms) Q (F0 m (pc + 3) ls (rest))) : W p l e R s m args below meth c H locs cells slots Q (F0 m pc ls st0) := by
  intro T hT X
  rcases hr T hT X with ⟨v, st₀, t, T', L, h0, X', hL, e1, e2, ⟨⟨u, hv, hp, hb⟩, hF⟩, st⟩ | ⟨q, st₀, t, T', L, E, ce, h0, X', hL, e1, e2, ⟨u, hp, hb, hF⟩, hce, hcv, hcl, st⟩
  · cases hv
    obtain ⟨k1, k2, k3⟩ := vx_keep h0 e1 hS hA hf hL hF
    obtain ⟨t2, a1, b1⟩ := kk u t T'.heap (locs ++ L) e1.symm (by rw [← e2]; exact X'.warmed.alike) hp hb k1 k2 k3 T' rfl X'
    exact ⟨t2, st t2 a1, b1⟩
  · obtain ⟨k1, k2, k3⟩ := vx_keep h0 e1 hS hAX hf hL hF
    obtain ⟨t2, a1, b1⟩ := kx E ce q u t T'.heap (locs ++ L) e1.symm (by rw [← e2]; exact X'.warmed.alike) hp hb k1 k2 k3 (by rw [e1]; exact hce) hcv hcl T' rfl X'
    exact ⟨t2, st.trans a1, b1⟩
/-- caught by the row x of this method's table; the rows ahead don't take it -/
theorem vx_catch {own name : String} {E : String} {ce : Cell} {q : Addr} (hown : s.vm.findClass own = some m.cls) (pre : List ExceptionTableEntry) (x : ExceptionTableEntry) (suf : List ExceptionTableEntry) (hsplit : c.exceptionTable.toList = pre ++ x :: suf)
    (hpass : ∀ z ∈ pre, covers z pc = false ∨ (z.catchType ≠ 0 ∧ ∃ nm : String, (Cond.classLink own z.catchType nm).before args s = true ∧ va_Nc E nm s)) (hx : covers x pc = true) (h0 : x.catchType ≠ 0)
    (hlink : (Cond.classLink own x.catchType name).before args s = true) (hcast : (Cond.castable E name).before args s = true) (hcell : H[q]? = some ce) (hv : ce.vm = .none) (hcl : s.vm.findClass E = some ce.cls)
    (kk : W p l e R s m args below meth c H locs cells slots Q (F0 m x.handlerPc ls [.ref q])) : vx_W p l e R s m args below meth c H locs cells slots Q (F0 m pc ls rest) q := by
  intro T hT X
  have hpl : e.platform.magicAccessors = ({} : Platform).magicAccessors := by rw [X.admits.platform]
  obtain ⟨c3, c4, hc3, hc4, hasg⟩ := Cond.castable_spec hcast
  cases Option.some.inj (hc3.symm.trans hcl)
  obtain ⟨c5, hc5, hcl5⟩ := Cond.classLink_spec hown hlink e.platform hpl
  cases Option.some.inj (hc4.symm.trans hc5)
  obtain ⟨vm', X', st⟩ := X.thenCaughtThrough q (g := F0 m pc ls rest) rfl (Steps.refl _) (by rw [hT]; exact hcell) (by rw [hv]; rfl) (by obtain ⟨k9, h9, -⟩ := Vm.findClass_spec hcl; exact ⟨k9, h9⟩) pre x suf hsplit
    (fun z hz => by
      rcases hpass z hz with h | ⟨hz0, nm, hl1, hn1⟩
      · exact Or.inl h
      · obtain ⟨c6, hc6, hcl6⟩ := Cond.classLink_spec hown hl1 e.platform hpl
        obtain ⟨a8, b8, h1, h2, h3⟩ := hn1
        cases Option.some.inj (h1.symm.trans hcl)
        cases Option.some.inj (h2.symm.trans hc6)
        exact Or.inr ⟨hz0, _, hcl6, h3⟩) hx (Or.inr ⟨h0, c4, hcl5, hasg⟩)
  obtain ⟨t, a1, b1⟩ := kk (T.setVm vm') hT X'
  exact ⟨t, st.trans a1, b1⟩
end Rows
section Ends
variable {p : Program} {l : Launch} {e : Env} {R : Room} {s : State} {m : MethodId} {args : Array Value} {below : List Frame} {meth : Method} {c : Code} {H : Heap} {locs : List Loc} {cells slots : Nat} {Q : State → Prop}
variable {mc ms : Nat} {free : Addr → Prop} {A0 A1 : Nat → Prop} {H0 : Heap} {a : Array Value} {ls : Array Slot} {st0 rest : List Value}
variable {Qc : Array Value → State → Outcome → State → Prop} {XC : String → State → State → Prop}
/-- what a body that may throw owes at its end -/
def vx_MQ (below : List Frame) (Qc : Array Value → State → Outcome → State → Prop) (XC : String → State → State → Prop) (a : Array Value) (s : State) (mc ms : Nat) (free : Addr → Prop) : State → Prop := fun t =>
  ∃ o, t.status = .running ∧ Ended t below o ∧ vx_Q Qc XC mc ms free a s o t
theorem vx_ret {g : JFrame} {mc ms : Nat} (k : W p l e R s m args below meth c H locs cells slots (MQ below Qc args s mc ms free) g) : W p l e R s m args below meth c H locs cells slots (vx_MQ below Qc XC args s mc ms free) g := by
  intro T hT X
  obtain ⟨t, a1, o, b1, b2, b3, b4⟩ := k T hT X
  exact ⟨t, a1, o, b1, b2, Or.inl ⟨b3, b4⟩⟩
/-- not caught here: it goes on to the caller -/
theorem vx_widen {g : JFrame} {q : Addr} {k n : Nat} (h1 : cells ≤ k) (h2 : slots ≤ n) (kk : vx_W p l e R s m args below meth c H locs k n Q g q) : vx_W p l e R s m args below meth c H locs cells slots Q g q := fun T hT X => kk T hT (stand_widen X h1 h2)
theorem vx_out {pc : Nat} {E : String} {ce : Cell} {q : Addr} {mc ms : Nat} (hout : ∀ x ∈ c.exceptionTable.toList, covers x pc = false) (hlocks : meth.locks = false) (hcell : H[q]? = some ce) (hv : ce.vm = .none) (hcl : s.vm.findClass E = some ce.cls)
    (hx : ∀ t : State, t.heap = H → s.vm.Alike t.vm → XC E s t) (hf : ∀ z ∈ locs, free z.base) (hc : cells ≤ mc) (hs : slots ≤ ms) :
    vx_W p l e R s m args below meth c H locs cells slots (vx_MQ below Qc XC args s mc ms free) (F0 m pc ls rest) q := by
  intro T hT X
  obtain ⟨st1, hrun, hend, hW, hsm⟩ := X.leaveThrown q (g := F0 m pc ls rest) rfl rfl rfl hout hlocks
  have hcell9 : (T.setFrames (.throwing q :: below)).heap[q]? = some ce := by
    show T.heap[q]? = some ce
    rw [hT]; exact hcell
  exact ⟨_, st1, .threw q, hrun, hend, Or.inr ⟨q, rfl, E, ce, locs, hx _ hT hW.alike, hcell9, hv, hcl, hW, hsm.mono hc hs, hf⟩⟩
theorem vx_frame {U : State} {k n : Nat} (h : s.sameButNew ({ U with vm := s.vm } : State) locs k n) : s.heap.size ≤ U.heap.size ∧ ∀ q : Nat, q < s.heap.size → (∀ z ∈ locs, z.base ≠ q) → U.heap[q]? = s.heap[q]? := by
  obtain ⟨-, h2, -, -, -, h6⟩ := h
  refine ⟨h2, fun q hq hz => ?_⟩
  obtain ⟨c9, e1, e2, e3, e4⟩ := h6 q _ (Array.getElem?_eq_getElem hq)
  have hs : c9.slots = (s.heap[q]).slots := Array.ext_getElem? fun i => e4 i fun hm => hz _ hm rfl
  have h9 : c9 = s.heap[q] := by
    rw [hs] at e2
    exact e2
  have e5 : U.heap[q]? = some c9 := e1
  rw [e5, h9, Array.getElem?_eq_getElem hq]
/-- the words of a throw but the four that speak of the heap -/
def vx_no (w : Cond) : Bool := decide (w ≠ .isRef (.static Bundle.tN "UNASSIGNED_STACK" Bundle.steD)) && decide (w ≠ .isRef (.static Bundle.tN "SUPPRESSED_SENTINEL" Bundle.listD)) && decide (w ≠ .laysStatic Bundle.tN "UNASSIGNED_STACK" Bundle.steD) && decide (w ≠ .laysStatic Bundle.tN "SUPPRESSED_SENTINEL" Bundle.listD)
def vx_at0 (own : String) (ic : Nat) (X : String) (names : List String) : List Cond := (Bundle.ownAtoms0 own ic X names).filter vx_no
def vx_atS (own : String) (ic : Nat) (X : String) (names : List String) : List Cond := (Bundle.ownAtoms own ic X names).filter vx_no
/-- a word that the tables alone decide, or a good one -/
def vx_ot (w : Cond) : Bool := w.onTables || goodWord w
theorem vx_ot_at {args a' : Array Value} {s U : State} {w : Cond} (hW : s.WarmedH U.vm) (hvm : s.vm = U.vm) (hg : vx_ot w = true) (h : w.before args s = true) : w.before a' U = true := by
  simp only [vx_ot, Bool.or_eq_true] at hg
  rcases hg with hg | hg
  · exact va_tabs hg hvm h
  · exact word_at hW (good_of_word hg) h
/-- a list's words: the good ones out of the method's own list, the others by premises of their own -/
theorem vx_hat {args : Array Value} {s : State} {L B : List Cond} (h1 : ∀ w ∈ L.filter goodWord, w.before args s = true) (h2 : ∀ w ∈ L.filter (fun w => !goodWord w), w ∈ B) (h3 : ∀ w ∈ B, w.before args s = true) : ∀ w ∈ L, w.before args s = true := by
  intro w hw
  by_cases g : goodWord w = true
  · exact h1 w (List.mem_filter.mpr ⟨hw, g⟩)
  · refine h3 w (h2 w (List.mem_filter.mpr ⟨hw, ?_⟩))
    show (!goodWord w) = true
    cases hgw : goodWord w
    · rfl
    · exact absurd hgw g
theorem vx_c {args : Array Value} {s : State} {w : Cond} {B : List Cond} (h : w.before args s = true) (t : ∀ w ∈ B, w.before args s = true) : ∀ w' ∈ w :: B, w'.before args s = true := fun w' h' => (List.mem_cons.mp h').elim (fun e => by rw [e]; exact h) (t w')
theorem vx_n {args : Array Value} {s : State} : ∀ w ∈ ([] : List Cond), w.before args s = true := fun _ h => nomatch h
theorem vx_own {args : Array Value} {s : State} {L : List Cond} (h1 : ∀ w ∈ L.filter vx_no, w.before args s = true)
    (hU : (Cond.isRef (.static Bundle.tN "UNASSIGNED_STACK" Bundle.steD)).before args s = true) (hN : (Cond.isRef (.static Bundle.tN "SUPPRESSED_SENTINEL" Bundle.listD)).before args s = true)
    (lU : (Cond.laysStatic Bundle.tN "UNASSIGNED_STACK" Bundle.steD).before args s = true) (lN : (Cond.laysStatic Bundle.tN "SUPPRESSED_SENTINEL" Bundle.listD).before args s = true) : ∀ w ∈ L, w.before args s = true := by
  intro w hw
  by_cases e1 : w = .isRef (.static Bundle.tN "UNASSIGNED_STACK" Bundle.steD)
  · rw [e1]; exact hU
  · by_cases e2 : w = .isRef (.static Bundle.tN "SUPPRESSED_SENTINEL" Bundle.listD)
    · rw [e2]; exact hN
    · by_cases e3 : w = .laysStatic Bundle.tN "UNASSIGNED_STACK" Bundle.steD
      · rw [e3]; exact lU
      · by_cases e4 : w = .laysStatic Bundle.tN "SUPPRESSED_SENTINEL" Bundle.listD
        · rw [e4]; exact lN
        · exact h1 w (List.mem_filter.mpr ⟨hw, by unfold vx_no; rw [decide_eq_true e1, decide_eq_true e2, decide_eq_true e3, decide_eq_true e4]; rfl⟩)
/-- where a static field lies, its class's statics cell in H -/
def vx_L (C n d : String) (A : Nat → Prop) (U : State) (H : Heap) : Prop := ∃ (c : ClassId) (k : Class) (i : Nat) (f : Field) (a : Nat) (cell : Cell), U.vm.findClass C = some c ∧ U.fieldFound? C n d = some (c, k, i, f) ∧ f.isStatic = true ∧ k.statics = some a ∧ H[a]? = some cell ∧ cell.vm.isStatics = true ∧ cell.cls = c ∧ f.slot < cell.slots.size ∧ k.staticTypes[f.slot]? = some f.type ∧ ¬ A a
theorem vx_L.moved {C n d : String} {A : Nat → Prop} {u U : State} {H : Heap} (hvm : u.vm.Alike U.vm) (h : vx_L C n d A u H) : vx_L C n d A U H := by
  obtain ⟨c, k, i, f, a, cell, h1, h2, h3, h4, h5, h6, h7, h8, h9, h10⟩ := h
  obtain ⟨k', hi', he⟩ := State.fieldFound?_setVm hvm h2
  exact ⟨c, k', i, f, a, cell, by rw [hvm.findClass]; exact h1, hi', h3, by rw [he]; exact h4, h5, h6, h7, h8, by rw [he]; exact h9, h10⟩
theorem vx_L.kept {C n d : String} {A : Nat → Prop} {U : State} {H H1 : Heap} (h : vx_L C n d A U H) (hq : ∀ a : Nat, a < H.size → ¬ A a → H1[a]? = H[a]?) : vx_L C n d A U H1 := by
  obtain ⟨c, k, i, f, a, cell, h1, h2, h3, h4, h5, h6, h7, h8, h9, h10⟩ := h
  exact ⟨c, k, i, f, a, cell, h1, h2, h3, h4, by rw [hq a (Array.getElem?_eq_some_iff.mp h5).1 h10]; exact h5, h6, h7, h8, h9, h10⟩
theorem vx_L.narrow {C n d : String} {A B : Nat → Prop} {U : State} {H : Heap} (h : vx_L C n d A U H) (hAB : ∀ q, B q → A q) : vx_L C n d B U H := by
  obtain ⟨c, k, i, f, a, cell, h1, h2, h3, h4, h5, h6, h7, h8, h9, h10⟩ := h
  exact ⟨c, k, i, f, a, cell, h1, h2, h3, h4, h5, h6, h7, h8, h9, fun z => h10 (hAB _ z)⟩
theorem vx_L.word {C n d : String} {A : Nat → Prop} {s : State} {args : Array Value} (h : vx_L C n d A s s.heap) : (Cond.laysStatic C n d).before args s = true := by
  obtain ⟨c, k, i, f, a, cell, h1, h2, h3, h4, h5, h6, h7, h8, h9, -⟩ := h
  show (Cond.laysStatic C n d).holds args s none s [] = true
  exact Cond.laysStatic_of h1 h2 h3 h4 h5 h6 h7 h8 h9
/-- .. and what it holds: null or some reference -/
def vx_Zq (C n d : String) (A : Nat → Prop) (U : State) (H : Heap) : Prop := va_Zq C n d A U H ∧ vx_L C n d A U H
theorem vx_Zq.moved {C n d : String} {A : Nat → Prop} {u U : State} {H : Heap} (hvm : u.vm.Alike U.vm) (h : vx_Zq C n d A u H) : vx_Zq C n d A U H := ⟨va_Zq.moved hvm h.1, vx_L.moved hvm h.2⟩
theorem vx_Zq.kept {C n d : String} {A : Nat → Prop} {U : State} {H H1 : Heap} (h : vx_Zq C n d A U H) (hq : ∀ a : Nat, a < H.size → ¬ A a → H1[a]? = H[a]?) : vx_Zq C n d A U H1 := ⟨va_Zq.kept h.1 hq, vx_L.kept h.2 hq⟩
theorem vx_Zq.narrow {C n d : String} {A B : Nat → Prop} {U : State} {H : Heap} (h : vx_Zq C n d A U H) (hAB : ∀ q, B q → A q) : vx_Zq C n d B U H := ⟨va_Zq.narrow h.1 hAB, vx_L.narrow h.2 hAB⟩
theorem vx_Zqof {args : Array Value} {s : State} {C n d : String} {A : Nat → Prop} (hl : (Cond.laysStatic C n d).before args s = true) (hini : (Cond.initialized C).before args s = true) (h : (Cond.isRef (.static C n d)).before args s = true) (hA : ∀ a : Nat, a < s.heap.size → ¬ A a) : vx_Zq C n d A s s.heap := by
  refine ⟨va_Zqof hl hini h hA, ?_⟩
  obtain ⟨c, k, i, f, a, cell, h1, h2, h3, h4, h5, h6, h7, h8, h9⟩ := Cond.laysStatic_spec hl
  exact ⟨c, k, i, f, a, cell, h1, h2, h3, h4, h5, h6, h7, h8, h9, hA a (Array.getElem?_eq_some_iff.mp h5).1⟩
theorem vx_isRef {C n d : String} {v : Value} {A : Nat → Prop} {s : State} {args : Array Value} (h : va_Z C n d v A s s.heap) (hv : v.isRef = true) : (Cond.isRef (.static C n d)).before args s = true := by
  obtain ⟨cf, kf, fi, f, a, cell, h1, h2, h3, h4, h5, h6, h7, -⟩ := h
  have he : (Term.static C n d).eval args s none [] s = some v := by
    simp [Term.eval, State.fieldNamed?, h1, h2, h4, h5, h6, h7]
  simp only [Cond.before, Cond.holds, Cond.value, he]
  cases v <;> simp_all [Value.isRef]
theorem vx_isRefq {C n d : String} {A : Nat → Prop} {s : State} {args : Array Value} (h : va_Zq C n d A s s.heap) : (Cond.isRef (.static C n d)).before args s = true := by
  rcases h with h | ⟨t, h⟩
  · exact vx_isRef h rfl
  · exact vx_isRef h rfl
/-- the same frame, seen from here: as if the method were called anew in this heap -/
theorem vx_rebase {T : State} (X : Stand p l e R s m args below meth c T locs cells slots) {R' : Room} (hf : R'.frames ≤ R.frames) (hl : R'.locals ≤ R.locals) (hc : cells + R'.cells ≤ R.cells) (hs : slots + R'.slots ≤ R.slots) :
    Stand p l e R' ((T.setVm s.vm).setFrames (.invoking m args :: below)) m args below meth c T [] 0 0 := by
  have htop : (T.setVm s.vm).topJava?.isSome := X.here.top
  have hF : ((T.setVm s.vm).setFrames (.invoking m args :: below)).frames = .invoking m args :: below := State.frames_setFrames _ (State.cur_lt_of_top htop)
  obtain ⟨g₀, hg0⟩ := Option.isSome_iff_exists.mp htop
  obtain ⟨r, hr⟩ := State.topJava?_eq_some.mp hg0
  have hl9 : e.platform.stackLimits (T.setVm s.vm).me = e.platform.stackLimits s.me := X.limits
  have hb9 : (T.setVm s.vm).me.stackBytes = s.me.stackBytes := X.bytes
  refine ⟨X.admits, X.cas, X.clock, hF, ?_, X.hears, X.method, X.code, X.here, X.tail, X.warmed, ?_, ?_, ?_⟩
  · have h := X.room
    have hU : ((T.setVm s.vm).setFrames (.invoking m args :: below)).localsInUse = s.localsInUse := by
      rw [State.localsInUse_invoking hF (meth := meth) (c := c) X.method X.code, State.localsInUse_invoking X.frames X.method X.code]
    simp only [State.hasRoom, Bool.and_eq_true, decide_eq_true_eq] at h ⊢
    obtain ⟨⟨⟨⟨h1, h2, h3, h4, h5, h6⟩, h7⟩, h8⟩, h9⟩ := h
    rw [X.frames, List.length_cons] at h2 h3
    have q1 := X.heapSize
    have q2 := X.used
    simp only [hF, hU, List.length_cons, State.stackLimits_setFrames, State.stackBytes_setFrames, hl9, hb9]
    refine ⟨⟨⟨⟨by omega, by omega, by omega, by omega, by omega, h6⟩, ?_⟩, ?_⟩, X.book⟩
    · show T.heap.size + R'.cells ≤ e.platform.maxCells
      omega
    · show T.slotsUsed + R'.slots ≤ e.platform.maxSlots
      omega
  · rw [State.stackLimits_setFrames]; rfl
  · rw [State.stackBytes_setFrames]; rfl
  · refine ⟨?_, Nat.le_refl _, Nat.le_refl _, ?_, ?_, fun a c9 h9 => ⟨c9, h9, rfl, rfl, fun _ _ => rfl⟩⟩
    · obtain ⟨t, ht, -⟩ := State.frames_cons hr
      show T.setVm s.vm = { ((T.setVm s.vm).setFrames (.invoking m args :: below)).setFrames (T.setVm s.vm).frames with heap := T.heap, slotsUsed := T.slotsUsed }
      rw [State.setFrames_setFrames, State.setFrames_self ht]
      rfl
    · show T.slotsUsed = T.slotsUsed + ((T.heap.toList.drop T.heap.size).map (·.slots.size)).sum
      rw [List.drop_eq_nil_of_le (Nat.le_of_eq Array.length_toList)]
      rfl
    · show ((T.heap.toList.drop T.heap.size).map (·.slots.size)).sum ≤ 0
      rw [List.drop_eq_nil_of_le (Nat.le_of_eq Array.length_toList)]
      exact Nat.le_refl _
/-- 'throw new E()': new; dup; invokespecial; athrow -/
theorem vx_throw0 {cc : ByteArray} {pc : Nat} (hexec : p.tables.exec = Jvm.exec) (hb : c.code = cc) (hl : l.stackTraces = false) {own cls : String} {names : List String} {ik ic mc ms : Nat} {A : Nat → Prop}
    (hown : s.vm.findClass own = some m.cls) (hcls : Bundle.fit cls = true) (hnames : ∀ n ∈ names, Bundle.fit n = true)
    (hk : (Cond.classLink own ik cls).before args s = true) (hini : (Cond.initialized cls).before args s = true) (hat : ∀ w ∈ vx_at0 own ic cls names, w.before args s = true)
    (hgood : ∀ w ∈ Cond.classLink own ik cls :: Cond.initialized cls :: vx_at0 own ic cls names, vx_ot w = true)
    (hU : vx_Zq Bundle.tN "UNASSIGNED_STACK" Bundle.steD A s s.heap) (hN : vx_Zq Bundle.tN "SUPPRESSED_SENTINEL" Bundle.listD A s s.heap) (hS : va_S A s.heap H locs) (hsize : ls.size = c.maxLocals)
    (d0 : decode cc pc = .ok (.new ik, 3)) (d3 : decode cc (pc + 3) = .ok (.dup, 1)) (d4 : decode cc (pc + 4) = .ok (.invokespecial ic, 3)) (d7 : decode cc (pc + 7) = .ok (.athrow, 1))
    (hout : ∀ x ∈ c.exceptionTable.toList, covers x (pc + 7) = false)
    (hRframes : names.length + 3 < R.frames) (hRlocals : (rest.map fun v => v.category).sum + (13 * (names.length + 1) + 42) ≤ R.locals) (hRcells : cells + 1 ≤ R.cells) (hRslots : slots + 6 ≤ R.slots) (hlocks : meth.locks = false)
    (hx : ∀ t : State, s.vm.Alike t.vm → H.size ≤ t.heap.size → (∀ q : Nat, q < H.size → t.heap[q]? = H[q]?) → XC cls s t)
    (hf : ∀ z ∈ locs, free z.base) (hc : cells + 1 ≤ mc) (hs : slots + 6 ≤ ms) :
    W p l e R s m args below meth c H locs cells slots (vx_MQ below Qc XC args s mc ms free) (F0 m pc ls rest) := by
  intro T hT X
  have htr : e.platform.stackTraces = false := (show e.platform.stackTraces = l.stackTraces by rw [X.admits.platform]).trans hl
  have Y := vx_rebase X (R' := { frames := R.frames, locals := R.locals, cells := 1, slots := 6 }) (Nat.le_refl _) (Nat.le_refl _) hRcells hRslots
  obtain ⟨s', hA⟩ : ∃ z, z = (T.setVm s.vm).setFrames (.invoking m args :: below) := ⟨_, rfl⟩
  rw [← hA] at Y
  have hvm : s'.vm = s.vm := by rw [hA]; rfl
  have hhp : s'.heap = H := by rw [hA]; exact hT
  have hW0 : s.WarmedH s'.vm := by rw [hvm]; exact State.WarmedH.refl s
  have hat' : ∀ w ∈ vx_at0 own ic cls names, w.before args s' = true := fun w hw => vx_ot_at hW0 hvm.symm (hgood w (List.mem_cons_of_mem _ (List.mem_cons_of_mem _ hw))) (hat w hw)
  have hk' : (Cond.classLink own ik cls).before args s' = true := vx_ot_at hW0 hvm.symm (hgood _ List.mem_cons_self) hk
  have hini' : (Cond.initialized cls).before args s' = true := vx_ot_at hW0 hvm.symm (hgood _ (List.mem_cons_of_mem _ List.mem_cons_self)) hini
  have hU' : vx_Zq Bundle.tN "UNASSIGNED_STACK" Bundle.steD A s' s'.heap := by rw [hhp]; exact vx_Zq.moved hW0.alike (hU.kept hS.2.1)
  have hN' : vx_Zq Bundle.tN "SUPPRESSED_SENTINEL" Bundle.listD A s' s'.heap := by rw [hhp]; exact vx_Zq.moved hW0.alike (hN.kept hS.2.1)
  have h : ∀ w ∈ Bundle.ownAtoms0 own ic cls names, w.before args s' = true := vx_own hat' (vx_isRefq hU'.1) (vx_isRefq hN'.1) hU'.2.word hN'.2.word
  have hown' : s'.vm.findClass own = some m.cls := by rw [hvm]; exact hown
  have hins : (Cond.instantiable cls 6).before args s' = true := h _ (by simp [Bundle.ownAtoms0])
  obtain ⟨vm₁, cX, kX, hfX, hkX, -, -, X₁, st1⟩ := Y.newCold hexec (own := own) (C := cls) (index := ik) (n := 6) hown' hk' hins hini'
    (g := F0 m pc ls rest) rfl (by rw [hb]; exact d0) (Nat.le_refl _) (Nat.le_refl _)
  generalize hT1 : (T.setVm vm₁).pushCell { cls := cX, slots := kX.instanceTypes.map defaultValue, vm := .none } = T1 at X₁ st1
  have hcat : (Value.ref T.heap.size).category = 1 := rfl
  have hcellA : T1.heap[T.heap.size]? = some (freshCell cX kX) := by rw [← hT1]; exact State.heap_pushCell_size _ _
  have d3' : decode c.code (pc + 3) = .ok (.dup, 1) := by rw [hb]; exact d3
  obtain ⟨U, hsteps, hrun, hend, hW, hsame, ce, hce, hO⟩ := X₁.ctorThrow0 hexec htr (own := own) (cls := cls) (names := names) (ic := ic) hown' hcls hnames h (fun x hx => nomatch hx) hfX hkX hcellA (by rw [hhp, hT]; exact Nat.le_refl _)
    (g := { method := m, pc := pc + 4, locals := ls, stack := .ref T.heap.size :: .ref T.heap.size :: rest, locked := none }) rfl hsize rfl rfl (rest := rest) rfl
    (by rw [hb]; exact d4) (by rw [hb]; exact d7) hout hRframes (by simp only [List.map_cons, List.sum_cons, hcat]; omega) hlocks
  obtain ⟨f1, f2⟩ := vx_frame hsame
  rw [hhp] at f1 f2
  have hWs : s.WarmedH U.vm := State.WarmedH.trans hW0 hW
  have hcl : s.vm.findClass cls = some ce.cls := by
    have h9 := hO.cls
    rw [hvm] at h9
    exact h9
  have hall : s.sameButNew ({ U with vm := s.vm } : State) locs mc ms := by
    subst hA
    obtain ⟨e1, e2⟩ := hsame
    rw [State.setFrames_setFrames] at e1
    have h2 : (T.setVm s.vm).sameButNew ({ U with vm := s.vm } : State) [] (0 + 1) (0 + 6) := ⟨e1, e2⟩
    have h3 := X.same.trans h2
    rw [List.append_nil] at h3
    exact h3.mono hc hs
  refine ⟨U, ?_, .threw T.heap.size, hrun, hend, Or.inr ⟨T.heap.size, rfl, cls, ce, locs, hx U hWs.alike f1 (fun q hq => f2 q hq (fun z hz => nomatch hz)), hce, hO.vm, hcl, hWs, hall, hf⟩⟩
  refine st1 _ ?_
  show Steps p.tables e below (T1.setTop { method := m, pc := pc + 3, locals := ls, stack := .ref T.heap.size :: rest, locked := none }) _
  jvm_step X₁.here [X₁.here.top, hexec, d3', Value.category]
  exact hsteps
/-- 'throw new E("text")': new; dup; ldc; invokespecial; athrow -/
theorem vx_throwS {cc : ByteArray} {pc : Nat} (hexec : p.tables.exec = Jvm.exec) (hb : c.code = cc) (hl : l.stackTraces = false) {own cls text : String} {names : List String} {ik is ic mc ms sa : Nat} {A : Nat → Prop}
    (hown : s.vm.findClass own = some m.cls) (hcls : Bundle.fit cls = true) (hnames : ∀ n ∈ names, Bundle.fit n = true)
    (hk : (Cond.classLink own ik cls).before args s = true) (hini : (Cond.initialized cls).before args s = true) (hstr : vk_R own is text sa s) (hat : ∀ w ∈ vx_atS own ic cls names, w.before args s = true)
    (hgood : ∀ w ∈ Cond.classLink own ik cls :: Cond.initialized cls :: vx_atS own ic cls names, vx_ot w = true)
    (hU : vx_Zq Bundle.tN "UNASSIGNED_STACK" Bundle.steD A s s.heap) (hN : vx_Zq Bundle.tN "SUPPRESSED_SENTINEL" Bundle.listD A s s.heap) (hS : va_S A s.heap H locs) (hsize : ls.size = c.maxLocals)
    (d0 : decode cc pc = .ok (.new ik, 3)) (d3 : decode cc (pc + 3) = .ok (.dup, 1)) (d4 : decode cc (pc + 4) = .ok (.ldc is, 2)) (d6 : decode cc (pc + 6) = .ok (.invokespecial ic, 3)) (d9 : decode cc (pc + 9) = .ok (.athrow, 1))
    (hout : ∀ x ∈ c.exceptionTable.toList, covers x (pc + 9) = false)
    (hRframes : names.length + 3 < R.frames) (hRlocals : (rest.map fun v => v.category).sum + (13 * (names.length + 1) + 43) ≤ R.locals) (hRcells : cells + 1 ≤ R.cells) (hRslots : slots + 6 ≤ R.slots) (hlocks : meth.locks = false)
    (hx : ∀ t : State, s.vm.Alike t.vm → H.size ≤ t.heap.size → (∀ q : Nat, q < H.size → t.heap[q]? = H[q]?) → XC cls s t)
    (hf : ∀ z ∈ locs, free z.base) (hc : cells + 1 ≤ mc) (hs : slots + 6 ≤ ms) :
    W p l e R s m args below meth c H locs cells slots (vx_MQ below Qc XC args s mc ms free) (F0 m pc ls rest) := by
  intro T hT X
  have htr : e.platform.stackTraces = false := (show e.platform.stackTraces = l.stackTraces by rw [X.admits.platform]).trans hl
  have Y := vx_rebase X (R' := { frames := R.frames, locals := R.locals, cells := 1, slots := 6 }) (Nat.le_refl _) (Nat.le_refl _) hRcells hRslots
  obtain ⟨s', hA⟩ : ∃ z, z = (T.setVm s.vm).setFrames (.invoking m args :: below) := ⟨_, rfl⟩
  rw [← hA] at Y
  have hvm : s'.vm = s.vm := by rw [hA]; rfl
  have hhp : s'.heap = H := by rw [hA]; exact hT
  have hW0 : s.WarmedH s'.vm := by rw [hvm]; exact State.WarmedH.refl s
  have hat' : ∀ w ∈ vx_atS own ic cls names, w.before args s' = true := fun w hw => vx_ot_at hW0 hvm.symm (hgood w (List.mem_cons_of_mem _ (List.mem_cons_of_mem _ hw))) (hat w hw)
  have hk' : (Cond.classLink own ik cls).before args s' = true := vx_ot_at hW0 hvm.symm (hgood _ List.mem_cons_self) hk
  have hini' : (Cond.initialized cls).before args s' = true := vx_ot_at hW0 hvm.symm (hgood _ (List.mem_cons_of_mem _ List.mem_cons_self)) hini
  have hU' : vx_Zq Bundle.tN "UNASSIGNED_STACK" Bundle.steD A s' s'.heap := by rw [hhp]; exact vx_Zq.moved hW0.alike (hU.kept hS.2.1)
  have hN' : vx_Zq Bundle.tN "SUPPRESSED_SENTINEL" Bundle.listD A s' s'.heap := by rw [hhp]; exact vx_Zq.moved hW0.alike (hN.kept hS.2.1)
  have h : ∀ w ∈ Bundle.ownAtoms own ic cls names, w.before args s' = true := vx_own hat' (vx_isRefq hU'.1) (vx_isRefq hN'.1) hU'.2.word hN'.2.word
  have hown' : s'.vm.findClass own = some m.cls := by rw [hvm]; exact hown
  have hins : (Cond.instantiable cls 6).before args s' = true := h _ (by simp [Bundle.ownAtoms])
  obtain ⟨vm₁, cX, kX, hfX, hkX, -, -, X₁, st1⟩ := Y.newCold hexec (own := own) (C := cls) (index := ik) (n := 6) hown' hk' hins hini'
    (g := F0 m pc ls rest) rfl (by rw [hb]; exact d0) (Nat.le_refl _) (Nat.le_refl _)
  generalize hT1 : (T.setVm vm₁).pushCell { cls := cX, slots := kX.instanceTypes.map defaultValue, vm := .none } = T1 at X₁ st1
  have hcat : (Value.ref T.heap.size).category = 1 := rfl
  have hcellA : T1.heap[T.heap.size]? = some (freshCell cX kX) := by rw [← hT1]; exact State.heap_pushCell_size _ _
  have d3' : decode c.code (pc + 3) = .ok (.dup, 1) := by rw [hb]; exact d3
  have d4' : decode c.code (pc + 4) = .ok (.ldc is, 2) := by rw [hb]; exact d4
  have hstr' : vk_R own is text sa s' := vk_R.warm hW0 hstr
  obtain ⟨U, hsteps, hrun, hend, hW, hsame, ce, hce, hO⟩ := X₁.ctorThrowS hexec htr (own := own) (cls := cls) (names := names) (ic := ic) hown' hcls hnames h (fun x hx => nomatch hx) hfX hkX hcellA (by rw [hhp, hT]; exact Nat.le_refl _) (msg := .ref sa) rfl
    (g := { method := m, pc := pc + 6, locals := ls, stack := .ref sa :: .ref T.heap.size :: .ref T.heap.size :: rest, locked := none }) rfl hsize rfl rfl (rest := rest) rfl
    (by rw [hb]; exact d6) (by rw [hb]; exact d9) hout hRframes (by simp only [List.map_cons, List.sum_cons, hcat]; omega) hlocks
  obtain ⟨f1, f2⟩ := vx_frame hsame
  rw [hhp] at f1 f2
  have hWs : s.WarmedH U.vm := State.WarmedH.trans hW0 hW
  have hcl : s.vm.findClass cls = some ce.cls := by
    have h9 := hO.cls
    rw [hvm] at h9
    exact h9
  have hall : s.sameButNew ({ U with vm := s.vm } : State) locs mc ms := by
    subst hA
    obtain ⟨e1, e2⟩ := hsame
    rw [State.setFrames_setFrames] at e1
    have h2 : (T.setVm s.vm).sameButNew ({ U with vm := s.vm } : State) [] (0 + 1) (0 + 6) := ⟨e1, e2⟩
    have h3 := X.same.trans h2
    rw [List.append_nil] at h3
    exact h3.mono hc hs
  refine ⟨U, ?_, .threw T.heap.size, hrun, hend, Or.inr ⟨T.heap.size, rfl, cls, ce, locs, hx U hWs.alike f1 (fun q hq => f2 q hq (fun z hz => nomatch hz)), hce, hO.vm, hcl, hWs, hall, hf⟩⟩
  refine st1 _ ?_
  show Steps p.tables e below (T1.setTop { method := m, pc := pc + 3, locals := ls, stack := .ref T.heap.size :: rest, locked := none }) _
  jvm_step X₁.here [X₁.here.top, hexec, d3', Value.category]
  exact X₁.ldcString hexec (own := own) (text := text) (index := is) (a := sa) hown' hstr'.1 hstr'.2
    (g := { method := m, pc := pc + 4, locals := ls, stack := .ref T.heap.size :: .ref T.heap.size :: rest, locked := none }) rfl d4' _ hsteps
/-- 'throw new E("text")', the text by a wide index -/
theorem vx_throwSW {cc : ByteArray} {pc : Nat} (hexec : p.tables.exec = Jvm.exec) (hb : c.code = cc) (hl : l.stackTraces = false) {own cls text : String} {names : List String} {ik is ic mc ms sa : Nat} {A : Nat → Prop}
    (hown : s.vm.findClass own = some m.cls) (hcls : Bundle.fit cls = true) (hnames : ∀ n ∈ names, Bundle.fit n = true)
    (hk : (Cond.classLink own ik cls).before args s = true) (hini : (Cond.initialized cls).before args s = true) (hstr : vk_R own is text sa s) (hat : ∀ w ∈ vx_atS own ic cls names, w.before args s = true)
    (hgood : ∀ w ∈ Cond.classLink own ik cls :: Cond.initialized cls :: vx_atS own ic cls names, vx_ot w = true)
    (hU : vx_Zq Bundle.tN "UNASSIGNED_STACK" Bundle.steD A s s.heap) (hN : vx_Zq Bundle.tN "SUPPRESSED_SENTINEL" Bundle.listD A s s.heap) (hS : va_S A s.heap H locs) (hsize : ls.size = c.maxLocals)
    (d0 : decode cc pc = .ok (.new ik, 3)) (d3 : decode cc (pc + 3) = .ok (.dup, 1)) (d4 : decode cc (pc + 4) = .ok (.ldc_w is, 3)) (d7 : decode cc (pc + 7) = .ok (.invokespecial ic, 3)) (d10 : decode cc (pc + 10) = .ok (.athrow, 1))
    (hout : ∀ x ∈ c.exceptionTable.toList, covers x (pc + 10) = false)
    (hRframes : names.length + 3 < R.frames) (hRlocals : (rest.map fun v => v.category).sum + (13 * (names.length + 1) + 43) ≤ R.locals) (hRcells : cells + 1 ≤ R.cells) (hRslots : slots + 6 ≤ R.slots) (hlocks : meth.locks = false)
    (hx : ∀ t : State, s.vm.Alike t.vm → H.size ≤ t.heap.size → (∀ q : Nat, q < H.size → t.heap[q]? = H[q]?) → XC cls s t)
    (hf : ∀ z ∈ locs, free z.base) (hc : cells + 1 ≤ mc) (hs : slots + 6 ≤ ms) :
    W p l e R s m args below meth c H locs cells slots (vx_MQ below Qc XC args s mc ms free) (F0 m pc ls rest) := by
  intro T hT X
  have htr : e.platform.stackTraces = false := (show e.platform.stackTraces = l.stackTraces by rw [X.admits.platform]).trans hl
  have Y := vx_rebase X (R' := { frames := R.frames, locals := R.locals, cells := 1, slots := 6 }) (Nat.le_refl _) (Nat.le_refl _) hRcells hRslots
  obtain ⟨s', hA⟩ : ∃ z, z = (T.setVm s.vm).setFrames (.invoking m args :: below) := ⟨_, rfl⟩
  rw [← hA] at Y
  have hvm : s'.vm = s.vm := by rw [hA]; rfl
  have hhp : s'.heap = H := by rw [hA]; exact hT
  have hW0 : s.WarmedH s'.vm := by rw [hvm]; exact State.WarmedH.refl s
  have hat' : ∀ w ∈ vx_atS own ic cls names, w.before args s' = true := fun w hw => vx_ot_at hW0 hvm.symm (hgood w (List.mem_cons_of_mem _ (List.mem_cons_of_mem _ hw))) (hat w hw)
  have hk' : (Cond.classLink own ik cls).before args s' = true := vx_ot_at hW0 hvm.symm (hgood _ List.mem_cons_self) hk
  have hini' : (Cond.initialized cls).before args s' = true := vx_ot_at hW0 hvm.symm (hgood _ (List.mem_cons_of_mem _ List.mem_cons_self)) hini
  have hU' : vx_Zq Bundle.tN "UNASSIGNED_STACK" Bundle.steD A s' s'.heap := by rw [hhp]; exact vx_Zq.moved hW0.alike (hU.kept hS.2.1)
  have hN' : vx_Zq Bundle.tN "SUPPRESSED_SENTINEL" Bundle.listD A s' s'.heap := by rw [hhp]; exact vx_Zq.moved hW0.alike (hN.kept hS.2.1)
  have h : ∀ w ∈ Bundle.ownAtoms own ic cls names, w.before args s' = true := vx_own hat' (vx_isRefq hU'.1) (vx_isRefq hN'.1) hU'.2.word hN'.2.word
  have hown' : s'.vm.findClass own = some m.cls := by rw [hvm]; exact hown
  have hins : (Cond.instantiable cls 6).before args s' = true := h _ (by simp [Bundle.ownAtoms])
  obtain ⟨vm₁, cX, kX, hfX, hkX, -, -, X₁, st1⟩ := Y.newCold hexec (own := own) (C := cls) (index := ik) (n := 6) hown' hk' hins hini'
    (g := F0 m pc ls rest) rfl (by rw [hb]; exact d0) (Nat.le_refl _) (Nat.le_refl _)
  generalize hT1 : (T.setVm vm₁).pushCell { cls := cX, slots := kX.instanceTypes.map defaultValue, vm := .none } = T1 at X₁ st1
  have hcat : (Value.ref T.heap.size).category = 1 := rfl
  have hcellA : T1.heap[T.heap.size]? = some (freshCell cX kX) := by rw [← hT1]; exact State.heap_pushCell_size _ _
  have d3' : decode c.code (pc + 3) = .ok (.dup, 1) := by rw [hb]; exact d3
  have d4' : decode c.code (pc + 4) = .ok (.ldc_w is, 3) := by rw [hb]; exact d4
  have hstr' : vk_R own is text sa s' := vk_R.warm hW0 hstr
  obtain ⟨U, hsteps, hrun, hend, hW, hsame, ce, hce, hO⟩ := X₁.ctorThrowS hexec htr (own := own) (cls := cls) (names := names) (ic := ic) hown' hcls hnames h (fun x hx => nomatch hx) hfX hkX hcellA (by rw [hhp, hT]; exact Nat.le_refl _) (msg := .ref sa) rfl
    (g := { method := m, pc := pc + 7, locals := ls, stack := .ref sa :: .ref T.heap.size :: .ref T.heap.size :: rest, locked := none }) rfl hsize rfl rfl (rest := rest) rfl
    (by rw [hb]; exact d7) (by rw [hb]; exact d10) hout hRframes (by simp only [List.map_cons, List.sum_cons, hcat]; omega) hlocks
  obtain ⟨f1, f2⟩ := vx_frame hsame
  rw [hhp] at f1 f2
  have hWs : s.WarmedH U.vm := State.WarmedH.trans hW0 hW
  have hcl : s.vm.findClass cls = some ce.cls := by
    have h9 := hO.cls
    rw [hvm] at h9
    exact h9
  have hall : s.sameButNew ({ U with vm := s.vm } : State) locs mc ms := by
    subst hA
    obtain ⟨e1, e2⟩ := hsame
    rw [State.setFrames_setFrames] at e1
    have h2 : (T.setVm s.vm).sameButNew ({ U with vm := s.vm } : State) [] (0 + 1) (0 + 6) := ⟨e1, e2⟩
    have h3 := X.same.trans h2
    rw [List.append_nil] at h3
    exact h3.mono hc hs
  refine ⟨U, ?_, .threw T.heap.size, hrun, hend, Or.inr ⟨T.heap.size, rfl, cls, ce, locs, hx U hWs.alike f1 (fun q hq => f2 q hq (fun z hz => nomatch hz)), hce, hO.vm, hcl, hWs, hall, hf⟩⟩
  refine st1 _ ?_
  show Steps p.tables e below (T1.setTop { method := m, pc := pc + 3, locals := ls, stack := .ref T.heap.size :: rest, locked := none }) _
  jvm_step X₁.here [X₁.here.top, hexec, d3', Value.category]
  exact X₁.ldcStringW hexec (own := own) (text := text) (index := is) (a := sa) hown' hstr'.1 hstr'.2
    (g := { method := m, pc := pc + 4, locals := ls, stack := .ref T.heap.size :: .ref T.heap.size :: rest, locked := none }) rfl d4' _ hsteps
end Ends
section Bodies
variable {l : Launch}
theorem vx_ofW {y : MethodName} {ws ws' : List Cond} {rm : Room} {Pc : Array Value → State → Prop} {Qc : Array Value → State → Outcome → State → Prop} {XC : String → State → State → Prop} {mc ms : Nat} {free : Addr → Prop} {cc : ByteArray} {maxL : Nat} {ret : Option FieldType}
    (hy : plainName y.cls = true) (hw : ws = Cond.code y cc maxL ret :: ws')
    (body : ∀ p e s m args below meth c s₁, BodyLoose p l y (headSpec ws rm) cc maxL ret e s m args below meth c s₁ → c.maxLocals = maxL → (∀ x ∈ c.exceptionTable.toList, False) → Pc args s →
      W p l e (headSpec ws rm).room s m args below meth c s.heap [] 0 0 (vx_MQ below Qc XC args s mc ms free) (entryFrame m args maxL)) : vx_Met l y ws rm Pc Qc XC mc ms free := by
  refine MetFree.of_bodyS (code := cc) (maxLocals := maxL) (ret := ret) hy ?_ ?_
  · intro args s m h hn
    obtain ⟨meth, c, h1, h2, h3, h4, h5, h6, -, -⟩ := Cond.code_spec hn (atoms_spec (ws := ws) h _ (by rw [hw]; exact List.mem_cons_self))
    exact ⟨meth, c, h1, h2, h3, h4, h5, h6⟩
  · intro p e s m args below meth c s₁ B hml hP _
    have hh0 : s₁.heap = s.heap := by rw [B.state]; rfl
    have ht : ∀ x ∈ c.exceptionTable.toList, False := by
      obtain ⟨meth9, c9, h1, h2, -, -, -, -, h7, -⟩ := Cond.code_spec B.named (atoms_spec (ws := ws) B.pre _ (by rw [hw]; exact List.mem_cons_self))
      cases Option.some.inj (h1.symm.trans B.method)
      cases Option.some.inj (h2.symm.trans (Stand.of_body B).code)
      intro x hx
      rw [Array.isEmpty_iff.mp h7] at hx
      cases hx
    obtain ⟨t, a1, o, b1, b2, b3⟩ := body p e s m args below meth c s₁ B hml ht hP s₁ hh0 (Stand.of_body B)
    exact ⟨t, o, a1, b1, b2, b3⟩
/-- the table of a body with handlers -/
theorem vx_table {p : Program} {x y : MethodName} {S : Spec} {cc bytes : ByteArray} {maxL maxL' : Nat} {ret ret' : Option FieldType} {e : Env} {s s₁ : State} {m : MethodId} {args : Array Value} {below : List Frame} {meth : Method} {c : Code} {hh : List (Nat × Nat × Nat × Nat)}
    (B : BodyLoose p l y S cc maxL ret e s m args below meth c s₁) (h : (Cond.codeWith y bytes maxL' ret' hh).before args s = true) : c.exceptionTable.toList = tableOf hh := by
  obtain ⟨m9, meth9, c9, hn9, h1, h2, -, -, h6, -⟩ := Cond.codeWith_spec h
  cases Option.some.inj (hn9.symm.trans B.named)
  cases Option.some.inj (h1.symm.trans B.method)
  cases Option.some.inj (h2.symm.trans (Stand.of_body B).code)
  rw [← h6, table_eq]
end Bodies
end VXA
/-! ===== END ===== -/
/-! ===== BEGIN a static call of a method with an exception table ===== -/
section VXS
variable {p : Program} {l : Launch} {e : Env} {R : Room} {s : State} {m : MethodId} {args : Array Value} {below : List Frame} {meth : Method} {c : Code} {T : State} {H : Heap} {locs : List Loc} {cells slots : Nat}
abbrev vx_CSW (R : Room) (s : State) (args : Array Value) (own : String) (index : Nat) (y : MethodName) (bytes : ByteArray) (maxL : Nat) (ret : Option FieldType) (hh : List (Nat × Nat × Nat × Nat)) (ws : List Cond) (rm : Room) (mc ms n : Nat) : Prop :=
  (rm.cells = mc ∧ rm.slots = ms ∧ rm.frames + 1 ≤ R.frames ∧ 8 + (maxL + 11) + rm.locals ≤ R.locals ∧ (∀ w ∈ ws, ∀ (a' : Array Value) (U : State), s.WarmedH U.vm → w.before a' U = true) ∧ Cond.codeWith y bytes maxL ret hh ∈ ws) ∧
  (Cond.codeWith y bytes maxL ret hh).before args s = true ∧ (Cond.initialized y.cls).before args s = true ∧ (y.cls ≠ "java/lang/invoke/MethodHandle" ∧ y.cls ≠ "java/lang/invoke/VarHandle") ∧
  (∀ sig, parseMethodDescriptor y.desc = some sig → n = sig.parameters.length) ∧ (Cond.methodLink own index y).before args s = true ∧ (Cond.static y).before args s = true
theorem vx_cwSW {own : String} {index maxL mc ms : Nat} {y : MethodName} {bytes : ByteArray} {ret : Option FieldType} {hh : List (Nat × Nat × Nat × Nat)} {Ts ws ws' : List Cond} {rm : Room} (n : Nat) (ht : ∀ w ∈ Ts, w.before args s = true) (hT : GoodIn Ts (va_wsS own index y ws)) (hw : ws = Cond.codeWith y bytes maxL ret hh :: ws') (hrc : rm.cells = mc) (hrs : rm.slots = ms)
    (hd : y.cls ≠ "java/lang/invoke/MethodHandle" ∧ y.cls ≠ "java/lang/invoke/VarHandle" ∧ (parseMethodDescriptor y.desc).map (fun d => d.parameters.length) = some n) (hR : rm.frames + 1 ≤ R.frames ∧ 8 + (maxL + 11) + rm.locals ≤ R.locals) :
    vx_CSW R s args own index y bytes maxL ret hh ws rm mc ms n := by
  have ok : ∀ w ∈ va_wsS own index y ws, w.before args s = true := fun w h => ht w (hT w h).1
  have hG : GoodIn Ts ws := fun w h => hT w (by unfold va_wsS; exact List.mem_append_right _ h)
  have hc : Cond.codeWith y bytes maxL ret hh ∈ ws := by rw [hw]; exact List.mem_cons_self
  refine ⟨⟨hrc, hrs, hR.1, hR.2, pay_in ht hG, hc⟩, ht _ (hG _ hc).1, ok _ (by simp [va_wsS]), ⟨hd.1, hd.2.1⟩, fun sig h => ?_, ok _ (by simp [va_wsS]), ok _ (by simp [va_wsS])⟩
  have h2 := hd.2.2
  rw [h] at h2
  exact (Option.some.inj h2).symm
theorem vx_callSW (X : Stand p l e R s m args below meth c T locs cells slots) (hexec : p.tables.exec = Jvm.exec) {own : String} {index : Nat} {y : MethodName} {bytes : ByteArray} {maxL : Nat} {ret : Option FieldType} {hh : List (Nat × Nat × Nat × Nat)}
    (hown : s.vm.findClass own = some m.cls) (hlink : (Cond.methodLink own index y).before args s = true) (hstat : (Cond.static y).before args s = true) (hinit : (Cond.initialized y.cls).before args s = true)
    (hcode : (Cond.codeWith y bytes maxL ret hh).before args s = true) (hy : y.cls ≠ "java/lang/invoke/MethodHandle" ∧ y.cls ≠ "java/lang/invoke/VarHandle")
    {W9 : Nat} {Pre : Pt → Array Value → Prop} {Post : Pt → Array Value → Option Value → Pt → Prop} (hK : Back l R p e below s args y 3 W9 Pre Post)
    {g : JFrame} (hg : g.method = m) (hsize : g.locals.size = c.maxLocals) {argsL rest : List Value} (hlen : ∀ sig, parseMethodDescriptor y.desc = some sig → argsL.length = sig.parameters.length)
    (hstack : g.stack = argsL.reverse ++ rest) (hW : 2 * g.monitorRoom + (rest.map fun v => v.category).sum ≤ W9) (hdg : decode c.code g.pc = .ok (.invokestatic index, 3))
    (hpre : ∀ vm₁, s.WarmedH vm₁ → Pre ⟨T.setVm vm₁, locs, cells, slots⟩ argsL.toArray) :
    ∃ (v : Option Value) (vm₁ : Vm) (B : Pt), s.WarmedH vm₁ ∧ Stand p l e R s m args below meth c B.U B.locs B.cells B.slots ∧ Post ⟨T.setVm vm₁, locs, cells, slots⟩ argsL.toArray v B ∧
      ∀ target, Steps p.tables e below (B.U.setTop { g with pc := g.pc + 3, stack := v.toList ++ rest }) target → Steps p.tables e below (T.setTop g) target := by
  obtain ⟨mk, methM, cM, hnamed, hmethM, -, -, -, -, -, -, hsigM⟩ := Cond.codeWith_spec hcode
  have hstatic : methM.isStatic = true := Cond.static_spec hnamed hmethM hstat
  obtain ⟨kP, hkP, -⟩ := className_of_methodNamed hnamed
  have hinitP : kP.init = .initialized := Cond.initialized_spec (findClass_of_methodNamed hnamed) hkP hinit
  obtain ⟨vm₁, X₁, hstep₁⟩ := X.invokestatic hexec hown hlink hnamed hmethM hstatic hkP hinitP hy (g := g) hg (argsL := argsL) (rest := rest) (hlen _ hsigM) hstack hdg
  obtain ⟨v, B, X', hpost, hsteps⟩ := hK m meth c ⟨T.setVm vm₁, locs, cells, slots⟩ { g with stack := rest } (.invokestatic index) mk argsL.toArray X₁ hg hsize hdg hW (X₁.named hnamed) (hpre vm₁ X₁.warmed)
  exact ⟨v, vm₁, B, X₁.warmed, X', hpost, fun target h => hstep₁ _ fun acts => by rw [doInvoke_state]; exact hsteps.trans h⟩
theorem vx_runSW {y : MethodName} {bytes cc : ByteArray} {maxL nL mc ms n index : Nat} {ret : Option FieldType} {hh : List (Nat × Nat × Nat × Nat)} {ws : List Cond} {rm : Room} {Pc : Array Value → State → Prop} {Qc : Array Value → State → Outcome → State → Prop} {free : Addr → Prop} {Ts : List Cond} {own : String} {As rest : List Value} {g : JFrame}
    (S : CallFix p m c cc nL s args Ts own) (hM : Met l y ws rm Pc Qc mc ms free) (cw : vx_CSW R s args own index y bytes maxL ret hh ws rm mc ms n) (hp : PreS s H Pc As)
    (hg : g.method = m) (hn : As.length = n) (hsize : g.locals.size = nL) (hstack : g.stack = As.reverse ++ rest) (hW : 2 * g.monitorRoom + (rest.map fun v => v.category).sum ≤ 8) (hdg : decode cc g.pc = .ok (.invokestatic index, 3)) (hf : cells + mc ≤ R.cells ∧ slots + ms ≤ R.slots) :
    va_Run p l e R s m args below meth c H locs cells slots mc ms g rest (Qc As.toArray) (free) := by
  obtain ⟨⟨hrc, hrs, hfr, hlo, hws, hcw⟩, hcode, hini, hy, hlen, hl, hstt⟩ := cw
  have hK : Back l R p e below s args y 3 8 (PreOf R mc ms Pc) (PostOf Qc mc ms free) := va_backW (hh := hh) (bytes := bytes) (maxL := maxL) (ret := ret) hM hp.1 hrc hrs hfr hlo hws hcw (fun a' U hW => word_at hW (Or.inl (by first | rfl | simp [Cond.onTables, Cond.keeps, Cond.steady])) hini)
  obtain ⟨hx, hb, hml, ho, -⟩ := S
  intro T hT X
  obtain ⟨v, vm₁, ⟨U', l2, c2, s2⟩, hW₁, X', ⟨g', mk, t, L, e1, e2, hq, h1, hL, h2, h3⟩, st⟩ := vx_callSW X hx (hh := hh) (bytes := bytes) (maxL := maxL) (ret := ret) ho hl hstt hini hcode hy hK hg (hsize.trans hml.symm) (argsL := As) (rest := rest) (fun sig h => hn.trans (hlen sig h)) hstack hW (by rw [hb]; exact hdg)
    (fun vm₁ hW₁ => ⟨hf.1, hf.2, hp.2 (T.setVm vm₁) hT hW₁⟩)
  dsimp only [Pt.U, Pt.locs, Pt.cells, Pt.slots] at X' e1 e2 h1 h2 h3 st
  subst h1; subst h2; subst h3
  exact ⟨v, (T.setVm vm₁).calling g' mk As.toArray, t, U', L, hT, X', hL, e1, e2, hq, st⟩
/-- not caught here, past rows that name other classes: it goes on to the caller -/
theorem vx_outP {p : Program} {l : Launch} {e : Env} {R : Room} {s : State} {m : MethodId} {args : Array Value} {below : List Frame} {meth : Method} {c : Code} {H : Heap} {locs : List Loc} {cells slots : Nat} {free : Addr → Prop} {ls : Array Slot} {rest : List Value} {Qc : Array Value → State → Outcome → State → Prop} {XC : String → State → State → Prop}
    {pc : Nat} {own E : String} {ce : Cell} {q : Addr} {mc ms : Nat} (hown : s.vm.findClass own = some m.cls) (hlocks : meth.locks = false)
    (hpass : ∀ z ∈ c.exceptionTable.toList, covers z pc = false ∨ (z.catchType ≠ 0 ∧ ∃ nm : String, (Cond.classLink own z.catchType nm).before args s = true ∧ va_Nc E nm s)) (hcell : H[q]? = some ce) (hv : ce.vm = .none) (hcl : s.vm.findClass E = some ce.cls)
    (hx : ∀ t : State, t.heap = H → s.vm.Alike t.vm → XC E s t) (hf : ∀ z ∈ locs, free z.base) (hc : cells ≤ mc) (hs : slots ≤ ms) :
    vx_W p l e R s m args below meth c H locs cells slots (vx_MQ below Qc XC args s mc ms free) (F0 m pc ls rest) q := by
  intro T hT X
  have hpl : e.platform.magicAccessors = ({} : Platform).magicAccessors := by rw [X.admits.platform]
  obtain ⟨vm', hW', X', st⟩ := X.outThrough hlocks q (g := F0 m pc ls rest) rfl rfl rfl (cell := ce) (by rw [hT]; exact hcell) (by rw [hv]; rfl)
    (by obtain ⟨k9, h9, -⟩ := Vm.findClass_spec hcl; exact ⟨k9, h9⟩) (fun z hz => by
      rcases hpass z hz with h | ⟨hz0, nm, hl1, hn1⟩
      · exact Or.inl h
      · obtain ⟨c6, hc6, hcl6⟩ := Cond.classLink_spec hown hl1 e.platform hpl
        obtain ⟨a8, b8, h1, h2, h3⟩ := hn1
        cases Option.some.inj (h1.symm.trans hcl)
        cases Option.some.inj (h2.symm.trans hc6)
        exact Or.inr ⟨hz0, _, hcl6, h3⟩)
  obtain ⟨g₀, hfr⟩ := X'.frames_eq
  have hcell9 : ((T.setVm vm').setFrames (.throwing q :: below)).heap[q]? = some ce := by
    show T.heap[q]? = some ce
    rw [hT]; exact hcell
  have hend : Ended ((T.setVm vm').setFrames (.throwing q :: below)) below (.threw q) := State.frames_setFrames _ (State.cur_lt_of_frames hfr)
  refine ⟨(T.setVm vm').setFrames (.throwing q :: below), ?_, .threw q, X'.here.running, hend, Or.inr ⟨q, rfl, E, ce, locs, hx _ hT (X'.ends _).1.alike, hcell9, hv, hcl, (X'.ends _).1, (X'.ends _).2.mono hc hs, hf⟩⟩
  rw [X.pushThrowing_eq]
  exact st
/-- a thing of a world lies in the heap -/
theorem vx_lt {D : va_G} {cl : List vw_C} {ws : va_W} {H1 : Heap} (h : va_P D cl ws H1) {k : Nat} {q : Nat × va_E} (hk : ws[k]? = some q) : q.1 < H1.size := (h k q hk).lt
end VXS
/-! ===== END ===== -/
/-! ===== BEGIN methods with a table of their own: called by a name, returning or throwing ===== -/
section VXH
/-! vx_backW, vx_callVX, vx_callSX, vx_callVW, vx_runVW, vx_runVX, vx_runSX, vx_ofWH follow the same proofs as their sisters above (Free/Laws.lean, Shelf42/LK1.lean); vx_outP calls Shelf42/NT130.lean (outThrough). -/
section
variable {l : Launch} {R : Room} {p : Program} {e : Env} {below : List Frame} {s : State} {sargs : Array Value} {y : MethodName} {len W9 : Nat}
theorem vx_backW {ws : List Cond} {rm : Room} {Pc : Array Value → State → Prop} {Qc : Array Value → State → Outcome → State → Prop} {XC : String → State → State → Prop} {mc ms : Nat} {free : Addr → Prop} {bytes : ByteArray} {maxL : Nat} {ret : Option FieldType} {hh : List (Nat × Nat × Nat × Nat)}
    (hM : vx_Met l y ws rm Pc Qc XC mc ms free) (hblind : FrameBlind Pc) (hrc : rm.cells = mc) (hrs : rm.slots = ms)
    (hframes : rm.frames + 1 ≤ R.frames) (hlocals : W9 + (maxL + 11) + rm.locals ≤ R.locals)
    (hws : ∀ w ∈ ws, ∀ a' U, s.WarmedH U.vm → w.before a' U = true) (hcode : Cond.codeWith y bytes maxL ret hh ∈ ws) (hinit : ∀ a' U, s.WarmedH U.vm → (Cond.initialized y.cls).before a' U = true) :
    vx_Back l R p e below s sargs y len W9 (PreOf R mc ms Pc) (PostOf Qc mc ms free) (vx_Post XC mc ms free) := by
  intro m meth c A g ig mk a X hg hsize hdg hW hn hp
  have h1 : (headSpec ws rm).pre.before a A.U = true := atoms_intro fun w hw => hws w hw _ _ X.warmed
  have h2 : (Cond.codeWith y bytes maxL ret hh).before a A.U = true := hws _ hcode _ _ X.warmed
  have h3 : (Cond.initialized y.cls).before a A.U = true := hinit _ _ X.warmed
  have h4 : A.cells + (headSpec ws rm).room.cells ≤ R.cells := by rw [show (headSpec ws rm).room.cells = mc from hrc]; exact hp.1
  have h5 : A.slots + (headSpec ws rm).room.slots ≤ R.slots := by rw [show (headSpec ws rm).room.slots = ms from hrs]; exact hp.2.1
  have hPc : Pc a (A.U.calling g mk a) := hblind _ _ _ _ hp.2.2
  obtain ⟨U, Ls, c0, s0⟩ := A
  dsimp only [Pt.U, Pt.locs, Pt.cells, Pt.slots] at h1 h2 h3 h4 h5 X hn hPc ⊢
  obtain ⟨m9, methY, cY, hn9, hmY, hcY, -, hlY, -⟩ := Cond.codeWith_spec h2
  cases Option.some.inj (hn9.symm.trans hn)
  obtain ⟨kY, hkY, -⟩ := className_of_methodNamed hn
  have hinitY : kY.init = .initialized := Cond.initialized_spec (findClass_of_methodNamed hn) hkY h3
  have h : At U g.method c below := by rw [hg]; exact X.here
  have hlocals9 : W9 + (maxL + 11) + (headSpec ws rm).room.locals ≤ R.locals := hlocals
  have happ : (headSpec ws rm).appliesLoose y e.platform (U.calling g mk a) = true :=
    Spec.appliesLoose_calling (g := g) h hdg hn hkY hinitY
      (X.room_calling (g := g) (R' := (headSpec ws rm).room) hsize hmY hcY hframes (by rw [hlY]; omega) h4 h5) h1
  obtain ⟨mid, hmid⟩ := h.above
  have hfr : (U.setTop g).frames = (.java g :: mid) ++ below := by rw [State.frames_setTop' g h.top, hmid]; rfl
  obtain ⟨o, s₂, hsteps, -, hend, hq⟩ := Steps.callFree hM p X.admits X.cas X.clock (acts := []) hfr happ hPc trivial
  have hq' : vx_Q Qc XC mc ms free a (U.calling g mk a) o s₂ := hq
  rw [State.frames_setTop' g h.top] at hend
  obtain ⟨g₀, hg0⟩ := Option.isSome_iff_exists.mp h.top
  obtain ⟨r, hr⟩ := State.topJava?_eq_some.mp hg0
  have hr' : (({ U with heap := s₂.heap, slotsUsed := s₂.slotsUsed } : State).setVm s₂.vm).frames = .java g₀ :: r := hr
  rcases hq' with ⟨hqc, L, hfe, hL⟩ | ⟨q, rfl, E, ce, L, hx, hce, hcv, hcl, hW₂, hsm, hL⟩
  · obtain ⟨⟨v, rfl⟩, hW₂, e2, q2, q3, q4, q5, q6⟩ := id hfe
    have e3 : s₂ = ({ (U.calling g mk a).setFrames s₂.frames with heap := s₂.heap, slotsUsed := s₂.slotsUsed } : State).setVm s₂.vm := by
      have : s₂ = ({ s₂ with vm := (U.calling g mk a).vm } : State).setVm s₂.vm := rfl
      rw [e2] at this
      exact this
    obtain ⟨c₂, i₂, len₂, hc₂, hd₂, hf₂⟩ := hend
    have hW' : U.WarmedH s₂.vm := hW₂
    have hcc : c₂ = c := by
      have h1 : s₂.code? g.method = U.code? g.method := by
        rw [State.code?_eq, State.code?_eq, hW'.alike.method?]
      exact Option.some.inj (hc₂.symm.trans (h1.trans h.code))
    subst hcc
    have hlen : len₂ = len := by rw [hdg] at hd₂; cases hd₂; rfl
    subst hlen
    have hs₂ : s₂ = (({ U with heap := s₂.heap, slotsUsed := s₂.slotsUsed } : State).setVm s₂.vm).setTop { g with pc := g.pc + len₂, stack := v.toList ++ g.stack } := by
      refine e3.trans ?_
      rw [hf₂, State.calling_eq h.top, State.setFrames_setFrames, State.setTop_of_frames _ hr', hr]
      rfl
    have hsame : U.sameButNew ({ U with heap := s₂.heap, slotsUsed := s₂.slotsUsed } : State) L mc ms := by
      refine ⟨?_, q2, q3, q4, q5, q6⟩
      obtain ⟨t, ht, -⟩ := State.frames_cons hr
      show ({ U with heap := s₂.heap, slotsUsed := s₂.slotsUsed } : State) = { U.setFrames U.frames with heap := s₂.heap, slotsUsed := s₂.slotsUsed }
      rw [State.setFrames_self ht]
    subst hg
    refine Or.inl ⟨v, ⟨(({ U with heap := s₂.heap, slotsUsed := s₂.slotsUsed } : State).setVm s₂.vm), Ls ++ L, c0 + mc, s0 + ms⟩,
      ⟨X.admits, X.cas, X.clock, X.frames, X.room, X.hears, X.method, X.code, (X.here.setHeapUsed s₂.heap s₂.slotsUsed).setVm hW'.alike, X.tail, State.WarmedH.trans X.warmed hW', X.limits, X.bytes, X.same.trans (hsame.setVm s.vm)⟩,
      ⟨g, mk, s₂, L, rfl, rfl, hqc, rfl, hL, rfl, rfl⟩, ?_⟩
    show Steps p.tables e below _ ((({ U with heap := s₂.heap, slotsUsed := s₂.slotsUsed } : State).setVm s₂.vm).setTop { g with pc := g.pc + len₂, stack := v.toList ++ g.stack })
    rw [← hs₂]
    exact hsteps
  · obtain ⟨e2, q2, q3, q4, q5, q6⟩ := id hsm
    have e3 : s₂ = ({ (U.calling g mk a).setFrames s₂.frames with heap := s₂.heap, slotsUsed := s₂.slotsUsed } : State).setVm s₂.vm := by
      have : s₂ = ({ s₂ with vm := (U.calling g mk a).vm } : State).setVm s₂.vm := rfl
      rw [e2] at this
      exact this
    have hf₂ : s₂.frames = .throwing q :: .java g :: U.frames.tail := hend
    have hW' : U.WarmedH s₂.vm := hW₂
    have hs₂ : s₂ = ((({ U with heap := s₂.heap, slotsUsed := s₂.slotsUsed } : State).setVm s₂.vm).setTop g).pushFrame (.throwing q) := by
      refine e3.trans ?_
      rw [hf₂, State.calling_eq h.top, State.setFrames_setFrames, State.pushFrame, State.frames_setTop _ hr', State.setTop_of_frames _ hr', State.setFrames_setFrames, hr]
      rfl
    have hsame : U.sameButNew ({ U with heap := s₂.heap, slotsUsed := s₂.slotsUsed } : State) L mc ms := by
      refine ⟨?_, q2, q3, q4, q5, q6⟩
      obtain ⟨t, ht, -⟩ := State.frames_cons hr
      show ({ U with heap := s₂.heap, slotsUsed := s₂.slotsUsed } : State) = { U.setFrames U.frames with heap := s₂.heap, slotsUsed := s₂.slotsUsed }
      rw [State.setFrames_self ht]
    subst hg
    refine Or.inr ⟨q, ⟨(({ U with heap := s₂.heap, slotsUsed := s₂.slotsUsed } : State).setVm s₂.vm), Ls ++ L, c0 + mc, s0 + ms⟩,
      ⟨X.admits, X.cas, X.clock, X.frames, X.room, X.hears, X.method, X.code, (X.here.setHeapUsed s₂.heap s₂.slotsUsed).setVm hW'.alike, X.tail, State.WarmedH.trans X.warmed hW', X.limits, X.bytes, X.same.trans (hsame.setVm s.vm)⟩,
      ⟨g, mk, s₂, L, E, ce, rfl, rfl, hx, hce, hcv, hcl, rfl, hL, rfl, rfl⟩, ?_⟩
    show Steps p.tables e below _ (((({ U with heap := s₂.heap, slotsUsed := s₂.slotsUsed } : State).setVm s₂.vm).setTop g).pushFrame (.throwing q))
    rw [← hs₂]
    exact hsteps
end
variable {p : Program} {l : Launch} {e : Env} {R : Room} {s : State} {m : MethodId} {args : Array Value} {below : List Frame} {meth : Method} {c : Code} {T : State} {H : Heap} {locs : List Loc} {cells slots : Nat}
theorem vx_callVX (X : Stand p l e R s m args below meth c T locs cells slots) (hexec : p.tables.exec = Jvm.exec) {own C : String} {index : Nat} {y : MethodName} {bytes : ByteArray} {maxL : Nat} {ret : Option FieldType} {hh : List (Nat × Nat × Nat × Nat)}
    (hown : s.vm.findClass own = some m.cls) (hlink : (Cond.methodLink own index y).before args s = true) (hinst : (Cond.instanceMethod y).before args s = true) (hsel : (Cond.selects C y y).before args s = true)
    (hcode : (Cond.codeWith y bytes maxL ret hh).before args s = true) (hy : y.cls ≠ "java/lang/invoke/MethodHandle" ∧ y.cls ≠ "java/lang/invoke/VarHandle")
    {W9 : Nat} {Pre : Pt → Array Value → Prop} {Post : Pt → Array Value → Option Value → Pt → Prop} {PostX : Pt → Array Value → Addr → Pt → Prop} (hK : vx_Back l R p e below s args y 3 W9 Pre Post PostX)
    {b : Addr} {cellB : Cell} (hcell : T.heap[b]? = some cellB) (hobj : cellB.vm.isStatics = false) (hcls : s.vm.findClass C = some cellB.cls)
    {g : JFrame} (hg : g.method = m) (hsize : g.locals.size = c.maxLocals) {argsL rest : List Value} (hlen : ∀ sig, parseMethodDescriptor y.desc = some sig → argsL.length = sig.parameters.length)
    (hstack : g.stack = argsL.reverse ++ .ref b :: rest) (hW : 2 * g.monitorRoom + (rest.map fun v => v.category).sum ≤ W9) (hdg : decode c.code g.pc = .ok (.invokevirtual index, 3))
    (hpre : ∀ vm₁, s.WarmedH vm₁ → Pre ⟨T.setVm vm₁, locs, cells, slots⟩ (Value.ref b :: argsL).toArray) :
    (∃ (v : Option Value) (vm₁ : Vm) (B : Pt), s.WarmedH vm₁ ∧ Stand p l e R s m args below meth c B.U B.locs B.cells B.slots ∧ Post ⟨T.setVm vm₁, locs, cells, slots⟩ (Value.ref b :: argsL).toArray v B ∧
      ∀ target, Steps p.tables e below (B.U.setTop { g with pc := g.pc + 3, stack := v.toList ++ rest }) target → Steps p.tables e below (T.setTop g) target) ∨
    (∃ (q : Addr) (vm₁ : Vm) (B : Pt), s.WarmedH vm₁ ∧ Stand p l e R s m args below meth c B.U B.locs B.cells B.slots ∧ PostX ⟨T.setVm vm₁, locs, cells, slots⟩ (Value.ref b :: argsL).toArray q B ∧
      Steps p.tables e below (T.setTop g) ((B.U.setTop { g with stack := rest }).pushFrame (.throwing q))) := by
  obtain ⟨mk, methM, hnamed, hmethM, hstM, habM⟩ := Cond.instanceMethod_spec hinst
  obtain ⟨m8, methM', cM, hn8, hmethM', -, -, -, -, -, -, hsigM⟩ := Cond.codeWith_spec hcode
  cases Option.some.inj (hn8.symm.trans hnamed)
  cases hmethM.symm.trans hmethM'
  obtain ⟨c2, r2, m2, q1, q2, q3, q4, kP, hkP, hkPi⟩ := Cond.selects_spec hsel
  cases hcls.symm.trans q1
  cases (State.methodFound?_of_named hnamed hy).symm.trans q2
  cases hnamed.symm.trans q3
  have hselP : selectMethod e.platform s.vm cellB.cls mk = .method mk := by rw [Launch.admits_selectMethod X.admits]; exact q4
  obtain ⟨vm₁, X₁, hstep₁⟩ := X.invokevirtual hexec hown hlink hnamed hmethM hstM hkP hkPi hy (a := b) (cell := cellB) hcell
    (fun z h => by rw [h] at hobj; cases hobj) hselP hmethM habM hkP hkPi (g := g) hg (argsL := argsL) (rest := rest) (hlen _ hsigM) hstack hdg
  rcases hK m meth c ⟨T.setVm vm₁, locs, cells, slots⟩ { g with stack := rest } (.invokevirtual index) mk (Value.ref b :: argsL).toArray X₁ hg hsize hdg hW (X₁.named hnamed) (hpre vm₁ X₁.warmed) with ⟨v, B, X', hpost, hsteps⟩ | ⟨q, B, X', hpost, hsteps⟩
  · exact Or.inl ⟨v, vm₁, B, X₁.warmed, X', hpost, fun target h => hstep₁ _ fun acts => by rw [doInvoke_state]; exact hsteps.trans h⟩
  · exact Or.inr ⟨q, vm₁, B, X₁.warmed, X', hpost, hstep₁ _ fun acts => by rw [doInvoke_state]; exact hsteps⟩
theorem vx_callSX (X : Stand p l e R s m args below meth c T locs cells slots) (hexec : p.tables.exec = Jvm.exec) {own : String} {index : Nat} {y : MethodName} {bytes : ByteArray} {maxL : Nat} {ret : Option FieldType} {hh : List (Nat × Nat × Nat × Nat)}
    (hown : s.vm.findClass own = some m.cls) (hlink : (Cond.methodLink own index y).before args s = true) (hstat : (Cond.static y).before args s = true) (hinit : (Cond.initialized y.cls).before args s = true)
    (hcode : (Cond.codeWith y bytes maxL ret hh).before args s = true) (hy : y.cls ≠ "java/lang/invoke/MethodHandle" ∧ y.cls ≠ "java/lang/invoke/VarHandle")
    {W9 : Nat} {Pre : Pt → Array Value → Prop} {Post : Pt → Array Value → Option Value → Pt → Prop} {PostX : Pt → Array Value → Addr → Pt → Prop} (hK : vx_Back l R p e below s args y 3 W9 Pre Post PostX)
    {g : JFrame} (hg : g.method = m) (hsize : g.locals.size = c.maxLocals) {argsL rest : List Value} (hlen : ∀ sig, parseMethodDescriptor y.desc = some sig → argsL.length = sig.parameters.length)
    (hstack : g.stack = argsL.reverse ++ rest) (hW : 2 * g.monitorRoom + (rest.map fun v => v.category).sum ≤ W9) (hdg : decode c.code g.pc = .ok (.invokestatic index, 3))
    (hpre : ∀ vm₁, s.WarmedH vm₁ → Pre ⟨T.setVm vm₁, locs, cells, slots⟩ argsL.toArray) :
    (∃ (v : Option Value) (vm₁ : Vm) (B : Pt), s.WarmedH vm₁ ∧ Stand p l e R s m args below meth c B.U B.locs B.cells B.slots ∧ Post ⟨T.setVm vm₁, locs, cells, slots⟩ argsL.toArray v B ∧
      ∀ target, Steps p.tables e below (B.U.setTop { g with pc := g.pc + 3, stack := v.toList ++ rest }) target → Steps p.tables e below (T.setTop g) target) ∨
    (∃ (q : Addr) (vm₁ : Vm) (B : Pt), s.WarmedH vm₁ ∧ Stand p l e R s m args below meth c B.U B.locs B.cells B.slots ∧ PostX ⟨T.setVm vm₁, locs, cells, slots⟩ argsL.toArray q B ∧
      Steps p.tables e below (T.setTop g) ((B.U.setTop { g with stack := rest }).pushFrame (.throwing q))) := by
  obtain ⟨mk, methM, cM, hnamed, hmethM, -, -, -, -, -, -, hsigM⟩ := Cond.codeWith_spec hcode
  have hstatic : methM.isStatic = true := Cond.static_spec hnamed hmethM hstat
  obtain ⟨kP, hkP, -⟩ := className_of_methodNamed hnamed
  have hinitP : kP.init = .initialized := Cond.initialized_spec (findClass_of_methodNamed hnamed) hkP hinit
  obtain ⟨vm₁, X₁, hstep₁⟩ := X.invokestatic hexec hown hlink hnamed hmethM hstatic hkP hinitP hy (g := g) hg (argsL := argsL) (rest := rest) (hlen _ hsigM) hstack hdg
  rcases hK m meth c ⟨T.setVm vm₁, locs, cells, slots⟩ { g with stack := rest } (.invokestatic index) mk argsL.toArray X₁ hg hsize hdg hW (X₁.named hnamed) (hpre vm₁ X₁.warmed) with ⟨v, B, X', hpost, hsteps⟩ | ⟨q, B, X', hpost, hsteps⟩
  · exact Or.inl ⟨v, vm₁, B, X₁.warmed, X', hpost, fun target h => hstep₁ _ fun acts => by rw [doInvoke_state]; exact hsteps.trans h⟩
  · exact Or.inr ⟨q, vm₁, B, X₁.warmed, X', hpost, hstep₁ _ fun acts => by rw [doInvoke_state]; exact hsteps⟩
theorem vx_callVW (X : Stand p l e R s m args below meth c T locs cells slots) (hexec : p.tables.exec = Jvm.exec) {own C : String} {index : Nat} {y : MethodName} {bytes : ByteArray} {maxL : Nat} {ret : Option FieldType} {hh : List (Nat × Nat × Nat × Nat)}
    (hown : s.vm.findClass own = some m.cls) (hlink : (Cond.methodLink own index y).before args s = true) (hinst : (Cond.instanceMethod y).before args s = true) (hsel : (Cond.selects C y y).before args s = true)
    (hcode : (Cond.codeWith y bytes maxL ret hh).before args s = true) (hy : y.cls ≠ "java/lang/invoke/MethodHandle" ∧ y.cls ≠ "java/lang/invoke/VarHandle")
    {W9 : Nat} {Pre : Pt → Array Value → Prop} {Post : Pt → Array Value → Option Value → Pt → Prop} (hK : Back l R p e below s args y 3 W9 Pre Post)
    {b : Addr} {cellB : Cell} (hcell : T.heap[b]? = some cellB) (hobj : cellB.vm.isStatics = false) (hcls : s.vm.findClass C = some cellB.cls)
    {g : JFrame} (hg : g.method = m) (hsize : g.locals.size = c.maxLocals) {argsL rest : List Value} (hlen : ∀ sig, parseMethodDescriptor y.desc = some sig → argsL.length = sig.parameters.length)
    (hstack : g.stack = argsL.reverse ++ .ref b :: rest) (hW : 2 * g.monitorRoom + (rest.map fun v => v.category).sum ≤ W9) (hdg : decode c.code g.pc = .ok (.invokevirtual index, 3))
    (hpre : ∀ vm₁, s.WarmedH vm₁ → Pre ⟨T.setVm vm₁, locs, cells, slots⟩ (Value.ref b :: argsL).toArray) :
    ∃ (v : Option Value) (vm₁ : Vm) (B : Pt), s.WarmedH vm₁ ∧ Stand p l e R s m args below meth c B.U B.locs B.cells B.slots ∧ Post ⟨T.setVm vm₁, locs, cells, slots⟩ (Value.ref b :: argsL).toArray v B ∧
      ∀ target, Steps p.tables e below (B.U.setTop { g with pc := g.pc + 3, stack := v.toList ++ rest }) target → Steps p.tables e below (T.setTop g) target := by
  obtain ⟨mk, methM, hnamed, hmethM, hstM, habM⟩ := Cond.instanceMethod_spec hinst
  obtain ⟨m8, methM', cM, hn8, hmethM', -, -, -, -, -, -, hsigM⟩ := Cond.codeWith_spec hcode
  cases Option.some.inj (hn8.symm.trans hnamed)
  cases hmethM.symm.trans hmethM'
  obtain ⟨c2, r2, m2, q1, q2, q3, q4, kP, hkP, hkPi⟩ := Cond.selects_spec hsel
  cases hcls.symm.trans q1
  cases (State.methodFound?_of_named hnamed hy).symm.trans q2
  cases hnamed.symm.trans q3
  have hselP : selectMethod e.platform s.vm cellB.cls mk = .method mk := by rw [Launch.admits_selectMethod X.admits]; exact q4
  obtain ⟨vm₁, X₁, hstep₁⟩ := X.invokevirtual hexec hown hlink hnamed hmethM hstM hkP hkPi hy (a := b) (cell := cellB) hcell
    (fun z h => by rw [h] at hobj; cases hobj) hselP hmethM habM hkP hkPi (g := g) hg (argsL := argsL) (rest := rest) (hlen _ hsigM) hstack hdg
  obtain ⟨v, B, X', hpost, hsteps⟩ := hK m meth c ⟨T.setVm vm₁, locs, cells, slots⟩ { g with stack := rest } (.invokevirtual index) mk (Value.ref b :: argsL).toArray X₁ hg hsize hdg hW (X₁.named hnamed) (hpre vm₁ X₁.warmed)
  exact ⟨v, vm₁, B, X₁.warmed, X', hpost, fun target h => hstep₁ _ fun acts => by rw [doInvoke_state]; exact hsteps.trans h⟩
abbrev vx_CVW (R : Room) (s : State) (args : Array Value) (own C : String) (index : Nat) (y : MethodName) (bytes : ByteArray) (maxL : Nat) (ret : Option FieldType) (hh : List (Nat × Nat × Nat × Nat)) (ws : List Cond) (rm : Room) (mc ms n : Nat) : Prop :=
  (rm.cells = mc ∧ rm.slots = ms ∧ rm.frames + 1 ≤ R.frames ∧ 8 + (maxL + 11) + rm.locals ≤ R.locals ∧ (∀ w ∈ ws, ∀ (a' : Array Value) (U : State), s.WarmedH U.vm → w.before a' U = true) ∧ Cond.codeWith y bytes maxL ret hh ∈ ws) ∧
  (Cond.codeWith y bytes maxL ret hh).before args s = true ∧ (Cond.initialized y.cls).before args s = true ∧ (y.cls ≠ "java/lang/invoke/MethodHandle" ∧ y.cls ≠ "java/lang/invoke/VarHandle") ∧
  (∀ sig, parseMethodDescriptor y.desc = some sig → n = sig.parameters.length) ∧ (Cond.methodLink own index y).before args s = true ∧ (Cond.instanceMethod y).before args s = true ∧ (Cond.selects C y y).before args s = true
theorem vx_cwVW {own C : String} {index maxL mc ms : Nat} {y : MethodName} {bytes : ByteArray} {ret : Option FieldType} {hh : List (Nat × Nat × Nat × Nat)} {Ts ws ws' : List Cond} {rm : Room} (n : Nat) (ht : ∀ w ∈ Ts, w.before args s = true) (hT : GoodIn Ts (wsV own index C y ws)) (hw : ws = Cond.codeWith y bytes maxL ret hh :: ws') (hrc : rm.cells = mc) (hrs : rm.slots = ms)
    (hd : y.cls = C ∧ y.cls ≠ "java/lang/invoke/MethodHandle" ∧ y.cls ≠ "java/lang/invoke/VarHandle" ∧ (parseMethodDescriptor y.desc).map (fun d => d.parameters.length) = some n) (hR : rm.frames + 1 ≤ R.frames ∧ 8 + (maxL + 11) + rm.locals ≤ R.locals) :
    vx_CVW R s args own C index y bytes maxL ret hh ws rm mc ms n := by
  obtain ⟨hC, hd⟩ := hd
  subst hC
  have ok : ∀ w ∈ wsV own index y.cls y ws, w.before args s = true := fun w h => ht w (hT w h).1
  have hG : GoodIn Ts ws := fun w h => hT w (by unfold wsV; exact List.mem_append_right _ h)
  have hc : Cond.codeWith y bytes maxL ret hh ∈ ws := by rw [hw]; exact List.mem_cons_self
  refine ⟨⟨hrc, hrs, hR.1, hR.2, pay_in ht hG, hc⟩, ht _ (hG _ hc).1, ok _ (by simp [wsV]), ⟨hd.1, hd.2.1⟩, fun sig h => ?_, ok _ (by simp [wsV]), ok _ (by simp [wsV]), ok _ (by simp [wsV])⟩
  have h2 := hd.2.2
  rw [h] at h2
  exact (Option.some.inj h2).symm
theorem vx_runVW {y : MethodName} {bytes cc : ByteArray} {maxL nL mc ms n index : Nat} {ret : Option FieldType} {hh : List (Nat × Nat × Nat × Nat)} {ws : List Cond} {rm : Room} {Pc : Array Value → State → Prop} {Qc : Array Value → State → Outcome → State → Prop} {free : Addr → Prop} {Ts : List Cond} {own C : String} {b : Addr} {As rest : List Value} {g : JFrame}
    (S : CallFix p m c cc nL s args Ts own) (hM : Met l y ws rm Pc Qc mc ms free) (cw : vx_CVW R s args own C index y bytes maxL ret hh ws rm mc ms n) (hp : PreV s H C b Pc As)
    (hg : g.method = m) (hn : As.length = n) (hsize : g.locals.size = nL) (hstack : g.stack = As.reverse ++ .ref b :: rest) (hW : 2 * g.monitorRoom + (rest.map fun v => v.category).sum ≤ 8) (hdg : decode cc g.pc = .ok (.invokevirtual index, 3)) (hf : cells + mc ≤ R.cells ∧ slots + ms ≤ R.slots) :
    va_Run p l e R s m args below meth c H locs cells slots mc ms g rest (Qc (Value.ref b :: As).toArray) free := by
  obtain ⟨⟨hrc, hrs, hfr, hlo, hws, hcw⟩, hcode, hini, hy, hlen, hl, hin, hse⟩ := cw
  have hK : Back l R p e below s args y 3 8 (PreOf R mc ms Pc) (PostOf Qc mc ms free) := va_backW (hh := hh) (bytes := bytes) (maxL := maxL) (ret := ret) hM hp.1 hrc hrs hfr hlo hws hcw (fun a' U hW => word_at hW (Or.inl (by first | rfl | simp [Cond.onTables, Cond.keeps, Cond.steady])) hini)
  obtain ⟨hx, hb, hml, ho, -⟩ := S
  obtain ⟨-, ⟨cellB, hcB, hoB, hclB⟩, hPc⟩ := hp
  intro T hT X
  obtain ⟨v, vm₁, ⟨U', l2, c2, s2⟩, hW₁, X', ⟨g', mk, t, L, e1, e2, hq, h1, hL, h2, h3⟩, st⟩ := vx_callVW X hx (C := C) (hh := hh) (bytes := bytes) (maxL := maxL) (ret := ret) ho hl hin hse hcode hy hK (by rw [hT]; exact hcB) hoB hclB hg (hsize.trans hml.symm) (argsL := As) (rest := rest) (fun sig h => hn.trans (hlen sig h)) hstack hW (by rw [hb]; exact hdg)
    (fun vm₁ hW₁ => ⟨hf.1, hf.2, hPc (T.setVm vm₁) hT hW₁⟩)
  dsimp only [Pt.U, Pt.locs, Pt.cells, Pt.slots] at X' e1 e2 h1 h2 h3 st
  subst h1; subst h2; subst h3
  exact ⟨v, (T.setVm vm₁).calling g' mk (Value.ref b :: As).toArray, t, U', L, hT, X', hL, e1, e2, hq, st⟩
section
variable {y : MethodName} {bytes cc : ByteArray} {maxL nL mc ms n index : Nat} {ret : Option FieldType} {ws : List Cond} {rm : Room} {Pc : Array Value → State → Prop} {Qc : Array Value → State → Outcome → State → Prop} {XC : String → State → State → Prop} {free : Addr → Prop} {Ts : List Cond} {own C : String} {b : Addr} {As rest : List Value} {g : JFrame}
theorem vx_runVX {hh : List (Nat × Nat × Nat × Nat)} (S : CallFix p m c cc nL s args Ts own) (hM : vx_Met l y ws rm Pc Qc XC mc ms free) (cw : vx_CVW R s args own C index y bytes maxL ret hh ws rm mc ms n) (hp : PreV s H C b Pc As)
    (hg : g.method = m) (hn : As.length = n) (hsize : g.locals.size = nL) (hstack : g.stack = As.reverse ++ .ref b :: rest) (hW : 2 * g.monitorRoom + (rest.map fun v => v.category).sum ≤ 8) (hdg : decode cc g.pc = .ok (.invokevirtual index, 3)) (hf : cells + mc ≤ R.cells ∧ slots + ms ≤ R.slots) :
    vx_Run p l e R s m args below meth c H locs cells slots mc ms g rest (Qc (Value.ref b :: As).toArray) XC free := by
  obtain ⟨⟨hrc, hrs, hfr, hlo, hws, hcw⟩, hcode, hini, hy, hlen, hl, hin, hse⟩ := cw
  have hK : vx_Back l R p e below s args y 3 8 (PreOf R mc ms Pc) (PostOf Qc mc ms free) (vx_Post XC mc ms free) := vx_backW (hh := hh) (bytes := bytes) (maxL := maxL) (ret := ret) hM hp.1 hrc hrs hfr hlo hws hcw (fun a' U hW => word_at hW (Or.inl (by first | rfl | simp [Cond.onTables, Cond.keeps, Cond.steady])) hini)
  obtain ⟨hx, hb, hml, ho, -⟩ := S
  obtain ⟨-, ⟨cellB, hcB, hoB, hclB⟩, hPc⟩ := hp
  intro T hT X
  rcases vx_callVX X hx (C := C) (hh := hh) (bytes := bytes) (maxL := maxL) (ret := ret) ho hl hin hse hcode hy hK (by rw [hT]; exact hcB) hoB hclB hg (hsize.trans hml.symm) (argsL := As) (rest := rest) (fun sig h => hn.trans (hlen sig h)) hstack hW (by rw [hb]; exact hdg)
    (fun vm₁ hW₁ => ⟨hf.1, hf.2, hPc (T.setVm vm₁) hT hW₁⟩) with ⟨v, vm₁, ⟨U', l2, c2, s2⟩, hW₁, X', ⟨g', mk, t, L, e1, e2, hq, h1, hL, h2, h3⟩, st⟩ | ⟨q, vm₁, ⟨U', l2, c2, s2⟩, hW₁, X', ⟨g', mk, t, L, E, ce, e1, e2, hq, hce, hcv, hcl, h1, hL, h2, h3⟩, st⟩
  · dsimp only [Pt.U, Pt.locs, Pt.cells, Pt.slots] at X' e1 e2 h1 h2 h3 st
    subst h1; subst h2; subst h3
    exact Or.inl ⟨v, (T.setVm vm₁).calling g' mk (Value.ref b :: As).toArray, t, U', L, hT, X', hL, e1, e2, hq, st⟩
  · dsimp only [Pt.U, Pt.locs, Pt.cells, Pt.slots] at X' e1 e2 h1 h2 h3 st hcl
    subst h1; subst h2; subst h3
    exact Or.inr ⟨q, (T.setVm vm₁).calling g' mk (Value.ref b :: As).toArray, t, U', L, E, ce, hT, X', hL, e1, e2, hq, hce, hcv, vx_cls hW₁ hcl, st⟩
theorem vx_runSX {hh : List (Nat × Nat × Nat × Nat)} (S : CallFix p m c cc nL s args Ts own) (hM : vx_Met l y ws rm Pc Qc XC mc ms free) (cw : vx_CSW R s args own index y bytes maxL ret hh ws rm mc ms n) (hp : PreS s H Pc As)
    (hg : g.method = m) (hn : As.length = n) (hsize : g.locals.size = nL) (hstack : g.stack = As.reverse ++ rest) (hW : 2 * g.monitorRoom + (rest.map fun v => v.category).sum ≤ 8) (hdg : decode cc g.pc = .ok (.invokestatic index, 3)) (hf : cells + mc ≤ R.cells ∧ slots + ms ≤ R.slots) :
    vx_Run p l e R s m args below meth c H locs cells slots mc ms g rest (Qc As.toArray) XC free := by
  obtain ⟨⟨hrc, hrs, hfr, hlo, hws, hcw⟩, hcode, hini, hy, hlen, hl, hstt⟩ := cw
  have hK : vx_Back l R p e below s args y 3 8 (PreOf R mc ms Pc) (PostOf Qc mc ms free) (vx_Post XC mc ms free) := vx_backW (hh := hh) (bytes := bytes) (maxL := maxL) (ret := ret) hM hp.1 hrc hrs hfr hlo hws hcw (fun a' U hW => word_at hW (Or.inl (by first | rfl | simp [Cond.onTables, Cond.keeps, Cond.steady])) hini)
  obtain ⟨hx, hb, hml, ho, -⟩ := S
  intro T hT X
  rcases vx_callSX X hx (hh := hh) (bytes := bytes) (maxL := maxL) (ret := ret) ho hl hstt hini hcode hy hK hg (hsize.trans hml.symm) (argsL := As) (rest := rest) (fun sig h => hn.trans (hlen sig h)) hstack hW (by rw [hb]; exact hdg)
    (fun vm₁ hW₁ => ⟨hf.1, hf.2, hp.2 (T.setVm vm₁) hT hW₁⟩) with ⟨v, vm₁, ⟨U', l2, c2, s2⟩, hW₁, X', ⟨g', mk, t, L, e1, e2, hq, h1, hL, h2, h3⟩, st⟩ | ⟨q, vm₁, ⟨U', l2, c2, s2⟩, hW₁, X', ⟨g', mk, t, L, E, ce, e1, e2, hq, hce, hcv, hcl, h1, hL, h2, h3⟩, st⟩
  · dsimp only [Pt.U, Pt.locs, Pt.cells, Pt.slots] at X' e1 e2 h1 h2 h3 st
    subst h1; subst h2; subst h3
    exact Or.inl ⟨v, (T.setVm vm₁).calling g' mk As.toArray, t, U', L, hT, X', hL, e1, e2, hq, st⟩
  · dsimp only [Pt.U, Pt.locs, Pt.cells, Pt.slots] at X' e1 e2 h1 h2 h3 st hcl
    subst h1; subst h2; subst h3
    exact Or.inr ⟨q, (T.setVm vm₁).calling g' mk As.toArray, t, U', L, E, ce, hT, X', hL, e1, e2, hq, hce, hcv, vx_cls hW₁ hcl, st⟩
end
end VXH
theorem vx_ofWH {l : Launch} {y : MethodName} {ws ws' : List Cond} {rm : Room} {Pc : Array Value → State → Prop} {Qc : Array Value → State → Outcome → State → Prop} {XC : String → State → State → Prop} {mc ms : Nat} {free : Addr → Prop} {cc : ByteArray} {maxL : Nat} {ret : Option FieldType} {hh : List (Nat × Nat × Nat × Nat)}
    (hy : plainName y.cls = true) (hw : ws = Cond.codeWith y cc maxL ret hh :: ws')
    (body : ∀ p e s m args below meth c s₁, BodyLoose p l y (headSpec ws rm) cc maxL ret e s m args below meth c s₁ → c.maxLocals = maxL → Pc args s →
      W p l e (headSpec ws rm).room s m args below meth c s.heap [] 0 0 (vx_MQ below Qc XC args s mc ms free) (entryFrame m args maxL)) : vx_Met l y ws rm Pc Qc XC mc ms free := by
  refine MetFree.of_bodyS (code := cc) (maxLocals := maxL) (ret := ret) hy ?_ ?_
  · intro args s m h hn
    obtain ⟨m9, meth, c, hn9, h1, h2, h3, h4, -, h5, h6, -⟩ := Cond.codeWith_spec (atoms_spec (ws := ws) h _ (by rw [hw]; exact List.mem_cons_self))
    cases hn.symm.trans hn9
    exact ⟨meth, c, h1, h2, h3, h4, h5, h6⟩
  · intro p e s m args below meth c s₁ B hml hP _
    have hh0 : s₁.heap = s.heap := by rw [B.state]; rfl
    obtain ⟨t, a1, o, b1, b2, b3⟩ := body p e s m args below meth c s₁ B hml hP s₁ hh0 (Stand.of_body B)
    exact ⟨t, o, a1, b1, b2, b3⟩
/-! ===== END ===== -/
end
section
/-! ===== BEGIN printed: names, fields, word lists, decode rows ===== -/
def RX0 : String := "Approvalyard$Book"
def TX0 : u_T := fun k => match k with
  | 0 => ("Approvalyard$Book", "words", "LApprovalyard$Row;", true)
  | _ => ("Approvalyard$Book", "number", "I", false)
def tyX0 : Nat → FieldType := fun k => match k with
  | 0 => .object "Approvalyard$Row"
  | _ => .int
abbrev wsX00 : List Cond := u_ws RX0 TX0 2
theorem nmX0 : ∀ a, a < 2 → ∀ b, b < 2 → a ≠ b → (TX0 a).2.1 ≠ (TX0 b).2.1 := by decide +kernel
theorem tyX0_ok : ∀ k, k < 2 → parseFieldDescriptor (TX0 k).2.2.1 = some (tyX0 k) := by decide +kernel
abbrev cX0_init : ByteArray := prog_2_method_1_code
def yX0_init : MethodName := ⟨RX0, "<init>", "()V"⟩
abbrev cX0_count : ByteArray := prog_2_method_2_code
def yX0_count : MethodName := ⟨RX0, "count", "()I"⟩
abbrev cX0_write : ByteArray := prog_2_method_3_code
def yX0_write : MethodName := ⟨RX0, "write", "(IIIIII)I"⟩
abbrev cX0_wordOf : ByteArray := prog_2_method_4_code
def yX0_wordOf : MethodName := ⟨RX0, "wordOf", "(II)I"⟩
def RX1 : String := "Approvalyard$Choice"
def TX1 : u_T := fun k => match k with
  | _ => ("", "", "", false)
def tyX1 : Nat → FieldType := fun k => match k with
  | _ => .int
abbrev wsX10 : List Cond := u_ws RX1 TX1 0
theorem nmX1 : ∀ a, a < 0 → ∀ b, b < 0 → a ≠ b → (TX1 a).2.1 ≠ (TX1 b).2.1 := by decide +kernel
theorem tyX1_ok : ∀ k, k < 0 → parseFieldDescriptor (TX1 k).2.2.1 = some (tyX1 k) := by decide +kernel
abbrev cX1_versionOf : ByteArray := prog_3_method_2_code
def yX1_versionOf : MethodName := ⟨RX1, "versionOf", "(II)I"⟩
abbrev cX1_with : ByteArray := prog_3_method_3_code
def yX1_with : MethodName := ⟨RX1, "with", "(III)I"⟩
def RX2 : String := "Approvalyard$Desk"
def TX2 : u_T := fun k => match k with
  | 0 => ("Approvalyard$Desk", "parts", "LApprovalyard$Parts;", true)
  | 1 => ("Approvalyard$Desk", "people", "LApprovalyard$People;", true)
  | _ => ("Approvalyard$Desk", "requests", "LApprovalyard$Requests;", true)
def tyX2 : Nat → FieldType := fun k => match k with
  | 0 => .object "Approvalyard$Parts"
  | 1 => .object "Approvalyard$People"
  | _ => .object "Approvalyard$Requests"
abbrev wsX20 : List Cond := u_ws RX2 TX2 3
theorem nmX2 : ∀ a, a < 3 → ∀ b, b < 3 → a ≠ b → (TX2 a).2.1 ≠ (TX2 b).2.1 := by decide +kernel
theorem tyX2_ok : ∀ k, k < 3 → parseFieldDescriptor (TX2 k).2.2.1 = some (tyX2 k) := by decide +kernel
abbrev cX2_init : ByteArray := prog_4_method_1_code
def yX2_init : MethodName := ⟨RX2, "<init>", "()V"⟩
abbrev cX2_clear : ByteArray := prog_4_method_2_code
def yX2_clear : MethodName := ⟨RX2, "clear", "()V"⟩
abbrev cX2_apply : ByteArray := prog_4_method_3_code
def yX2_apply : MethodName := ⟨RX2, "apply", "(LApprovalyard$Book;I)I"⟩
abbrev cX2_principalFor : ByteArray := prog_4_method_4_code
def yX2_principalFor : MethodName := ⟨RX2, "principalFor", "(II)I"⟩
abbrev cX2_approvalsOf : ByteArray := prog_4_method_5_code
def yX2_approvalsOf : MethodName := ⟨RX2, "approvalsOf", "(I)I"⟩
abbrev cX2_isCovered : ByteArray := prog_4_method_6_code
def yX2_isCovered : MethodName := ⟨RX2, "isCovered", "(I)Z"⟩
abbrev cX2_takeApproval : ByteArray := prog_4_method_7_code
def yX2_takeApproval : MethodName := ⟨RX2, "takeApproval", "(II)I"⟩
def RX3 : String := "Approvalyard$Parts"
def TX3 : u_T := fun k => match k with
  | 0 => ("Approvalyard$Parts", "counts", "LApprovalyard$Row;", true)
  | 1 => ("Approvalyard$Parts", "costs", "LApprovalyard$Row;", true)
  | 2 => ("Approvalyard$Parts", "replaced", "LApprovalyard$Row;", true)
  | 3 => ("Approvalyard$Parts", "needCounts", "LApprovalyard$Row;", true)
  | 4 => ("Approvalyard$Parts", "needParts", "LApprovalyard$Row;", true)
  | _ => ("Approvalyard$Parts", "needVersions", "LApprovalyard$Row;", true)
def tyX3 : Nat → FieldType := fun k => match k with
  | 0 => .object "Approvalyard$Row"
  | 1 => .object "Approvalyard$Row"
  | 2 => .object "Approvalyard$Row"
  | 3 => .object "Approvalyard$Row"
  | 4 => .object "Approvalyard$Row"
  | _ => .object "Approvalyard$Row"
abbrev wsX30 : List Cond := u_ws RX3 TX3 6
theorem nmX3 : ∀ a, a < 6 → ∀ b, b < 6 → a ≠ b → (TX3 a).2.1 ≠ (TX3 b).2.1 := by decide +kernel
theorem tyX3_ok : ∀ k, k < 6 → parseFieldDescriptor (TX3 k).2.2.1 = some (tyX3 k) := by decide +kernel
abbrev cX3_init : ByteArray := prog_5_method_1_code
def yX3_init : MethodName := ⟨RX3, "<init>", "()V"⟩
abbrev cX3_clear : ByteArray := prog_5_method_2_code
def yX3_clear : MethodName := ⟨RX3, "clear", "()V"⟩
abbrev cX3_countOf : ByteArray := prog_5_method_3_code
def yX3_countOf : MethodName := ⟨RX3, "countOf", "(I)I"⟩
abbrev cX3_addVersion : ByteArray := prog_5_method_4_code
def yX3_addVersion : MethodName := ⟨RX3, "addVersion", "(II)I"⟩
abbrev cX3_needsOf : ByteArray := prog_5_method_5_code
def yX3_needsOf : MethodName := ⟨RX3, "needsOf", "(II)I"⟩
abbrev cX3_addNeed : ByteArray := prog_5_method_6_code
def yX3_addNeed : MethodName := ⟨RX3, "addNeed", "(IIIII)I"⟩
abbrev cX3_neededPart : ByteArray := prog_5_method_7_code
def yX3_neededPart : MethodName := ⟨RX3, "neededPart", "(III)I"⟩
abbrev cX3_neededVersions : ByteArray := prog_5_method_8_code
def yX3_neededVersions : MethodName := ⟨RX3, "neededVersions", "(III)I"⟩
abbrev cX3_markReplaced : ByteArray := prog_5_method_9_code
def yX3_markReplaced : MethodName := ⟨RX3, "markReplaced", "(II)V"⟩
abbrev cX3_isReplaced : ByteArray := prog_5_method_10_code
def yX3_isReplaced : MethodName := ⟨RX3, "isReplaced", "(II)Z"⟩
abbrev cX3_current : ByteArray := prog_5_method_11_code
def yX3_current : MethodName := ⟨RX3, "current", "(I)I"⟩
abbrev cX3_costOf : ByteArray := prog_5_method_12_code
def yX3_costOf : MethodName := ⟨RX3, "costOf", "(I)I"⟩
abbrev cX3_versionSet : ByteArray := prog_5_method_13_code
def yX3_versionSet : MethodName := ⟨RX3, "versionSet", "(II)I"⟩
abbrev cX3_placeOf : ByteArray := prog_5_method_14_code
def yX3_placeOf : MethodName := ⟨RX3, "placeOf", "(II)I"⟩
def RX4 : String := "Approvalyard$People"
def TX4 : u_T := fun k => match k with
  | 0 => ("Approvalyard$People", "limits", "LApprovalyard$Row;", true)
  | 1 => ("Approvalyard$People", "delegates", "LApprovalyard$Row;", true)
  | 2 => ("Approvalyard$People", "backs", "LApprovalyard$Row;", true)
  | _ => ("Approvalyard$People", "day", "I", false)
def tyX4 : Nat → FieldType := fun k => match k with
  | 0 => .object "Approvalyard$Row"
  | 1 => .object "Approvalyard$Row"
  | 2 => .object "Approvalyard$Row"
  | _ => .int
abbrev wsX40 : List Cond := u_ws RX4 TX4 4
theorem nmX4 : ∀ a, a < 4 → ∀ b, b < 4 → a ≠ b → (TX4 a).2.1 ≠ (TX4 b).2.1 := by decide +kernel
theorem tyX4_ok : ∀ k, k < 4 → parseFieldDescriptor (TX4 k).2.2.1 = some (tyX4 k) := by decide +kernel
abbrev cX4_init : ByteArray := prog_6_method_1_code
def yX4_init : MethodName := ⟨RX4, "<init>", "()V"⟩
abbrev cX4_clear : ByteArray := prog_6_method_2_code
def yX4_clear : MethodName := ⟨RX4, "clear", "()V"⟩
abbrev cX4_today : ByteArray := prog_6_method_3_code
def yX4_today : MethodName := ⟨RX4, "today", "()I"⟩
abbrev cX4_addDays : ByteArray := prog_6_method_4_code
def yX4_addDays : MethodName := ⟨RX4, "addDays", "(I)I"⟩
abbrev cX4_changeLimit : ByteArray := prog_6_method_5_code
def yX4_changeLimit : MethodName := ⟨RX4, "changeLimit", "(II)I"⟩
abbrev cX4_sendOnLeave : ByteArray := prog_6_method_6_code
def yX4_sendOnLeave : MethodName := ⟨RX4, "sendOnLeave", "(III)I"⟩
abbrev cX4_backOf : ByteArray := prog_6_method_7_code
def yX4_backOf : MethodName := ⟨RX4, "backOf", "(I)I"⟩
abbrev cX4_isAway : ByteArray := prog_6_method_8_code
def yX4_isAway : MethodName := ⟨RX4, "isAway", "(I)Z"⟩
abbrev cX4_principalOf : ByteArray := prog_6_method_9_code
def yX4_principalOf : MethodName := ⟨RX4, "principalOf", "(II)I"⟩
abbrev cX4_greatestLimit : ByteArray := prog_6_method_10_code
def yX4_greatestLimit : MethodName := ⟨RX4, "greatestLimit", "(II)I"⟩
def RX5 : String := "Approvalyard$Requests"
def TX5 : u_T := fun k => match k with
  | 0 => ("Approvalyard$Requests", "people", "LApprovalyard$Row;", true)
  | 1 => ("Approvalyard$Requests", "parts", "LApprovalyard$Row;", true)
  | 2 => ("Approvalyard$Requests", "leasts", "LApprovalyard$Row;", true)
  | 3 => ("Approvalyard$Requests", "states", "LApprovalyard$Row;", true)
  | 4 => ("Approvalyard$Requests", "choices", "LApprovalyard$Row;", true)
  | 5 => ("Approvalyard$Requests", "costs", "LApprovalyard$Row;", true)
  | 6 => ("Approvalyard$Requests", "ends", "LApprovalyard$Row;", true)
  | _ => ("Approvalyard$Requests", "number", "I", false)
def tyX5 : Nat → FieldType := fun k => match k with
  | 0 => .object "Approvalyard$Row"
  | 1 => .object "Approvalyard$Row"
  | 2 => .object "Approvalyard$Row"
  | 3 => .object "Approvalyard$Row"
  | 4 => .object "Approvalyard$Row"
  | 5 => .object "Approvalyard$Row"
  | 6 => .object "Approvalyard$Row"
  | _ => .int
abbrev wsX50 : List Cond := u_ws RX5 TX5 8
theorem nmX5 : ∀ a, a < 8 → ∀ b, b < 8 → a ≠ b → (TX5 a).2.1 ≠ (TX5 b).2.1 := by decide +kernel
theorem tyX5_ok : ∀ k, k < 8 → parseFieldDescriptor (TX5 k).2.2.1 = some (tyX5 k) := by decide +kernel
abbrev cX5_init : ByteArray := prog_7_method_1_code
def yX5_init : MethodName := ⟨RX5, "<init>", "()V"⟩
abbrev cX5_clear : ByteArray := prog_7_method_2_code
def yX5_clear : MethodName := ⟨RX5, "clear", "()V"⟩
abbrev cX5_count : ByteArray := prog_7_method_3_code
def yX5_count : MethodName := ⟨RX5, "count", "()I"⟩
abbrev cX5_add : ByteArray := prog_7_method_4_code
def yX5_add : MethodName := ⟨RX5, "add", "(III)I"⟩
abbrev cX5_personOf : ByteArray := prog_7_method_5_code
def yX5_personOf : MethodName := ⟨RX5, "personOf", "(I)I"⟩
abbrev cX5_partOf : ByteArray := prog_7_method_6_code
def yX5_partOf : MethodName := ⟨RX5, "partOf", "(I)I"⟩
abbrev cX5_leastOf : ByteArray := prog_7_method_7_code
def yX5_leastOf : MethodName := ⟨RX5, "leastOf", "(I)I"⟩
abbrev cX5_stateOf : ByteArray := prog_7_method_8_code
def yX5_stateOf : MethodName := ⟨RX5, "stateOf", "(I)I"⟩
abbrev cX5_choiceOf : ByteArray := prog_7_method_9_code
def yX5_choiceOf : MethodName := ⟨RX5, "choiceOf", "(I)I"⟩
abbrev cX5_costOf : ByteArray := prog_7_method_10_code
def yX5_costOf : MethodName := ⟨RX5, "costOf", "(I)I"⟩
abbrev cX5_settle : ByteArray := prog_7_method_11_code
def yX5_settle : MethodName := ⟨RX5, "settle", "(III)I"⟩
abbrev cX5_markReleased : ByteArray := prog_7_method_12_code
def yX5_markReleased : MethodName := ⟨RX5, "markReleased", "(I)I"⟩
abbrev cX5_addApproval : ByteArray := prog_7_method_13_code
def yX5_addApproval : MethodName := ⟨RX5, "addApproval", "(III)V"⟩
abbrev cX5_hasApproval : ByteArray := prog_7_method_14_code
def yX5_hasApproval : MethodName := ⟨RX5, "hasApproval", "(III)Z"⟩
abbrev cX5_approvalsOf : ByteArray := prog_7_method_15_code
def yX5_approvalsOf : MethodName := ⟨RX5, "approvalsOf", "(II)I"⟩
abbrev cX5_loseVersion : ByteArray := prog_7_method_16_code
def yX5_loseVersion : MethodName := ⟨RX5, "loseVersion", "(III)I"⟩
abbrev cX5_reopen : ByteArray := prog_7_method_17_code
def yX5_reopen : MethodName := ⟨RX5, "reopen", "(I)V"⟩
abbrev cX5_endApprovals : ByteArray := prog_7_method_18_code
def yX5_endApprovals : MethodName := ⟨RX5, "endApprovals", "(I)V"⟩
def RX6 : String := "Approvalyard$Row"
def TX6 : u_T := fun k => match k with
  | _ => ("Approvalyard$Row", "cells", "[I", true)
def tyX6 : Nat → FieldType := fun k => match k with
  | _ => .array .int
abbrev wsX60 : List Cond := u_ws RX6 TX6 1
theorem nmX6 : ∀ a, a < 1 → ∀ b, b < 1 → a ≠ b → (TX6 a).2.1 ≠ (TX6 b).2.1 := by decide +kernel
theorem tyX6_ok : ∀ k, k < 1 → parseFieldDescriptor (TX6 k).2.2.1 = some (tyX6 k) := by decide +kernel
abbrev cX6_init : ByteArray := prog_8_method_1_code
def yX6_init : MethodName := ⟨RX6, "<init>", "(I)V"⟩
abbrev cX6_at : ByteArray := prog_8_method_2_code
def yX6_at : MethodName := ⟨RX6, "at", "(I)I"⟩
abbrev cX6_put : ByteArray := prog_8_method_3_code
def yX6_put : MethodName := ⟨RX6, "put", "(II)V"⟩
abbrev cX6_fill : ByteArray := prog_8_method_4_code
def yX6_fill : MethodName := ⟨RX6, "fill", "(I)V"⟩
def RX7 : String := "Approvalyard$Search"
def TX7 : u_T := fun k => match k with
  | 0 => ("Approvalyard$Search", "order", "LApprovalyard$Row;", true)
  | 1 => ("Approvalyard$Search", "wanted", "LApprovalyard$Row;", true)
  | 2 => ("Approvalyard$Search", "number", "I", false)
  | _ => ("Approvalyard$Search", "choice", "I", false)
def tyX7 : Nat → FieldType := fun k => match k with
  | 0 => .object "Approvalyard$Row"
  | 1 => .object "Approvalyard$Row"
  | 2 => .int
  | _ => .int
abbrev wsX70 : List Cond := u_ws RX7 TX7 4
theorem nmX7 : ∀ a, a < 4 → ∀ b, b < 4 → a ≠ b → (TX7 a).2.1 ≠ (TX7 b).2.1 := by decide +kernel
theorem tyX7_ok : ∀ k, k < 4 → parseFieldDescriptor (TX7 k).2.2.1 = some (tyX7 k) := by decide +kernel
abbrev cX7_init : ByteArray := prog_9_method_1_code
def yX7_init : MethodName := ⟨RX7, "<init>", "()V"⟩
abbrev cX7_find : ByteArray := prog_9_method_2_code
def yX7_find : MethodName := ⟨RX7, "find", "(LApprovalyard$Parts;II)I"⟩
abbrev cX7_fill : ByteArray := prog_9_method_3_code
def yX7_fill : MethodName := ⟨RX7, "fill", "(LApprovalyard$Parts;I)Z"⟩
abbrev cX7_take : ByteArray := prog_9_method_4_code
def yX7_take : MethodName := ⟨RX7, "take", "(LApprovalyard$Parts;II)Z"⟩
abbrev cX7_await : ByteArray := prog_9_method_5_code
def yX7_await : MethodName := ⟨RX7, "await", "(I)V"⟩
def RX8 : String := "Approvalyard"
def TX8 : u_T := fun k => match k with
  | 0 => ("Approvalyard", "book", "LApprovalyard$Book;", true)
  | 1 => ("Approvalyard", "desk", "LApprovalyard$Desk;", true)
  | 2 => ("Approvalyard", "deskAnew", "LApprovalyard$Desk;", true)
  | _ => ("Approvalyard", "search", "LApprovalyard$Search;", true)
def tyX8 : Nat → FieldType := fun k => match k with
  | 0 => .object "Approvalyard$Book"
  | 1 => .object "Approvalyard$Desk"
  | 2 => .object "Approvalyard$Desk"
  | _ => .object "Approvalyard$Search"
abbrev wsX80 : List Cond := u_ws RX8 TX8 4
theorem nmX8 : ∀ a, a < 4 → ∀ b, b < 4 → a ≠ b → (TX8 a).2.1 ≠ (TX8 b).2.1 := by decide +kernel
theorem tyX8_ok : ∀ k, k < 4 → parseFieldDescriptor (TX8 k).2.2.1 = some (tyX8 k) := by decide +kernel
abbrev cX8_init : ByteArray := prog_1_method_1_code
def yX8_init : MethodName := ⟨RX8, "<init>", "()V"⟩
abbrev cX8_version : ByteArray := prog_1_method_2_code
def yX8_version : MethodName := ⟨RX8, "version", "(II)I"⟩
abbrev cX8_need : ByteArray := prog_1_method_3_code
def yX8_need : MethodName := ⟨RX8, "need", "(IIIII)I"⟩
abbrev cX8_replace : ByteArray := prog_1_method_4_code
def yX8_replace : MethodName := ⟨RX8, "replace", "(II)I"⟩
abbrev cX8_request : ByteArray := prog_1_method_5_code
def yX8_request : MethodName := ⟨RX8, "request", "(III)I"⟩
abbrev cX8_resolve : ByteArray := prog_1_method_6_code
def yX8_resolve : MethodName := ⟨RX8, "resolve", "(I)I"⟩
abbrev cX8_chosen : ByteArray := prog_1_method_7_code
def yX8_chosen : MethodName := ⟨RX8, "chosen", "(II)I"⟩
abbrev cX8_limit : ByteArray := prog_1_method_8_code
def yX8_limit : MethodName := ⟨RX8, "limit", "(II)I"⟩
abbrev cX8_leave : ByteArray := prog_1_method_9_code
def yX8_leave : MethodName := ⟨RX8, "leave", "(III)I"⟩
abbrev cX8_approve : ByteArray := prog_1_method_10_code
def yX8_approve : MethodName := ⟨RX8, "approve", "(II)I"⟩
abbrev cX8_release : ByteArray := prog_1_method_11_code
def yX8_release : MethodName := ⟨RX8, "release", "(I)V"⟩
abbrev cX8_pass : ByteArray := prog_1_method_12_code
def yX8_pass : MethodName := ⟨RX8, "pass", "(I)I"⟩
abbrev cX8_ofRequest : ByteArray := prog_1_method_13_code
def yX8_ofRequest : MethodName := ⟨RX8, "ofRequest", "(II)I"⟩
abbrev cX8_isCoveredAnew : ByteArray := prog_1_method_14_code
def yX8_isCoveredAnew : MethodName := ⟨RX8, "isCoveredAnew", "(I)Z"⟩
abbrev cX8_strain : ByteArray := prog_1_method_15_code
def yX8_strain : MethodName := ⟨RX8, "strain", "(I)F"⟩
abbrev cX8_entries : ByteArray := prog_1_method_16_code
def yX8_entries : MethodName := ⟨RX8, "entries", "()I"⟩
abbrev cX8_tell : ByteArray := prog_1_method_17_code
def yX8_tell : MethodName := ⟨RX8, "tell", "(IIII)I"⟩
abbrev cX8_checkPart : ByteArray := prog_1_method_18_code
def yX8_checkPart : MethodName := ⟨RX8, "checkPart", "(I)V"⟩
abbrev cX8_checkVersion : ByteArray := prog_1_method_19_code
def yX8_checkVersion : MethodName := ⟨RX8, "checkVersion", "(II)V"⟩
abbrev cX8_checkPerson : ByteArray := prog_1_method_20_code
def yX8_checkPerson : MethodName := ⟨RX8, "checkPerson", "(I)V"⟩
abbrev cX8_checkRequest : ByteArray := prog_1_method_21_code
def yX8_checkRequest : MethodName := ⟨RX8, "checkRequest", "(I)V"⟩
abbrev cX8_checkLeast : ByteArray := prog_1_method_22_code
def yX8_checkLeast : MethodName := ⟨RX8, "checkLeast", "(I)V"⟩
abbrev cX8_checkDays : ByteArray := prog_1_method_23_code
def yX8_checkDays : MethodName := ⟨RX8, "checkDays", "(I)V"⟩
def RX9 : String := "ApprovalyardModel"
def TX9 : u_T := fun k => match k with
  | 0 => ("ApprovalyardModel", "vc", "[I", true)
  | 1 => ("ApprovalyardModel", "vr", "[I", true)
  | 2 => ("ApprovalyardModel", "vn", "[I", true)
  | 3 => ("ApprovalyardModel", "needs", "[I", true)
  | 4 => ("ApprovalyardModel", "versions", "[I", true)
  | 5 => ("ApprovalyardModel", "lim", "[I", true)
  | 6 => ("ApprovalyardModel", "back", "[I", true)
  | 7 => ("ApprovalyardModel", "deputy", "[I", true)
  | 8 => ("ApprovalyardModel", "qp", "[I", true)
  | 9 => ("ApprovalyardModel", "qt", "[I", true)
  | 10 => ("ApprovalyardModel", "ql", "[I", true)
  | 11 => ("ApprovalyardModel", "qs", "[I", true)
  | 12 => ("ApprovalyardModel", "qc", "[I", true)
  | 13 => ("ApprovalyardModel", "chosen", "[I", true)
  | 14 => ("ApprovalyardModel", "by", "[I", true)
  | 15 => ("ApprovalyardModel", "until", "[I", true)
  | 16 => ("ApprovalyardModel", "requests", "I", false)
  | 17 => ("ApprovalyardModel", "day", "I", false)
  | 18 => ("ApprovalyardModel", "entries", "I", false)
  | 19 => ("ApprovalyardModel", "row", "[I", true)
  | 20 => ("ApprovalyardModel", "pick", "[I", true)
  | 21 => ("ApprovalyardModel", "size", "[I", true)
  | 22 => ("ApprovalyardModel", "place", "[I", true)
  | _ => ("ApprovalyardModel", "thrown", "I", false)
def tyX9 : Nat → FieldType := fun k => match k with
  | 0 => .array .int
  | 1 => .array .int
  | 2 => .array .int
  | 3 => .array .int
  | 4 => .array .int
  | 5 => .array .int
  | 6 => .array .int
  | 7 => .array .int
  | 8 => .array .int
  | 9 => .array .int
  | 10 => .array .int
  | 11 => .array .int
  | 12 => .array .int
  | 13 => .array .int
  | 14 => .array .int
  | 15 => .array .int
  | 16 => .int
  | 17 => .int
  | 18 => .int
  | 19 => .array .int
  | 20 => .array .int
  | 21 => .array .int
  | 22 => .array .int
  | _ => .int
abbrev wsX90 : List Cond := u_ws RX9 TX9 24
theorem nmX9 : ∀ a, a < 24 → ∀ b, b < 24 → a ≠ b → (TX9 a).2.1 ≠ (TX9 b).2.1 := by decide +kernel
theorem tyX9_ok : ∀ k, k < 24 → parseFieldDescriptor (TX9 k).2.2.1 = some (tyX9 k) := by decide +kernel
abbrev cX9_init : ByteArray := prog_11_method_1_code
def yX9_init : MethodName := ⟨RX9, "<init>", "()V"⟩
abbrev cX9_thrown : ByteArray := prog_11_method_2_code
def yX9_thrown : MethodName := ⟨RX9, "thrown", "()I"⟩
abbrev cX9_holds : ByteArray := prog_11_method_3_code
def yX9_holds : MethodName := ⟨RX9, "holds", "(I)Z"⟩
abbrev cX9_in : ByteArray := prog_11_method_4_code
def yX9_in : MethodName := ⟨RX9, "in", "(III)Z"⟩
abbrev cX9_isEight : ByteArray := prog_11_method_5_code
def yX9_isEight : MethodName := ⟨RX9, "isEight", "(I)Z"⟩
abbrev cX9_isVersion : ByteArray := prog_11_method_6_code
def yX9_isVersion : MethodName := ⟨RX9, "isVersion", "(II)Z"⟩
abbrev cX9_isRequest : ByteArray := prog_11_method_7_code
def yX9_isRequest : MethodName := ⟨RX9, "isRequest", "(I)Z"⟩
abbrev cX9_version : ByteArray := prog_11_method_8_code
def yX9_version : MethodName := ⟨RX9, "version", "(II)I"⟩
abbrev cX9_need : ByteArray := prog_11_method_9_code
def yX9_need : MethodName := ⟨RX9, "need", "(IIIII)I"⟩
abbrev cX9_ends : ByteArray := prog_11_method_10_code
def yX9_ends : MethodName := ⟨RX9, "ends", "(I)I"⟩
abbrev cX9_replace : ByteArray := prog_11_method_11_code
def yX9_replace : MethodName := ⟨RX9, "replace", "(II)I"⟩
abbrev cX9_empty : ByteArray := prog_11_method_12_code
def yX9_empty : MethodName := ⟨RX9, "empty", "(I)V"⟩
abbrev cX9_request : ByteArray := prog_11_method_13_code
def yX9_request : MethodName := ⟨RX9, "request", "(III)I"⟩
abbrev cX9_goes : ByteArray := prog_11_method_14_code
def yX9_goes : MethodName := ⟨RX9, "goes", "(II)Z"⟩
abbrev cX9_comes : ByteArray := prog_11_method_15_code
def yX9_comes : MethodName := ⟨RX9, "comes", "(II)I"⟩
abbrev cX9_forget : ByteArray := prog_11_method_16_code
def yX9_forget : MethodName := ⟨RX9, "forget", "(I)V"⟩
abbrev cX9_search : ByteArray := prog_11_method_17_code
def yX9_search : MethodName := ⟨RX9, "search", "(I)I"⟩
abbrev cX9_resolve : ByteArray := prog_11_method_18_code
def yX9_resolve : MethodName := ⟨RX9, "resolve", "(I)I"⟩
abbrev cX9_chosen : ByteArray := prog_11_method_19_code
def yX9_chosen : MethodName := ⟨RX9, "chosen", "(II)I"⟩
abbrev cX9_limit : ByteArray := prog_11_method_20_code
def yX9_limit : MethodName := ⟨RX9, "limit", "(II)I"⟩
abbrev cX9_leave : ByteArray := prog_11_method_21_code
def yX9_leave : MethodName := ⟨RX9, "leave", "(III)I"⟩
abbrev cX9_isAway : ByteArray := prog_11_method_22_code
def yX9_isAway : MethodName := ⟨RX9, "isAway", "(I)Z"⟩
abbrev cX9_forWhom : ByteArray := prog_11_method_23_code
def yX9_forWhom : MethodName := ⟨RX9, "forWhom", "(II)I"⟩
abbrev cX9_approve : ByteArray := prog_11_method_24_code
def yX9_approve : MethodName := ⟨RX9, "approve", "(II)I"⟩
abbrev cX9_approvals : ByteArray := prog_11_method_25_code
def yX9_approvals : MethodName := ⟨RX9, "approvals", "(I)I"⟩
abbrev cX9_covered : ByteArray := prog_11_method_26_code
def yX9_covered : MethodName := ⟨RX9, "covered", "(I)Z"⟩
abbrev cX9_release : ByteArray := prog_11_method_27_code
def yX9_release : MethodName := ⟨RX9, "release", "(I)V"⟩
abbrev cX9_pass : ByteArray := prog_11_method_28_code
def yX9_pass : MethodName := ⟨RX9, "pass", "(I)I"⟩
abbrev cX9_ofRequest : ByteArray := prog_11_method_29_code
def yX9_ofRequest : MethodName := ⟨RX9, "ofRequest", "(II)I"⟩
abbrev cX9_isCoveredAnew : ByteArray := prog_11_method_30_code
def yX9_isCoveredAnew : MethodName := ⟨RX9, "isCoveredAnew", "(I)Z"⟩
abbrev cX9_strain : ByteArray := prog_11_method_31_code
def yX9_strain : MethodName := ⟨RX9, "strain", "(I)F"⟩
abbrev cX9_entries : ByteArray := prog_11_method_32_code
def yX9_entries : MethodName := ⟨RX9, "entries", "()I"⟩
def RJ0 : String := "java/lang/String"
def TJ0 : u_T := fun k => match k with
  | _ => ("", "", "", false)
def tyJ0 : Nat → FieldType := fun k => match k with
  | _ => .int
abbrev wsJ00 : List Cond := u_ws RJ0 TJ0 0
theorem nmJ0 : ∀ a, a < 0 → ∀ b, b < 0 → a ≠ b → (TJ0 a).2.1 ≠ (TJ0 b).2.1 := by decide +kernel
theorem tyJ0_ok : ∀ k, k < 0 → parseFieldDescriptor (TJ0 k).2.2.1 = some (tyJ0 k) := by decide +kernel
def RL : String := "ApprovalyardLaw"
abbrev cL_version : ByteArray := method_3_code
def yL_version : MethodName := ⟨RL, "version", "(LApprovalyard;II[J)I"⟩
abbrev cL_need : ByteArray := method_4_code
def yL_need : MethodName := ⟨RL, "need", "(LApprovalyard;IIIII[J)I"⟩
abbrev cL_replace : ByteArray := method_5_code
def yL_replace : MethodName := ⟨RL, "replace", "(LApprovalyard;II[J)I"⟩
abbrev cL_request : ByteArray := method_6_code
def yL_request : MethodName := ⟨RL, "request", "(LApprovalyard;III[J)I"⟩
abbrev cL_resolve : ByteArray := method_7_code
def yL_resolve : MethodName := ⟨RL, "resolve", "(LApprovalyard;I[J)I"⟩
abbrev cL_chosen : ByteArray := method_8_code
def yL_chosen : MethodName := ⟨RL, "chosen", "(LApprovalyard;II[J)I"⟩
abbrev cL_limit : ByteArray := method_9_code
def yL_limit : MethodName := ⟨RL, "limit", "(LApprovalyard;II[J)I"⟩
abbrev cL_leave : ByteArray := method_10_code
def yL_leave : MethodName := ⟨RL, "leave", "(LApprovalyard;III[J)I"⟩
abbrev cL_approve : ByteArray := method_11_code
def yL_approve : MethodName := ⟨RL, "approve", "(LApprovalyard;II[J)I"⟩
abbrev cL_release : ByteArray := method_12_code
def yL_release : MethodName := ⟨RL, "release", "(LApprovalyard;I)I"⟩
abbrev cL_pass : ByteArray := method_13_code
def yL_pass : MethodName := ⟨RL, "pass", "(LApprovalyard;I[J)I"⟩
abbrev cL_ofRequest : ByteArray := method_14_code
def yL_ofRequest : MethodName := ⟨RL, "ofRequest", "(LApprovalyard;II[J)I"⟩
abbrev cL_isCoveredAnew : ByteArray := method_15_code
def yL_isCoveredAnew : MethodName := ⟨RL, "isCoveredAnew", "(LApprovalyard;I[J)I"⟩
abbrev cL_strain : ByteArray := method_16_code
def yL_strain : MethodName := ⟨RL, "strain", "(LApprovalyard;I[D)I"⟩
abbrev cL_law : ByteArray := code
def yL_law : MethodName := ⟨RL, "law", "([I)Z"⟩
def wsX6_init : List Cond := .code yX6_init cX6_init 2 none :: ([.methodLink RX6 1 objectInit, .instanceMethod objectInit, .code objectInit ⟨#[0xb1]⟩ 1 none, .arrayClass .int, .fieldLink RX6 7 "Approvalyard$Row" "cells" "[I"] ++ wsX60)
def wsX0_init : List Cond := .code yX0_init cX0_init 1 none :: ([.methodLink RX0 3 objectInit, .instanceMethod objectInit, .code objectInit ⟨#[0xb1]⟩ 1 none, .classLink RX0 9 RX6, .instantiable RX6 1, .initialized RX6, .fieldLink RX0 16 "Approvalyard$Book" "words" "LApprovalyard$Row;", .methodLink RX0 13 yX6_init, .instanceMethod yX6_init, .code yX6_init cX6_init 2 none, .methodLink RX6 1 objectInit, .arrayClass .int, .fieldLink RX6 7 "Approvalyard$Row" "cells" "[I"] ++ wsX60 ++ wsX00)
def wsX0_count : List Cond := .code yX0_count cX0_count 1 (some .int) :: ([.fieldLink RX0 20 "Approvalyard$Book" "number" "I"] ++ wsX00)
def wsX6_put : List Cond := .code yX6_put cX6_put 3 none :: ([.fieldLink RX6 7 "Approvalyard$Row" "cells" "[I"] ++ wsX60)
def wsX0_write : List Cond := .code yX0_write cX0_write 8 (some .int) :: ([.fieldLink RX0 20 "Approvalyard$Book" "number" "I", .fieldLink RX0 16 "Approvalyard$Book" "words" "LApprovalyard$Row;", .methodLink RX0 24 yX6_put, .instanceMethod yX6_put, .selects RX6 yX6_put yX6_put, .initialized RX6, .code yX6_put cX6_put 3 none, .fieldLink RX6 7 "Approvalyard$Row" "cells" "[I"] ++ wsX00 ++ wsX60)
def wsX6_at : List Cond := .code yX6_at cX6_at 2 (some .int) :: ([.fieldLink RX6 7 "Approvalyard$Row" "cells" "[I"] ++ wsX60)
def wsX0_wordOf : List Cond := .code yX0_wordOf cX0_wordOf 3 (some .int) :: ([.fieldLink RX0 16 "Approvalyard$Book" "words" "LApprovalyard$Row;", .methodLink RX0 28 yX6_at, .instanceMethod yX6_at, .selects RX6 yX6_at yX6_at, .initialized RX6, .code yX6_at cX6_at 2 (some .int), .fieldLink RX6 7 "Approvalyard$Row" "cells" "[I"] ++ wsX00 ++ wsX60)
def wsX1_versionOf : List Cond := .code yX1_versionOf cX1_versionOf 2 (some .int) :: ([])
def wsX1_with : List Cond := .code yX1_with cX1_with 3 (some .int) :: ([])
def wsX3_init : List Cond := .code yX3_init cX3_init 1 none :: ([.methodLink RX3 3 objectInit, .instanceMethod objectInit, .code objectInit ⟨#[0xb1]⟩ 1 none, .classLink RX3 9 RX6, .instantiable RX6 1, .initialized RX6, .fieldLink RX3 14 "Approvalyard$Parts" "counts" "LApprovalyard$Row;", .fieldLink RX3 20 "Approvalyard$Parts" "costs" "LApprovalyard$Row;", .fieldLink RX3 23 "Approvalyard$Parts" "replaced" "LApprovalyard$Row;", .fieldLink RX3 26 "Approvalyard$Parts" "needCounts" "LApprovalyard$Row;", .fieldLink RX3 29 "Approvalyard$Parts" "needParts" "LApprovalyard$Row;", .fieldLink RX3 32 "Approvalyard$Parts" "needVersions" "LApprovalyard$Row;", .methodLink RX3 11 yX6_init, .instanceMethod yX6_init, .code yX6_init cX6_init 2 none, .methodLink RX6 1 objectInit, .arrayClass .int, .fieldLink RX6 7 "Approvalyard$Row" "cells" "[I"] ++ wsX60 ++ wsX30)
def wsX4_init : List Cond := .code yX4_init cX4_init 1 none :: ([.methodLink RX4 3 objectInit, .instanceMethod objectInit, .code objectInit ⟨#[0xb1]⟩ 1 none, .classLink RX4 9 RX6, .instantiable RX6 1, .initialized RX6, .fieldLink RX4 14 "Approvalyard$People" "limits" "LApprovalyard$Row;", .fieldLink RX4 20 "Approvalyard$People" "delegates" "LApprovalyard$Row;", .fieldLink RX4 23 "Approvalyard$People" "backs" "LApprovalyard$Row;", .methodLink RX4 11 yX6_init, .instanceMethod yX6_init, .code yX6_init cX6_init 2 none, .methodLink RX6 1 objectInit, .arrayClass .int, .fieldLink RX6 7 "Approvalyard$Row" "cells" "[I"] ++ wsX60 ++ wsX40)
def wsX5_init : List Cond := .code yX5_init cX5_init 1 none :: ([.methodLink RX5 3 objectInit, .instanceMethod objectInit, .code objectInit ⟨#[0xb1]⟩ 1 none, .classLink RX5 9 RX6, .instantiable RX6 1, .initialized RX6, .fieldLink RX5 14 "Approvalyard$Requests" "people" "LApprovalyard$Row;", .fieldLink RX5 20 "Approvalyard$Requests" "parts" "LApprovalyard$Row;", .fieldLink RX5 23 "Approvalyard$Requests" "leasts" "LApprovalyard$Row;", .fieldLink RX5 26 "Approvalyard$Requests" "states" "LApprovalyard$Row;", .fieldLink RX5 29 "Approvalyard$Requests" "choices" "LApprovalyard$Row;", .fieldLink RX5 32 "Approvalyard$Requests" "costs" "LApprovalyard$Row;", .fieldLink RX5 35 "Approvalyard$Requests" "ends" "LApprovalyard$Row;", .methodLink RX5 11 yX6_init, .instanceMethod yX6_init, .code yX6_init cX6_init 2 none, .methodLink RX6 1 objectInit, .arrayClass .int, .fieldLink RX6 7 "Approvalyard$Row" "cells" "[I"] ++ wsX60 ++ wsX50)
def wsX6_fill : List Cond := .code yX6_fill cX6_fill 3 none :: ([.fieldLink RX6 7 "Approvalyard$Row" "cells" "[I"] ++ wsX60)
def wsX3_clear : List Cond := .code yX3_clear cX3_clear 1 none :: ([.fieldLink RX3 14 "Approvalyard$Parts" "counts" "LApprovalyard$Row;", .methodLink RX3 35 yX6_fill, .instanceMethod yX6_fill, .selects RX6 yX6_fill yX6_fill, .initialized RX6, .code yX6_fill cX6_fill 3 none, .fieldLink RX6 7 "Approvalyard$Row" "cells" "[I"] ++ wsX30 ++ wsX60)
def wsX4_clear : List Cond := .code yX4_clear cX4_clear 1 none :: ([.fieldLink RX4 14 "Approvalyard$People" "limits" "LApprovalyard$Row;", .fieldLink RX4 23 "Approvalyard$People" "backs" "LApprovalyard$Row;", .fieldLink RX4 29 "Approvalyard$People" "day" "I", .methodLink RX4 26 yX6_fill, .instanceMethod yX6_fill, .selects RX6 yX6_fill yX6_fill, .initialized RX6, .code yX6_fill cX6_fill 3 none, .fieldLink RX6 7 "Approvalyard$Row" "cells" "[I"] ++ wsX40 ++ wsX60)
def wsX5_clear : List Cond := .code yX5_clear cX5_clear 1 none :: ([.fieldLink RX5 38 "Approvalyard$Requests" "number" "I"] ++ wsX50)
def wsX2_clear_r1 : List Cond := [Cond.fieldLink RX2 12 "Approvalyard$Desk" "parts" "LApprovalyard$Parts;", Cond.fieldLink RX2 21 "Approvalyard$Desk" "people" "LApprovalyard$People;", Cond.fieldLink RX2 28 "Approvalyard$Desk" "requests" "LApprovalyard$Requests;", Cond.methodLink RX2 35 yX3_clear, Cond.instanceMethod yX3_clear, Cond.selects RX3 yX3_clear yX3_clear, Cond.initialized RX3, Cond.code yX3_clear cX3_clear 1 none, Cond.fieldLink RX3 14 "Approvalyard$Parts" "counts" "LApprovalyard$Row;", Cond.methodLink RX3 35 yX6_fill, Cond.instanceMethod yX6_fill, Cond.selects RX6 yX6_fill yX6_fill, Cond.initialized RX6, Cond.code yX6_fill cX6_fill 3 none, Cond.fieldLink RX6 7 "Approvalyard$Row" "cells" "[I", Cond.methodLink RX2 36 yX4_clear, Cond.instanceMethod yX4_clear, Cond.selects RX4 yX4_clear yX4_clear, Cond.initialized RX4, Cond.code yX4_clear cX4_clear 1 none, Cond.fieldLink RX4 14 "Approvalyard$People" "limits" "LApprovalyard$Row;", Cond.fieldLink RX4 23 "Approvalyard$People" "backs" "LApprovalyard$Row;", Cond.fieldLink RX4 29 "Approvalyard$People" "day" "I", Cond.methodLink RX4 26 yX6_fill]
def wsX2_clear_r2 : List Cond := [Cond.methodLink RX2 37 yX5_clear, Cond.instanceMethod yX5_clear, Cond.selects RX5 yX5_clear yX5_clear, Cond.initialized RX5, Cond.code yX5_clear cX5_clear 1 none, Cond.fieldLink RX5 38 "Approvalyard$Requests" "number" "I"]
def wsX2_clear : List Cond := .code yX2_clear cX2_clear 1 none :: ((wsX2_clear_r1 ++ wsX2_clear_r2) ++ wsX20 ++ wsX30 ++ wsX60 ++ wsX40 ++ wsX50)
def wsX2_init_r1 : List Cond := [Cond.methodLink RX2 3 objectInit, Cond.instanceMethod objectInit, Cond.code objectInit ⟨#[0xb1]⟩ 1 none, Cond.classLink RX2 9 RX3, Cond.instantiable RX3 6, Cond.initialized RX3, Cond.fieldLink RX2 12 "Approvalyard$Desk" "parts" "LApprovalyard$Parts;", Cond.classLink RX2 18 RX4, Cond.instantiable RX4 4, Cond.initialized RX4, Cond.fieldLink RX2 21 "Approvalyard$Desk" "people" "LApprovalyard$People;", Cond.classLink RX2 25 RX5, Cond.instantiable RX5 8, Cond.initialized RX5, Cond.fieldLink RX2 28 "Approvalyard$Desk" "requests" "LApprovalyard$Requests;", Cond.instanceMethod yX3_init, Cond.code yX3_init cX3_init 1 none, Cond.methodLink RX3 3 objectInit, Cond.classLink RX3 9 RX6, Cond.instantiable RX6 1, Cond.initialized RX6, Cond.fieldLink RX3 14 "Approvalyard$Parts" "counts" "LApprovalyard$Row;", Cond.fieldLink RX3 20 "Approvalyard$Parts" "costs" "LApprovalyard$Row;", Cond.fieldLink RX3 23 "Approvalyard$Parts" "replaced" "LApprovalyard$Row;"]
def wsX2_init_r2 : List Cond := [Cond.fieldLink RX3 26 "Approvalyard$Parts" "needCounts" "LApprovalyard$Row;", Cond.fieldLink RX3 29 "Approvalyard$Parts" "needParts" "LApprovalyard$Row;", Cond.fieldLink RX3 32 "Approvalyard$Parts" "needVersions" "LApprovalyard$Row;", Cond.methodLink RX3 11 yX6_init, Cond.instanceMethod yX6_init, Cond.code yX6_init cX6_init 2 none, Cond.methodLink RX6 1 objectInit, Cond.arrayClass .int, Cond.fieldLink RX6 7 "Approvalyard$Row" "cells" "[I", Cond.instanceMethod yX4_init, Cond.code yX4_init cX4_init 1 none, Cond.methodLink RX4 3 objectInit, Cond.classLink RX4 9 RX6, Cond.fieldLink RX4 14 "Approvalyard$People" "limits" "LApprovalyard$Row;", Cond.fieldLink RX4 20 "Approvalyard$People" "delegates" "LApprovalyard$Row;", Cond.fieldLink RX4 23 "Approvalyard$People" "backs" "LApprovalyard$Row;", Cond.methodLink RX4 11 yX6_init, Cond.instanceMethod yX5_init, Cond.code yX5_init cX5_init 1 none, Cond.methodLink RX5 3 objectInit, Cond.classLink RX5 9 RX6, Cond.fieldLink RX5 14 "Approvalyard$Requests" "people" "LApprovalyard$Row;", Cond.fieldLink RX5 20 "Approvalyard$Requests" "parts" "LApprovalyard$Row;", Cond.fieldLink RX5 23 "Approvalyard$Requests" "leasts" "LApprovalyard$Row;"]
def wsX2_init_r3 : List Cond := [Cond.fieldLink RX5 26 "Approvalyard$Requests" "states" "LApprovalyard$Row;", Cond.fieldLink RX5 29 "Approvalyard$Requests" "choices" "LApprovalyard$Row;", Cond.fieldLink RX5 32 "Approvalyard$Requests" "costs" "LApprovalyard$Row;", Cond.fieldLink RX5 35 "Approvalyard$Requests" "ends" "LApprovalyard$Row;", Cond.methodLink RX5 11 yX6_init, Cond.methodLink RX2 32 yX2_clear, Cond.instanceMethod yX2_clear, Cond.selects RX2 yX2_clear yX2_clear, Cond.initialized RX2, Cond.code yX2_clear cX2_clear 1 none, Cond.methodLink RX2 35 yX3_clear, Cond.instanceMethod yX3_clear, Cond.selects RX3 yX3_clear yX3_clear, Cond.code yX3_clear cX3_clear 1 none, Cond.methodLink RX3 35 yX6_fill, Cond.instanceMethod yX6_fill, Cond.selects RX6 yX6_fill yX6_fill, Cond.code yX6_fill cX6_fill 3 none, Cond.methodLink RX2 36 yX4_clear, Cond.instanceMethod yX4_clear, Cond.selects RX4 yX4_clear yX4_clear, Cond.code yX4_clear cX4_clear 1 none, Cond.fieldLink RX4 29 "Approvalyard$People" "day" "I", Cond.methodLink RX4 26 yX6_fill]
def wsX2_init_r4 : List Cond := [Cond.methodLink RX2 37 yX5_clear, Cond.instanceMethod yX5_clear, Cond.selects RX5 yX5_clear yX5_clear, Cond.code yX5_clear cX5_clear 1 none, Cond.fieldLink RX5 38 "Approvalyard$Requests" "number" "I"]
def wsX2_init : List Cond := .code yX2_init cX2_init 1 none :: ((wsX2_init_r1 ++ (wsX2_init_r2 ++ (wsX2_init_r3 ++ wsX2_init_r4))) ++ wsX30 ++ wsX20 ++ wsX40 ++ wsX50 ++ wsX60)
def wsX3_placeOf : List Cond := .code yX3_placeOf cX3_placeOf 2 (some .int) :: ([])
def wsX3_addVersion : List Cond := .code yX3_addVersion cX3_addVersion 5 (some .int) :: ([.fieldLink RX3 14 "Approvalyard$Parts" "counts" "LApprovalyard$Row;", .fieldLink RX3 20 "Approvalyard$Parts" "costs" "LApprovalyard$Row;", .fieldLink RX3 23 "Approvalyard$Parts" "replaced" "LApprovalyard$Row;", .fieldLink RX3 26 "Approvalyard$Parts" "needCounts" "LApprovalyard$Row;", .methodLink RX3 38 yX6_at, .instanceMethod yX6_at, .selects RX6 yX6_at yX6_at, .initialized RX6, .code yX6_at cX6_at 2 (some .int), .fieldLink RX6 7 "Approvalyard$Row" "cells" "[I", .methodLink RX3 42 yX3_placeOf, .static yX3_placeOf, .initialized RX3, .code yX3_placeOf cX3_placeOf 2 (some .int), .methodLink RX3 46 yX6_put, .instanceMethod yX6_put, .selects RX6 yX6_put yX6_put, .code yX6_put cX6_put 3 none] ++ wsX30 ++ wsX60)
def wsX3_versionSet : List Cond := .code yX3_versionSet cX3_versionSet 2 (some .int) :: ([])
def wsX3_addNeed : List Cond := .code yX3_addNeed cX3_addNeed 8 (some .int) :: ([.fieldLink RX3 26 "Approvalyard$Parts" "needCounts" "LApprovalyard$Row;", .fieldLink RX3 29 "Approvalyard$Parts" "needParts" "LApprovalyard$Row;", .fieldLink RX3 32 "Approvalyard$Parts" "needVersions" "LApprovalyard$Row;", .methodLink RX3 42 yX3_placeOf, .static yX3_placeOf, .initialized RX3, .code yX3_placeOf cX3_placeOf 2 (some .int), .methodLink RX3 38 yX6_at, .instanceMethod yX6_at, .selects RX6 yX6_at yX6_at, .initialized RX6, .code yX6_at cX6_at 2 (some .int), .fieldLink RX6 7 "Approvalyard$Row" "cells" "[I", .methodLink RX3 46 yX6_put, .instanceMethod yX6_put, .selects RX6 yX6_put yX6_put, .code yX6_put cX6_put 3 none, .methodLink RX3 50 yX3_versionSet, .static yX3_versionSet, .code yX3_versionSet cX3_versionSet 2 (some .int)] ++ wsX30 ++ wsX60)
def wsX3_markReplaced : List Cond := .code yX3_markReplaced cX3_markReplaced 3 none :: ([.fieldLink RX3 23 "Approvalyard$Parts" "replaced" "LApprovalyard$Row;", .methodLink RX3 42 yX3_placeOf, .static yX3_placeOf, .initialized RX3, .code yX3_placeOf cX3_placeOf 2 (some .int), .methodLink RX3 46 yX6_put, .instanceMethod yX6_put, .selects RX6 yX6_put yX6_put, .initialized RX6, .code yX6_put cX6_put 3 none, .fieldLink RX6 7 "Approvalyard$Row" "cells" "[I"] ++ wsX30 ++ wsX60)
def wsX4_today : List Cond := .code yX4_today cX4_today 1 (some .int) :: ([.fieldLink RX4 29 "Approvalyard$People" "day" "I"] ++ wsX40)
def wsX5_hasApproval : List Cond := .code yX5_hasApproval cX5_hasApproval 4 (some .boolean) :: ([.fieldLink RX5 35 "Approvalyard$Requests" "ends" "LApprovalyard$Row;", .methodLink RX5 52 yX6_at, .instanceMethod yX6_at, .selects RX6 yX6_at yX6_at, .initialized RX6, .code yX6_at cX6_at 2 (some .int), .fieldLink RX6 7 "Approvalyard$Row" "cells" "[I"] ++ wsX50 ++ wsX60)
def wsX5_approvalsOf : List Cond := .code yX5_approvalsOf cX5_approvalsOf 5 (some .int) :: ([.methodLink RX5 56 yX5_hasApproval, .instanceMethod yX5_hasApproval, .selects RX5 yX5_hasApproval yX5_hasApproval, .initialized RX5, .code yX5_hasApproval cX5_hasApproval 4 (some .boolean), .fieldLink RX5 35 "Approvalyard$Requests" "ends" "LApprovalyard$Row;", .methodLink RX5 52 yX6_at, .instanceMethod yX6_at, .selects RX6 yX6_at yX6_at, .initialized RX6, .code yX6_at cX6_at 2 (some .int), .fieldLink RX6 7 "Approvalyard$Row" "cells" "[I"] ++ wsX50 ++ wsX60)
def wsX5_endApprovals : List Cond := .code yX5_endApprovals cX5_endApprovals 3 none :: ([.fieldLink RX5 35 "Approvalyard$Requests" "ends" "LApprovalyard$Row;", .methodLink RX5 42 yX6_put, .instanceMethod yX6_put, .selects RX6 yX6_put yX6_put, .initialized RX6, .code yX6_put cX6_put 3 none, .fieldLink RX6 7 "Approvalyard$Row" "cells" "[I"] ++ wsX50 ++ wsX60)
def wsX5_reopen : List Cond := .code yX5_reopen cX5_reopen 2 none :: ([.fieldLink RX5 26 "Approvalyard$Requests" "states" "LApprovalyard$Row;", .fieldLink RX5 29 "Approvalyard$Requests" "choices" "LApprovalyard$Row;", .fieldLink RX5 32 "Approvalyard$Requests" "costs" "LApprovalyard$Row;", .methodLink RX5 42 yX6_put, .instanceMethod yX6_put, .selects RX6 yX6_put yX6_put, .initialized RX6, .code yX6_put cX6_put 3 none, .fieldLink RX6 7 "Approvalyard$Row" "cells" "[I"] ++ wsX50 ++ wsX60)
def wsX5_loseVersion_r1 : List Cond := [Cond.fieldLink RX5 38 "Approvalyard$Requests" "number" "I", Cond.fieldLink RX5 29 "Approvalyard$Requests" "choices" "LApprovalyard$Row;", Cond.fieldLink RX5 26 "Approvalyard$Requests" "states" "LApprovalyard$Row;", Cond.methodLink RX5 52 yX6_at, Cond.instanceMethod yX6_at, Cond.selects RX6 yX6_at yX6_at, Cond.initialized RX6, Cond.code yX6_at cX6_at 2 (some .int), Cond.fieldLink RX6 7 "Approvalyard$Row" "cells" "[I", Cond.methodLink RX5 60 yX1_versionOf, Cond.static yX1_versionOf, Cond.initialized RX1, Cond.code yX1_versionOf cX1_versionOf 2 (some .int), Cond.methodLink RX5 66 yX5_approvalsOf, Cond.instanceMethod yX5_approvalsOf, Cond.selects RX5 yX5_approvalsOf yX5_approvalsOf, Cond.initialized RX5, Cond.code yX5_approvalsOf cX5_approvalsOf 5 (some .int), Cond.methodLink RX5 56 yX5_hasApproval, Cond.instanceMethod yX5_hasApproval, Cond.selects RX5 yX5_hasApproval yX5_hasApproval, Cond.code yX5_hasApproval cX5_hasApproval 4 (some .boolean), Cond.fieldLink RX5 35 "Approvalyard$Requests" "ends" "LApprovalyard$Row;", Cond.methodLink RX5 49 yX5_endApprovals]
def wsX5_loseVersion_r2 : List Cond := [Cond.instanceMethod yX5_endApprovals, Cond.selects RX5 yX5_endApprovals yX5_endApprovals, Cond.code yX5_endApprovals cX5_endApprovals 3 none, Cond.methodLink RX5 42 yX6_put, Cond.instanceMethod yX6_put, Cond.selects RX6 yX6_put yX6_put, Cond.code yX6_put cX6_put 3 none, Cond.methodLink RX5 46 yX5_reopen, Cond.instanceMethod yX5_reopen, Cond.selects RX5 yX5_reopen yX5_reopen, Cond.code yX5_reopen cX5_reopen 2 none, Cond.fieldLink RX5 32 "Approvalyard$Requests" "costs" "LApprovalyard$Row;"]
def wsX5_loseVersion : List Cond := .code yX5_loseVersion cX5_loseVersion 6 (some .int) :: ((wsX5_loseVersion_r1 ++ wsX5_loseVersion_r2) ++ wsX50 ++ wsX60)
def wsX5_add : List Cond := .code yX5_add cX5_add 5 (some .int) :: ([.fieldLink RX5 38 "Approvalyard$Requests" "number" "I", .fieldLink RX5 14 "Approvalyard$Requests" "people" "LApprovalyard$Row;", .fieldLink RX5 20 "Approvalyard$Requests" "parts" "LApprovalyard$Row;", .fieldLink RX5 23 "Approvalyard$Requests" "leasts" "LApprovalyard$Row;", .methodLink RX5 42 yX6_put, .instanceMethod yX6_put, .selects RX6 yX6_put yX6_put, .initialized RX6, .code yX6_put cX6_put 3 none, .fieldLink RX6 7 "Approvalyard$Row" "cells" "[I", .methodLink RX5 46 yX5_reopen, .instanceMethod yX5_reopen, .selects RX5 yX5_reopen yX5_reopen, .initialized RX5, .code yX5_reopen cX5_reopen 2 none, .fieldLink RX5 26 "Approvalyard$Requests" "states" "LApprovalyard$Row;", .fieldLink RX5 29 "Approvalyard$Requests" "choices" "LApprovalyard$Row;", .fieldLink RX5 32 "Approvalyard$Requests" "costs" "LApprovalyard$Row;", .methodLink RX5 49 yX5_endApprovals, .instanceMethod yX5_endApprovals, .selects RX5 yX5_endApprovals yX5_endApprovals, .code yX5_endApprovals cX5_endApprovals 3 none, .fieldLink RX5 35 "Approvalyard$Requests" "ends" "LApprovalyard$Row;"] ++ wsX50 ++ wsX60)
def wsX3_costOf : List Cond := .code yX3_costOf cX3_costOf 5 (some .int) :: ([.fieldLink RX3 20 "Approvalyard$Parts" "costs" "LApprovalyard$Row;", .methodLink RX3 57 yX1_versionOf, .static yX1_versionOf, .initialized RX1, .code yX1_versionOf cX1_versionOf 2 (some .int), .methodLink RX3 42 yX3_placeOf, .static yX3_placeOf, .initialized RX3, .code yX3_placeOf cX3_placeOf 2 (some .int), .methodLink RX3 38 yX6_at, .instanceMethod yX6_at, .selects RX6 yX6_at yX6_at, .initialized RX6, .code yX6_at cX6_at 2 (some .int), .fieldLink RX6 7 "Approvalyard$Row" "cells" "[I"] ++ wsX30 ++ wsX60)
def wsX5_settle : List Cond := .code yX5_settle cX5_settle 4 (some .int) :: ([.fieldLink RX5 26 "Approvalyard$Requests" "states" "LApprovalyard$Row;", .fieldLink RX5 29 "Approvalyard$Requests" "choices" "LApprovalyard$Row;", .fieldLink RX5 32 "Approvalyard$Requests" "costs" "LApprovalyard$Row;", .methodLink RX5 42 yX6_put, .instanceMethod yX6_put, .selects RX6 yX6_put yX6_put, .initialized RX6, .code yX6_put cX6_put 3 none, .fieldLink RX6 7 "Approvalyard$Row" "cells" "[I", .methodLink RX5 49 yX5_endApprovals, .instanceMethod yX5_endApprovals, .selects RX5 yX5_endApprovals yX5_endApprovals, .initialized RX5, .code yX5_endApprovals cX5_endApprovals 3 none, .fieldLink RX5 35 "Approvalyard$Requests" "ends" "LApprovalyard$Row;"] ++ wsX50 ++ wsX60)
def wsX4_changeLimit : List Cond := .code yX4_changeLimit cX4_changeLimit 4 (some .int) :: ([.fieldLink RX4 14 "Approvalyard$People" "limits" "LApprovalyard$Row;", .methodLink RX4 33 yX6_at, .instanceMethod yX6_at, .selects RX6 yX6_at yX6_at, .initialized RX6, .code yX6_at cX6_at 2 (some .int), .fieldLink RX6 7 "Approvalyard$Row" "cells" "[I", .methodLink RX4 37 yX6_put, .instanceMethod yX6_put, .selects RX6 yX6_put yX6_put, .code yX6_put cX6_put 3 none] ++ wsX40 ++ wsX60)
def wsX4_sendOnLeave : List Cond := .code yX4_sendOnLeave cX4_sendOnLeave 4 (some .int) :: ([.fieldLink RX4 20 "Approvalyard$People" "delegates" "LApprovalyard$Row;", .fieldLink RX4 23 "Approvalyard$People" "backs" "LApprovalyard$Row;", .fieldLink RX4 29 "Approvalyard$People" "day" "I", .methodLink RX4 37 yX6_put, .instanceMethod yX6_put, .selects RX6 yX6_put yX6_put, .initialized RX6, .code yX6_put cX6_put 3 none, .fieldLink RX6 7 "Approvalyard$Row" "cells" "[I", .methodLink RX4 33 yX6_at, .instanceMethod yX6_at, .selects RX6 yX6_at yX6_at, .code yX6_at cX6_at 2 (some .int)] ++ wsX40 ++ wsX60)
def wsX5_costOf : List Cond := .code yX5_costOf cX5_costOf 2 (some .int) :: ([.fieldLink RX5 32 "Approvalyard$Requests" "costs" "LApprovalyard$Row;", .methodLink RX5 52 yX6_at, .instanceMethod yX6_at, .selects RX6 yX6_at yX6_at, .initialized RX6, .code yX6_at cX6_at 2 (some .int), .fieldLink RX6 7 "Approvalyard$Row" "cells" "[I"] ++ wsX50 ++ wsX60)
def wsX4_isAway : List Cond := .code yX4_isAway cX4_isAway 2 (some .boolean) :: ([.fieldLink RX4 29 "Approvalyard$People" "day" "I", .fieldLink RX4 23 "Approvalyard$People" "backs" "LApprovalyard$Row;", .methodLink RX4 33 yX6_at, .instanceMethod yX6_at, .selects RX6 yX6_at yX6_at, .initialized RX6, .code yX6_at cX6_at 2 (some .int), .fieldLink RX6 7 "Approvalyard$Row" "cells" "[I"] ++ wsX40 ++ wsX60)
def wsX4_principalOf : List Cond := .code yX4_principalOf cX4_principalOf 4 (some .int) :: ([.fieldLink RX4 14 "Approvalyard$People" "limits" "LApprovalyard$Row;", .fieldLink RX4 20 "Approvalyard$People" "delegates" "LApprovalyard$Row;", .methodLink RX4 41 yX4_isAway, .instanceMethod yX4_isAway, .selects RX4 yX4_isAway yX4_isAway, .initialized RX4, .code yX4_isAway cX4_isAway 2 (some .boolean), .fieldLink RX4 29 "Approvalyard$People" "day" "I", .fieldLink RX4 23 "Approvalyard$People" "backs" "LApprovalyard$Row;", .methodLink RX4 33 yX6_at, .instanceMethod yX6_at, .selects RX6 yX6_at yX6_at, .initialized RX6, .code yX6_at cX6_at 2 (some .int), .fieldLink RX6 7 "Approvalyard$Row" "cells" "[I"] ++ wsX40 ++ wsX60)
def wsX4_backOf : List Cond := .code yX4_backOf cX4_backOf 2 (some .int) :: ([.fieldLink RX4 23 "Approvalyard$People" "backs" "LApprovalyard$Row;", .methodLink RX4 33 yX6_at, .instanceMethod yX6_at, .selects RX6 yX6_at yX6_at, .initialized RX6, .code yX6_at cX6_at 2 (some .int), .fieldLink RX6 7 "Approvalyard$Row" "cells" "[I"] ++ wsX40 ++ wsX60)
def wsX5_addApproval : List Cond := .code yX5_addApproval cX5_addApproval 4 none :: ([.fieldLink RX5 35 "Approvalyard$Requests" "ends" "LApprovalyard$Row;", .methodLink RX5 42 yX6_put, .instanceMethod yX6_put, .selects RX6 yX6_put yX6_put, .initialized RX6, .code yX6_put cX6_put 3 none, .fieldLink RX6 7 "Approvalyard$Row" "cells" "[I"] ++ wsX50 ++ wsX60)
def wsX2_takeApproval_r1 : List Cond := [Cond.fieldLink RX2 21 "Approvalyard$Desk" "people" "LApprovalyard$People;", Cond.fieldLink RX2 28 "Approvalyard$Desk" "requests" "LApprovalyard$Requests;", Cond.constant RX2 107 (2147483647), Cond.methodLink RX2 98 yX5_costOf, Cond.instanceMethod yX5_costOf, Cond.selects RX5 yX5_costOf yX5_costOf, Cond.initialized RX5, Cond.code yX5_costOf cX5_costOf 2 (some .int), Cond.fieldLink RX5 32 "Approvalyard$Requests" "costs" "LApprovalyard$Row;", Cond.methodLink RX5 52 yX6_at, Cond.instanceMethod yX6_at, Cond.selects RX6 yX6_at yX6_at, Cond.initialized RX6, Cond.code yX6_at cX6_at 2 (some .int), Cond.fieldLink RX6 7 "Approvalyard$Row" "cells" "[I", Cond.methodLink RX2 99 yX4_principalOf, Cond.instanceMethod yX4_principalOf, Cond.selects RX4 yX4_principalOf yX4_principalOf, Cond.initialized RX4, Cond.code yX4_principalOf cX4_principalOf 4 (some .int), Cond.fieldLink RX4 14 "Approvalyard$People" "limits" "LApprovalyard$Row;", Cond.fieldLink RX4 20 "Approvalyard$People" "delegates" "LApprovalyard$Row;", Cond.methodLink RX4 41 yX4_isAway, Cond.instanceMethod yX4_isAway]
def wsX2_takeApproval_r2 : List Cond := [Cond.selects RX4 yX4_isAway yX4_isAway, Cond.code yX4_isAway cX4_isAway 2 (some .boolean), Cond.fieldLink RX4 29 "Approvalyard$People" "day" "I", Cond.fieldLink RX4 23 "Approvalyard$People" "backs" "LApprovalyard$Row;", Cond.methodLink RX4 33 yX6_at, Cond.methodLink RX2 108 yX4_backOf, Cond.instanceMethod yX4_backOf, Cond.selects RX4 yX4_backOf yX4_backOf, Cond.code yX4_backOf cX4_backOf 2 (some .int), Cond.methodLink RX2 111 yX5_addApproval, Cond.instanceMethod yX5_addApproval, Cond.selects RX5 yX5_addApproval yX5_addApproval, Cond.code yX5_addApproval cX5_addApproval 4 none, Cond.fieldLink RX5 35 "Approvalyard$Requests" "ends" "LApprovalyard$Row;", Cond.methodLink RX5 42 yX6_put, Cond.instanceMethod yX6_put, Cond.selects RX6 yX6_put yX6_put, Cond.code yX6_put cX6_put 3 none]
def wsX2_takeApproval : List Cond := .code yX2_takeApproval cX2_takeApproval 5 (some .int) :: ((wsX2_takeApproval_r1 ++ wsX2_takeApproval_r2) ++ wsX20 ++ wsX50 ++ wsX60 ++ wsX40)
def wsX5_markReleased : List Cond := .code yX5_markReleased cX5_markReleased 2 (some .int) :: ([.fieldLink RX5 26 "Approvalyard$Requests" "states" "LApprovalyard$Row;", .methodLink RX5 42 yX6_put, .instanceMethod yX6_put, .selects RX6 yX6_put yX6_put, .initialized RX6, .code yX6_put cX6_put 3 none, .fieldLink RX6 7 "Approvalyard$Row" "cells" "[I"] ++ wsX50 ++ wsX60)
def wsX4_addDays : List Cond := .code yX4_addDays cX4_addDays 2 (some .int) :: ([.fieldLink RX4 29 "Approvalyard$People" "day" "I"] ++ wsX40)
def wsX2_apply_r1 : List Cond := [Cond.fieldLink RX2 12 "Approvalyard$Desk" "parts" "LApprovalyard$Parts;", Cond.fieldLink RX2 28 "Approvalyard$Desk" "requests" "LApprovalyard$Requests;", Cond.fieldLink RX2 21 "Approvalyard$Desk" "people" "LApprovalyard$People;", Cond.methodLink RX2 38 yX0_wordOf, Cond.instanceMethod yX0_wordOf, Cond.selects RX0 yX0_wordOf yX0_wordOf, Cond.initialized RX0, Cond.code yX0_wordOf cX0_wordOf 3 (some .int), Cond.fieldLink RX0 16 "Approvalyard$Book" "words" "LApprovalyard$Row;", Cond.methodLink RX0 28 yX6_at, Cond.instanceMethod yX6_at, Cond.selects RX6 yX6_at yX6_at, Cond.initialized RX6, Cond.code yX6_at cX6_at 2 (some .int), Cond.fieldLink RX6 7 "Approvalyard$Row" "cells" "[I", Cond.methodLink RX2 44 yX3_addVersion, Cond.instanceMethod yX3_addVersion, Cond.selects RX3 yX3_addVersion yX3_addVersion, Cond.initialized RX3, Cond.code yX3_addVersion cX3_addVersion 5 (some .int), Cond.fieldLink RX3 14 "Approvalyard$Parts" "counts" "LApprovalyard$Row;", Cond.fieldLink RX3 20 "Approvalyard$Parts" "costs" "LApprovalyard$Row;", Cond.fieldLink RX3 23 "Approvalyard$Parts" "replaced" "LApprovalyard$Row;", Cond.fieldLink RX3 26 "Approvalyard$Parts" "needCounts" "LApprovalyard$Row;"]
def wsX2_apply_r2 : List Cond := [Cond.methodLink RX3 38 yX6_at, Cond.methodLink RX3 42 yX3_placeOf, Cond.static yX3_placeOf, Cond.code yX3_placeOf cX3_placeOf 2 (some .int), Cond.methodLink RX3 46 yX6_put, Cond.instanceMethod yX6_put, Cond.selects RX6 yX6_put yX6_put, Cond.code yX6_put cX6_put 3 none, Cond.methodLink RX2 47 yX3_addNeed, Cond.instanceMethod yX3_addNeed, Cond.selects RX3 yX3_addNeed yX3_addNeed, Cond.code yX3_addNeed cX3_addNeed 8 (some .int), Cond.fieldLink RX3 29 "Approvalyard$Parts" "needParts" "LApprovalyard$Row;", Cond.fieldLink RX3 32 "Approvalyard$Parts" "needVersions" "LApprovalyard$Row;", Cond.methodLink RX3 50 yX3_versionSet, Cond.static yX3_versionSet, Cond.code yX3_versionSet cX3_versionSet 2 (some .int), Cond.methodLink RX2 51 yX3_markReplaced, Cond.instanceMethod yX3_markReplaced, Cond.selects RX3 yX3_markReplaced yX3_markReplaced, Cond.code yX3_markReplaced cX3_markReplaced 3 none, Cond.methodLink RX2 55 yX4_today, Cond.instanceMethod yX4_today, Cond.selects RX4 yX4_today yX4_today]
def wsX2_apply_r3 : List Cond := [Cond.initialized RX4, Cond.code yX4_today cX4_today 1 (some .int), Cond.fieldLink RX4 29 "Approvalyard$People" "day" "I", Cond.methodLink RX2 59 yX5_loseVersion, Cond.instanceMethod yX5_loseVersion, Cond.selects RX5 yX5_loseVersion yX5_loseVersion, Cond.initialized RX5, Cond.code yX5_loseVersion cX5_loseVersion 6 (some .int), Cond.fieldLink RX5 38 "Approvalyard$Requests" "number" "I", Cond.fieldLink RX5 29 "Approvalyard$Requests" "choices" "LApprovalyard$Row;", Cond.fieldLink RX5 26 "Approvalyard$Requests" "states" "LApprovalyard$Row;", Cond.methodLink RX5 52 yX6_at, Cond.methodLink RX5 60 yX1_versionOf, Cond.static yX1_versionOf, Cond.initialized RX1, Cond.code yX1_versionOf cX1_versionOf 2 (some .int), Cond.methodLink RX5 66 yX5_approvalsOf, Cond.instanceMethod yX5_approvalsOf, Cond.selects RX5 yX5_approvalsOf yX5_approvalsOf, Cond.code yX5_approvalsOf cX5_approvalsOf 5 (some .int), Cond.methodLink RX5 56 yX5_hasApproval, Cond.instanceMethod yX5_hasApproval, Cond.selects RX5 yX5_hasApproval yX5_hasApproval, Cond.code yX5_hasApproval cX5_hasApproval 4 (some .boolean)]
def wsX2_apply_r4 : List Cond := [Cond.fieldLink RX5 35 "Approvalyard$Requests" "ends" "LApprovalyard$Row;", Cond.methodLink RX5 49 yX5_endApprovals, Cond.instanceMethod yX5_endApprovals, Cond.selects RX5 yX5_endApprovals yX5_endApprovals, Cond.code yX5_endApprovals cX5_endApprovals 3 none, Cond.methodLink RX5 42 yX6_put, Cond.methodLink RX5 46 yX5_reopen, Cond.instanceMethod yX5_reopen, Cond.selects RX5 yX5_reopen yX5_reopen, Cond.code yX5_reopen cX5_reopen 2 none, Cond.fieldLink RX5 32 "Approvalyard$Requests" "costs" "LApprovalyard$Row;", Cond.methodLink RX2 63 yX5_add, Cond.instanceMethod yX5_add, Cond.selects RX5 yX5_add yX5_add, Cond.code yX5_add cX5_add 5 (some .int), Cond.fieldLink RX5 14 "Approvalyard$Requests" "people" "LApprovalyard$Row;", Cond.fieldLink RX5 20 "Approvalyard$Requests" "parts" "LApprovalyard$Row;", Cond.fieldLink RX5 23 "Approvalyard$Requests" "leasts" "LApprovalyard$Row;", Cond.methodLink RX2 66 yX3_costOf, Cond.instanceMethod yX3_costOf, Cond.selects RX3 yX3_costOf yX3_costOf, Cond.code yX3_costOf cX3_costOf 5 (some .int), Cond.methodLink RX3 57 yX1_versionOf, Cond.methodLink RX2 70 yX5_settle]
def wsX2_apply_r5 : List Cond := [Cond.instanceMethod yX5_settle, Cond.selects RX5 yX5_settle yX5_settle, Cond.code yX5_settle cX5_settle 4 (some .int), Cond.methodLink RX2 73 yX4_changeLimit, Cond.instanceMethod yX4_changeLimit, Cond.selects RX4 yX4_changeLimit yX4_changeLimit, Cond.code yX4_changeLimit cX4_changeLimit 4 (some .int), Cond.fieldLink RX4 14 "Approvalyard$People" "limits" "LApprovalyard$Row;", Cond.methodLink RX4 33 yX6_at, Cond.methodLink RX4 37 yX6_put, Cond.methodLink RX2 76 yX4_sendOnLeave, Cond.instanceMethod yX4_sendOnLeave, Cond.selects RX4 yX4_sendOnLeave yX4_sendOnLeave, Cond.code yX4_sendOnLeave cX4_sendOnLeave 4 (some .int), Cond.fieldLink RX4 20 "Approvalyard$People" "delegates" "LApprovalyard$Row;", Cond.fieldLink RX4 23 "Approvalyard$People" "backs" "LApprovalyard$Row;", Cond.methodLink RX2 79 yX2_takeApproval, Cond.instanceMethod yX2_takeApproval, Cond.selects RX2 yX2_takeApproval yX2_takeApproval, Cond.initialized RX2, Cond.code yX2_takeApproval cX2_takeApproval 5 (some .int), Cond.constant RX2 107 (2147483647), Cond.methodLink RX2 98 yX5_costOf, Cond.instanceMethod yX5_costOf]
def wsX2_apply_r6 : List Cond := [Cond.selects RX5 yX5_costOf yX5_costOf, Cond.code yX5_costOf cX5_costOf 2 (some .int), Cond.methodLink RX2 99 yX4_principalOf, Cond.instanceMethod yX4_principalOf, Cond.selects RX4 yX4_principalOf yX4_principalOf, Cond.code yX4_principalOf cX4_principalOf 4 (some .int), Cond.methodLink RX4 41 yX4_isAway, Cond.instanceMethod yX4_isAway, Cond.selects RX4 yX4_isAway yX4_isAway, Cond.code yX4_isAway cX4_isAway 2 (some .boolean), Cond.methodLink RX2 108 yX4_backOf, Cond.instanceMethod yX4_backOf, Cond.selects RX4 yX4_backOf yX4_backOf, Cond.code yX4_backOf cX4_backOf 2 (some .int), Cond.methodLink RX2 111 yX5_addApproval, Cond.instanceMethod yX5_addApproval, Cond.selects RX5 yX5_addApproval yX5_addApproval, Cond.code yX5_addApproval cX5_addApproval 4 none, Cond.methodLink RX2 82 yX5_markReleased, Cond.instanceMethod yX5_markReleased, Cond.selects RX5 yX5_markReleased yX5_markReleased, Cond.code yX5_markReleased cX5_markReleased 2 (some .int), Cond.methodLink RX2 85 yX4_addDays, Cond.instanceMethod yX4_addDays]
def wsX2_apply_r7 : List Cond := [Cond.selects RX4 yX4_addDays yX4_addDays, Cond.code yX4_addDays cX4_addDays 2 (some .int)]
def wsX2_apply : List Cond := .code yX2_apply cX2_apply 6 (some .int) :: ((wsX2_apply_r1 ++ (wsX2_apply_r2 ++ (wsX2_apply_r3 ++ (wsX2_apply_r4 ++ (wsX2_apply_r5 ++ (wsX2_apply_r6 ++ wsX2_apply_r7)))))) ++ wsX20 ++ wsX00 ++ wsX60 ++ wsX30 ++ wsX40 ++ wsX50)
def wsX5_stateOf : List Cond := .code yX5_stateOf cX5_stateOf 2 (some .int) :: ([.fieldLink RX5 26 "Approvalyard$Requests" "states" "LApprovalyard$Row;", .methodLink RX5 52 yX6_at, .instanceMethod yX6_at, .selects RX6 yX6_at yX6_at, .initialized RX6, .code yX6_at cX6_at 2 (some .int), .fieldLink RX6 7 "Approvalyard$Row" "cells" "[I"] ++ wsX50 ++ wsX60)
def wsX5_personOf : List Cond := .code yX5_personOf cX5_personOf 2 (some .int) :: ([.fieldLink RX5 14 "Approvalyard$Requests" "people" "LApprovalyard$Row;", .methodLink RX5 52 yX6_at, .instanceMethod yX6_at, .selects RX6 yX6_at yX6_at, .initialized RX6, .code yX6_at cX6_at 2 (some .int), .fieldLink RX6 7 "Approvalyard$Row" "cells" "[I"] ++ wsX50 ++ wsX60)
def wsX2_principalFor_r1 : List Cond := [Cond.fieldLink RX2 28 "Approvalyard$Desk" "requests" "LApprovalyard$Requests;", Cond.fieldLink RX2 21 "Approvalyard$Desk" "people" "LApprovalyard$People;", Cond.methodLink RX2 88 yX5_stateOf, Cond.instanceMethod yX5_stateOf, Cond.selects RX5 yX5_stateOf yX5_stateOf, Cond.initialized RX5, Cond.code yX5_stateOf cX5_stateOf 2 (some .int), Cond.fieldLink RX5 26 "Approvalyard$Requests" "states" "LApprovalyard$Row;", Cond.methodLink RX5 52 yX6_at, Cond.instanceMethod yX6_at, Cond.selects RX6 yX6_at yX6_at, Cond.initialized RX6, Cond.code yX6_at cX6_at 2 (some .int), Cond.fieldLink RX6 7 "Approvalyard$Row" "cells" "[I", Cond.methodLink RX2 91 yX5_personOf, Cond.instanceMethod yX5_personOf, Cond.selects RX5 yX5_personOf yX5_personOf, Cond.code yX5_personOf cX5_personOf 2 (some .int), Cond.fieldLink RX5 14 "Approvalyard$Requests" "people" "LApprovalyard$Row;", Cond.methodLink RX2 55 yX4_today, Cond.instanceMethod yX4_today, Cond.selects RX4 yX4_today yX4_today, Cond.initialized RX4, Cond.code yX4_today cX4_today 1 (some .int)]
def wsX2_principalFor_r2 : List Cond := [Cond.fieldLink RX4 29 "Approvalyard$People" "day" "I", Cond.methodLink RX2 94 yX5_hasApproval, Cond.instanceMethod yX5_hasApproval, Cond.selects RX5 yX5_hasApproval yX5_hasApproval, Cond.code yX5_hasApproval cX5_hasApproval 4 (some .boolean), Cond.fieldLink RX5 35 "Approvalyard$Requests" "ends" "LApprovalyard$Row;", Cond.methodLink RX2 98 yX5_costOf, Cond.instanceMethod yX5_costOf, Cond.selects RX5 yX5_costOf yX5_costOf, Cond.code yX5_costOf cX5_costOf 2 (some .int), Cond.fieldLink RX5 32 "Approvalyard$Requests" "costs" "LApprovalyard$Row;", Cond.methodLink RX2 99 yX4_principalOf, Cond.instanceMethod yX4_principalOf, Cond.selects RX4 yX4_principalOf yX4_principalOf, Cond.code yX4_principalOf cX4_principalOf 4 (some .int), Cond.fieldLink RX4 14 "Approvalyard$People" "limits" "LApprovalyard$Row;", Cond.fieldLink RX4 20 "Approvalyard$People" "delegates" "LApprovalyard$Row;", Cond.methodLink RX4 41 yX4_isAway, Cond.instanceMethod yX4_isAway, Cond.selects RX4 yX4_isAway yX4_isAway, Cond.code yX4_isAway cX4_isAway 2 (some .boolean), Cond.fieldLink RX4 23 "Approvalyard$People" "backs" "LApprovalyard$Row;", Cond.methodLink RX4 33 yX6_at]
def wsX2_principalFor : List Cond := .code yX2_principalFor cX2_principalFor 4 (some .int) :: ((wsX2_principalFor_r1 ++ wsX2_principalFor_r2) ++ wsX20 ++ wsX50 ++ wsX60 ++ wsX40)
def wsX2_approvalsOf : List Cond := .code yX2_approvalsOf cX2_approvalsOf 2 (some .int) :: ([.fieldLink RX2 28 "Approvalyard$Desk" "requests" "LApprovalyard$Requests;", .fieldLink RX2 21 "Approvalyard$Desk" "people" "LApprovalyard$People;", .methodLink RX2 55 yX4_today, .instanceMethod yX4_today, .selects RX4 yX4_today yX4_today, .initialized RX4, .code yX4_today cX4_today 1 (some .int), .fieldLink RX4 29 "Approvalyard$People" "day" "I", .methodLink RX2 102 yX5_approvalsOf, .instanceMethod yX5_approvalsOf, .selects RX5 yX5_approvalsOf yX5_approvalsOf, .initialized RX5, .code yX5_approvalsOf cX5_approvalsOf 5 (some .int), .methodLink RX5 56 yX5_hasApproval, .instanceMethod yX5_hasApproval, .selects RX5 yX5_hasApproval yX5_hasApproval, .code yX5_hasApproval cX5_hasApproval 4 (some .boolean), .fieldLink RX5 35 "Approvalyard$Requests" "ends" "LApprovalyard$Row;", .methodLink RX5 52 yX6_at, .instanceMethod yX6_at, .selects RX6 yX6_at yX6_at, .initialized RX6, .code yX6_at cX6_at 2 (some .int), .fieldLink RX6 7 "Approvalyard$Row" "cells" "[I"] ++ wsX20 ++ wsX40 ++ wsX50 ++ wsX60)
def wsX2_isCovered_r1 : List Cond := [Cond.fieldLink RX2 28 "Approvalyard$Desk" "requests" "LApprovalyard$Requests;", Cond.methodLink RX2 98 yX5_costOf, Cond.instanceMethod yX5_costOf, Cond.selects RX5 yX5_costOf yX5_costOf, Cond.initialized RX5, Cond.code yX5_costOf cX5_costOf 2 (some .int), Cond.fieldLink RX5 32 "Approvalyard$Requests" "costs" "LApprovalyard$Row;", Cond.methodLink RX5 52 yX6_at, Cond.instanceMethod yX6_at, Cond.selects RX6 yX6_at yX6_at, Cond.initialized RX6, Cond.code yX6_at cX6_at 2 (some .int), Cond.fieldLink RX6 7 "Approvalyard$Row" "cells" "[I", Cond.methodLink RX2 105 yX2_approvalsOf, Cond.instanceMethod yX2_approvalsOf, Cond.selects RX2 yX2_approvalsOf yX2_approvalsOf, Cond.initialized RX2, Cond.code yX2_approvalsOf cX2_approvalsOf 2 (some .int), Cond.fieldLink RX2 21 "Approvalyard$Desk" "people" "LApprovalyard$People;", Cond.methodLink RX2 55 yX4_today, Cond.instanceMethod yX4_today, Cond.selects RX4 yX4_today yX4_today, Cond.initialized RX4, Cond.code yX4_today cX4_today 1 (some .int)]
def wsX2_isCovered_r2 : List Cond := [Cond.fieldLink RX4 29 "Approvalyard$People" "day" "I", Cond.methodLink RX2 102 yX5_approvalsOf, Cond.instanceMethod yX5_approvalsOf, Cond.selects RX5 yX5_approvalsOf yX5_approvalsOf, Cond.code yX5_approvalsOf cX5_approvalsOf 5 (some .int), Cond.methodLink RX5 56 yX5_hasApproval, Cond.instanceMethod yX5_hasApproval, Cond.selects RX5 yX5_hasApproval yX5_hasApproval, Cond.code yX5_hasApproval cX5_hasApproval 4 (some .boolean), Cond.fieldLink RX5 35 "Approvalyard$Requests" "ends" "LApprovalyard$Row;"]
def wsX2_isCovered : List Cond := .code yX2_isCovered cX2_isCovered 3 (some .boolean) :: ((wsX2_isCovered_r1 ++ wsX2_isCovered_r2) ++ wsX20 ++ wsX50 ++ wsX60 ++ wsX40)
def wsX3_countOf : List Cond := .code yX3_countOf cX3_countOf 2 (some .int) :: ([.fieldLink RX3 14 "Approvalyard$Parts" "counts" "LApprovalyard$Row;", .methodLink RX3 38 yX6_at, .instanceMethod yX6_at, .selects RX6 yX6_at yX6_at, .initialized RX6, .code yX6_at cX6_at 2 (some .int), .fieldLink RX6 7 "Approvalyard$Row" "cells" "[I"] ++ wsX30 ++ wsX60)
def wsX3_needsOf : List Cond := .code yX3_needsOf cX3_needsOf 3 (some .int) :: ([.fieldLink RX3 26 "Approvalyard$Parts" "needCounts" "LApprovalyard$Row;", .methodLink RX3 42 yX3_placeOf, .static yX3_placeOf, .initialized RX3, .code yX3_placeOf cX3_placeOf 2 (some .int), .methodLink RX3 38 yX6_at, .instanceMethod yX6_at, .selects RX6 yX6_at yX6_at, .initialized RX6, .code yX6_at cX6_at 2 (some .int), .fieldLink RX6 7 "Approvalyard$Row" "cells" "[I"] ++ wsX30 ++ wsX60)
def wsX3_neededPart : List Cond := .code yX3_neededPart cX3_neededPart 4 (some .int) :: ([.fieldLink RX3 29 "Approvalyard$Parts" "needParts" "LApprovalyard$Row;", .methodLink RX3 42 yX3_placeOf, .static yX3_placeOf, .initialized RX3, .code yX3_placeOf cX3_placeOf 2 (some .int), .methodLink RX3 38 yX6_at, .instanceMethod yX6_at, .selects RX6 yX6_at yX6_at, .initialized RX6, .code yX6_at cX6_at 2 (some .int), .fieldLink RX6 7 "Approvalyard$Row" "cells" "[I"] ++ wsX30 ++ wsX60)
def wsX3_neededVersions : List Cond := .code yX3_neededVersions cX3_neededVersions 4 (some .int) :: ([.fieldLink RX3 32 "Approvalyard$Parts" "needVersions" "LApprovalyard$Row;", .methodLink RX3 42 yX3_placeOf, .static yX3_placeOf, .initialized RX3, .code yX3_placeOf cX3_placeOf 2 (some .int), .methodLink RX3 38 yX6_at, .instanceMethod yX6_at, .selects RX6 yX6_at yX6_at, .initialized RX6, .code yX6_at cX6_at 2 (some .int), .fieldLink RX6 7 "Approvalyard$Row" "cells" "[I"] ++ wsX30 ++ wsX60)
def wsX3_isReplaced : List Cond := .code yX3_isReplaced cX3_isReplaced 3 (some .boolean) :: ([.fieldLink RX3 23 "Approvalyard$Parts" "replaced" "LApprovalyard$Row;", .methodLink RX3 42 yX3_placeOf, .static yX3_placeOf, .initialized RX3, .code yX3_placeOf cX3_placeOf 2 (some .int), .methodLink RX3 38 yX6_at, .instanceMethod yX6_at, .selects RX6 yX6_at yX6_at, .initialized RX6, .code yX6_at cX6_at 2 (some .int), .fieldLink RX6 7 "Approvalyard$Row" "cells" "[I"] ++ wsX30 ++ wsX60)
def wsX3_current : List Cond := .code yX3_current cX3_current 4 (some .int) :: ([.fieldLink RX3 14 "Approvalyard$Parts" "counts" "LApprovalyard$Row;", .methodLink RX3 38 yX6_at, .instanceMethod yX6_at, .selects RX6 yX6_at yX6_at, .initialized RX6, .code yX6_at cX6_at 2 (some .int), .fieldLink RX6 7 "Approvalyard$Row" "cells" "[I", .methodLink RX3 53 yX3_isReplaced, .instanceMethod yX3_isReplaced, .selects RX3 yX3_isReplaced yX3_isReplaced, .initialized RX3, .code yX3_isReplaced cX3_isReplaced 3 (some .boolean), .fieldLink RX3 23 "Approvalyard$Parts" "replaced" "LApprovalyard$Row;", .methodLink RX3 42 yX3_placeOf, .static yX3_placeOf, .code yX3_placeOf cX3_placeOf 2 (some .int), .methodLink RX3 50 yX3_versionSet, .static yX3_versionSet, .code yX3_versionSet cX3_versionSet 2 (some .int)] ++ wsX30 ++ wsX60)
def wsX4_greatestLimit : List Cond := .code yX4_greatestLimit cX4_greatestLimit 6 (some .int) :: ([.fieldLink RX4 14 "Approvalyard$People" "limits" "LApprovalyard$Row;", .methodLink RX4 33 yX6_at, .instanceMethod yX6_at, .selects RX6 yX6_at yX6_at, .initialized RX6, .code yX6_at cX6_at 2 (some .int), .fieldLink RX6 7 "Approvalyard$Row" "cells" "[I", .methodLink RX4 41 yX4_isAway, .instanceMethod yX4_isAway, .selects RX4 yX4_isAway yX4_isAway, .initialized RX4, .code yX4_isAway cX4_isAway 2 (some .boolean), .fieldLink RX4 29 "Approvalyard$People" "day" "I", .fieldLink RX4 23 "Approvalyard$People" "backs" "LApprovalyard$Row;"] ++ wsX40 ++ wsX60)
def wsX5_count : List Cond := .code yX5_count cX5_count 1 (some .int) :: ([.fieldLink RX5 38 "Approvalyard$Requests" "number" "I"] ++ wsX50)
def wsX5_partOf : List Cond := .code yX5_partOf cX5_partOf 2 (some .int) :: ([.fieldLink RX5 20 "Approvalyard$Requests" "parts" "LApprovalyard$Row;", .methodLink RX5 52 yX6_at, .instanceMethod yX6_at, .selects RX6 yX6_at yX6_at, .initialized RX6, .code yX6_at cX6_at 2 (some .int), .fieldLink RX6 7 "Approvalyard$Row" "cells" "[I"] ++ wsX50 ++ wsX60)
def wsX5_leastOf : List Cond := .code yX5_leastOf cX5_leastOf 2 (some .int) :: ([.fieldLink RX5 23 "Approvalyard$Requests" "leasts" "LApprovalyard$Row;", .methodLink RX5 52 yX6_at, .instanceMethod yX6_at, .selects RX6 yX6_at yX6_at, .initialized RX6, .code yX6_at cX6_at 2 (some .int), .fieldLink RX6 7 "Approvalyard$Row" "cells" "[I"] ++ wsX50 ++ wsX60)
def wsX5_choiceOf : List Cond := .code yX5_choiceOf cX5_choiceOf 2 (some .int) :: ([.fieldLink RX5 29 "Approvalyard$Requests" "choices" "LApprovalyard$Row;", .methodLink RX5 52 yX6_at, .instanceMethod yX6_at, .selects RX6 yX6_at yX6_at, .initialized RX6, .code yX6_at cX6_at 2 (some .int), .fieldLink RX6 7 "Approvalyard$Row" "cells" "[I"] ++ wsX50 ++ wsX60)
def wsX7_init : List Cond := .code yX7_init cX7_init 1 none :: ([.methodLink RX7 3 objectInit, .instanceMethod objectInit, .code objectInit ⟨#[0xb1]⟩ 1 none, .classLink RX7 9 RX6, .instantiable RX6 1, .initialized RX6, .fieldLink RX7 14 "Approvalyard$Search" "order" "LApprovalyard$Row;", .fieldLink RX7 20 "Approvalyard$Search" "wanted" "LApprovalyard$Row;", .methodLink RX7 11 yX6_init, .instanceMethod yX6_init, .code yX6_init cX6_init 2 none, .methodLink RX6 1 objectInit, .arrayClass .int, .fieldLink RX6 7 "Approvalyard$Row" "cells" "[I"] ++ wsX60 ++ wsX70)
def wsX7_await : List Cond := .code yX7_await cX7_await 3 none :: ([.fieldLink RX7 40 "Approvalyard$Search" "number" "I", .fieldLink RX7 14 "Approvalyard$Search" "order" "LApprovalyard$Row;", .methodLink RX7 33 yX6_at, .instanceMethod yX6_at, .selects RX6 yX6_at yX6_at, .initialized RX6, .code yX6_at cX6_at 2 (some .int), .fieldLink RX6 7 "Approvalyard$Row" "cells" "[I", .methodLink RX7 29 yX6_put, .instanceMethod yX6_put, .selects RX6 yX6_put yX6_put, .code yX6_put cX6_put 3 none] ++ wsX70 ++ wsX60)
def wsX7_take_r1 : List Cond := [Cond.fieldLink RX7 14 "Approvalyard$Search" "order" "LApprovalyard$Row;", Cond.fieldLink RX7 20 "Approvalyard$Search" "wanted" "LApprovalyard$Row;", Cond.methodLink RX7 33 yX6_at, Cond.instanceMethod yX6_at, Cond.selects RX6 yX6_at yX6_at, Cond.initialized RX6, Cond.code yX6_at cX6_at 2 (some .int), Cond.fieldLink RX6 7 "Approvalyard$Row" "cells" "[I", Cond.methodLink RX7 29 yX6_put, Cond.instanceMethod yX6_put, Cond.selects RX6 yX6_put yX6_put, Cond.code yX6_put cX6_put 3 none, Cond.methodLink RX7 36 yX3_versionSet, Cond.static yX3_versionSet, Cond.initialized RX3, Cond.code yX3_versionSet cX3_versionSet 2 (some .int), Cond.methodLink RX7 61 yX3_needsOf, Cond.instanceMethod yX3_needsOf, Cond.selects RX3 yX3_needsOf yX3_needsOf, Cond.code yX3_needsOf cX3_needsOf 3 (some .int), Cond.fieldLink RX3 26 "Approvalyard$Parts" "needCounts" "LApprovalyard$Row;", Cond.methodLink RX3 42 yX3_placeOf, Cond.static yX3_placeOf, Cond.code yX3_placeOf cX3_placeOf 2 (some .int)]
def wsX7_take_r2 : List Cond := [Cond.methodLink RX3 38 yX6_at, Cond.methodLink RX7 64 yX3_neededPart, Cond.instanceMethod yX3_neededPart, Cond.selects RX3 yX3_neededPart yX3_neededPart, Cond.code yX3_neededPart cX3_neededPart 4 (some .int), Cond.fieldLink RX3 29 "Approvalyard$Parts" "needParts" "LApprovalyard$Row;", Cond.methodLink RX7 67 yX3_neededVersions, Cond.instanceMethod yX3_neededVersions, Cond.selects RX3 yX3_neededVersions yX3_neededVersions, Cond.code yX3_neededVersions cX3_neededVersions 4 (some .int), Cond.fieldLink RX3 32 "Approvalyard$Parts" "needVersions" "LApprovalyard$Row;", Cond.methodLink RX7 70 yX7_await, Cond.instanceMethod yX7_await, Cond.selects RX7 yX7_await yX7_await, Cond.initialized RX7, Cond.code yX7_await cX7_await 3 none, Cond.fieldLink RX7 40 "Approvalyard$Search" "number" "I"]
def wsX7_take : List Cond := .code yX7_take cX7_take 10 (some .boolean) :: ((wsX7_take_r1 ++ wsX7_take_r2) ++ wsX70 ++ wsX60 ++ wsX30)
def wsX7_fill_r1 : List Cond := [Cond.fieldLink RX7 40 "Approvalyard$Search" "number" "I", Cond.fieldLink RX7 14 "Approvalyard$Search" "order" "LApprovalyard$Row;", Cond.fieldLink RX7 20 "Approvalyard$Search" "wanted" "LApprovalyard$Row;", Cond.fieldLink RX7 46 "Approvalyard$Search" "choice" "I", Cond.methodLink RX7 33 yX6_at, Cond.instanceMethod yX6_at, Cond.selects RX6 yX6_at yX6_at, Cond.initialized RX6, Cond.code yX6_at cX6_at 2 (some .int), Cond.fieldLink RX6 7 "Approvalyard$Row" "cells" "[I", Cond.methodLink RX7 36 yX3_versionSet, Cond.static yX3_versionSet, Cond.initialized RX3, Cond.code yX3_versionSet cX3_versionSet 2 (some .int), Cond.methodLink RX7 53 yX7_take, Cond.instanceMethod yX7_take, Cond.selects RX7 yX7_take yX7_take, Cond.initialized RX7, Cond.code yX7_take cX7_take 10 (some .boolean), Cond.methodLink RX7 29 yX6_put, Cond.instanceMethod yX6_put, Cond.selects RX6 yX6_put yX6_put, Cond.code yX6_put cX6_put 3 none, Cond.methodLink RX7 61 yX3_needsOf]
def wsX7_fill_r2 : List Cond := [Cond.instanceMethod yX3_needsOf, Cond.selects RX3 yX3_needsOf yX3_needsOf, Cond.code yX3_needsOf cX3_needsOf 3 (some .int), Cond.fieldLink RX3 26 "Approvalyard$Parts" "needCounts" "LApprovalyard$Row;", Cond.methodLink RX3 42 yX3_placeOf, Cond.static yX3_placeOf, Cond.code yX3_placeOf cX3_placeOf 2 (some .int), Cond.methodLink RX3 38 yX6_at, Cond.methodLink RX7 64 yX3_neededPart, Cond.instanceMethod yX3_neededPart, Cond.selects RX3 yX3_neededPart yX3_neededPart, Cond.code yX3_neededPart cX3_neededPart 4 (some .int), Cond.fieldLink RX3 29 "Approvalyard$Parts" "needParts" "LApprovalyard$Row;", Cond.methodLink RX7 67 yX3_neededVersions, Cond.instanceMethod yX3_neededVersions, Cond.selects RX3 yX3_neededVersions yX3_neededVersions, Cond.code yX3_neededVersions cX3_neededVersions 4 (some .int), Cond.fieldLink RX3 32 "Approvalyard$Parts" "needVersions" "LApprovalyard$Row;", Cond.methodLink RX7 70 yX7_await, Cond.instanceMethod yX7_await, Cond.selects RX7 yX7_await yX7_await, Cond.code yX7_await cX7_await 3 none, Cond.methodLink RX7 49 yX7_fill, Cond.instanceMethod yX7_fill]
def wsX7_fill_r3 : List Cond := [Cond.selects RX7 yX7_fill yX7_fill, Cond.methodLink RX7 57 yX1_with, Cond.static yX1_with, Cond.initialized RX1, Cond.code yX1_with cX1_with 3 (some .int)]
def wsX7_fill : List Cond := .code yX7_fill cX7_fill 8 (some .boolean) :: ((wsX7_fill_r1 ++ (wsX7_fill_r2 ++ wsX7_fill_r3)) ++ wsX70 ++ wsX60 ++ wsX30)
def wsX7_find_r1 : List Cond := [Cond.fieldLink RX7 20 "Approvalyard$Search" "wanted" "LApprovalyard$Row;", Cond.fieldLink RX7 14 "Approvalyard$Search" "order" "LApprovalyard$Row;", Cond.fieldLink RX7 40 "Approvalyard$Search" "number" "I", Cond.fieldLink RX7 46 "Approvalyard$Search" "choice" "I", Cond.methodLink RX7 23 yX3_current, Cond.instanceMethod yX3_current, Cond.selects RX3 yX3_current yX3_current, Cond.initialized RX3, Cond.code yX3_current cX3_current 4 (some .int), Cond.fieldLink RX3 14 "Approvalyard$Parts" "counts" "LApprovalyard$Row;", Cond.methodLink RX3 38 yX6_at, Cond.instanceMethod yX6_at, Cond.selects RX6 yX6_at yX6_at, Cond.initialized RX6, Cond.code yX6_at cX6_at 2 (some .int), Cond.fieldLink RX6 7 "Approvalyard$Row" "cells" "[I", Cond.methodLink RX3 53 yX3_isReplaced, Cond.instanceMethod yX3_isReplaced, Cond.selects RX3 yX3_isReplaced yX3_isReplaced, Cond.code yX3_isReplaced cX3_isReplaced 3 (some .boolean), Cond.fieldLink RX3 23 "Approvalyard$Parts" "replaced" "LApprovalyard$Row;", Cond.methodLink RX3 42 yX3_placeOf, Cond.static yX3_placeOf, Cond.code yX3_placeOf cX3_placeOf 2 (some .int)]
def wsX7_find_r2 : List Cond := [Cond.methodLink RX3 50 yX3_versionSet, Cond.static yX3_versionSet, Cond.code yX3_versionSet cX3_versionSet 2 (some .int), Cond.methodLink RX7 29 yX6_put, Cond.instanceMethod yX6_put, Cond.selects RX6 yX6_put yX6_put, Cond.code yX6_put cX6_put 3 none, Cond.methodLink RX7 33 yX6_at, Cond.methodLink RX7 36 yX3_versionSet, Cond.methodLink RX7 49 yX7_fill, Cond.instanceMethod yX7_fill, Cond.selects RX7 yX7_fill yX7_fill, Cond.initialized RX7, Cond.code yX7_fill cX7_fill 8 (some .boolean), Cond.methodLink RX7 53 yX7_take, Cond.instanceMethod yX7_take, Cond.selects RX7 yX7_take yX7_take, Cond.code yX7_take cX7_take 10 (some .boolean), Cond.methodLink RX7 61 yX3_needsOf, Cond.instanceMethod yX3_needsOf, Cond.selects RX3 yX3_needsOf yX3_needsOf, Cond.code yX3_needsOf cX3_needsOf 3 (some .int), Cond.fieldLink RX3 26 "Approvalyard$Parts" "needCounts" "LApprovalyard$Row;", Cond.methodLink RX7 64 yX3_neededPart]
def wsX7_find_r3 : List Cond := [Cond.instanceMethod yX3_neededPart, Cond.selects RX3 yX3_neededPart yX3_neededPart, Cond.code yX3_neededPart cX3_neededPart 4 (some .int), Cond.fieldLink RX3 29 "Approvalyard$Parts" "needParts" "LApprovalyard$Row;", Cond.methodLink RX7 67 yX3_neededVersions, Cond.instanceMethod yX3_neededVersions, Cond.selects RX3 yX3_neededVersions yX3_neededVersions, Cond.code yX3_neededVersions cX3_neededVersions 4 (some .int), Cond.fieldLink RX3 32 "Approvalyard$Parts" "needVersions" "LApprovalyard$Row;", Cond.methodLink RX7 70 yX7_await, Cond.instanceMethod yX7_await, Cond.selects RX7 yX7_await yX7_await, Cond.code yX7_await cX7_await 3 none, Cond.methodLink RX7 57 yX1_with, Cond.static yX1_with, Cond.initialized RX1, Cond.code yX1_with cX1_with 3 (some .int)]
def wsX7_find : List Cond := .code yX7_find cX7_find 5 (some .int) :: ((wsX7_find_r1 ++ (wsX7_find_r2 ++ wsX7_find_r3)) ++ wsX70 ++ wsX30 ++ wsX60)
def wsX8_init_r1 : List Cond := [Cond.methodLink RX8 1 objectInit, Cond.instanceMethod objectInit, Cond.code objectInit ⟨#[0xb1]⟩ 1 none, Cond.classLink RX8 7 RX0, Cond.instantiable RX0 2, Cond.initialized RX0, Cond.fieldLink RX8 10 "Approvalyard" "book" "LApprovalyard$Book;", Cond.classLink RX8 16 RX2, Cond.instantiable RX2 3, Cond.initialized RX2, Cond.fieldLink RX8 19 "Approvalyard" "desk" "LApprovalyard$Desk;", Cond.fieldLink RX8 23 "Approvalyard" "deskAnew" "LApprovalyard$Desk;", Cond.classLink RX8 26 RX7, Cond.instantiable RX7 4, Cond.initialized RX7, Cond.fieldLink RX8 29 "Approvalyard" "search" "LApprovalyard$Search;", Cond.instanceMethod yX0_init, Cond.code yX0_init cX0_init 1 none, Cond.methodLink RX0 3 objectInit, Cond.classLink RX0 9 RX6, Cond.instantiable RX6 1, Cond.initialized RX6, Cond.fieldLink RX0 16 "Approvalyard$Book" "words" "LApprovalyard$Row;", Cond.methodLink RX0 13 yX6_init]
def wsX8_init_r2 : List Cond := [Cond.instanceMethod yX6_init, Cond.code yX6_init cX6_init 2 none, Cond.methodLink RX6 1 objectInit, Cond.arrayClass .int, Cond.fieldLink RX6 7 "Approvalyard$Row" "cells" "[I", Cond.methodLink RX8 18 yX2_init, Cond.instanceMethod yX2_init, Cond.code yX2_init cX2_init 1 none, Cond.methodLink RX2 3 objectInit, Cond.classLink RX2 9 RX3, Cond.instantiable RX3 6, Cond.initialized RX3, Cond.fieldLink RX2 12 "Approvalyard$Desk" "parts" "LApprovalyard$Parts;", Cond.classLink RX2 18 RX4, Cond.instantiable RX4 4, Cond.initialized RX4, Cond.fieldLink RX2 21 "Approvalyard$Desk" "people" "LApprovalyard$People;", Cond.classLink RX2 25 RX5, Cond.instantiable RX5 8, Cond.initialized RX5, Cond.fieldLink RX2 28 "Approvalyard$Desk" "requests" "LApprovalyard$Requests;", Cond.instanceMethod yX3_init, Cond.code yX3_init cX3_init 1 none, Cond.methodLink RX3 3 objectInit]
def wsX8_init_r3 : List Cond := [Cond.classLink RX3 9 RX6, Cond.fieldLink RX3 14 "Approvalyard$Parts" "counts" "LApprovalyard$Row;", Cond.fieldLink RX3 20 "Approvalyard$Parts" "costs" "LApprovalyard$Row;", Cond.fieldLink RX3 23 "Approvalyard$Parts" "replaced" "LApprovalyard$Row;", Cond.fieldLink RX3 26 "Approvalyard$Parts" "needCounts" "LApprovalyard$Row;", Cond.fieldLink RX3 29 "Approvalyard$Parts" "needParts" "LApprovalyard$Row;", Cond.fieldLink RX3 32 "Approvalyard$Parts" "needVersions" "LApprovalyard$Row;", Cond.methodLink RX3 11 yX6_init, Cond.instanceMethod yX4_init, Cond.code yX4_init cX4_init 1 none, Cond.methodLink RX4 3 objectInit, Cond.classLink RX4 9 RX6, Cond.fieldLink RX4 14 "Approvalyard$People" "limits" "LApprovalyard$Row;", Cond.fieldLink RX4 20 "Approvalyard$People" "delegates" "LApprovalyard$Row;", Cond.fieldLink RX4 23 "Approvalyard$People" "backs" "LApprovalyard$Row;", Cond.methodLink RX4 11 yX6_init, Cond.instanceMethod yX5_init, Cond.code yX5_init cX5_init 1 none, Cond.methodLink RX5 3 objectInit, Cond.classLink RX5 9 RX6, Cond.fieldLink RX5 14 "Approvalyard$Requests" "people" "LApprovalyard$Row;", Cond.fieldLink RX5 20 "Approvalyard$Requests" "parts" "LApprovalyard$Row;", Cond.fieldLink RX5 23 "Approvalyard$Requests" "leasts" "LApprovalyard$Row;", Cond.fieldLink RX5 26 "Approvalyard$Requests" "states" "LApprovalyard$Row;"]
def wsX8_init_r4 : List Cond := [Cond.fieldLink RX5 29 "Approvalyard$Requests" "choices" "LApprovalyard$Row;", Cond.fieldLink RX5 32 "Approvalyard$Requests" "costs" "LApprovalyard$Row;", Cond.fieldLink RX5 35 "Approvalyard$Requests" "ends" "LApprovalyard$Row;", Cond.methodLink RX5 11 yX6_init, Cond.methodLink RX2 32 yX2_clear, Cond.instanceMethod yX2_clear, Cond.selects RX2 yX2_clear yX2_clear, Cond.code yX2_clear cX2_clear 1 none, Cond.methodLink RX2 35 yX3_clear, Cond.instanceMethod yX3_clear, Cond.selects RX3 yX3_clear yX3_clear, Cond.code yX3_clear cX3_clear 1 none, Cond.methodLink RX3 35 yX6_fill, Cond.instanceMethod yX6_fill, Cond.selects RX6 yX6_fill yX6_fill, Cond.code yX6_fill cX6_fill 3 none, Cond.methodLink RX2 36 yX4_clear, Cond.instanceMethod yX4_clear, Cond.selects RX4 yX4_clear yX4_clear, Cond.code yX4_clear cX4_clear 1 none, Cond.fieldLink RX4 29 "Approvalyard$People" "day" "I", Cond.methodLink RX4 26 yX6_fill, Cond.methodLink RX2 37 yX5_clear, Cond.instanceMethod yX5_clear]
def wsX8_init_r5 : List Cond := [Cond.selects RX5 yX5_clear yX5_clear, Cond.code yX5_clear cX5_clear 1 none, Cond.fieldLink RX5 38 "Approvalyard$Requests" "number" "I", Cond.instanceMethod yX7_init, Cond.code yX7_init cX7_init 1 none, Cond.methodLink RX7 3 objectInit, Cond.classLink RX7 9 RX6, Cond.fieldLink RX7 14 "Approvalyard$Search" "order" "LApprovalyard$Row;", Cond.fieldLink RX7 20 "Approvalyard$Search" "wanted" "LApprovalyard$Row;", Cond.methodLink RX7 11 yX6_init]
def wsX8_init : List Cond := .code yX8_init cX8_init 1 none :: ((wsX8_init_r1 ++ (wsX8_init_r2 ++ (wsX8_init_r3 ++ (wsX8_init_r4 ++ wsX8_init_r5)))) ++ wsX00 ++ wsX80 ++ wsX20 ++ wsX70 ++ wsX60 ++ wsX30 ++ wsX40 ++ wsX50)
def wsX8_checkPart : List Cond := .code yX8_checkPart cX8_checkPart 1 none :: ([.classLink RX8 178 "java/lang/IndexOutOfBoundsException", .initialized "java/lang/IndexOutOfBoundsException"] ++ (vx_atS RX8 182 "java/lang/IndexOutOfBoundsException" ["java/lang/RuntimeException", "java/lang/Exception"]).filter goodWord)
def wsX8_tell_r1 : List Cond := [Cond.fieldLink RX8 19 "Approvalyard" "desk" "LApprovalyard$Desk;", Cond.fieldLink RX8 10 "Approvalyard" "book" "LApprovalyard$Book;", Cond.methodLink RX8 80 yX0_write, Cond.instanceMethod yX0_write, Cond.selects RX0 yX0_write yX0_write, Cond.initialized RX0, Cond.code yX0_write cX0_write 8 (some .int), Cond.fieldLink RX0 20 "Approvalyard$Book" "number" "I", Cond.fieldLink RX0 16 "Approvalyard$Book" "words" "LApprovalyard$Row;", Cond.methodLink RX0 24 yX6_put, Cond.instanceMethod yX6_put, Cond.selects RX6 yX6_put yX6_put, Cond.initialized RX6, Cond.code yX6_put cX6_put 3 none, Cond.fieldLink RX6 7 "Approvalyard$Row" "cells" "[I", Cond.methodLink RX8 84 yX2_apply, Cond.instanceMethod yX2_apply, Cond.selects RX2 yX2_apply yX2_apply, Cond.initialized RX2, Cond.code yX2_apply cX2_apply 6 (some .int), Cond.fieldLink RX2 12 "Approvalyard$Desk" "parts" "LApprovalyard$Parts;", Cond.fieldLink RX2 28 "Approvalyard$Desk" "requests" "LApprovalyard$Requests;", Cond.fieldLink RX2 21 "Approvalyard$Desk" "people" "LApprovalyard$People;", Cond.methodLink RX2 38 yX0_wordOf]
def wsX8_tell_r2 : List Cond := [Cond.instanceMethod yX0_wordOf, Cond.selects RX0 yX0_wordOf yX0_wordOf, Cond.code yX0_wordOf cX0_wordOf 3 (some .int), Cond.methodLink RX0 28 yX6_at, Cond.instanceMethod yX6_at, Cond.selects RX6 yX6_at yX6_at, Cond.code yX6_at cX6_at 2 (some .int), Cond.methodLink RX2 44 yX3_addVersion, Cond.instanceMethod yX3_addVersion, Cond.selects RX3 yX3_addVersion yX3_addVersion, Cond.initialized RX3, Cond.code yX3_addVersion cX3_addVersion 5 (some .int), Cond.fieldLink RX3 14 "Approvalyard$Parts" "counts" "LApprovalyard$Row;", Cond.fieldLink RX3 20 "Approvalyard$Parts" "costs" "LApprovalyard$Row;", Cond.fieldLink RX3 23 "Approvalyard$Parts" "replaced" "LApprovalyard$Row;", Cond.fieldLink RX3 26 "Approvalyard$Parts" "needCounts" "LApprovalyard$Row;", Cond.methodLink RX3 38 yX6_at, Cond.methodLink RX3 42 yX3_placeOf, Cond.static yX3_placeOf, Cond.code yX3_placeOf cX3_placeOf 2 (some .int), Cond.methodLink RX3 46 yX6_put, Cond.methodLink RX2 47 yX3_addNeed, Cond.instanceMethod yX3_addNeed, Cond.selects RX3 yX3_addNeed yX3_addNeed]
def wsX8_tell_r3 : List Cond := [Cond.code yX3_addNeed cX3_addNeed 8 (some .int), Cond.fieldLink RX3 29 "Approvalyard$Parts" "needParts" "LApprovalyard$Row;", Cond.fieldLink RX3 32 "Approvalyard$Parts" "needVersions" "LApprovalyard$Row;", Cond.methodLink RX3 50 yX3_versionSet, Cond.static yX3_versionSet, Cond.code yX3_versionSet cX3_versionSet 2 (some .int), Cond.methodLink RX2 51 yX3_markReplaced, Cond.instanceMethod yX3_markReplaced, Cond.selects RX3 yX3_markReplaced yX3_markReplaced, Cond.code yX3_markReplaced cX3_markReplaced 3 none, Cond.methodLink RX2 55 yX4_today, Cond.instanceMethod yX4_today, Cond.selects RX4 yX4_today yX4_today, Cond.initialized RX4, Cond.code yX4_today cX4_today 1 (some .int), Cond.fieldLink RX4 29 "Approvalyard$People" "day" "I", Cond.methodLink RX2 59 yX5_loseVersion, Cond.instanceMethod yX5_loseVersion, Cond.selects RX5 yX5_loseVersion yX5_loseVersion, Cond.initialized RX5, Cond.code yX5_loseVersion cX5_loseVersion 6 (some .int), Cond.fieldLink RX5 38 "Approvalyard$Requests" "number" "I", Cond.fieldLink RX5 29 "Approvalyard$Requests" "choices" "LApprovalyard$Row;", Cond.fieldLink RX5 26 "Approvalyard$Requests" "states" "LApprovalyard$Row;"]
def wsX8_tell_r4 : List Cond := [Cond.methodLink RX5 52 yX6_at, Cond.methodLink RX5 60 yX1_versionOf, Cond.static yX1_versionOf, Cond.initialized RX1, Cond.code yX1_versionOf cX1_versionOf 2 (some .int), Cond.methodLink RX5 66 yX5_approvalsOf, Cond.instanceMethod yX5_approvalsOf, Cond.selects RX5 yX5_approvalsOf yX5_approvalsOf, Cond.code yX5_approvalsOf cX5_approvalsOf 5 (some .int), Cond.methodLink RX5 56 yX5_hasApproval, Cond.instanceMethod yX5_hasApproval, Cond.selects RX5 yX5_hasApproval yX5_hasApproval, Cond.code yX5_hasApproval cX5_hasApproval 4 (some .boolean), Cond.fieldLink RX5 35 "Approvalyard$Requests" "ends" "LApprovalyard$Row;", Cond.methodLink RX5 49 yX5_endApprovals, Cond.instanceMethod yX5_endApprovals, Cond.selects RX5 yX5_endApprovals yX5_endApprovals, Cond.code yX5_endApprovals cX5_endApprovals 3 none, Cond.methodLink RX5 42 yX6_put, Cond.methodLink RX5 46 yX5_reopen, Cond.instanceMethod yX5_reopen, Cond.selects RX5 yX5_reopen yX5_reopen, Cond.code yX5_reopen cX5_reopen 2 none, Cond.fieldLink RX5 32 "Approvalyard$Requests" "costs" "LApprovalyard$Row;"]
def wsX8_tell_r5 : List Cond := [Cond.methodLink RX2 63 yX5_add, Cond.instanceMethod yX5_add, Cond.selects RX5 yX5_add yX5_add, Cond.code yX5_add cX5_add 5 (some .int), Cond.fieldLink RX5 14 "Approvalyard$Requests" "people" "LApprovalyard$Row;", Cond.fieldLink RX5 20 "Approvalyard$Requests" "parts" "LApprovalyard$Row;", Cond.fieldLink RX5 23 "Approvalyard$Requests" "leasts" "LApprovalyard$Row;", Cond.methodLink RX2 66 yX3_costOf, Cond.instanceMethod yX3_costOf, Cond.selects RX3 yX3_costOf yX3_costOf, Cond.code yX3_costOf cX3_costOf 5 (some .int), Cond.methodLink RX3 57 yX1_versionOf, Cond.methodLink RX2 70 yX5_settle, Cond.instanceMethod yX5_settle, Cond.selects RX5 yX5_settle yX5_settle, Cond.code yX5_settle cX5_settle 4 (some .int), Cond.methodLink RX2 73 yX4_changeLimit, Cond.instanceMethod yX4_changeLimit, Cond.selects RX4 yX4_changeLimit yX4_changeLimit, Cond.code yX4_changeLimit cX4_changeLimit 4 (some .int), Cond.fieldLink RX4 14 "Approvalyard$People" "limits" "LApprovalyard$Row;", Cond.methodLink RX4 33 yX6_at, Cond.methodLink RX4 37 yX6_put, Cond.methodLink RX2 76 yX4_sendOnLeave]
def wsX8_tell_r6 : List Cond := [Cond.instanceMethod yX4_sendOnLeave, Cond.selects RX4 yX4_sendOnLeave yX4_sendOnLeave, Cond.code yX4_sendOnLeave cX4_sendOnLeave 4 (some .int), Cond.fieldLink RX4 20 "Approvalyard$People" "delegates" "LApprovalyard$Row;", Cond.fieldLink RX4 23 "Approvalyard$People" "backs" "LApprovalyard$Row;", Cond.methodLink RX2 79 yX2_takeApproval, Cond.instanceMethod yX2_takeApproval, Cond.selects RX2 yX2_takeApproval yX2_takeApproval, Cond.code yX2_takeApproval cX2_takeApproval 5 (some .int), Cond.constant RX2 107 (2147483647), Cond.methodLink RX2 98 yX5_costOf, Cond.instanceMethod yX5_costOf, Cond.selects RX5 yX5_costOf yX5_costOf, Cond.code yX5_costOf cX5_costOf 2 (some .int), Cond.methodLink RX2 99 yX4_principalOf, Cond.instanceMethod yX4_principalOf, Cond.selects RX4 yX4_principalOf yX4_principalOf, Cond.code yX4_principalOf cX4_principalOf 4 (some .int), Cond.methodLink RX4 41 yX4_isAway, Cond.instanceMethod yX4_isAway, Cond.selects RX4 yX4_isAway yX4_isAway, Cond.code yX4_isAway cX4_isAway 2 (some .boolean), Cond.methodLink RX2 108 yX4_backOf, Cond.instanceMethod yX4_backOf]
def wsX8_tell_r7 : List Cond := [Cond.selects RX4 yX4_backOf yX4_backOf, Cond.code yX4_backOf cX4_backOf 2 (some .int), Cond.methodLink RX2 111 yX5_addApproval, Cond.instanceMethod yX5_addApproval, Cond.selects RX5 yX5_addApproval yX5_addApproval, Cond.code yX5_addApproval cX5_addApproval 4 none, Cond.methodLink RX2 82 yX5_markReleased, Cond.instanceMethod yX5_markReleased, Cond.selects RX5 yX5_markReleased yX5_markReleased, Cond.code yX5_markReleased cX5_markReleased 2 (some .int), Cond.methodLink RX2 85 yX4_addDays, Cond.instanceMethod yX4_addDays, Cond.selects RX4 yX4_addDays yX4_addDays, Cond.code yX4_addDays cX4_addDays 2 (some .int)]
def wsX8_tell : List Cond := .code yX8_tell cX8_tell 5 (some .int) :: ((wsX8_tell_r1 ++ (wsX8_tell_r2 ++ (wsX8_tell_r3 ++ (wsX8_tell_r4 ++ (wsX8_tell_r5 ++ (wsX8_tell_r6 ++ wsX8_tell_r7)))))) ++ wsX80 ++ wsX00 ++ wsX60 ++ wsX20 ++ wsX30 ++ wsX40 ++ wsX50)
def wsX8_version_r1 : List Cond := [Cond.classLink RX8 37 "java/lang/IllegalArgumentException", Cond.initialized "java/lang/IllegalArgumentException", Cond.classLink RX8 54 "java/lang/IllegalStateException", Cond.initialized "java/lang/IllegalStateException", Cond.fieldLink RX8 19 "Approvalyard" "desk" "LApprovalyard$Desk;", Cond.fieldLink RX8 44 "Approvalyard$Desk" "parts" "LApprovalyard$Parts;", Cond.methodLink RX8 33 yX8_checkPart, Cond.static yX8_checkPart, Cond.initialized RX8, Cond.code yX8_checkPart cX8_checkPart 1 none, Cond.classLink RX8 178 "java/lang/IndexOutOfBoundsException", Cond.initialized "java/lang/IndexOutOfBoundsException", Cond.methodLink RX8 48 yX3_countOf, Cond.instanceMethod yX3_countOf, Cond.selects RX3 yX3_countOf yX3_countOf, Cond.initialized RX3, Cond.code yX3_countOf cX3_countOf 2 (some .int), Cond.fieldLink RX3 14 "Approvalyard$Parts" "counts" "LApprovalyard$Row;", Cond.methodLink RX3 38 yX6_at, Cond.instanceMethod yX6_at, Cond.selects RX6 yX6_at yX6_at, Cond.initialized RX6, Cond.code yX6_at cX6_at 2 (some .int), Cond.fieldLink RX6 7 "Approvalyard$Row" "cells" "[I"]
def wsX8_version_r2 : List Cond := [Cond.methodLink RX8 59 yX8_tell, Cond.instanceMethod yX8_tell, Cond.selects RX8 yX8_tell yX8_tell, Cond.code yX8_tell cX8_tell 5 (some .int), Cond.fieldLink RX8 10 "Approvalyard" "book" "LApprovalyard$Book;", Cond.methodLink RX8 80 yX0_write, Cond.instanceMethod yX0_write, Cond.selects RX0 yX0_write yX0_write, Cond.initialized RX0, Cond.code yX0_write cX0_write 8 (some .int), Cond.fieldLink RX0 20 "Approvalyard$Book" "number" "I", Cond.fieldLink RX0 16 "Approvalyard$Book" "words" "LApprovalyard$Row;", Cond.methodLink RX0 24 yX6_put, Cond.instanceMethod yX6_put, Cond.selects RX6 yX6_put yX6_put, Cond.code yX6_put cX6_put 3 none, Cond.methodLink RX8 84 yX2_apply, Cond.instanceMethod yX2_apply, Cond.selects RX2 yX2_apply yX2_apply, Cond.initialized RX2, Cond.code yX2_apply cX2_apply 6 (some .int), Cond.fieldLink RX2 12 "Approvalyard$Desk" "parts" "LApprovalyard$Parts;", Cond.fieldLink RX2 28 "Approvalyard$Desk" "requests" "LApprovalyard$Requests;", Cond.fieldLink RX2 21 "Approvalyard$Desk" "people" "LApprovalyard$People;"]
def wsX8_version_r3 : List Cond := [Cond.methodLink RX2 38 yX0_wordOf, Cond.instanceMethod yX0_wordOf, Cond.selects RX0 yX0_wordOf yX0_wordOf, Cond.code yX0_wordOf cX0_wordOf 3 (some .int), Cond.methodLink RX0 28 yX6_at, Cond.methodLink RX2 44 yX3_addVersion, Cond.instanceMethod yX3_addVersion, Cond.selects RX3 yX3_addVersion yX3_addVersion, Cond.code yX3_addVersion cX3_addVersion 5 (some .int), Cond.fieldLink RX3 20 "Approvalyard$Parts" "costs" "LApprovalyard$Row;", Cond.fieldLink RX3 23 "Approvalyard$Parts" "replaced" "LApprovalyard$Row;", Cond.fieldLink RX3 26 "Approvalyard$Parts" "needCounts" "LApprovalyard$Row;", Cond.methodLink RX3 42 yX3_placeOf, Cond.static yX3_placeOf, Cond.code yX3_placeOf cX3_placeOf 2 (some .int), Cond.methodLink RX3 46 yX6_put, Cond.methodLink RX2 47 yX3_addNeed, Cond.instanceMethod yX3_addNeed, Cond.selects RX3 yX3_addNeed yX3_addNeed, Cond.code yX3_addNeed cX3_addNeed 8 (some .int), Cond.fieldLink RX3 29 "Approvalyard$Parts" "needParts" "LApprovalyard$Row;", Cond.fieldLink RX3 32 "Approvalyard$Parts" "needVersions" "LApprovalyard$Row;", Cond.methodLink RX3 50 yX3_versionSet, Cond.static yX3_versionSet]
def wsX8_version_r4 : List Cond := [Cond.code yX3_versionSet cX3_versionSet 2 (some .int), Cond.methodLink RX2 51 yX3_markReplaced, Cond.instanceMethod yX3_markReplaced, Cond.selects RX3 yX3_markReplaced yX3_markReplaced, Cond.code yX3_markReplaced cX3_markReplaced 3 none, Cond.methodLink RX2 55 yX4_today, Cond.instanceMethod yX4_today, Cond.selects RX4 yX4_today yX4_today, Cond.initialized RX4, Cond.code yX4_today cX4_today 1 (some .int), Cond.fieldLink RX4 29 "Approvalyard$People" "day" "I", Cond.methodLink RX2 59 yX5_loseVersion, Cond.instanceMethod yX5_loseVersion, Cond.selects RX5 yX5_loseVersion yX5_loseVersion, Cond.initialized RX5, Cond.code yX5_loseVersion cX5_loseVersion 6 (some .int), Cond.fieldLink RX5 38 "Approvalyard$Requests" "number" "I", Cond.fieldLink RX5 29 "Approvalyard$Requests" "choices" "LApprovalyard$Row;", Cond.fieldLink RX5 26 "Approvalyard$Requests" "states" "LApprovalyard$Row;", Cond.methodLink RX5 52 yX6_at, Cond.methodLink RX5 60 yX1_versionOf, Cond.static yX1_versionOf, Cond.initialized RX1, Cond.code yX1_versionOf cX1_versionOf 2 (some .int)]
def wsX8_version_r5 : List Cond := [Cond.methodLink RX5 66 yX5_approvalsOf, Cond.instanceMethod yX5_approvalsOf, Cond.selects RX5 yX5_approvalsOf yX5_approvalsOf, Cond.code yX5_approvalsOf cX5_approvalsOf 5 (some .int), Cond.methodLink RX5 56 yX5_hasApproval, Cond.instanceMethod yX5_hasApproval, Cond.selects RX5 yX5_hasApproval yX5_hasApproval, Cond.code yX5_hasApproval cX5_hasApproval 4 (some .boolean), Cond.fieldLink RX5 35 "Approvalyard$Requests" "ends" "LApprovalyard$Row;", Cond.methodLink RX5 49 yX5_endApprovals, Cond.instanceMethod yX5_endApprovals, Cond.selects RX5 yX5_endApprovals yX5_endApprovals, Cond.code yX5_endApprovals cX5_endApprovals 3 none, Cond.methodLink RX5 42 yX6_put, Cond.methodLink RX5 46 yX5_reopen, Cond.instanceMethod yX5_reopen, Cond.selects RX5 yX5_reopen yX5_reopen, Cond.code yX5_reopen cX5_reopen 2 none, Cond.fieldLink RX5 32 "Approvalyard$Requests" "costs" "LApprovalyard$Row;", Cond.methodLink RX2 63 yX5_add, Cond.instanceMethod yX5_add, Cond.selects RX5 yX5_add yX5_add, Cond.code yX5_add cX5_add 5 (some .int), Cond.fieldLink RX5 14 "Approvalyard$Requests" "people" "LApprovalyard$Row;"]
def wsX8_version_r6 : List Cond := [Cond.fieldLink RX5 20 "Approvalyard$Requests" "parts" "LApprovalyard$Row;", Cond.fieldLink RX5 23 "Approvalyard$Requests" "leasts" "LApprovalyard$Row;", Cond.methodLink RX2 66 yX3_costOf, Cond.instanceMethod yX3_costOf, Cond.selects RX3 yX3_costOf yX3_costOf, Cond.code yX3_costOf cX3_costOf 5 (some .int), Cond.methodLink RX3 57 yX1_versionOf, Cond.methodLink RX2 70 yX5_settle, Cond.instanceMethod yX5_settle, Cond.selects RX5 yX5_settle yX5_settle, Cond.code yX5_settle cX5_settle 4 (some .int), Cond.methodLink RX2 73 yX4_changeLimit, Cond.instanceMethod yX4_changeLimit, Cond.selects RX4 yX4_changeLimit yX4_changeLimit, Cond.code yX4_changeLimit cX4_changeLimit 4 (some .int), Cond.fieldLink RX4 14 "Approvalyard$People" "limits" "LApprovalyard$Row;", Cond.methodLink RX4 33 yX6_at, Cond.methodLink RX4 37 yX6_put, Cond.methodLink RX2 76 yX4_sendOnLeave, Cond.instanceMethod yX4_sendOnLeave, Cond.selects RX4 yX4_sendOnLeave yX4_sendOnLeave, Cond.code yX4_sendOnLeave cX4_sendOnLeave 4 (some .int), Cond.fieldLink RX4 20 "Approvalyard$People" "delegates" "LApprovalyard$Row;", Cond.fieldLink RX4 23 "Approvalyard$People" "backs" "LApprovalyard$Row;"]
def wsX8_version_r7 : List Cond := [Cond.methodLink RX2 79 yX2_takeApproval, Cond.instanceMethod yX2_takeApproval, Cond.selects RX2 yX2_takeApproval yX2_takeApproval, Cond.code yX2_takeApproval cX2_takeApproval 5 (some .int), Cond.constant RX2 107 (2147483647), Cond.methodLink RX2 98 yX5_costOf, Cond.instanceMethod yX5_costOf, Cond.selects RX5 yX5_costOf yX5_costOf, Cond.code yX5_costOf cX5_costOf 2 (some .int), Cond.methodLink RX2 99 yX4_principalOf, Cond.instanceMethod yX4_principalOf, Cond.selects RX4 yX4_principalOf yX4_principalOf, Cond.code yX4_principalOf cX4_principalOf 4 (some .int), Cond.methodLink RX4 41 yX4_isAway, Cond.instanceMethod yX4_isAway, Cond.selects RX4 yX4_isAway yX4_isAway, Cond.code yX4_isAway cX4_isAway 2 (some .boolean), Cond.methodLink RX2 108 yX4_backOf, Cond.instanceMethod yX4_backOf, Cond.selects RX4 yX4_backOf yX4_backOf, Cond.code yX4_backOf cX4_backOf 2 (some .int), Cond.methodLink RX2 111 yX5_addApproval, Cond.instanceMethod yX5_addApproval, Cond.selects RX5 yX5_addApproval yX5_addApproval]
def wsX8_version_r8 : List Cond := [Cond.code yX5_addApproval cX5_addApproval 4 none, Cond.methodLink RX2 82 yX5_markReleased, Cond.instanceMethod yX5_markReleased, Cond.selects RX5 yX5_markReleased yX5_markReleased, Cond.code yX5_markReleased cX5_markReleased 2 (some .int), Cond.methodLink RX2 85 yX4_addDays, Cond.instanceMethod yX4_addDays, Cond.selects RX4 yX4_addDays yX4_addDays, Cond.code yX4_addDays cX4_addDays 2 (some .int)]
def wsX8_version : List Cond := .code yX8_version cX8_version 3 (some .int) :: ((wsX8_version_r1 ++ (wsX8_version_r2 ++ (wsX8_version_r3 ++ (wsX8_version_r4 ++ (wsX8_version_r5 ++ (wsX8_version_r6 ++ (wsX8_version_r7 ++ wsX8_version_r8))))))) ++ wsX80 ++ wsX20 ++ wsX30 ++ wsX60 ++ wsX00 ++ wsX40 ++ wsX50 ++ (vx_atS RX8 41 "java/lang/IllegalArgumentException" ["java/lang/RuntimeException", "java/lang/Exception"]).filter goodWord ++ (vx_atS RX8 58 "java/lang/IllegalStateException" ["java/lang/RuntimeException", "java/lang/Exception"]).filter goodWord ++ (vx_atS RX8 182 "java/lang/IndexOutOfBoundsException" ["java/lang/RuntimeException", "java/lang/Exception"]).filter goodWord)
def wsX8_checkVersion : List Cond := .code yX8_checkVersion cX8_checkVersion 3 none :: ([.classLink RX8 178 "java/lang/IndexOutOfBoundsException", .initialized "java/lang/IndexOutOfBoundsException", .fieldLink RX8 19 "Approvalyard" "desk" "LApprovalyard$Desk;", .fieldLink RX8 44 "Approvalyard$Desk" "parts" "LApprovalyard$Parts;", .methodLink RX8 48 yX3_countOf, .instanceMethod yX3_countOf, .selects RX3 yX3_countOf yX3_countOf, .initialized RX3, .code yX3_countOf cX3_countOf 2 (some .int), .fieldLink RX3 14 "Approvalyard$Parts" "counts" "LApprovalyard$Row;", .methodLink RX3 38 yX6_at, .instanceMethod yX6_at, .selects RX6 yX6_at yX6_at, .initialized RX6, .code yX6_at cX6_at 2 (some .int), .fieldLink RX6 7 "Approvalyard$Row" "cells" "[I"] ++ wsX80 ++ wsX20 ++ wsX30 ++ wsX60 ++ (vx_atS RX8 182 "java/lang/IndexOutOfBoundsException" ["java/lang/RuntimeException", "java/lang/Exception"]).filter goodWord)
def wsX8_checkLeast : List Cond := .code yX8_checkLeast cX8_checkLeast 1 none :: ([.classLink RX8 37 "java/lang/IllegalArgumentException", .initialized "java/lang/IllegalArgumentException"] ++ (vx_atS RX8 41 "java/lang/IllegalArgumentException" ["java/lang/RuntimeException", "java/lang/Exception"]).filter goodWord)
def wsX8_need_r1 : List Cond := [Cond.classLink RX8 37 "java/lang/IllegalArgumentException", Cond.initialized "java/lang/IllegalArgumentException", Cond.classLink RX8 54 "java/lang/IllegalStateException", Cond.initialized "java/lang/IllegalStateException", Cond.fieldLink RX8 19 "Approvalyard" "desk" "LApprovalyard$Desk;", Cond.fieldLink RX8 44 "Approvalyard$Desk" "parts" "LApprovalyard$Parts;", Cond.fieldLink RX8 10 "Approvalyard" "book" "LApprovalyard$Book;", Cond.methodLink RX8 33 yX8_checkPart, Cond.static yX8_checkPart, Cond.initialized RX8, Cond.code yX8_checkPart cX8_checkPart 1 none, Cond.classLink RX8 178 "java/lang/IndexOutOfBoundsException", Cond.initialized "java/lang/IndexOutOfBoundsException", Cond.methodLink RX8 63 yX8_checkVersion, Cond.instanceMethod yX8_checkVersion, Cond.selects RX8 yX8_checkVersion yX8_checkVersion, Cond.code yX8_checkVersion cX8_checkVersion 3 none, Cond.methodLink RX8 48 yX3_countOf, Cond.instanceMethod yX3_countOf, Cond.selects RX3 yX3_countOf yX3_countOf, Cond.initialized RX3, Cond.code yX3_countOf cX3_countOf 2 (some .int), Cond.fieldLink RX3 14 "Approvalyard$Parts" "counts" "LApprovalyard$Row;", Cond.methodLink RX3 38 yX6_at]
def wsX8_need_r2 : List Cond := [Cond.instanceMethod yX6_at, Cond.selects RX6 yX6_at yX6_at, Cond.initialized RX6, Cond.code yX6_at cX6_at 2 (some .int), Cond.fieldLink RX6 7 "Approvalyard$Row" "cells" "[I", Cond.methodLink RX8 69 yX8_checkLeast, Cond.static yX8_checkLeast, Cond.code yX8_checkLeast cX8_checkLeast 1 none, Cond.methodLink RX8 74 yX3_needsOf, Cond.instanceMethod yX3_needsOf, Cond.selects RX3 yX3_needsOf yX3_needsOf, Cond.code yX3_needsOf cX3_needsOf 3 (some .int), Cond.fieldLink RX3 26 "Approvalyard$Parts" "needCounts" "LApprovalyard$Row;", Cond.methodLink RX3 42 yX3_placeOf, Cond.static yX3_placeOf, Cond.code yX3_placeOf cX3_placeOf 2 (some .int), Cond.methodLink RX8 80 yX0_write, Cond.instanceMethod yX0_write, Cond.selects RX0 yX0_write yX0_write, Cond.initialized RX0, Cond.code yX0_write cX0_write 8 (some .int), Cond.fieldLink RX0 20 "Approvalyard$Book" "number" "I", Cond.fieldLink RX0 16 "Approvalyard$Book" "words" "LApprovalyard$Row;", Cond.methodLink RX0 24 yX6_put]
def wsX8_need_r3 : List Cond := [Cond.instanceMethod yX6_put, Cond.selects RX6 yX6_put yX6_put, Cond.code yX6_put cX6_put 3 none, Cond.methodLink RX8 84 yX2_apply, Cond.instanceMethod yX2_apply, Cond.selects RX2 yX2_apply yX2_apply, Cond.initialized RX2, Cond.code yX2_apply cX2_apply 6 (some .int), Cond.fieldLink RX2 12 "Approvalyard$Desk" "parts" "LApprovalyard$Parts;", Cond.fieldLink RX2 28 "Approvalyard$Desk" "requests" "LApprovalyard$Requests;", Cond.fieldLink RX2 21 "Approvalyard$Desk" "people" "LApprovalyard$People;", Cond.methodLink RX2 38 yX0_wordOf, Cond.instanceMethod yX0_wordOf, Cond.selects RX0 yX0_wordOf yX0_wordOf, Cond.code yX0_wordOf cX0_wordOf 3 (some .int), Cond.methodLink RX0 28 yX6_at, Cond.methodLink RX2 44 yX3_addVersion, Cond.instanceMethod yX3_addVersion, Cond.selects RX3 yX3_addVersion yX3_addVersion, Cond.code yX3_addVersion cX3_addVersion 5 (some .int), Cond.fieldLink RX3 20 "Approvalyard$Parts" "costs" "LApprovalyard$Row;", Cond.fieldLink RX3 23 "Approvalyard$Parts" "replaced" "LApprovalyard$Row;", Cond.methodLink RX3 46 yX6_put, Cond.methodLink RX2 47 yX3_addNeed]
def wsX8_need_r4 : List Cond := [Cond.instanceMethod yX3_addNeed, Cond.selects RX3 yX3_addNeed yX3_addNeed, Cond.code yX3_addNeed cX3_addNeed 8 (some .int), Cond.fieldLink RX3 29 "Approvalyard$Parts" "needParts" "LApprovalyard$Row;", Cond.fieldLink RX3 32 "Approvalyard$Parts" "needVersions" "LApprovalyard$Row;", Cond.methodLink RX3 50 yX3_versionSet, Cond.static yX3_versionSet, Cond.code yX3_versionSet cX3_versionSet 2 (some .int), Cond.methodLink RX2 51 yX3_markReplaced, Cond.instanceMethod yX3_markReplaced, Cond.selects RX3 yX3_markReplaced yX3_markReplaced, Cond.code yX3_markReplaced cX3_markReplaced 3 none, Cond.methodLink RX2 55 yX4_today, Cond.instanceMethod yX4_today, Cond.selects RX4 yX4_today yX4_today, Cond.initialized RX4, Cond.code yX4_today cX4_today 1 (some .int), Cond.fieldLink RX4 29 "Approvalyard$People" "day" "I", Cond.methodLink RX2 59 yX5_loseVersion, Cond.instanceMethod yX5_loseVersion, Cond.selects RX5 yX5_loseVersion yX5_loseVersion, Cond.initialized RX5, Cond.code yX5_loseVersion cX5_loseVersion 6 (some .int), Cond.fieldLink RX5 38 "Approvalyard$Requests" "number" "I"]
def wsX8_need_r5 : List Cond := [Cond.fieldLink RX5 29 "Approvalyard$Requests" "choices" "LApprovalyard$Row;", Cond.fieldLink RX5 26 "Approvalyard$Requests" "states" "LApprovalyard$Row;", Cond.methodLink RX5 52 yX6_at, Cond.methodLink RX5 60 yX1_versionOf, Cond.static yX1_versionOf, Cond.initialized RX1, Cond.code yX1_versionOf cX1_versionOf 2 (some .int), Cond.methodLink RX5 66 yX5_approvalsOf, Cond.instanceMethod yX5_approvalsOf, Cond.selects RX5 yX5_approvalsOf yX5_approvalsOf, Cond.code yX5_approvalsOf cX5_approvalsOf 5 (some .int), Cond.methodLink RX5 56 yX5_hasApproval, Cond.instanceMethod yX5_hasApproval, Cond.selects RX5 yX5_hasApproval yX5_hasApproval, Cond.code yX5_hasApproval cX5_hasApproval 4 (some .boolean), Cond.fieldLink RX5 35 "Approvalyard$Requests" "ends" "LApprovalyard$Row;", Cond.methodLink RX5 49 yX5_endApprovals, Cond.instanceMethod yX5_endApprovals, Cond.selects RX5 yX5_endApprovals yX5_endApprovals, Cond.code yX5_endApprovals cX5_endApprovals 3 none, Cond.methodLink RX5 42 yX6_put, Cond.methodLink RX5 46 yX5_reopen, Cond.instanceMethod yX5_reopen, Cond.selects RX5 yX5_reopen yX5_reopen]
def wsX8_need_r6 : List Cond := [Cond.code yX5_reopen cX5_reopen 2 none, Cond.fieldLink RX5 32 "Approvalyard$Requests" "costs" "LApprovalyard$Row;", Cond.methodLink RX2 63 yX5_add, Cond.instanceMethod yX5_add, Cond.selects RX5 yX5_add yX5_add, Cond.code yX5_add cX5_add 5 (some .int), Cond.fieldLink RX5 14 "Approvalyard$Requests" "people" "LApprovalyard$Row;", Cond.fieldLink RX5 20 "Approvalyard$Requests" "parts" "LApprovalyard$Row;", Cond.fieldLink RX5 23 "Approvalyard$Requests" "leasts" "LApprovalyard$Row;", Cond.methodLink RX2 66 yX3_costOf, Cond.instanceMethod yX3_costOf, Cond.selects RX3 yX3_costOf yX3_costOf, Cond.code yX3_costOf cX3_costOf 5 (some .int), Cond.methodLink RX3 57 yX1_versionOf, Cond.methodLink RX2 70 yX5_settle, Cond.instanceMethod yX5_settle, Cond.selects RX5 yX5_settle yX5_settle, Cond.code yX5_settle cX5_settle 4 (some .int), Cond.methodLink RX2 73 yX4_changeLimit, Cond.instanceMethod yX4_changeLimit, Cond.selects RX4 yX4_changeLimit yX4_changeLimit, Cond.code yX4_changeLimit cX4_changeLimit 4 (some .int), Cond.fieldLink RX4 14 "Approvalyard$People" "limits" "LApprovalyard$Row;", Cond.methodLink RX4 33 yX6_at]
def wsX8_need_r7 : List Cond := [Cond.methodLink RX4 37 yX6_put, Cond.methodLink RX2 76 yX4_sendOnLeave, Cond.instanceMethod yX4_sendOnLeave, Cond.selects RX4 yX4_sendOnLeave yX4_sendOnLeave, Cond.code yX4_sendOnLeave cX4_sendOnLeave 4 (some .int), Cond.fieldLink RX4 20 "Approvalyard$People" "delegates" "LApprovalyard$Row;", Cond.fieldLink RX4 23 "Approvalyard$People" "backs" "LApprovalyard$Row;", Cond.methodLink RX2 79 yX2_takeApproval, Cond.instanceMethod yX2_takeApproval, Cond.selects RX2 yX2_takeApproval yX2_takeApproval, Cond.code yX2_takeApproval cX2_takeApproval 5 (some .int), Cond.constant RX2 107 (2147483647), Cond.methodLink RX2 98 yX5_costOf, Cond.instanceMethod yX5_costOf, Cond.selects RX5 yX5_costOf yX5_costOf, Cond.code yX5_costOf cX5_costOf 2 (some .int), Cond.methodLink RX2 99 yX4_principalOf, Cond.instanceMethod yX4_principalOf, Cond.selects RX4 yX4_principalOf yX4_principalOf, Cond.code yX4_principalOf cX4_principalOf 4 (some .int), Cond.methodLink RX4 41 yX4_isAway, Cond.instanceMethod yX4_isAway, Cond.selects RX4 yX4_isAway yX4_isAway, Cond.code yX4_isAway cX4_isAway 2 (some .boolean)]
def wsX8_need_r8 : List Cond := [Cond.methodLink RX2 108 yX4_backOf, Cond.instanceMethod yX4_backOf, Cond.selects RX4 yX4_backOf yX4_backOf, Cond.code yX4_backOf cX4_backOf 2 (some .int), Cond.methodLink RX2 111 yX5_addApproval, Cond.instanceMethod yX5_addApproval, Cond.selects RX5 yX5_addApproval yX5_addApproval, Cond.code yX5_addApproval cX5_addApproval 4 none, Cond.methodLink RX2 82 yX5_markReleased, Cond.instanceMethod yX5_markReleased, Cond.selects RX5 yX5_markReleased yX5_markReleased, Cond.code yX5_markReleased cX5_markReleased 2 (some .int), Cond.methodLink RX2 85 yX4_addDays, Cond.instanceMethod yX4_addDays, Cond.selects RX4 yX4_addDays yX4_addDays, Cond.code yX4_addDays cX4_addDays 2 (some .int)]
def wsX8_need : List Cond := .code yX8_need cX8_need 6 (some .int) :: ((wsX8_need_r1 ++ (wsX8_need_r2 ++ (wsX8_need_r3 ++ (wsX8_need_r4 ++ (wsX8_need_r5 ++ (wsX8_need_r6 ++ (wsX8_need_r7 ++ wsX8_need_r8))))))) ++ wsX80 ++ wsX20 ++ wsX30 ++ wsX60 ++ wsX00 ++ wsX40 ++ wsX50 ++ (vx_atS RX8 41 "java/lang/IllegalArgumentException" ["java/lang/RuntimeException", "java/lang/Exception"]).filter goodWord ++ (vx_atS RX8 58 "java/lang/IllegalStateException" ["java/lang/RuntimeException", "java/lang/Exception"]).filter goodWord ++ (vx_atS RX8 182 "java/lang/IndexOutOfBoundsException" ["java/lang/RuntimeException", "java/lang/Exception"]).filter goodWord)
def wsX8_replace_r1 : List Cond := [Cond.classLink RX8 54 "java/lang/IllegalStateException", Cond.initialized "java/lang/IllegalStateException", Cond.fieldLink RX8 19 "Approvalyard" "desk" "LApprovalyard$Desk;", Cond.fieldLink RX8 44 "Approvalyard$Desk" "parts" "LApprovalyard$Parts;", Cond.methodLink RX8 33 yX8_checkPart, Cond.static yX8_checkPart, Cond.initialized RX8, Cond.code yX8_checkPart cX8_checkPart 1 none, Cond.classLink RX8 178 "java/lang/IndexOutOfBoundsException", Cond.initialized "java/lang/IndexOutOfBoundsException", Cond.methodLink RX8 63 yX8_checkVersion, Cond.instanceMethod yX8_checkVersion, Cond.selects RX8 yX8_checkVersion yX8_checkVersion, Cond.code yX8_checkVersion cX8_checkVersion 3 none, Cond.methodLink RX8 48 yX3_countOf, Cond.instanceMethod yX3_countOf, Cond.selects RX3 yX3_countOf yX3_countOf, Cond.initialized RX3, Cond.code yX3_countOf cX3_countOf 2 (some .int), Cond.fieldLink RX3 14 "Approvalyard$Parts" "counts" "LApprovalyard$Row;", Cond.methodLink RX3 38 yX6_at, Cond.instanceMethod yX6_at, Cond.selects RX6 yX6_at yX6_at, Cond.initialized RX6]
def wsX8_replace_r2 : List Cond := [Cond.code yX6_at cX6_at 2 (some .int), Cond.fieldLink RX6 7 "Approvalyard$Row" "cells" "[I", Cond.methodLink RX8 88 yX3_isReplaced, Cond.instanceMethod yX3_isReplaced, Cond.selects RX3 yX3_isReplaced yX3_isReplaced, Cond.code yX3_isReplaced cX3_isReplaced 3 (some .boolean), Cond.fieldLink RX3 23 "Approvalyard$Parts" "replaced" "LApprovalyard$Row;", Cond.methodLink RX3 42 yX3_placeOf, Cond.static yX3_placeOf, Cond.code yX3_placeOf cX3_placeOf 2 (some .int), Cond.methodLink RX8 59 yX8_tell, Cond.instanceMethod yX8_tell, Cond.selects RX8 yX8_tell yX8_tell, Cond.code yX8_tell cX8_tell 5 (some .int), Cond.fieldLink RX8 10 "Approvalyard" "book" "LApprovalyard$Book;", Cond.methodLink RX8 80 yX0_write, Cond.instanceMethod yX0_write, Cond.selects RX0 yX0_write yX0_write, Cond.initialized RX0, Cond.code yX0_write cX0_write 8 (some .int), Cond.fieldLink RX0 20 "Approvalyard$Book" "number" "I", Cond.fieldLink RX0 16 "Approvalyard$Book" "words" "LApprovalyard$Row;", Cond.methodLink RX0 24 yX6_put, Cond.instanceMethod yX6_put]
def wsX8_replace_r3 : List Cond := [Cond.selects RX6 yX6_put yX6_put, Cond.code yX6_put cX6_put 3 none, Cond.methodLink RX8 84 yX2_apply, Cond.instanceMethod yX2_apply, Cond.selects RX2 yX2_apply yX2_apply, Cond.initialized RX2, Cond.code yX2_apply cX2_apply 6 (some .int), Cond.fieldLink RX2 12 "Approvalyard$Desk" "parts" "LApprovalyard$Parts;", Cond.fieldLink RX2 28 "Approvalyard$Desk" "requests" "LApprovalyard$Requests;", Cond.fieldLink RX2 21 "Approvalyard$Desk" "people" "LApprovalyard$People;", Cond.methodLink RX2 38 yX0_wordOf, Cond.instanceMethod yX0_wordOf, Cond.selects RX0 yX0_wordOf yX0_wordOf, Cond.code yX0_wordOf cX0_wordOf 3 (some .int), Cond.methodLink RX0 28 yX6_at, Cond.methodLink RX2 44 yX3_addVersion, Cond.instanceMethod yX3_addVersion, Cond.selects RX3 yX3_addVersion yX3_addVersion, Cond.code yX3_addVersion cX3_addVersion 5 (some .int), Cond.fieldLink RX3 20 "Approvalyard$Parts" "costs" "LApprovalyard$Row;", Cond.fieldLink RX3 26 "Approvalyard$Parts" "needCounts" "LApprovalyard$Row;", Cond.methodLink RX3 46 yX6_put, Cond.methodLink RX2 47 yX3_addNeed, Cond.instanceMethod yX3_addNeed]
def wsX8_replace_r4 : List Cond := [Cond.selects RX3 yX3_addNeed yX3_addNeed, Cond.code yX3_addNeed cX3_addNeed 8 (some .int), Cond.fieldLink RX3 29 "Approvalyard$Parts" "needParts" "LApprovalyard$Row;", Cond.fieldLink RX3 32 "Approvalyard$Parts" "needVersions" "LApprovalyard$Row;", Cond.methodLink RX3 50 yX3_versionSet, Cond.static yX3_versionSet, Cond.code yX3_versionSet cX3_versionSet 2 (some .int), Cond.methodLink RX2 51 yX3_markReplaced, Cond.instanceMethod yX3_markReplaced, Cond.selects RX3 yX3_markReplaced yX3_markReplaced, Cond.code yX3_markReplaced cX3_markReplaced 3 none, Cond.methodLink RX2 55 yX4_today, Cond.instanceMethod yX4_today, Cond.selects RX4 yX4_today yX4_today, Cond.initialized RX4, Cond.code yX4_today cX4_today 1 (some .int), Cond.fieldLink RX4 29 "Approvalyard$People" "day" "I", Cond.methodLink RX2 59 yX5_loseVersion, Cond.instanceMethod yX5_loseVersion, Cond.selects RX5 yX5_loseVersion yX5_loseVersion, Cond.initialized RX5, Cond.code yX5_loseVersion cX5_loseVersion 6 (some .int), Cond.fieldLink RX5 38 "Approvalyard$Requests" "number" "I", Cond.fieldLink RX5 29 "Approvalyard$Requests" "choices" "LApprovalyard$Row;"]
def wsX8_replace_r5 : List Cond := [Cond.fieldLink RX5 26 "Approvalyard$Requests" "states" "LApprovalyard$Row;", Cond.methodLink RX5 52 yX6_at, Cond.methodLink RX5 60 yX1_versionOf, Cond.static yX1_versionOf, Cond.initialized RX1, Cond.code yX1_versionOf cX1_versionOf 2 (some .int), Cond.methodLink RX5 66 yX5_approvalsOf, Cond.instanceMethod yX5_approvalsOf, Cond.selects RX5 yX5_approvalsOf yX5_approvalsOf, Cond.code yX5_approvalsOf cX5_approvalsOf 5 (some .int), Cond.methodLink RX5 56 yX5_hasApproval, Cond.instanceMethod yX5_hasApproval, Cond.selects RX5 yX5_hasApproval yX5_hasApproval, Cond.code yX5_hasApproval cX5_hasApproval 4 (some .boolean), Cond.fieldLink RX5 35 "Approvalyard$Requests" "ends" "LApprovalyard$Row;", Cond.methodLink RX5 49 yX5_endApprovals, Cond.instanceMethod yX5_endApprovals, Cond.selects RX5 yX5_endApprovals yX5_endApprovals, Cond.code yX5_endApprovals cX5_endApprovals 3 none, Cond.methodLink RX5 42 yX6_put, Cond.methodLink RX5 46 yX5_reopen, Cond.instanceMethod yX5_reopen, Cond.selects RX5 yX5_reopen yX5_reopen, Cond.code yX5_reopen cX5_reopen 2 none]
def wsX8_replace_r6 : List Cond := [Cond.fieldLink RX5 32 "Approvalyard$Requests" "costs" "LApprovalyard$Row;", Cond.methodLink RX2 63 yX5_add, Cond.instanceMethod yX5_add, Cond.selects RX5 yX5_add yX5_add, Cond.code yX5_add cX5_add 5 (some .int), Cond.fieldLink RX5 14 "Approvalyard$Requests" "people" "LApprovalyard$Row;", Cond.fieldLink RX5 20 "Approvalyard$Requests" "parts" "LApprovalyard$Row;", Cond.fieldLink RX5 23 "Approvalyard$Requests" "leasts" "LApprovalyard$Row;", Cond.methodLink RX2 66 yX3_costOf, Cond.instanceMethod yX3_costOf, Cond.selects RX3 yX3_costOf yX3_costOf, Cond.code yX3_costOf cX3_costOf 5 (some .int), Cond.methodLink RX3 57 yX1_versionOf, Cond.methodLink RX2 70 yX5_settle, Cond.instanceMethod yX5_settle, Cond.selects RX5 yX5_settle yX5_settle, Cond.code yX5_settle cX5_settle 4 (some .int), Cond.methodLink RX2 73 yX4_changeLimit, Cond.instanceMethod yX4_changeLimit, Cond.selects RX4 yX4_changeLimit yX4_changeLimit, Cond.code yX4_changeLimit cX4_changeLimit 4 (some .int), Cond.fieldLink RX4 14 "Approvalyard$People" "limits" "LApprovalyard$Row;", Cond.methodLink RX4 33 yX6_at, Cond.methodLink RX4 37 yX6_put]
def wsX8_replace_r7 : List Cond := [Cond.methodLink RX2 76 yX4_sendOnLeave, Cond.instanceMethod yX4_sendOnLeave, Cond.selects RX4 yX4_sendOnLeave yX4_sendOnLeave, Cond.code yX4_sendOnLeave cX4_sendOnLeave 4 (some .int), Cond.fieldLink RX4 20 "Approvalyard$People" "delegates" "LApprovalyard$Row;", Cond.fieldLink RX4 23 "Approvalyard$People" "backs" "LApprovalyard$Row;", Cond.methodLink RX2 79 yX2_takeApproval, Cond.instanceMethod yX2_takeApproval, Cond.selects RX2 yX2_takeApproval yX2_takeApproval, Cond.code yX2_takeApproval cX2_takeApproval 5 (some .int), Cond.constant RX2 107 (2147483647), Cond.methodLink RX2 98 yX5_costOf, Cond.instanceMethod yX5_costOf, Cond.selects RX5 yX5_costOf yX5_costOf, Cond.code yX5_costOf cX5_costOf 2 (some .int), Cond.methodLink RX2 99 yX4_principalOf, Cond.instanceMethod yX4_principalOf, Cond.selects RX4 yX4_principalOf yX4_principalOf, Cond.code yX4_principalOf cX4_principalOf 4 (some .int), Cond.methodLink RX4 41 yX4_isAway, Cond.instanceMethod yX4_isAway, Cond.selects RX4 yX4_isAway yX4_isAway, Cond.code yX4_isAway cX4_isAway 2 (some .boolean), Cond.methodLink RX2 108 yX4_backOf]
def wsX8_replace_r8 : List Cond := [Cond.instanceMethod yX4_backOf, Cond.selects RX4 yX4_backOf yX4_backOf, Cond.code yX4_backOf cX4_backOf 2 (some .int), Cond.methodLink RX2 111 yX5_addApproval, Cond.instanceMethod yX5_addApproval, Cond.selects RX5 yX5_addApproval yX5_addApproval, Cond.code yX5_addApproval cX5_addApproval 4 none, Cond.methodLink RX2 82 yX5_markReleased, Cond.instanceMethod yX5_markReleased, Cond.selects RX5 yX5_markReleased yX5_markReleased, Cond.code yX5_markReleased cX5_markReleased 2 (some .int), Cond.methodLink RX2 85 yX4_addDays, Cond.instanceMethod yX4_addDays, Cond.selects RX4 yX4_addDays yX4_addDays, Cond.code yX4_addDays cX4_addDays 2 (some .int)]
def wsX8_replace : List Cond := .code yX8_replace cX8_replace 3 (some .int) :: ((wsX8_replace_r1 ++ (wsX8_replace_r2 ++ (wsX8_replace_r3 ++ (wsX8_replace_r4 ++ (wsX8_replace_r5 ++ (wsX8_replace_r6 ++ (wsX8_replace_r7 ++ wsX8_replace_r8))))))) ++ wsX80 ++ wsX20 ++ wsX30 ++ wsX60 ++ wsX00 ++ wsX40 ++ wsX50 ++ (vx_atS RX8 58 "java/lang/IllegalStateException" ["java/lang/RuntimeException", "java/lang/Exception"]).filter goodWord ++ (vx_atS RX8 182 "java/lang/IndexOutOfBoundsException" ["java/lang/RuntimeException", "java/lang/Exception"]).filter goodWord)
def wsX8_checkPerson : List Cond := .code yX8_checkPerson cX8_checkPerson 1 none :: ([.classLink RX8 178 "java/lang/IndexOutOfBoundsException", .initialized "java/lang/IndexOutOfBoundsException"] ++ (vx_atS RX8 182 "java/lang/IndexOutOfBoundsException" ["java/lang/RuntimeException", "java/lang/Exception"]).filter goodWord)
def wsX8_request_r1 : List Cond := [Cond.classLink RX8 54 "java/lang/IllegalStateException", Cond.initialized "java/lang/IllegalStateException", Cond.fieldLink RX8 19 "Approvalyard" "desk" "LApprovalyard$Desk;", Cond.fieldLink RX8 97 "Approvalyard$Desk" "requests" "LApprovalyard$Requests;", Cond.methodLink RX8 94 yX8_checkPerson, Cond.static yX8_checkPerson, Cond.initialized RX8, Cond.code yX8_checkPerson cX8_checkPerson 1 none, Cond.classLink RX8 178 "java/lang/IndexOutOfBoundsException", Cond.initialized "java/lang/IndexOutOfBoundsException", Cond.methodLink RX8 33 yX8_checkPart, Cond.static yX8_checkPart, Cond.code yX8_checkPart cX8_checkPart 1 none, Cond.methodLink RX8 69 yX8_checkLeast, Cond.static yX8_checkLeast, Cond.code yX8_checkLeast cX8_checkLeast 1 none, Cond.classLink RX8 37 "java/lang/IllegalArgumentException", Cond.initialized "java/lang/IllegalArgumentException", Cond.methodLink RX8 101 yX5_count, Cond.instanceMethod yX5_count, Cond.selects RX5 yX5_count yX5_count, Cond.initialized RX5, Cond.code yX5_count cX5_count 1 (some .int), Cond.fieldLink RX5 38 "Approvalyard$Requests" "number" "I"]
def wsX8_request_r2 : List Cond := [Cond.methodLink RX8 59 yX8_tell, Cond.instanceMethod yX8_tell, Cond.selects RX8 yX8_tell yX8_tell, Cond.code yX8_tell cX8_tell 5 (some .int), Cond.fieldLink RX8 10 "Approvalyard" "book" "LApprovalyard$Book;", Cond.methodLink RX8 80 yX0_write, Cond.instanceMethod yX0_write, Cond.selects RX0 yX0_write yX0_write, Cond.initialized RX0, Cond.code yX0_write cX0_write 8 (some .int), Cond.fieldLink RX0 20 "Approvalyard$Book" "number" "I", Cond.fieldLink RX0 16 "Approvalyard$Book" "words" "LApprovalyard$Row;", Cond.methodLink RX0 24 yX6_put, Cond.instanceMethod yX6_put, Cond.selects RX6 yX6_put yX6_put, Cond.initialized RX6, Cond.code yX6_put cX6_put 3 none, Cond.fieldLink RX6 7 "Approvalyard$Row" "cells" "[I", Cond.methodLink RX8 84 yX2_apply, Cond.instanceMethod yX2_apply, Cond.selects RX2 yX2_apply yX2_apply, Cond.initialized RX2, Cond.code yX2_apply cX2_apply 6 (some .int), Cond.fieldLink RX2 12 "Approvalyard$Desk" "parts" "LApprovalyard$Parts;"]
def wsX8_request_r3 : List Cond := [Cond.fieldLink RX2 28 "Approvalyard$Desk" "requests" "LApprovalyard$Requests;", Cond.fieldLink RX2 21 "Approvalyard$Desk" "people" "LApprovalyard$People;", Cond.methodLink RX2 38 yX0_wordOf, Cond.instanceMethod yX0_wordOf, Cond.selects RX0 yX0_wordOf yX0_wordOf, Cond.code yX0_wordOf cX0_wordOf 3 (some .int), Cond.methodLink RX0 28 yX6_at, Cond.instanceMethod yX6_at, Cond.selects RX6 yX6_at yX6_at, Cond.code yX6_at cX6_at 2 (some .int), Cond.methodLink RX2 44 yX3_addVersion, Cond.instanceMethod yX3_addVersion, Cond.selects RX3 yX3_addVersion yX3_addVersion, Cond.initialized RX3, Cond.code yX3_addVersion cX3_addVersion 5 (some .int), Cond.fieldLink RX3 14 "Approvalyard$Parts" "counts" "LApprovalyard$Row;", Cond.fieldLink RX3 20 "Approvalyard$Parts" "costs" "LApprovalyard$Row;", Cond.fieldLink RX3 23 "Approvalyard$Parts" "replaced" "LApprovalyard$Row;", Cond.fieldLink RX3 26 "Approvalyard$Parts" "needCounts" "LApprovalyard$Row;", Cond.methodLink RX3 38 yX6_at, Cond.methodLink RX3 42 yX3_placeOf, Cond.static yX3_placeOf, Cond.code yX3_placeOf cX3_placeOf 2 (some .int), Cond.methodLink RX3 46 yX6_put]
def wsX8_request_r4 : List Cond := [Cond.methodLink RX2 47 yX3_addNeed, Cond.instanceMethod yX3_addNeed, Cond.selects RX3 yX3_addNeed yX3_addNeed, Cond.code yX3_addNeed cX3_addNeed 8 (some .int), Cond.fieldLink RX3 29 "Approvalyard$Parts" "needParts" "LApprovalyard$Row;", Cond.fieldLink RX3 32 "Approvalyard$Parts" "needVersions" "LApprovalyard$Row;", Cond.methodLink RX3 50 yX3_versionSet, Cond.static yX3_versionSet, Cond.code yX3_versionSet cX3_versionSet 2 (some .int), Cond.methodLink RX2 51 yX3_markReplaced, Cond.instanceMethod yX3_markReplaced, Cond.selects RX3 yX3_markReplaced yX3_markReplaced, Cond.code yX3_markReplaced cX3_markReplaced 3 none, Cond.methodLink RX2 55 yX4_today, Cond.instanceMethod yX4_today, Cond.selects RX4 yX4_today yX4_today, Cond.initialized RX4, Cond.code yX4_today cX4_today 1 (some .int), Cond.fieldLink RX4 29 "Approvalyard$People" "day" "I", Cond.methodLink RX2 59 yX5_loseVersion, Cond.instanceMethod yX5_loseVersion, Cond.selects RX5 yX5_loseVersion yX5_loseVersion, Cond.code yX5_loseVersion cX5_loseVersion 6 (some .int), Cond.fieldLink RX5 29 "Approvalyard$Requests" "choices" "LApprovalyard$Row;"]
def wsX8_request_r5 : List Cond := [Cond.fieldLink RX5 26 "Approvalyard$Requests" "states" "LApprovalyard$Row;", Cond.methodLink RX5 52 yX6_at, Cond.methodLink RX5 60 yX1_versionOf, Cond.static yX1_versionOf, Cond.initialized RX1, Cond.code yX1_versionOf cX1_versionOf 2 (some .int), Cond.methodLink RX5 66 yX5_approvalsOf, Cond.instanceMethod yX5_approvalsOf, Cond.selects RX5 yX5_approvalsOf yX5_approvalsOf, Cond.code yX5_approvalsOf cX5_approvalsOf 5 (some .int), Cond.methodLink RX5 56 yX5_hasApproval, Cond.instanceMethod yX5_hasApproval, Cond.selects RX5 yX5_hasApproval yX5_hasApproval, Cond.code yX5_hasApproval cX5_hasApproval 4 (some .boolean), Cond.fieldLink RX5 35 "Approvalyard$Requests" "ends" "LApprovalyard$Row;", Cond.methodLink RX5 49 yX5_endApprovals, Cond.instanceMethod yX5_endApprovals, Cond.selects RX5 yX5_endApprovals yX5_endApprovals, Cond.code yX5_endApprovals cX5_endApprovals 3 none, Cond.methodLink RX5 42 yX6_put, Cond.methodLink RX5 46 yX5_reopen, Cond.instanceMethod yX5_reopen, Cond.selects RX5 yX5_reopen yX5_reopen, Cond.code yX5_reopen cX5_reopen 2 none]
def wsX8_request_r6 : List Cond := [Cond.fieldLink RX5 32 "Approvalyard$Requests" "costs" "LApprovalyard$Row;", Cond.methodLink RX2 63 yX5_add, Cond.instanceMethod yX5_add, Cond.selects RX5 yX5_add yX5_add, Cond.code yX5_add cX5_add 5 (some .int), Cond.fieldLink RX5 14 "Approvalyard$Requests" "people" "LApprovalyard$Row;", Cond.fieldLink RX5 20 "Approvalyard$Requests" "parts" "LApprovalyard$Row;", Cond.fieldLink RX5 23 "Approvalyard$Requests" "leasts" "LApprovalyard$Row;", Cond.methodLink RX2 66 yX3_costOf, Cond.instanceMethod yX3_costOf, Cond.selects RX3 yX3_costOf yX3_costOf, Cond.code yX3_costOf cX3_costOf 5 (some .int), Cond.methodLink RX3 57 yX1_versionOf, Cond.methodLink RX2 70 yX5_settle, Cond.instanceMethod yX5_settle, Cond.selects RX5 yX5_settle yX5_settle, Cond.code yX5_settle cX5_settle 4 (some .int), Cond.methodLink RX2 73 yX4_changeLimit, Cond.instanceMethod yX4_changeLimit, Cond.selects RX4 yX4_changeLimit yX4_changeLimit, Cond.code yX4_changeLimit cX4_changeLimit 4 (some .int), Cond.fieldLink RX4 14 "Approvalyard$People" "limits" "LApprovalyard$Row;", Cond.methodLink RX4 33 yX6_at, Cond.methodLink RX4 37 yX6_put]
def wsX8_request_r7 : List Cond := [Cond.methodLink RX2 76 yX4_sendOnLeave, Cond.instanceMethod yX4_sendOnLeave, Cond.selects RX4 yX4_sendOnLeave yX4_sendOnLeave, Cond.code yX4_sendOnLeave cX4_sendOnLeave 4 (some .int), Cond.fieldLink RX4 20 "Approvalyard$People" "delegates" "LApprovalyard$Row;", Cond.fieldLink RX4 23 "Approvalyard$People" "backs" "LApprovalyard$Row;", Cond.methodLink RX2 79 yX2_takeApproval, Cond.instanceMethod yX2_takeApproval, Cond.selects RX2 yX2_takeApproval yX2_takeApproval, Cond.code yX2_takeApproval cX2_takeApproval 5 (some .int), Cond.constant RX2 107 (2147483647), Cond.methodLink RX2 98 yX5_costOf, Cond.instanceMethod yX5_costOf, Cond.selects RX5 yX5_costOf yX5_costOf, Cond.code yX5_costOf cX5_costOf 2 (some .int), Cond.methodLink RX2 99 yX4_principalOf, Cond.instanceMethod yX4_principalOf, Cond.selects RX4 yX4_principalOf yX4_principalOf, Cond.code yX4_principalOf cX4_principalOf 4 (some .int), Cond.methodLink RX4 41 yX4_isAway, Cond.instanceMethod yX4_isAway, Cond.selects RX4 yX4_isAway yX4_isAway, Cond.code yX4_isAway cX4_isAway 2 (some .boolean), Cond.methodLink RX2 108 yX4_backOf]
def wsX8_request_r8 : List Cond := [Cond.instanceMethod yX4_backOf, Cond.selects RX4 yX4_backOf yX4_backOf, Cond.code yX4_backOf cX4_backOf 2 (some .int), Cond.methodLink RX2 111 yX5_addApproval, Cond.instanceMethod yX5_addApproval, Cond.selects RX5 yX5_addApproval yX5_addApproval, Cond.code yX5_addApproval cX5_addApproval 4 none, Cond.methodLink RX2 82 yX5_markReleased, Cond.instanceMethod yX5_markReleased, Cond.selects RX5 yX5_markReleased yX5_markReleased, Cond.code yX5_markReleased cX5_markReleased 2 (some .int), Cond.methodLink RX2 85 yX4_addDays, Cond.instanceMethod yX4_addDays, Cond.selects RX4 yX4_addDays yX4_addDays, Cond.code yX4_addDays cX4_addDays 2 (some .int)]
def wsX8_request : List Cond := .code yX8_request cX8_request 4 (some .int) :: ((wsX8_request_r1 ++ (wsX8_request_r2 ++ (wsX8_request_r3 ++ (wsX8_request_r4 ++ (wsX8_request_r5 ++ (wsX8_request_r6 ++ (wsX8_request_r7 ++ wsX8_request_r8))))))) ++ wsX80 ++ wsX20 ++ wsX50 ++ wsX00 ++ wsX60 ++ wsX30 ++ wsX40 ++ (vx_atS RX8 58 "java/lang/IllegalStateException" ["java/lang/RuntimeException", "java/lang/Exception"]).filter goodWord ++ (vx_atS RX8 182 "java/lang/IndexOutOfBoundsException" ["java/lang/RuntimeException", "java/lang/Exception"]).filter goodWord ++ (vx_atS RX8 41 "java/lang/IllegalArgumentException" ["java/lang/RuntimeException", "java/lang/Exception"]).filter goodWord)
def wsX8_checkRequest : List Cond := .code yX8_checkRequest cX8_checkRequest 2 none :: ([.classLink RX8 178 "java/lang/IndexOutOfBoundsException", .initialized "java/lang/IndexOutOfBoundsException", .fieldLink RX8 19 "Approvalyard" "desk" "LApprovalyard$Desk;", .fieldLink RX8 97 "Approvalyard$Desk" "requests" "LApprovalyard$Requests;", .methodLink RX8 101 yX5_count, .instanceMethod yX5_count, .selects RX5 yX5_count yX5_count, .initialized RX5, .code yX5_count cX5_count 1 (some .int), .fieldLink RX5 38 "Approvalyard$Requests" "number" "I"] ++ wsX80 ++ wsX20 ++ wsX50 ++ (vx_atS RX8 182 "java/lang/IndexOutOfBoundsException" ["java/lang/RuntimeException", "java/lang/Exception"]).filter goodWord)
def wsX8_resolve_r1 : List Cond := [Cond.classLink RX8 54 "java/lang/IllegalStateException", Cond.initialized "java/lang/IllegalStateException", Cond.fieldLink RX8 19 "Approvalyard" "desk" "LApprovalyard$Desk;", Cond.fieldLink RX8 97 "Approvalyard$Desk" "requests" "LApprovalyard$Requests;", Cond.fieldLink RX8 29 "Approvalyard" "search" "LApprovalyard$Search;", Cond.fieldLink RX8 44 "Approvalyard$Desk" "parts" "LApprovalyard$Parts;", Cond.methodLink RX8 109 yX8_checkRequest, Cond.instanceMethod yX8_checkRequest, Cond.selects RX8 yX8_checkRequest yX8_checkRequest, Cond.initialized RX8, Cond.code yX8_checkRequest cX8_checkRequest 2 none, Cond.classLink RX8 178 "java/lang/IndexOutOfBoundsException", Cond.initialized "java/lang/IndexOutOfBoundsException", Cond.methodLink RX8 101 yX5_count, Cond.instanceMethod yX5_count, Cond.selects RX5 yX5_count yX5_count, Cond.initialized RX5, Cond.code yX5_count cX5_count 1 (some .int), Cond.fieldLink RX5 38 "Approvalyard$Requests" "number" "I", Cond.methodLink RX8 112 yX5_stateOf, Cond.instanceMethod yX5_stateOf, Cond.selects RX5 yX5_stateOf yX5_stateOf, Cond.code yX5_stateOf cX5_stateOf 2 (some .int), Cond.fieldLink RX5 26 "Approvalyard$Requests" "states" "LApprovalyard$Row;"]
def wsX8_resolve_r2 : List Cond := [Cond.methodLink RX5 52 yX6_at, Cond.instanceMethod yX6_at, Cond.selects RX6 yX6_at yX6_at, Cond.initialized RX6, Cond.code yX6_at cX6_at 2 (some .int), Cond.fieldLink RX6 7 "Approvalyard$Row" "cells" "[I", Cond.methodLink RX8 117 yX5_partOf, Cond.instanceMethod yX5_partOf, Cond.selects RX5 yX5_partOf yX5_partOf, Cond.code yX5_partOf cX5_partOf 2 (some .int), Cond.fieldLink RX5 20 "Approvalyard$Requests" "parts" "LApprovalyard$Row;", Cond.methodLink RX8 120 yX5_leastOf, Cond.instanceMethod yX5_leastOf, Cond.selects RX5 yX5_leastOf yX5_leastOf, Cond.code yX5_leastOf cX5_leastOf 2 (some .int), Cond.fieldLink RX5 23 "Approvalyard$Requests" "leasts" "LApprovalyard$Row;", Cond.methodLink RX8 123 yX7_find, Cond.instanceMethod yX7_find, Cond.selects RX7 yX7_find yX7_find, Cond.initialized RX7, Cond.code yX7_find cX7_find 5 (some .int), Cond.fieldLink RX7 20 "Approvalyard$Search" "wanted" "LApprovalyard$Row;", Cond.fieldLink RX7 14 "Approvalyard$Search" "order" "LApprovalyard$Row;", Cond.fieldLink RX7 40 "Approvalyard$Search" "number" "I"]
def wsX8_resolve_r3 : List Cond := [Cond.fieldLink RX7 46 "Approvalyard$Search" "choice" "I", Cond.methodLink RX7 23 yX3_current, Cond.instanceMethod yX3_current, Cond.selects RX3 yX3_current yX3_current, Cond.initialized RX3, Cond.code yX3_current cX3_current 4 (some .int), Cond.fieldLink RX3 14 "Approvalyard$Parts" "counts" "LApprovalyard$Row;", Cond.methodLink RX3 38 yX6_at, Cond.methodLink RX3 53 yX3_isReplaced, Cond.instanceMethod yX3_isReplaced, Cond.selects RX3 yX3_isReplaced yX3_isReplaced, Cond.code yX3_isReplaced cX3_isReplaced 3 (some .boolean), Cond.fieldLink RX3 23 "Approvalyard$Parts" "replaced" "LApprovalyard$Row;", Cond.methodLink RX3 42 yX3_placeOf, Cond.static yX3_placeOf, Cond.code yX3_placeOf cX3_placeOf 2 (some .int), Cond.methodLink RX3 50 yX3_versionSet, Cond.static yX3_versionSet, Cond.code yX3_versionSet cX3_versionSet 2 (some .int), Cond.methodLink RX7 29 yX6_put, Cond.instanceMethod yX6_put, Cond.selects RX6 yX6_put yX6_put, Cond.code yX6_put cX6_put 3 none, Cond.methodLink RX7 33 yX6_at]
def wsX8_resolve_r4 : List Cond := [Cond.methodLink RX7 36 yX3_versionSet, Cond.methodLink RX7 49 yX7_fill, Cond.instanceMethod yX7_fill, Cond.selects RX7 yX7_fill yX7_fill, Cond.code yX7_fill cX7_fill 8 (some .boolean), Cond.methodLink RX7 53 yX7_take, Cond.instanceMethod yX7_take, Cond.selects RX7 yX7_take yX7_take, Cond.code yX7_take cX7_take 10 (some .boolean), Cond.methodLink RX7 61 yX3_needsOf, Cond.instanceMethod yX3_needsOf, Cond.selects RX3 yX3_needsOf yX3_needsOf, Cond.code yX3_needsOf cX3_needsOf 3 (some .int), Cond.fieldLink RX3 26 "Approvalyard$Parts" "needCounts" "LApprovalyard$Row;", Cond.methodLink RX7 64 yX3_neededPart, Cond.instanceMethod yX3_neededPart, Cond.selects RX3 yX3_neededPart yX3_neededPart, Cond.code yX3_neededPart cX3_neededPart 4 (some .int), Cond.fieldLink RX3 29 "Approvalyard$Parts" "needParts" "LApprovalyard$Row;", Cond.methodLink RX7 67 yX3_neededVersions, Cond.instanceMethod yX3_neededVersions, Cond.selects RX3 yX3_neededVersions yX3_neededVersions, Cond.code yX3_neededVersions cX3_neededVersions 4 (some .int), Cond.fieldLink RX3 32 "Approvalyard$Parts" "needVersions" "LApprovalyard$Row;"]
def wsX8_resolve_r5 : List Cond := [Cond.methodLink RX7 70 yX7_await, Cond.instanceMethod yX7_await, Cond.selects RX7 yX7_await yX7_await, Cond.code yX7_await cX7_await 3 none, Cond.methodLink RX7 57 yX1_with, Cond.static yX1_with, Cond.initialized RX1, Cond.code yX1_with cX1_with 3 (some .int), Cond.methodLink RX8 59 yX8_tell, Cond.instanceMethod yX8_tell, Cond.selects RX8 yX8_tell yX8_tell, Cond.code yX8_tell cX8_tell 5 (some .int), Cond.fieldLink RX8 10 "Approvalyard" "book" "LApprovalyard$Book;", Cond.methodLink RX8 80 yX0_write, Cond.instanceMethod yX0_write, Cond.selects RX0 yX0_write yX0_write, Cond.initialized RX0, Cond.code yX0_write cX0_write 8 (some .int), Cond.fieldLink RX0 20 "Approvalyard$Book" "number" "I", Cond.fieldLink RX0 16 "Approvalyard$Book" "words" "LApprovalyard$Row;", Cond.methodLink RX0 24 yX6_put, Cond.methodLink RX8 84 yX2_apply, Cond.instanceMethod yX2_apply, Cond.selects RX2 yX2_apply yX2_apply]
def wsX8_resolve_r6 : List Cond := [Cond.initialized RX2, Cond.code yX2_apply cX2_apply 6 (some .int), Cond.fieldLink RX2 12 "Approvalyard$Desk" "parts" "LApprovalyard$Parts;", Cond.fieldLink RX2 28 "Approvalyard$Desk" "requests" "LApprovalyard$Requests;", Cond.fieldLink RX2 21 "Approvalyard$Desk" "people" "LApprovalyard$People;", Cond.methodLink RX2 38 yX0_wordOf, Cond.instanceMethod yX0_wordOf, Cond.selects RX0 yX0_wordOf yX0_wordOf, Cond.code yX0_wordOf cX0_wordOf 3 (some .int), Cond.methodLink RX0 28 yX6_at, Cond.methodLink RX2 44 yX3_addVersion, Cond.instanceMethod yX3_addVersion, Cond.selects RX3 yX3_addVersion yX3_addVersion, Cond.code yX3_addVersion cX3_addVersion 5 (some .int), Cond.fieldLink RX3 20 "Approvalyard$Parts" "costs" "LApprovalyard$Row;", Cond.methodLink RX3 46 yX6_put, Cond.methodLink RX2 47 yX3_addNeed, Cond.instanceMethod yX3_addNeed, Cond.selects RX3 yX3_addNeed yX3_addNeed, Cond.code yX3_addNeed cX3_addNeed 8 (some .int), Cond.methodLink RX2 51 yX3_markReplaced, Cond.instanceMethod yX3_markReplaced, Cond.selects RX3 yX3_markReplaced yX3_markReplaced, Cond.code yX3_markReplaced cX3_markReplaced 3 none]
def wsX8_resolve_r7 : List Cond := [Cond.methodLink RX2 55 yX4_today, Cond.instanceMethod yX4_today, Cond.selects RX4 yX4_today yX4_today, Cond.initialized RX4, Cond.code yX4_today cX4_today 1 (some .int), Cond.fieldLink RX4 29 "Approvalyard$People" "day" "I", Cond.methodLink RX2 59 yX5_loseVersion, Cond.instanceMethod yX5_loseVersion, Cond.selects RX5 yX5_loseVersion yX5_loseVersion, Cond.code yX5_loseVersion cX5_loseVersion 6 (some .int), Cond.fieldLink RX5 29 "Approvalyard$Requests" "choices" "LApprovalyard$Row;", Cond.methodLink RX5 60 yX1_versionOf, Cond.static yX1_versionOf, Cond.code yX1_versionOf cX1_versionOf 2 (some .int), Cond.methodLink RX5 66 yX5_approvalsOf, Cond.instanceMethod yX5_approvalsOf, Cond.selects RX5 yX5_approvalsOf yX5_approvalsOf, Cond.code yX5_approvalsOf cX5_approvalsOf 5 (some .int), Cond.methodLink RX5 56 yX5_hasApproval, Cond.instanceMethod yX5_hasApproval, Cond.selects RX5 yX5_hasApproval yX5_hasApproval, Cond.code yX5_hasApproval cX5_hasApproval 4 (some .boolean), Cond.fieldLink RX5 35 "Approvalyard$Requests" "ends" "LApprovalyard$Row;", Cond.methodLink RX5 49 yX5_endApprovals]
def wsX8_resolve_r8 : List Cond := [Cond.instanceMethod yX5_endApprovals, Cond.selects RX5 yX5_endApprovals yX5_endApprovals, Cond.code yX5_endApprovals cX5_endApprovals 3 none, Cond.methodLink RX5 42 yX6_put, Cond.methodLink RX5 46 yX5_reopen, Cond.instanceMethod yX5_reopen, Cond.selects RX5 yX5_reopen yX5_reopen, Cond.code yX5_reopen cX5_reopen 2 none, Cond.fieldLink RX5 32 "Approvalyard$Requests" "costs" "LApprovalyard$Row;", Cond.methodLink RX2 63 yX5_add, Cond.instanceMethod yX5_add, Cond.selects RX5 yX5_add yX5_add, Cond.code yX5_add cX5_add 5 (some .int), Cond.fieldLink RX5 14 "Approvalyard$Requests" "people" "LApprovalyard$Row;", Cond.methodLink RX2 66 yX3_costOf, Cond.instanceMethod yX3_costOf, Cond.selects RX3 yX3_costOf yX3_costOf, Cond.code yX3_costOf cX3_costOf 5 (some .int), Cond.methodLink RX3 57 yX1_versionOf, Cond.methodLink RX2 70 yX5_settle, Cond.instanceMethod yX5_settle, Cond.selects RX5 yX5_settle yX5_settle, Cond.code yX5_settle cX5_settle 4 (some .int), Cond.methodLink RX2 73 yX4_changeLimit]
def wsX8_resolve_r9 : List Cond := [Cond.instanceMethod yX4_changeLimit, Cond.selects RX4 yX4_changeLimit yX4_changeLimit, Cond.code yX4_changeLimit cX4_changeLimit 4 (some .int), Cond.fieldLink RX4 14 "Approvalyard$People" "limits" "LApprovalyard$Row;", Cond.methodLink RX4 33 yX6_at, Cond.methodLink RX4 37 yX6_put, Cond.methodLink RX2 76 yX4_sendOnLeave, Cond.instanceMethod yX4_sendOnLeave, Cond.selects RX4 yX4_sendOnLeave yX4_sendOnLeave, Cond.code yX4_sendOnLeave cX4_sendOnLeave 4 (some .int), Cond.fieldLink RX4 20 "Approvalyard$People" "delegates" "LApprovalyard$Row;", Cond.fieldLink RX4 23 "Approvalyard$People" "backs" "LApprovalyard$Row;", Cond.methodLink RX2 79 yX2_takeApproval, Cond.instanceMethod yX2_takeApproval, Cond.selects RX2 yX2_takeApproval yX2_takeApproval, Cond.code yX2_takeApproval cX2_takeApproval 5 (some .int), Cond.constant RX2 107 (2147483647), Cond.methodLink RX2 98 yX5_costOf, Cond.instanceMethod yX5_costOf, Cond.selects RX5 yX5_costOf yX5_costOf, Cond.code yX5_costOf cX5_costOf 2 (some .int), Cond.methodLink RX2 99 yX4_principalOf, Cond.instanceMethod yX4_principalOf, Cond.selects RX4 yX4_principalOf yX4_principalOf]
def wsX8_resolve_r10 : List Cond := [Cond.code yX4_principalOf cX4_principalOf 4 (some .int), Cond.methodLink RX4 41 yX4_isAway, Cond.instanceMethod yX4_isAway, Cond.selects RX4 yX4_isAway yX4_isAway, Cond.code yX4_isAway cX4_isAway 2 (some .boolean), Cond.methodLink RX2 108 yX4_backOf, Cond.instanceMethod yX4_backOf, Cond.selects RX4 yX4_backOf yX4_backOf, Cond.code yX4_backOf cX4_backOf 2 (some .int), Cond.methodLink RX2 111 yX5_addApproval, Cond.instanceMethod yX5_addApproval, Cond.selects RX5 yX5_addApproval yX5_addApproval, Cond.code yX5_addApproval cX5_addApproval 4 none, Cond.methodLink RX2 82 yX5_markReleased, Cond.instanceMethod yX5_markReleased, Cond.selects RX5 yX5_markReleased yX5_markReleased, Cond.code yX5_markReleased cX5_markReleased 2 (some .int), Cond.methodLink RX2 85 yX4_addDays, Cond.instanceMethod yX4_addDays, Cond.selects RX4 yX4_addDays yX4_addDays, Cond.code yX4_addDays cX4_addDays 2 (some .int)]
def wsX8_resolve : List Cond := .code yX8_resolve cX8_resolve 3 (some .int) :: ((wsX8_resolve_r1 ++ (wsX8_resolve_r2 ++ (wsX8_resolve_r3 ++ (wsX8_resolve_r4 ++ (wsX8_resolve_r5 ++ (wsX8_resolve_r6 ++ (wsX8_resolve_r7 ++ (wsX8_resolve_r8 ++ (wsX8_resolve_r9 ++ wsX8_resolve_r10))))))))) ++ wsX80 ++ wsX20 ++ wsX50 ++ wsX60 ++ wsX70 ++ wsX30 ++ wsX00 ++ wsX40 ++ (vx_atS RX8 58 "java/lang/IllegalStateException" ["java/lang/RuntimeException", "java/lang/Exception"]).filter goodWord ++ (vx_atS RX8 182 "java/lang/IndexOutOfBoundsException" ["java/lang/RuntimeException", "java/lang/Exception"]).filter goodWord)
def wsX8_chosen_r1 : List Cond := [Cond.fieldLink RX8 19 "Approvalyard" "desk" "LApprovalyard$Desk;", Cond.fieldLink RX8 97 "Approvalyard$Desk" "requests" "LApprovalyard$Requests;", Cond.methodLink RX8 109 yX8_checkRequest, Cond.instanceMethod yX8_checkRequest, Cond.selects RX8 yX8_checkRequest yX8_checkRequest, Cond.initialized RX8, Cond.code yX8_checkRequest cX8_checkRequest 2 none, Cond.classLink RX8 178 "java/lang/IndexOutOfBoundsException", Cond.initialized "java/lang/IndexOutOfBoundsException", Cond.methodLink RX8 101 yX5_count, Cond.instanceMethod yX5_count, Cond.selects RX5 yX5_count yX5_count, Cond.initialized RX5, Cond.code yX5_count cX5_count 1 (some .int), Cond.fieldLink RX5 38 "Approvalyard$Requests" "number" "I", Cond.methodLink RX8 33 yX8_checkPart, Cond.static yX8_checkPart, Cond.code yX8_checkPart cX8_checkPart 1 none, Cond.methodLink RX8 127 yX5_choiceOf, Cond.instanceMethod yX5_choiceOf, Cond.selects RX5 yX5_choiceOf yX5_choiceOf, Cond.code yX5_choiceOf cX5_choiceOf 2 (some .int), Cond.fieldLink RX5 29 "Approvalyard$Requests" "choices" "LApprovalyard$Row;", Cond.methodLink RX5 52 yX6_at]
def wsX8_chosen_r2 : List Cond := [Cond.instanceMethod yX6_at, Cond.selects RX6 yX6_at yX6_at, Cond.initialized RX6, Cond.code yX6_at cX6_at 2 (some .int), Cond.fieldLink RX6 7 "Approvalyard$Row" "cells" "[I", Cond.methodLink RX8 130 yX1_versionOf, Cond.static yX1_versionOf, Cond.initialized RX1, Cond.code yX1_versionOf cX1_versionOf 2 (some .int)]
def wsX8_chosen : List Cond := .code yX8_chosen cX8_chosen 4 (some .int) :: ((wsX8_chosen_r1 ++ wsX8_chosen_r2) ++ wsX80 ++ wsX20 ++ wsX50 ++ wsX60 ++ (vx_atS RX8 182 "java/lang/IndexOutOfBoundsException" ["java/lang/RuntimeException", "java/lang/Exception"]).filter goodWord)
def wsX8_limit_r1 : List Cond := [Cond.classLink RX8 37 "java/lang/IllegalArgumentException", Cond.initialized "java/lang/IllegalArgumentException", Cond.methodLink RX8 94 yX8_checkPerson, Cond.static yX8_checkPerson, Cond.initialized RX8, Cond.code yX8_checkPerson cX8_checkPerson 1 none, Cond.classLink RX8 178 "java/lang/IndexOutOfBoundsException", Cond.initialized "java/lang/IndexOutOfBoundsException", Cond.methodLink RX8 59 yX8_tell, Cond.instanceMethod yX8_tell, Cond.selects RX8 yX8_tell yX8_tell, Cond.code yX8_tell cX8_tell 5 (some .int), Cond.fieldLink RX8 19 "Approvalyard" "desk" "LApprovalyard$Desk;", Cond.fieldLink RX8 10 "Approvalyard" "book" "LApprovalyard$Book;", Cond.methodLink RX8 80 yX0_write, Cond.instanceMethod yX0_write, Cond.selects RX0 yX0_write yX0_write, Cond.initialized RX0, Cond.code yX0_write cX0_write 8 (some .int), Cond.fieldLink RX0 20 "Approvalyard$Book" "number" "I", Cond.fieldLink RX0 16 "Approvalyard$Book" "words" "LApprovalyard$Row;", Cond.methodLink RX0 24 yX6_put, Cond.instanceMethod yX6_put, Cond.selects RX6 yX6_put yX6_put]
def wsX8_limit_r2 : List Cond := [Cond.initialized RX6, Cond.code yX6_put cX6_put 3 none, Cond.fieldLink RX6 7 "Approvalyard$Row" "cells" "[I", Cond.methodLink RX8 84 yX2_apply, Cond.instanceMethod yX2_apply, Cond.selects RX2 yX2_apply yX2_apply, Cond.initialized RX2, Cond.code yX2_apply cX2_apply 6 (some .int), Cond.fieldLink RX2 12 "Approvalyard$Desk" "parts" "LApprovalyard$Parts;", Cond.fieldLink RX2 28 "Approvalyard$Desk" "requests" "LApprovalyard$Requests;", Cond.fieldLink RX2 21 "Approvalyard$Desk" "people" "LApprovalyard$People;", Cond.methodLink RX2 38 yX0_wordOf, Cond.instanceMethod yX0_wordOf, Cond.selects RX0 yX0_wordOf yX0_wordOf, Cond.code yX0_wordOf cX0_wordOf 3 (some .int), Cond.methodLink RX0 28 yX6_at, Cond.instanceMethod yX6_at, Cond.selects RX6 yX6_at yX6_at, Cond.code yX6_at cX6_at 2 (some .int), Cond.methodLink RX2 44 yX3_addVersion, Cond.instanceMethod yX3_addVersion, Cond.selects RX3 yX3_addVersion yX3_addVersion, Cond.initialized RX3, Cond.code yX3_addVersion cX3_addVersion 5 (some .int)]
def wsX8_limit_r3 : List Cond := [Cond.fieldLink RX3 14 "Approvalyard$Parts" "counts" "LApprovalyard$Row;", Cond.fieldLink RX3 20 "Approvalyard$Parts" "costs" "LApprovalyard$Row;", Cond.fieldLink RX3 23 "Approvalyard$Parts" "replaced" "LApprovalyard$Row;", Cond.fieldLink RX3 26 "Approvalyard$Parts" "needCounts" "LApprovalyard$Row;", Cond.methodLink RX3 38 yX6_at, Cond.methodLink RX3 42 yX3_placeOf, Cond.static yX3_placeOf, Cond.code yX3_placeOf cX3_placeOf 2 (some .int), Cond.methodLink RX3 46 yX6_put, Cond.methodLink RX2 47 yX3_addNeed, Cond.instanceMethod yX3_addNeed, Cond.selects RX3 yX3_addNeed yX3_addNeed, Cond.code yX3_addNeed cX3_addNeed 8 (some .int), Cond.fieldLink RX3 29 "Approvalyard$Parts" "needParts" "LApprovalyard$Row;", Cond.fieldLink RX3 32 "Approvalyard$Parts" "needVersions" "LApprovalyard$Row;", Cond.methodLink RX3 50 yX3_versionSet, Cond.static yX3_versionSet, Cond.code yX3_versionSet cX3_versionSet 2 (some .int), Cond.methodLink RX2 51 yX3_markReplaced, Cond.instanceMethod yX3_markReplaced, Cond.selects RX3 yX3_markReplaced yX3_markReplaced, Cond.code yX3_markReplaced cX3_markReplaced 3 none, Cond.methodLink RX2 55 yX4_today, Cond.instanceMethod yX4_today]
def wsX8_limit_r4 : List Cond := [Cond.selects RX4 yX4_today yX4_today, Cond.initialized RX4, Cond.code yX4_today cX4_today 1 (some .int), Cond.fieldLink RX4 29 "Approvalyard$People" "day" "I", Cond.methodLink RX2 59 yX5_loseVersion, Cond.instanceMethod yX5_loseVersion, Cond.selects RX5 yX5_loseVersion yX5_loseVersion, Cond.initialized RX5, Cond.code yX5_loseVersion cX5_loseVersion 6 (some .int), Cond.fieldLink RX5 38 "Approvalyard$Requests" "number" "I", Cond.fieldLink RX5 29 "Approvalyard$Requests" "choices" "LApprovalyard$Row;", Cond.fieldLink RX5 26 "Approvalyard$Requests" "states" "LApprovalyard$Row;", Cond.methodLink RX5 52 yX6_at, Cond.methodLink RX5 60 yX1_versionOf, Cond.static yX1_versionOf, Cond.initialized RX1, Cond.code yX1_versionOf cX1_versionOf 2 (some .int), Cond.methodLink RX5 66 yX5_approvalsOf, Cond.instanceMethod yX5_approvalsOf, Cond.selects RX5 yX5_approvalsOf yX5_approvalsOf, Cond.code yX5_approvalsOf cX5_approvalsOf 5 (some .int), Cond.methodLink RX5 56 yX5_hasApproval, Cond.instanceMethod yX5_hasApproval, Cond.selects RX5 yX5_hasApproval yX5_hasApproval]
def wsX8_limit_r5 : List Cond := [Cond.code yX5_hasApproval cX5_hasApproval 4 (some .boolean), Cond.fieldLink RX5 35 "Approvalyard$Requests" "ends" "LApprovalyard$Row;", Cond.methodLink RX5 49 yX5_endApprovals, Cond.instanceMethod yX5_endApprovals, Cond.selects RX5 yX5_endApprovals yX5_endApprovals, Cond.code yX5_endApprovals cX5_endApprovals 3 none, Cond.methodLink RX5 42 yX6_put, Cond.methodLink RX5 46 yX5_reopen, Cond.instanceMethod yX5_reopen, Cond.selects RX5 yX5_reopen yX5_reopen, Cond.code yX5_reopen cX5_reopen 2 none, Cond.fieldLink RX5 32 "Approvalyard$Requests" "costs" "LApprovalyard$Row;", Cond.methodLink RX2 63 yX5_add, Cond.instanceMethod yX5_add, Cond.selects RX5 yX5_add yX5_add, Cond.code yX5_add cX5_add 5 (some .int), Cond.fieldLink RX5 14 "Approvalyard$Requests" "people" "LApprovalyard$Row;", Cond.fieldLink RX5 20 "Approvalyard$Requests" "parts" "LApprovalyard$Row;", Cond.fieldLink RX5 23 "Approvalyard$Requests" "leasts" "LApprovalyard$Row;", Cond.methodLink RX2 66 yX3_costOf, Cond.instanceMethod yX3_costOf, Cond.selects RX3 yX3_costOf yX3_costOf, Cond.code yX3_costOf cX3_costOf 5 (some .int), Cond.methodLink RX3 57 yX1_versionOf]
def wsX8_limit_r6 : List Cond := [Cond.methodLink RX2 70 yX5_settle, Cond.instanceMethod yX5_settle, Cond.selects RX5 yX5_settle yX5_settle, Cond.code yX5_settle cX5_settle 4 (some .int), Cond.methodLink RX2 73 yX4_changeLimit, Cond.instanceMethod yX4_changeLimit, Cond.selects RX4 yX4_changeLimit yX4_changeLimit, Cond.code yX4_changeLimit cX4_changeLimit 4 (some .int), Cond.fieldLink RX4 14 "Approvalyard$People" "limits" "LApprovalyard$Row;", Cond.methodLink RX4 33 yX6_at, Cond.methodLink RX4 37 yX6_put, Cond.methodLink RX2 76 yX4_sendOnLeave, Cond.instanceMethod yX4_sendOnLeave, Cond.selects RX4 yX4_sendOnLeave yX4_sendOnLeave, Cond.code yX4_sendOnLeave cX4_sendOnLeave 4 (some .int), Cond.fieldLink RX4 20 "Approvalyard$People" "delegates" "LApprovalyard$Row;", Cond.fieldLink RX4 23 "Approvalyard$People" "backs" "LApprovalyard$Row;", Cond.methodLink RX2 79 yX2_takeApproval, Cond.instanceMethod yX2_takeApproval, Cond.selects RX2 yX2_takeApproval yX2_takeApproval, Cond.code yX2_takeApproval cX2_takeApproval 5 (some .int), Cond.constant RX2 107 (2147483647), Cond.methodLink RX2 98 yX5_costOf, Cond.instanceMethod yX5_costOf]
def wsX8_limit_r7 : List Cond := [Cond.selects RX5 yX5_costOf yX5_costOf, Cond.code yX5_costOf cX5_costOf 2 (some .int), Cond.methodLink RX2 99 yX4_principalOf, Cond.instanceMethod yX4_principalOf, Cond.selects RX4 yX4_principalOf yX4_principalOf, Cond.code yX4_principalOf cX4_principalOf 4 (some .int), Cond.methodLink RX4 41 yX4_isAway, Cond.instanceMethod yX4_isAway, Cond.selects RX4 yX4_isAway yX4_isAway, Cond.code yX4_isAway cX4_isAway 2 (some .boolean), Cond.methodLink RX2 108 yX4_backOf, Cond.instanceMethod yX4_backOf, Cond.selects RX4 yX4_backOf yX4_backOf, Cond.code yX4_backOf cX4_backOf 2 (some .int), Cond.methodLink RX2 111 yX5_addApproval, Cond.instanceMethod yX5_addApproval, Cond.selects RX5 yX5_addApproval yX5_addApproval, Cond.code yX5_addApproval cX5_addApproval 4 none, Cond.methodLink RX2 82 yX5_markReleased, Cond.instanceMethod yX5_markReleased, Cond.selects RX5 yX5_markReleased yX5_markReleased, Cond.code yX5_markReleased cX5_markReleased 2 (some .int), Cond.methodLink RX2 85 yX4_addDays, Cond.instanceMethod yX4_addDays]
def wsX8_limit_r8 : List Cond := [Cond.selects RX4 yX4_addDays yX4_addDays, Cond.code yX4_addDays cX4_addDays 2 (some .int)]
def wsX8_limit : List Cond := .code yX8_limit cX8_limit 3 (some .int) :: ((wsX8_limit_r1 ++ (wsX8_limit_r2 ++ (wsX8_limit_r3 ++ (wsX8_limit_r4 ++ (wsX8_limit_r5 ++ (wsX8_limit_r6 ++ (wsX8_limit_r7 ++ wsX8_limit_r8))))))) ++ wsX80 ++ wsX00 ++ wsX60 ++ wsX20 ++ wsX30 ++ wsX40 ++ wsX50 ++ (vx_atS RX8 41 "java/lang/IllegalArgumentException" ["java/lang/RuntimeException", "java/lang/Exception"]).filter goodWord ++ (vx_atS RX8 182 "java/lang/IndexOutOfBoundsException" ["java/lang/RuntimeException", "java/lang/Exception"]).filter goodWord)
def wsX8_checkDays : List Cond := .code yX8_checkDays cX8_checkDays 1 none :: ([.classLink RX8 37 "java/lang/IllegalArgumentException", .initialized "java/lang/IllegalArgumentException"] ++ (vx_atS RX8 41 "java/lang/IllegalArgumentException" ["java/lang/RuntimeException", "java/lang/Exception"]).filter goodWord)
def wsX8_leave_r1 : List Cond := [Cond.classLink RX8 37 "java/lang/IllegalArgumentException", Cond.initialized "java/lang/IllegalArgumentException", Cond.methodLink RX8 94 yX8_checkPerson, Cond.static yX8_checkPerson, Cond.initialized RX8, Cond.code yX8_checkPerson cX8_checkPerson 1 none, Cond.classLink RX8 178 "java/lang/IndexOutOfBoundsException", Cond.initialized "java/lang/IndexOutOfBoundsException", Cond.methodLink RX8 139 yX8_checkDays, Cond.static yX8_checkDays, Cond.code yX8_checkDays cX8_checkDays 1 none, Cond.methodLink RX8 59 yX8_tell, Cond.instanceMethod yX8_tell, Cond.selects RX8 yX8_tell yX8_tell, Cond.code yX8_tell cX8_tell 5 (some .int), Cond.fieldLink RX8 19 "Approvalyard" "desk" "LApprovalyard$Desk;", Cond.fieldLink RX8 10 "Approvalyard" "book" "LApprovalyard$Book;", Cond.methodLink RX8 80 yX0_write, Cond.instanceMethod yX0_write, Cond.selects RX0 yX0_write yX0_write, Cond.initialized RX0, Cond.code yX0_write cX0_write 8 (some .int), Cond.fieldLink RX0 20 "Approvalyard$Book" "number" "I", Cond.fieldLink RX0 16 "Approvalyard$Book" "words" "LApprovalyard$Row;"]
def wsX8_leave_r2 : List Cond := [Cond.methodLink RX0 24 yX6_put, Cond.instanceMethod yX6_put, Cond.selects RX6 yX6_put yX6_put, Cond.initialized RX6, Cond.code yX6_put cX6_put 3 none, Cond.fieldLink RX6 7 "Approvalyard$Row" "cells" "[I", Cond.methodLink RX8 84 yX2_apply, Cond.instanceMethod yX2_apply, Cond.selects RX2 yX2_apply yX2_apply, Cond.initialized RX2, Cond.code yX2_apply cX2_apply 6 (some .int), Cond.fieldLink RX2 12 "Approvalyard$Desk" "parts" "LApprovalyard$Parts;", Cond.fieldLink RX2 28 "Approvalyard$Desk" "requests" "LApprovalyard$Requests;", Cond.fieldLink RX2 21 "Approvalyard$Desk" "people" "LApprovalyard$People;", Cond.methodLink RX2 38 yX0_wordOf, Cond.instanceMethod yX0_wordOf, Cond.selects RX0 yX0_wordOf yX0_wordOf, Cond.code yX0_wordOf cX0_wordOf 3 (some .int), Cond.methodLink RX0 28 yX6_at, Cond.instanceMethod yX6_at, Cond.selects RX6 yX6_at yX6_at, Cond.code yX6_at cX6_at 2 (some .int), Cond.methodLink RX2 44 yX3_addVersion, Cond.instanceMethod yX3_addVersion]
def wsX8_leave_r3 : List Cond := [Cond.selects RX3 yX3_addVersion yX3_addVersion, Cond.initialized RX3, Cond.code yX3_addVersion cX3_addVersion 5 (some .int), Cond.fieldLink RX3 14 "Approvalyard$Parts" "counts" "LApprovalyard$Row;", Cond.fieldLink RX3 20 "Approvalyard$Parts" "costs" "LApprovalyard$Row;", Cond.fieldLink RX3 23 "Approvalyard$Parts" "replaced" "LApprovalyard$Row;", Cond.fieldLink RX3 26 "Approvalyard$Parts" "needCounts" "LApprovalyard$Row;", Cond.methodLink RX3 38 yX6_at, Cond.methodLink RX3 42 yX3_placeOf, Cond.static yX3_placeOf, Cond.code yX3_placeOf cX3_placeOf 2 (some .int), Cond.methodLink RX3 46 yX6_put, Cond.methodLink RX2 47 yX3_addNeed, Cond.instanceMethod yX3_addNeed, Cond.selects RX3 yX3_addNeed yX3_addNeed, Cond.code yX3_addNeed cX3_addNeed 8 (some .int), Cond.fieldLink RX3 29 "Approvalyard$Parts" "needParts" "LApprovalyard$Row;", Cond.fieldLink RX3 32 "Approvalyard$Parts" "needVersions" "LApprovalyard$Row;", Cond.methodLink RX3 50 yX3_versionSet, Cond.static yX3_versionSet, Cond.code yX3_versionSet cX3_versionSet 2 (some .int), Cond.methodLink RX2 51 yX3_markReplaced, Cond.instanceMethod yX3_markReplaced, Cond.selects RX3 yX3_markReplaced yX3_markReplaced]
def wsX8_leave_r4 : List Cond := [Cond.code yX3_markReplaced cX3_markReplaced 3 none, Cond.methodLink RX2 55 yX4_today, Cond.instanceMethod yX4_today, Cond.selects RX4 yX4_today yX4_today, Cond.initialized RX4, Cond.code yX4_today cX4_today 1 (some .int), Cond.fieldLink RX4 29 "Approvalyard$People" "day" "I", Cond.methodLink RX2 59 yX5_loseVersion, Cond.instanceMethod yX5_loseVersion, Cond.selects RX5 yX5_loseVersion yX5_loseVersion, Cond.initialized RX5, Cond.code yX5_loseVersion cX5_loseVersion 6 (some .int), Cond.fieldLink RX5 38 "Approvalyard$Requests" "number" "I", Cond.fieldLink RX5 29 "Approvalyard$Requests" "choices" "LApprovalyard$Row;", Cond.fieldLink RX5 26 "Approvalyard$Requests" "states" "LApprovalyard$Row;", Cond.methodLink RX5 52 yX6_at, Cond.methodLink RX5 60 yX1_versionOf, Cond.static yX1_versionOf, Cond.initialized RX1, Cond.code yX1_versionOf cX1_versionOf 2 (some .int), Cond.methodLink RX5 66 yX5_approvalsOf, Cond.instanceMethod yX5_approvalsOf, Cond.selects RX5 yX5_approvalsOf yX5_approvalsOf, Cond.code yX5_approvalsOf cX5_approvalsOf 5 (some .int)]
def wsX8_leave_r5 : List Cond := [Cond.methodLink RX5 56 yX5_hasApproval, Cond.instanceMethod yX5_hasApproval, Cond.selects RX5 yX5_hasApproval yX5_hasApproval, Cond.code yX5_hasApproval cX5_hasApproval 4 (some .boolean), Cond.fieldLink RX5 35 "Approvalyard$Requests" "ends" "LApprovalyard$Row;", Cond.methodLink RX5 49 yX5_endApprovals, Cond.instanceMethod yX5_endApprovals, Cond.selects RX5 yX5_endApprovals yX5_endApprovals, Cond.code yX5_endApprovals cX5_endApprovals 3 none, Cond.methodLink RX5 42 yX6_put, Cond.methodLink RX5 46 yX5_reopen, Cond.instanceMethod yX5_reopen, Cond.selects RX5 yX5_reopen yX5_reopen, Cond.code yX5_reopen cX5_reopen 2 none, Cond.fieldLink RX5 32 "Approvalyard$Requests" "costs" "LApprovalyard$Row;", Cond.methodLink RX2 63 yX5_add, Cond.instanceMethod yX5_add, Cond.selects RX5 yX5_add yX5_add, Cond.code yX5_add cX5_add 5 (some .int), Cond.fieldLink RX5 14 "Approvalyard$Requests" "people" "LApprovalyard$Row;", Cond.fieldLink RX5 20 "Approvalyard$Requests" "parts" "LApprovalyard$Row;", Cond.fieldLink RX5 23 "Approvalyard$Requests" "leasts" "LApprovalyard$Row;", Cond.methodLink RX2 66 yX3_costOf, Cond.instanceMethod yX3_costOf]
def wsX8_leave_r6 : List Cond := [Cond.selects RX3 yX3_costOf yX3_costOf, Cond.code yX3_costOf cX3_costOf 5 (some .int), Cond.methodLink RX3 57 yX1_versionOf, Cond.methodLink RX2 70 yX5_settle, Cond.instanceMethod yX5_settle, Cond.selects RX5 yX5_settle yX5_settle, Cond.code yX5_settle cX5_settle 4 (some .int), Cond.methodLink RX2 73 yX4_changeLimit, Cond.instanceMethod yX4_changeLimit, Cond.selects RX4 yX4_changeLimit yX4_changeLimit, Cond.code yX4_changeLimit cX4_changeLimit 4 (some .int), Cond.fieldLink RX4 14 "Approvalyard$People" "limits" "LApprovalyard$Row;", Cond.methodLink RX4 33 yX6_at, Cond.methodLink RX4 37 yX6_put, Cond.methodLink RX2 76 yX4_sendOnLeave, Cond.instanceMethod yX4_sendOnLeave, Cond.selects RX4 yX4_sendOnLeave yX4_sendOnLeave, Cond.code yX4_sendOnLeave cX4_sendOnLeave 4 (some .int), Cond.fieldLink RX4 20 "Approvalyard$People" "delegates" "LApprovalyard$Row;", Cond.fieldLink RX4 23 "Approvalyard$People" "backs" "LApprovalyard$Row;", Cond.methodLink RX2 79 yX2_takeApproval, Cond.instanceMethod yX2_takeApproval, Cond.selects RX2 yX2_takeApproval yX2_takeApproval, Cond.code yX2_takeApproval cX2_takeApproval 5 (some .int)]
def wsX8_leave_r7 : List Cond := [Cond.constant RX2 107 (2147483647), Cond.methodLink RX2 98 yX5_costOf, Cond.instanceMethod yX5_costOf, Cond.selects RX5 yX5_costOf yX5_costOf, Cond.code yX5_costOf cX5_costOf 2 (some .int), Cond.methodLink RX2 99 yX4_principalOf, Cond.instanceMethod yX4_principalOf, Cond.selects RX4 yX4_principalOf yX4_principalOf, Cond.code yX4_principalOf cX4_principalOf 4 (some .int), Cond.methodLink RX4 41 yX4_isAway, Cond.instanceMethod yX4_isAway, Cond.selects RX4 yX4_isAway yX4_isAway, Cond.code yX4_isAway cX4_isAway 2 (some .boolean), Cond.methodLink RX2 108 yX4_backOf, Cond.instanceMethod yX4_backOf, Cond.selects RX4 yX4_backOf yX4_backOf, Cond.code yX4_backOf cX4_backOf 2 (some .int), Cond.methodLink RX2 111 yX5_addApproval, Cond.instanceMethod yX5_addApproval, Cond.selects RX5 yX5_addApproval yX5_addApproval, Cond.code yX5_addApproval cX5_addApproval 4 none, Cond.methodLink RX2 82 yX5_markReleased, Cond.instanceMethod yX5_markReleased, Cond.selects RX5 yX5_markReleased yX5_markReleased]
def wsX8_leave_r8 : List Cond := [Cond.code yX5_markReleased cX5_markReleased 2 (some .int), Cond.methodLink RX2 85 yX4_addDays, Cond.instanceMethod yX4_addDays, Cond.selects RX4 yX4_addDays yX4_addDays, Cond.code yX4_addDays cX4_addDays 2 (some .int)]
def wsX8_leave : List Cond := .code yX8_leave cX8_leave 4 (some .int) :: ((wsX8_leave_r1 ++ (wsX8_leave_r2 ++ (wsX8_leave_r3 ++ (wsX8_leave_r4 ++ (wsX8_leave_r5 ++ (wsX8_leave_r6 ++ (wsX8_leave_r7 ++ wsX8_leave_r8))))))) ++ wsX80 ++ wsX00 ++ wsX60 ++ wsX20 ++ wsX30 ++ wsX40 ++ wsX50 ++ (vx_atS RX8 41 "java/lang/IllegalArgumentException" ["java/lang/RuntimeException", "java/lang/Exception"]).filter goodWord ++ (vx_atS RX8 182 "java/lang/IndexOutOfBoundsException" ["java/lang/RuntimeException", "java/lang/Exception"]).filter goodWord)
def wsX8_approve_r1 : List Cond := [Cond.classLink RX8 54 "java/lang/IllegalStateException", Cond.initialized "java/lang/IllegalStateException", Cond.fieldLink RX8 19 "Approvalyard" "desk" "LApprovalyard$Desk;", Cond.methodLink RX8 109 yX8_checkRequest, Cond.instanceMethod yX8_checkRequest, Cond.selects RX8 yX8_checkRequest yX8_checkRequest, Cond.initialized RX8, Cond.code yX8_checkRequest cX8_checkRequest 2 none, Cond.classLink RX8 178 "java/lang/IndexOutOfBoundsException", Cond.initialized "java/lang/IndexOutOfBoundsException", Cond.fieldLink RX8 97 "Approvalyard$Desk" "requests" "LApprovalyard$Requests;", Cond.methodLink RX8 101 yX5_count, Cond.instanceMethod yX5_count, Cond.selects RX5 yX5_count yX5_count, Cond.initialized RX5, Cond.code yX5_count cX5_count 1 (some .int), Cond.fieldLink RX5 38 "Approvalyard$Requests" "number" "I", Cond.methodLink RX8 94 yX8_checkPerson, Cond.static yX8_checkPerson, Cond.code yX8_checkPerson cX8_checkPerson 1 none, Cond.methodLink RX8 142 yX2_principalFor, Cond.instanceMethod yX2_principalFor, Cond.selects RX2 yX2_principalFor yX2_principalFor, Cond.initialized RX2]
def wsX8_approve_r2 : List Cond := [Cond.code yX2_principalFor cX2_principalFor 4 (some .int), Cond.fieldLink RX2 28 "Approvalyard$Desk" "requests" "LApprovalyard$Requests;", Cond.fieldLink RX2 21 "Approvalyard$Desk" "people" "LApprovalyard$People;", Cond.methodLink RX2 88 yX5_stateOf, Cond.instanceMethod yX5_stateOf, Cond.selects RX5 yX5_stateOf yX5_stateOf, Cond.code yX5_stateOf cX5_stateOf 2 (some .int), Cond.fieldLink RX5 26 "Approvalyard$Requests" "states" "LApprovalyard$Row;", Cond.methodLink RX5 52 yX6_at, Cond.instanceMethod yX6_at, Cond.selects RX6 yX6_at yX6_at, Cond.initialized RX6, Cond.code yX6_at cX6_at 2 (some .int), Cond.fieldLink RX6 7 "Approvalyard$Row" "cells" "[I", Cond.methodLink RX2 91 yX5_personOf, Cond.instanceMethod yX5_personOf, Cond.selects RX5 yX5_personOf yX5_personOf, Cond.code yX5_personOf cX5_personOf 2 (some .int), Cond.fieldLink RX5 14 "Approvalyard$Requests" "people" "LApprovalyard$Row;", Cond.methodLink RX2 55 yX4_today, Cond.instanceMethod yX4_today, Cond.selects RX4 yX4_today yX4_today, Cond.initialized RX4, Cond.code yX4_today cX4_today 1 (some .int)]
def wsX8_approve_r3 : List Cond := [Cond.fieldLink RX4 29 "Approvalyard$People" "day" "I", Cond.methodLink RX2 94 yX5_hasApproval, Cond.instanceMethod yX5_hasApproval, Cond.selects RX5 yX5_hasApproval yX5_hasApproval, Cond.code yX5_hasApproval cX5_hasApproval 4 (some .boolean), Cond.fieldLink RX5 35 "Approvalyard$Requests" "ends" "LApprovalyard$Row;", Cond.methodLink RX2 98 yX5_costOf, Cond.instanceMethod yX5_costOf, Cond.selects RX5 yX5_costOf yX5_costOf, Cond.code yX5_costOf cX5_costOf 2 (some .int), Cond.fieldLink RX5 32 "Approvalyard$Requests" "costs" "LApprovalyard$Row;", Cond.methodLink RX2 99 yX4_principalOf, Cond.instanceMethod yX4_principalOf, Cond.selects RX4 yX4_principalOf yX4_principalOf, Cond.code yX4_principalOf cX4_principalOf 4 (some .int), Cond.fieldLink RX4 14 "Approvalyard$People" "limits" "LApprovalyard$Row;", Cond.fieldLink RX4 20 "Approvalyard$People" "delegates" "LApprovalyard$Row;", Cond.methodLink RX4 41 yX4_isAway, Cond.instanceMethod yX4_isAway, Cond.selects RX4 yX4_isAway yX4_isAway, Cond.code yX4_isAway cX4_isAway 2 (some .boolean), Cond.fieldLink RX4 23 "Approvalyard$People" "backs" "LApprovalyard$Row;", Cond.methodLink RX4 33 yX6_at, Cond.methodLink RX8 59 yX8_tell]
def wsX8_approve_r4 : List Cond := [Cond.instanceMethod yX8_tell, Cond.selects RX8 yX8_tell yX8_tell, Cond.code yX8_tell cX8_tell 5 (some .int), Cond.fieldLink RX8 10 "Approvalyard" "book" "LApprovalyard$Book;", Cond.methodLink RX8 80 yX0_write, Cond.instanceMethod yX0_write, Cond.selects RX0 yX0_write yX0_write, Cond.initialized RX0, Cond.code yX0_write cX0_write 8 (some .int), Cond.fieldLink RX0 20 "Approvalyard$Book" "number" "I", Cond.fieldLink RX0 16 "Approvalyard$Book" "words" "LApprovalyard$Row;", Cond.methodLink RX0 24 yX6_put, Cond.instanceMethod yX6_put, Cond.selects RX6 yX6_put yX6_put, Cond.code yX6_put cX6_put 3 none, Cond.methodLink RX8 84 yX2_apply, Cond.instanceMethod yX2_apply, Cond.selects RX2 yX2_apply yX2_apply, Cond.code yX2_apply cX2_apply 6 (some .int), Cond.fieldLink RX2 12 "Approvalyard$Desk" "parts" "LApprovalyard$Parts;", Cond.methodLink RX2 38 yX0_wordOf, Cond.instanceMethod yX0_wordOf, Cond.selects RX0 yX0_wordOf yX0_wordOf, Cond.code yX0_wordOf cX0_wordOf 3 (some .int)]
def wsX8_approve_r5 : List Cond := [Cond.methodLink RX0 28 yX6_at, Cond.methodLink RX2 44 yX3_addVersion, Cond.instanceMethod yX3_addVersion, Cond.selects RX3 yX3_addVersion yX3_addVersion, Cond.initialized RX3, Cond.code yX3_addVersion cX3_addVersion 5 (some .int), Cond.fieldLink RX3 14 "Approvalyard$Parts" "counts" "LApprovalyard$Row;", Cond.fieldLink RX3 20 "Approvalyard$Parts" "costs" "LApprovalyard$Row;", Cond.fieldLink RX3 23 "Approvalyard$Parts" "replaced" "LApprovalyard$Row;", Cond.fieldLink RX3 26 "Approvalyard$Parts" "needCounts" "LApprovalyard$Row;", Cond.methodLink RX3 38 yX6_at, Cond.methodLink RX3 42 yX3_placeOf, Cond.static yX3_placeOf, Cond.code yX3_placeOf cX3_placeOf 2 (some .int), Cond.methodLink RX3 46 yX6_put, Cond.methodLink RX2 47 yX3_addNeed, Cond.instanceMethod yX3_addNeed, Cond.selects RX3 yX3_addNeed yX3_addNeed, Cond.code yX3_addNeed cX3_addNeed 8 (some .int), Cond.fieldLink RX3 29 "Approvalyard$Parts" "needParts" "LApprovalyard$Row;", Cond.fieldLink RX3 32 "Approvalyard$Parts" "needVersions" "LApprovalyard$Row;", Cond.methodLink RX3 50 yX3_versionSet, Cond.static yX3_versionSet, Cond.code yX3_versionSet cX3_versionSet 2 (some .int)]
def wsX8_approve_r6 : List Cond := [Cond.methodLink RX2 51 yX3_markReplaced, Cond.instanceMethod yX3_markReplaced, Cond.selects RX3 yX3_markReplaced yX3_markReplaced, Cond.code yX3_markReplaced cX3_markReplaced 3 none, Cond.methodLink RX2 59 yX5_loseVersion, Cond.instanceMethod yX5_loseVersion, Cond.selects RX5 yX5_loseVersion yX5_loseVersion, Cond.code yX5_loseVersion cX5_loseVersion 6 (some .int), Cond.fieldLink RX5 29 "Approvalyard$Requests" "choices" "LApprovalyard$Row;", Cond.methodLink RX5 60 yX1_versionOf, Cond.static yX1_versionOf, Cond.initialized RX1, Cond.code yX1_versionOf cX1_versionOf 2 (some .int), Cond.methodLink RX5 66 yX5_approvalsOf, Cond.instanceMethod yX5_approvalsOf, Cond.selects RX5 yX5_approvalsOf yX5_approvalsOf, Cond.code yX5_approvalsOf cX5_approvalsOf 5 (some .int), Cond.methodLink RX5 56 yX5_hasApproval, Cond.methodLink RX5 49 yX5_endApprovals, Cond.instanceMethod yX5_endApprovals, Cond.selects RX5 yX5_endApprovals yX5_endApprovals, Cond.code yX5_endApprovals cX5_endApprovals 3 none, Cond.methodLink RX5 42 yX6_put, Cond.methodLink RX5 46 yX5_reopen]
def wsX8_approve_r7 : List Cond := [Cond.instanceMethod yX5_reopen, Cond.selects RX5 yX5_reopen yX5_reopen, Cond.code yX5_reopen cX5_reopen 2 none, Cond.methodLink RX2 63 yX5_add, Cond.instanceMethod yX5_add, Cond.selects RX5 yX5_add yX5_add, Cond.code yX5_add cX5_add 5 (some .int), Cond.fieldLink RX5 20 "Approvalyard$Requests" "parts" "LApprovalyard$Row;", Cond.fieldLink RX5 23 "Approvalyard$Requests" "leasts" "LApprovalyard$Row;", Cond.methodLink RX2 66 yX3_costOf, Cond.instanceMethod yX3_costOf, Cond.selects RX3 yX3_costOf yX3_costOf, Cond.code yX3_costOf cX3_costOf 5 (some .int), Cond.methodLink RX3 57 yX1_versionOf, Cond.methodLink RX2 70 yX5_settle, Cond.instanceMethod yX5_settle, Cond.selects RX5 yX5_settle yX5_settle, Cond.code yX5_settle cX5_settle 4 (some .int), Cond.methodLink RX2 73 yX4_changeLimit, Cond.instanceMethod yX4_changeLimit, Cond.selects RX4 yX4_changeLimit yX4_changeLimit, Cond.code yX4_changeLimit cX4_changeLimit 4 (some .int), Cond.methodLink RX4 37 yX6_put, Cond.methodLink RX2 76 yX4_sendOnLeave]
def wsX8_approve_r8 : List Cond := [Cond.instanceMethod yX4_sendOnLeave, Cond.selects RX4 yX4_sendOnLeave yX4_sendOnLeave, Cond.code yX4_sendOnLeave cX4_sendOnLeave 4 (some .int), Cond.methodLink RX2 79 yX2_takeApproval, Cond.instanceMethod yX2_takeApproval, Cond.selects RX2 yX2_takeApproval yX2_takeApproval, Cond.code yX2_takeApproval cX2_takeApproval 5 (some .int), Cond.constant RX2 107 (2147483647), Cond.methodLink RX2 108 yX4_backOf, Cond.instanceMethod yX4_backOf, Cond.selects RX4 yX4_backOf yX4_backOf, Cond.code yX4_backOf cX4_backOf 2 (some .int), Cond.methodLink RX2 111 yX5_addApproval, Cond.instanceMethod yX5_addApproval, Cond.selects RX5 yX5_addApproval yX5_addApproval, Cond.code yX5_addApproval cX5_addApproval 4 none, Cond.methodLink RX2 82 yX5_markReleased, Cond.instanceMethod yX5_markReleased, Cond.selects RX5 yX5_markReleased yX5_markReleased, Cond.code yX5_markReleased cX5_markReleased 2 (some .int), Cond.methodLink RX2 85 yX4_addDays, Cond.instanceMethod yX4_addDays, Cond.selects RX4 yX4_addDays yX4_addDays, Cond.code yX4_addDays cX4_addDays 2 (some .int)]
def wsX8_approve : List Cond := .code yX8_approve cX8_approve 3 (some .int) :: ((wsX8_approve_r1 ++ (wsX8_approve_r2 ++ (wsX8_approve_r3 ++ (wsX8_approve_r4 ++ (wsX8_approve_r5 ++ (wsX8_approve_r6 ++ (wsX8_approve_r7 ++ wsX8_approve_r8))))))) ++ wsX80 ++ wsX20 ++ wsX50 ++ wsX60 ++ wsX40 ++ wsX00 ++ wsX30 ++ (vx_atS RX8 58 "java/lang/IllegalStateException" ["java/lang/RuntimeException", "java/lang/Exception"]).filter goodWord ++ (vx_atS RX8 182 "java/lang/IndexOutOfBoundsException" ["java/lang/RuntimeException", "java/lang/Exception"]).filter goodWord)
def wsX8_release_r1 : List Cond := [Cond.classLink RX8 54 "java/lang/IllegalStateException", Cond.initialized "java/lang/IllegalStateException", Cond.fieldLink RX8 19 "Approvalyard" "desk" "LApprovalyard$Desk;", Cond.fieldLink RX8 97 "Approvalyard$Desk" "requests" "LApprovalyard$Requests;", Cond.methodLink RX8 109 yX8_checkRequest, Cond.instanceMethod yX8_checkRequest, Cond.selects RX8 yX8_checkRequest yX8_checkRequest, Cond.initialized RX8, Cond.code yX8_checkRequest cX8_checkRequest 2 none, Cond.classLink RX8 178 "java/lang/IndexOutOfBoundsException", Cond.initialized "java/lang/IndexOutOfBoundsException", Cond.methodLink RX8 101 yX5_count, Cond.instanceMethod yX5_count, Cond.selects RX5 yX5_count yX5_count, Cond.initialized RX5, Cond.code yX5_count cX5_count 1 (some .int), Cond.fieldLink RX5 38 "Approvalyard$Requests" "number" "I", Cond.methodLink RX8 112 yX5_stateOf, Cond.instanceMethod yX5_stateOf, Cond.selects RX5 yX5_stateOf yX5_stateOf, Cond.code yX5_stateOf cX5_stateOf 2 (some .int), Cond.fieldLink RX5 26 "Approvalyard$Requests" "states" "LApprovalyard$Row;", Cond.methodLink RX5 52 yX6_at, Cond.instanceMethod yX6_at]
def wsX8_release_r2 : List Cond := [Cond.selects RX6 yX6_at yX6_at, Cond.initialized RX6, Cond.code yX6_at cX6_at 2 (some .int), Cond.fieldLink RX6 7 "Approvalyard$Row" "cells" "[I", Cond.methodLink RX8 147 yX2_isCovered, Cond.instanceMethod yX2_isCovered, Cond.selects RX2 yX2_isCovered yX2_isCovered, Cond.initialized RX2, Cond.code yX2_isCovered cX2_isCovered 3 (some .boolean), Cond.fieldLink RX2 28 "Approvalyard$Desk" "requests" "LApprovalyard$Requests;", Cond.methodLink RX2 98 yX5_costOf, Cond.instanceMethod yX5_costOf, Cond.selects RX5 yX5_costOf yX5_costOf, Cond.code yX5_costOf cX5_costOf 2 (some .int), Cond.fieldLink RX5 32 "Approvalyard$Requests" "costs" "LApprovalyard$Row;", Cond.methodLink RX2 105 yX2_approvalsOf, Cond.instanceMethod yX2_approvalsOf, Cond.selects RX2 yX2_approvalsOf yX2_approvalsOf, Cond.code yX2_approvalsOf cX2_approvalsOf 2 (some .int), Cond.fieldLink RX2 21 "Approvalyard$Desk" "people" "LApprovalyard$People;", Cond.methodLink RX2 55 yX4_today, Cond.instanceMethod yX4_today, Cond.selects RX4 yX4_today yX4_today, Cond.initialized RX4]
def wsX8_release_r3 : List Cond := [Cond.code yX4_today cX4_today 1 (some .int), Cond.fieldLink RX4 29 "Approvalyard$People" "day" "I", Cond.methodLink RX2 102 yX5_approvalsOf, Cond.instanceMethod yX5_approvalsOf, Cond.selects RX5 yX5_approvalsOf yX5_approvalsOf, Cond.code yX5_approvalsOf cX5_approvalsOf 5 (some .int), Cond.methodLink RX5 56 yX5_hasApproval, Cond.instanceMethod yX5_hasApproval, Cond.selects RX5 yX5_hasApproval yX5_hasApproval, Cond.code yX5_hasApproval cX5_hasApproval 4 (some .boolean), Cond.fieldLink RX5 35 "Approvalyard$Requests" "ends" "LApprovalyard$Row;", Cond.methodLink RX8 59 yX8_tell, Cond.instanceMethod yX8_tell, Cond.selects RX8 yX8_tell yX8_tell, Cond.code yX8_tell cX8_tell 5 (some .int), Cond.fieldLink RX8 10 "Approvalyard" "book" "LApprovalyard$Book;", Cond.methodLink RX8 80 yX0_write, Cond.instanceMethod yX0_write, Cond.selects RX0 yX0_write yX0_write, Cond.initialized RX0, Cond.code yX0_write cX0_write 8 (some .int), Cond.fieldLink RX0 20 "Approvalyard$Book" "number" "I", Cond.fieldLink RX0 16 "Approvalyard$Book" "words" "LApprovalyard$Row;", Cond.methodLink RX0 24 yX6_put]
def wsX8_release_r4 : List Cond := [Cond.instanceMethod yX6_put, Cond.selects RX6 yX6_put yX6_put, Cond.code yX6_put cX6_put 3 none, Cond.methodLink RX8 84 yX2_apply, Cond.instanceMethod yX2_apply, Cond.selects RX2 yX2_apply yX2_apply, Cond.code yX2_apply cX2_apply 6 (some .int), Cond.fieldLink RX2 12 "Approvalyard$Desk" "parts" "LApprovalyard$Parts;", Cond.methodLink RX2 38 yX0_wordOf, Cond.instanceMethod yX0_wordOf, Cond.selects RX0 yX0_wordOf yX0_wordOf, Cond.code yX0_wordOf cX0_wordOf 3 (some .int), Cond.methodLink RX0 28 yX6_at, Cond.methodLink RX2 44 yX3_addVersion, Cond.instanceMethod yX3_addVersion, Cond.selects RX3 yX3_addVersion yX3_addVersion, Cond.initialized RX3, Cond.code yX3_addVersion cX3_addVersion 5 (some .int), Cond.fieldLink RX3 14 "Approvalyard$Parts" "counts" "LApprovalyard$Row;", Cond.fieldLink RX3 20 "Approvalyard$Parts" "costs" "LApprovalyard$Row;", Cond.fieldLink RX3 23 "Approvalyard$Parts" "replaced" "LApprovalyard$Row;", Cond.fieldLink RX3 26 "Approvalyard$Parts" "needCounts" "LApprovalyard$Row;", Cond.methodLink RX3 38 yX6_at, Cond.methodLink RX3 42 yX3_placeOf]
def wsX8_release_r5 : List Cond := [Cond.static yX3_placeOf, Cond.code yX3_placeOf cX3_placeOf 2 (some .int), Cond.methodLink RX3 46 yX6_put, Cond.methodLink RX2 47 yX3_addNeed, Cond.instanceMethod yX3_addNeed, Cond.selects RX3 yX3_addNeed yX3_addNeed, Cond.code yX3_addNeed cX3_addNeed 8 (some .int), Cond.fieldLink RX3 29 "Approvalyard$Parts" "needParts" "LApprovalyard$Row;", Cond.fieldLink RX3 32 "Approvalyard$Parts" "needVersions" "LApprovalyard$Row;", Cond.methodLink RX3 50 yX3_versionSet, Cond.static yX3_versionSet, Cond.code yX3_versionSet cX3_versionSet 2 (some .int), Cond.methodLink RX2 51 yX3_markReplaced, Cond.instanceMethod yX3_markReplaced, Cond.selects RX3 yX3_markReplaced yX3_markReplaced, Cond.code yX3_markReplaced cX3_markReplaced 3 none, Cond.methodLink RX2 59 yX5_loseVersion, Cond.instanceMethod yX5_loseVersion, Cond.selects RX5 yX5_loseVersion yX5_loseVersion, Cond.code yX5_loseVersion cX5_loseVersion 6 (some .int), Cond.fieldLink RX5 29 "Approvalyard$Requests" "choices" "LApprovalyard$Row;", Cond.methodLink RX5 60 yX1_versionOf, Cond.static yX1_versionOf, Cond.initialized RX1]
def wsX8_release_r6 : List Cond := [Cond.code yX1_versionOf cX1_versionOf 2 (some .int), Cond.methodLink RX5 66 yX5_approvalsOf, Cond.methodLink RX5 49 yX5_endApprovals, Cond.instanceMethod yX5_endApprovals, Cond.selects RX5 yX5_endApprovals yX5_endApprovals, Cond.code yX5_endApprovals cX5_endApprovals 3 none, Cond.methodLink RX5 42 yX6_put, Cond.methodLink RX5 46 yX5_reopen, Cond.instanceMethod yX5_reopen, Cond.selects RX5 yX5_reopen yX5_reopen, Cond.code yX5_reopen cX5_reopen 2 none, Cond.methodLink RX2 63 yX5_add, Cond.instanceMethod yX5_add, Cond.selects RX5 yX5_add yX5_add, Cond.code yX5_add cX5_add 5 (some .int), Cond.fieldLink RX5 14 "Approvalyard$Requests" "people" "LApprovalyard$Row;", Cond.fieldLink RX5 20 "Approvalyard$Requests" "parts" "LApprovalyard$Row;", Cond.fieldLink RX5 23 "Approvalyard$Requests" "leasts" "LApprovalyard$Row;", Cond.methodLink RX2 66 yX3_costOf, Cond.instanceMethod yX3_costOf, Cond.selects RX3 yX3_costOf yX3_costOf, Cond.code yX3_costOf cX3_costOf 5 (some .int), Cond.methodLink RX3 57 yX1_versionOf, Cond.methodLink RX2 70 yX5_settle]
def wsX8_release_r7 : List Cond := [Cond.instanceMethod yX5_settle, Cond.selects RX5 yX5_settle yX5_settle, Cond.code yX5_settle cX5_settle 4 (some .int), Cond.methodLink RX2 73 yX4_changeLimit, Cond.instanceMethod yX4_changeLimit, Cond.selects RX4 yX4_changeLimit yX4_changeLimit, Cond.code yX4_changeLimit cX4_changeLimit 4 (some .int), Cond.fieldLink RX4 14 "Approvalyard$People" "limits" "LApprovalyard$Row;", Cond.methodLink RX4 33 yX6_at, Cond.methodLink RX4 37 yX6_put, Cond.methodLink RX2 76 yX4_sendOnLeave, Cond.instanceMethod yX4_sendOnLeave, Cond.selects RX4 yX4_sendOnLeave yX4_sendOnLeave, Cond.code yX4_sendOnLeave cX4_sendOnLeave 4 (some .int), Cond.fieldLink RX4 20 "Approvalyard$People" "delegates" "LApprovalyard$Row;", Cond.fieldLink RX4 23 "Approvalyard$People" "backs" "LApprovalyard$Row;", Cond.methodLink RX2 79 yX2_takeApproval, Cond.instanceMethod yX2_takeApproval, Cond.selects RX2 yX2_takeApproval yX2_takeApproval, Cond.code yX2_takeApproval cX2_takeApproval 5 (some .int), Cond.constant RX2 107 (2147483647), Cond.methodLink RX2 99 yX4_principalOf, Cond.instanceMethod yX4_principalOf, Cond.selects RX4 yX4_principalOf yX4_principalOf]
def wsX8_release_r8 : List Cond := [Cond.code yX4_principalOf cX4_principalOf 4 (some .int), Cond.methodLink RX4 41 yX4_isAway, Cond.instanceMethod yX4_isAway, Cond.selects RX4 yX4_isAway yX4_isAway, Cond.code yX4_isAway cX4_isAway 2 (some .boolean), Cond.methodLink RX2 108 yX4_backOf, Cond.instanceMethod yX4_backOf, Cond.selects RX4 yX4_backOf yX4_backOf, Cond.code yX4_backOf cX4_backOf 2 (some .int), Cond.methodLink RX2 111 yX5_addApproval, Cond.instanceMethod yX5_addApproval, Cond.selects RX5 yX5_addApproval yX5_addApproval, Cond.code yX5_addApproval cX5_addApproval 4 none, Cond.methodLink RX2 82 yX5_markReleased, Cond.instanceMethod yX5_markReleased, Cond.selects RX5 yX5_markReleased yX5_markReleased, Cond.code yX5_markReleased cX5_markReleased 2 (some .int), Cond.methodLink RX2 85 yX4_addDays, Cond.instanceMethod yX4_addDays, Cond.selects RX4 yX4_addDays yX4_addDays, Cond.code yX4_addDays cX4_addDays 2 (some .int)]
def wsX8_release : List Cond := .code yX8_release cX8_release 2 none :: ((wsX8_release_r1 ++ (wsX8_release_r2 ++ (wsX8_release_r3 ++ (wsX8_release_r4 ++ (wsX8_release_r5 ++ (wsX8_release_r6 ++ (wsX8_release_r7 ++ wsX8_release_r8))))))) ++ wsX80 ++ wsX20 ++ wsX50 ++ wsX60 ++ wsX40 ++ wsX00 ++ wsX30 ++ (vx_atS RX8 58 "java/lang/IllegalStateException" ["java/lang/RuntimeException", "java/lang/Exception"]).filter goodWord ++ (vx_atS RX8 182 "java/lang/IndexOutOfBoundsException" ["java/lang/RuntimeException", "java/lang/Exception"]).filter goodWord)
def wsX8_pass_r1 : List Cond := [Cond.methodLink RX8 139 yX8_checkDays, Cond.static yX8_checkDays, Cond.initialized RX8, Cond.code yX8_checkDays cX8_checkDays 1 none, Cond.classLink RX8 37 "java/lang/IllegalArgumentException", Cond.initialized "java/lang/IllegalArgumentException", Cond.methodLink RX8 59 yX8_tell, Cond.instanceMethod yX8_tell, Cond.selects RX8 yX8_tell yX8_tell, Cond.code yX8_tell cX8_tell 5 (some .int), Cond.fieldLink RX8 19 "Approvalyard" "desk" "LApprovalyard$Desk;", Cond.fieldLink RX8 10 "Approvalyard" "book" "LApprovalyard$Book;", Cond.methodLink RX8 80 yX0_write, Cond.instanceMethod yX0_write, Cond.selects RX0 yX0_write yX0_write, Cond.initialized RX0, Cond.code yX0_write cX0_write 8 (some .int), Cond.fieldLink RX0 20 "Approvalyard$Book" "number" "I", Cond.fieldLink RX0 16 "Approvalyard$Book" "words" "LApprovalyard$Row;", Cond.methodLink RX0 24 yX6_put, Cond.instanceMethod yX6_put, Cond.selects RX6 yX6_put yX6_put, Cond.initialized RX6, Cond.code yX6_put cX6_put 3 none]
def wsX8_pass_r2 : List Cond := [Cond.fieldLink RX6 7 "Approvalyard$Row" "cells" "[I", Cond.methodLink RX8 84 yX2_apply, Cond.instanceMethod yX2_apply, Cond.selects RX2 yX2_apply yX2_apply, Cond.initialized RX2, Cond.code yX2_apply cX2_apply 6 (some .int), Cond.fieldLink RX2 12 "Approvalyard$Desk" "parts" "LApprovalyard$Parts;", Cond.fieldLink RX2 28 "Approvalyard$Desk" "requests" "LApprovalyard$Requests;", Cond.fieldLink RX2 21 "Approvalyard$Desk" "people" "LApprovalyard$People;", Cond.methodLink RX2 38 yX0_wordOf, Cond.instanceMethod yX0_wordOf, Cond.selects RX0 yX0_wordOf yX0_wordOf, Cond.code yX0_wordOf cX0_wordOf 3 (some .int), Cond.methodLink RX0 28 yX6_at, Cond.instanceMethod yX6_at, Cond.selects RX6 yX6_at yX6_at, Cond.code yX6_at cX6_at 2 (some .int), Cond.methodLink RX2 44 yX3_addVersion, Cond.instanceMethod yX3_addVersion, Cond.selects RX3 yX3_addVersion yX3_addVersion, Cond.initialized RX3, Cond.code yX3_addVersion cX3_addVersion 5 (some .int), Cond.fieldLink RX3 14 "Approvalyard$Parts" "counts" "LApprovalyard$Row;", Cond.fieldLink RX3 20 "Approvalyard$Parts" "costs" "LApprovalyard$Row;"]
def wsX8_pass_r3 : List Cond := [Cond.fieldLink RX3 23 "Approvalyard$Parts" "replaced" "LApprovalyard$Row;", Cond.fieldLink RX3 26 "Approvalyard$Parts" "needCounts" "LApprovalyard$Row;", Cond.methodLink RX3 38 yX6_at, Cond.methodLink RX3 42 yX3_placeOf, Cond.static yX3_placeOf, Cond.code yX3_placeOf cX3_placeOf 2 (some .int), Cond.methodLink RX3 46 yX6_put, Cond.methodLink RX2 47 yX3_addNeed, Cond.instanceMethod yX3_addNeed, Cond.selects RX3 yX3_addNeed yX3_addNeed, Cond.code yX3_addNeed cX3_addNeed 8 (some .int), Cond.fieldLink RX3 29 "Approvalyard$Parts" "needParts" "LApprovalyard$Row;", Cond.fieldLink RX3 32 "Approvalyard$Parts" "needVersions" "LApprovalyard$Row;", Cond.methodLink RX3 50 yX3_versionSet, Cond.static yX3_versionSet, Cond.code yX3_versionSet cX3_versionSet 2 (some .int), Cond.methodLink RX2 51 yX3_markReplaced, Cond.instanceMethod yX3_markReplaced, Cond.selects RX3 yX3_markReplaced yX3_markReplaced, Cond.code yX3_markReplaced cX3_markReplaced 3 none, Cond.methodLink RX2 55 yX4_today, Cond.instanceMethod yX4_today, Cond.selects RX4 yX4_today yX4_today, Cond.initialized RX4]
def wsX8_pass_r4 : List Cond := [Cond.code yX4_today cX4_today 1 (some .int), Cond.fieldLink RX4 29 "Approvalyard$People" "day" "I", Cond.methodLink RX2 59 yX5_loseVersion, Cond.instanceMethod yX5_loseVersion, Cond.selects RX5 yX5_loseVersion yX5_loseVersion, Cond.initialized RX5, Cond.code yX5_loseVersion cX5_loseVersion 6 (some .int), Cond.fieldLink RX5 38 "Approvalyard$Requests" "number" "I", Cond.fieldLink RX5 29 "Approvalyard$Requests" "choices" "LApprovalyard$Row;", Cond.fieldLink RX5 26 "Approvalyard$Requests" "states" "LApprovalyard$Row;", Cond.methodLink RX5 52 yX6_at, Cond.methodLink RX5 60 yX1_versionOf, Cond.static yX1_versionOf, Cond.initialized RX1, Cond.code yX1_versionOf cX1_versionOf 2 (some .int), Cond.methodLink RX5 66 yX5_approvalsOf, Cond.instanceMethod yX5_approvalsOf, Cond.selects RX5 yX5_approvalsOf yX5_approvalsOf, Cond.code yX5_approvalsOf cX5_approvalsOf 5 (some .int), Cond.methodLink RX5 56 yX5_hasApproval, Cond.instanceMethod yX5_hasApproval, Cond.selects RX5 yX5_hasApproval yX5_hasApproval, Cond.code yX5_hasApproval cX5_hasApproval 4 (some .boolean), Cond.fieldLink RX5 35 "Approvalyard$Requests" "ends" "LApprovalyard$Row;"]
def wsX8_pass_r5 : List Cond := [Cond.methodLink RX5 49 yX5_endApprovals, Cond.instanceMethod yX5_endApprovals, Cond.selects RX5 yX5_endApprovals yX5_endApprovals, Cond.code yX5_endApprovals cX5_endApprovals 3 none, Cond.methodLink RX5 42 yX6_put, Cond.methodLink RX5 46 yX5_reopen, Cond.instanceMethod yX5_reopen, Cond.selects RX5 yX5_reopen yX5_reopen, Cond.code yX5_reopen cX5_reopen 2 none, Cond.fieldLink RX5 32 "Approvalyard$Requests" "costs" "LApprovalyard$Row;", Cond.methodLink RX2 63 yX5_add, Cond.instanceMethod yX5_add, Cond.selects RX5 yX5_add yX5_add, Cond.code yX5_add cX5_add 5 (some .int), Cond.fieldLink RX5 14 "Approvalyard$Requests" "people" "LApprovalyard$Row;", Cond.fieldLink RX5 20 "Approvalyard$Requests" "parts" "LApprovalyard$Row;", Cond.fieldLink RX5 23 "Approvalyard$Requests" "leasts" "LApprovalyard$Row;", Cond.methodLink RX2 66 yX3_costOf, Cond.instanceMethod yX3_costOf, Cond.selects RX3 yX3_costOf yX3_costOf, Cond.code yX3_costOf cX3_costOf 5 (some .int), Cond.methodLink RX3 57 yX1_versionOf, Cond.methodLink RX2 70 yX5_settle, Cond.instanceMethod yX5_settle]
def wsX8_pass_r6 : List Cond := [Cond.selects RX5 yX5_settle yX5_settle, Cond.code yX5_settle cX5_settle 4 (some .int), Cond.methodLink RX2 73 yX4_changeLimit, Cond.instanceMethod yX4_changeLimit, Cond.selects RX4 yX4_changeLimit yX4_changeLimit, Cond.code yX4_changeLimit cX4_changeLimit 4 (some .int), Cond.fieldLink RX4 14 "Approvalyard$People" "limits" "LApprovalyard$Row;", Cond.methodLink RX4 33 yX6_at, Cond.methodLink RX4 37 yX6_put, Cond.methodLink RX2 76 yX4_sendOnLeave, Cond.instanceMethod yX4_sendOnLeave, Cond.selects RX4 yX4_sendOnLeave yX4_sendOnLeave, Cond.code yX4_sendOnLeave cX4_sendOnLeave 4 (some .int), Cond.fieldLink RX4 20 "Approvalyard$People" "delegates" "LApprovalyard$Row;", Cond.fieldLink RX4 23 "Approvalyard$People" "backs" "LApprovalyard$Row;", Cond.methodLink RX2 79 yX2_takeApproval, Cond.instanceMethod yX2_takeApproval, Cond.selects RX2 yX2_takeApproval yX2_takeApproval, Cond.code yX2_takeApproval cX2_takeApproval 5 (some .int), Cond.constant RX2 107 (2147483647), Cond.methodLink RX2 98 yX5_costOf, Cond.instanceMethod yX5_costOf, Cond.selects RX5 yX5_costOf yX5_costOf, Cond.code yX5_costOf cX5_costOf 2 (some .int)]
def wsX8_pass_r7 : List Cond := [Cond.methodLink RX2 99 yX4_principalOf, Cond.instanceMethod yX4_principalOf, Cond.selects RX4 yX4_principalOf yX4_principalOf, Cond.code yX4_principalOf cX4_principalOf 4 (some .int), Cond.methodLink RX4 41 yX4_isAway, Cond.instanceMethod yX4_isAway, Cond.selects RX4 yX4_isAway yX4_isAway, Cond.code yX4_isAway cX4_isAway 2 (some .boolean), Cond.methodLink RX2 108 yX4_backOf, Cond.instanceMethod yX4_backOf, Cond.selects RX4 yX4_backOf yX4_backOf, Cond.code yX4_backOf cX4_backOf 2 (some .int), Cond.methodLink RX2 111 yX5_addApproval, Cond.instanceMethod yX5_addApproval, Cond.selects RX5 yX5_addApproval yX5_addApproval, Cond.code yX5_addApproval cX5_addApproval 4 none, Cond.methodLink RX2 82 yX5_markReleased, Cond.instanceMethod yX5_markReleased, Cond.selects RX5 yX5_markReleased yX5_markReleased, Cond.code yX5_markReleased cX5_markReleased 2 (some .int), Cond.methodLink RX2 85 yX4_addDays, Cond.instanceMethod yX4_addDays, Cond.selects RX4 yX4_addDays yX4_addDays, Cond.code yX4_addDays cX4_addDays 2 (some .int)]
def wsX8_pass : List Cond := .code yX8_pass cX8_pass 2 (some .int) :: ((wsX8_pass_r1 ++ (wsX8_pass_r2 ++ (wsX8_pass_r3 ++ (wsX8_pass_r4 ++ (wsX8_pass_r5 ++ (wsX8_pass_r6 ++ wsX8_pass_r7)))))) ++ wsX80 ++ wsX00 ++ wsX60 ++ wsX20 ++ wsX30 ++ wsX40 ++ wsX50 ++ (vx_atS RX8 41 "java/lang/IllegalArgumentException" ["java/lang/RuntimeException", "java/lang/Exception"]).filter goodWord)
def wsX8_ofRequest_r1 : List Cond := [Cond.classLink RX8 37 "java/lang/IllegalArgumentException", Cond.initialized "java/lang/IllegalArgumentException", Cond.fieldLink RX8 19 "Approvalyard" "desk" "LApprovalyard$Desk;", Cond.fieldLink RX8 97 "Approvalyard$Desk" "requests" "LApprovalyard$Requests;", Cond.methodLink RX8 109 yX8_checkRequest, Cond.instanceMethod yX8_checkRequest, Cond.selects RX8 yX8_checkRequest yX8_checkRequest, Cond.initialized RX8, Cond.code yX8_checkRequest cX8_checkRequest 2 none, Cond.classLink RX8 178 "java/lang/IndexOutOfBoundsException", Cond.initialized "java/lang/IndexOutOfBoundsException", Cond.methodLink RX8 101 yX5_count, Cond.instanceMethod yX5_count, Cond.selects RX5 yX5_count yX5_count, Cond.initialized RX5, Cond.code yX5_count cX5_count 1 (some .int), Cond.fieldLink RX5 38 "Approvalyard$Requests" "number" "I", Cond.methodLink RX8 112 yX5_stateOf, Cond.instanceMethod yX5_stateOf, Cond.selects RX5 yX5_stateOf yX5_stateOf, Cond.code yX5_stateOf cX5_stateOf 2 (some .int), Cond.fieldLink RX5 26 "Approvalyard$Requests" "states" "LApprovalyard$Row;", Cond.methodLink RX5 52 yX6_at, Cond.instanceMethod yX6_at]
def wsX8_ofRequest_r2 : List Cond := [Cond.selects RX6 yX6_at yX6_at, Cond.initialized RX6, Cond.code yX6_at cX6_at 2 (some .int), Cond.fieldLink RX6 7 "Approvalyard$Row" "cells" "[I", Cond.methodLink RX8 153 yX5_costOf, Cond.instanceMethod yX5_costOf, Cond.selects RX5 yX5_costOf yX5_costOf, Cond.code yX5_costOf cX5_costOf 2 (some .int), Cond.fieldLink RX5 32 "Approvalyard$Requests" "costs" "LApprovalyard$Row;", Cond.methodLink RX8 156 yX2_approvalsOf, Cond.instanceMethod yX2_approvalsOf, Cond.selects RX2 yX2_approvalsOf yX2_approvalsOf, Cond.initialized RX2, Cond.code yX2_approvalsOf cX2_approvalsOf 2 (some .int), Cond.fieldLink RX2 28 "Approvalyard$Desk" "requests" "LApprovalyard$Requests;", Cond.fieldLink RX2 21 "Approvalyard$Desk" "people" "LApprovalyard$People;", Cond.methodLink RX2 55 yX4_today, Cond.instanceMethod yX4_today, Cond.selects RX4 yX4_today yX4_today, Cond.initialized RX4, Cond.code yX4_today cX4_today 1 (some .int), Cond.fieldLink RX4 29 "Approvalyard$People" "day" "I", Cond.methodLink RX2 102 yX5_approvalsOf, Cond.instanceMethod yX5_approvalsOf]
def wsX8_ofRequest_r3 : List Cond := [Cond.selects RX5 yX5_approvalsOf yX5_approvalsOf, Cond.code yX5_approvalsOf cX5_approvalsOf 5 (some .int), Cond.methodLink RX5 56 yX5_hasApproval, Cond.instanceMethod yX5_hasApproval, Cond.selects RX5 yX5_hasApproval yX5_hasApproval, Cond.code yX5_hasApproval cX5_hasApproval 4 (some .boolean), Cond.fieldLink RX5 35 "Approvalyard$Requests" "ends" "LApprovalyard$Row;", Cond.methodLink RX8 147 yX2_isCovered, Cond.instanceMethod yX2_isCovered, Cond.selects RX2 yX2_isCovered yX2_isCovered, Cond.code yX2_isCovered cX2_isCovered 3 (some .boolean), Cond.methodLink RX2 98 yX5_costOf, Cond.methodLink RX2 105 yX2_approvalsOf]
def wsX8_ofRequest : List Cond := .code yX8_ofRequest cX8_ofRequest 3 (some .int) :: ((wsX8_ofRequest_r1 ++ (wsX8_ofRequest_r2 ++ wsX8_ofRequest_r3)) ++ wsX80 ++ wsX20 ++ wsX50 ++ wsX60 ++ wsX40 ++ (vx_atS RX8 41 "java/lang/IllegalArgumentException" ["java/lang/RuntimeException", "java/lang/Exception"]).filter goodWord ++ (vx_atS RX8 182 "java/lang/IndexOutOfBoundsException" ["java/lang/RuntimeException", "java/lang/Exception"]).filter goodWord)
def wsX8_isCoveredAnew_r1 : List Cond := [Cond.fieldLink RX8 10 "Approvalyard" "book" "LApprovalyard$Book;", Cond.fieldLink RX8 23 "Approvalyard" "deskAnew" "LApprovalyard$Desk;", Cond.methodLink RX8 109 yX8_checkRequest, Cond.instanceMethod yX8_checkRequest, Cond.selects RX8 yX8_checkRequest yX8_checkRequest, Cond.initialized RX8, Cond.code yX8_checkRequest cX8_checkRequest 2 none, Cond.classLink RX8 178 "java/lang/IndexOutOfBoundsException", Cond.initialized "java/lang/IndexOutOfBoundsException", Cond.fieldLink RX8 19 "Approvalyard" "desk" "LApprovalyard$Desk;", Cond.fieldLink RX8 97 "Approvalyard$Desk" "requests" "LApprovalyard$Requests;", Cond.methodLink RX8 101 yX5_count, Cond.instanceMethod yX5_count, Cond.selects RX5 yX5_count yX5_count, Cond.initialized RX5, Cond.code yX5_count cX5_count 1 (some .int), Cond.fieldLink RX5 38 "Approvalyard$Requests" "number" "I", Cond.methodLink RX8 161 yX0_count, Cond.instanceMethod yX0_count, Cond.selects RX0 yX0_count yX0_count, Cond.initialized RX0, Cond.code yX0_count cX0_count 1 (some .int), Cond.fieldLink RX0 20 "Approvalyard$Book" "number" "I", Cond.methodLink RX8 162 yX2_clear]
def wsX8_isCoveredAnew_r2 : List Cond := [Cond.instanceMethod yX2_clear, Cond.selects RX2 yX2_clear yX2_clear, Cond.initialized RX2, Cond.code yX2_clear cX2_clear 1 none, Cond.fieldLink RX2 12 "Approvalyard$Desk" "parts" "LApprovalyard$Parts;", Cond.fieldLink RX2 21 "Approvalyard$Desk" "people" "LApprovalyard$People;", Cond.fieldLink RX2 28 "Approvalyard$Desk" "requests" "LApprovalyard$Requests;", Cond.methodLink RX2 35 yX3_clear, Cond.instanceMethod yX3_clear, Cond.selects RX3 yX3_clear yX3_clear, Cond.initialized RX3, Cond.code yX3_clear cX3_clear 1 none, Cond.fieldLink RX3 14 "Approvalyard$Parts" "counts" "LApprovalyard$Row;", Cond.methodLink RX3 35 yX6_fill, Cond.instanceMethod yX6_fill, Cond.selects RX6 yX6_fill yX6_fill, Cond.initialized RX6, Cond.code yX6_fill cX6_fill 3 none, Cond.fieldLink RX6 7 "Approvalyard$Row" "cells" "[I", Cond.methodLink RX2 36 yX4_clear, Cond.instanceMethod yX4_clear, Cond.selects RX4 yX4_clear yX4_clear, Cond.initialized RX4, Cond.code yX4_clear cX4_clear 1 none]
def wsX8_isCoveredAnew_r3 : List Cond := [Cond.fieldLink RX4 14 "Approvalyard$People" "limits" "LApprovalyard$Row;", Cond.fieldLink RX4 23 "Approvalyard$People" "backs" "LApprovalyard$Row;", Cond.fieldLink RX4 29 "Approvalyard$People" "day" "I", Cond.methodLink RX4 26 yX6_fill, Cond.methodLink RX2 37 yX5_clear, Cond.instanceMethod yX5_clear, Cond.selects RX5 yX5_clear yX5_clear, Cond.code yX5_clear cX5_clear 1 none, Cond.methodLink RX8 84 yX2_apply, Cond.instanceMethod yX2_apply, Cond.selects RX2 yX2_apply yX2_apply, Cond.code yX2_apply cX2_apply 6 (some .int), Cond.methodLink RX2 38 yX0_wordOf, Cond.instanceMethod yX0_wordOf, Cond.selects RX0 yX0_wordOf yX0_wordOf, Cond.code yX0_wordOf cX0_wordOf 3 (some .int), Cond.fieldLink RX0 16 "Approvalyard$Book" "words" "LApprovalyard$Row;", Cond.methodLink RX0 28 yX6_at, Cond.instanceMethod yX6_at, Cond.selects RX6 yX6_at yX6_at, Cond.code yX6_at cX6_at 2 (some .int), Cond.methodLink RX2 44 yX3_addVersion, Cond.instanceMethod yX3_addVersion, Cond.selects RX3 yX3_addVersion yX3_addVersion]
def wsX8_isCoveredAnew_r4 : List Cond := [Cond.code yX3_addVersion cX3_addVersion 5 (some .int), Cond.fieldLink RX3 20 "Approvalyard$Parts" "costs" "LApprovalyard$Row;", Cond.fieldLink RX3 23 "Approvalyard$Parts" "replaced" "LApprovalyard$Row;", Cond.fieldLink RX3 26 "Approvalyard$Parts" "needCounts" "LApprovalyard$Row;", Cond.methodLink RX3 38 yX6_at, Cond.methodLink RX3 42 yX3_placeOf, Cond.static yX3_placeOf, Cond.code yX3_placeOf cX3_placeOf 2 (some .int), Cond.methodLink RX3 46 yX6_put, Cond.instanceMethod yX6_put, Cond.selects RX6 yX6_put yX6_put, Cond.code yX6_put cX6_put 3 none, Cond.methodLink RX2 47 yX3_addNeed, Cond.instanceMethod yX3_addNeed, Cond.selects RX3 yX3_addNeed yX3_addNeed, Cond.code yX3_addNeed cX3_addNeed 8 (some .int), Cond.fieldLink RX3 29 "Approvalyard$Parts" "needParts" "LApprovalyard$Row;", Cond.fieldLink RX3 32 "Approvalyard$Parts" "needVersions" "LApprovalyard$Row;", Cond.methodLink RX3 50 yX3_versionSet, Cond.static yX3_versionSet, Cond.code yX3_versionSet cX3_versionSet 2 (some .int), Cond.methodLink RX2 51 yX3_markReplaced, Cond.instanceMethod yX3_markReplaced, Cond.selects RX3 yX3_markReplaced yX3_markReplaced]
def wsX8_isCoveredAnew_r5 : List Cond := [Cond.code yX3_markReplaced cX3_markReplaced 3 none, Cond.methodLink RX2 55 yX4_today, Cond.instanceMethod yX4_today, Cond.selects RX4 yX4_today yX4_today, Cond.code yX4_today cX4_today 1 (some .int), Cond.methodLink RX2 59 yX5_loseVersion, Cond.instanceMethod yX5_loseVersion, Cond.selects RX5 yX5_loseVersion yX5_loseVersion, Cond.code yX5_loseVersion cX5_loseVersion 6 (some .int), Cond.fieldLink RX5 29 "Approvalyard$Requests" "choices" "LApprovalyard$Row;", Cond.fieldLink RX5 26 "Approvalyard$Requests" "states" "LApprovalyard$Row;", Cond.methodLink RX5 52 yX6_at, Cond.methodLink RX5 60 yX1_versionOf, Cond.static yX1_versionOf, Cond.initialized RX1, Cond.code yX1_versionOf cX1_versionOf 2 (some .int), Cond.methodLink RX5 66 yX5_approvalsOf, Cond.instanceMethod yX5_approvalsOf, Cond.selects RX5 yX5_approvalsOf yX5_approvalsOf, Cond.code yX5_approvalsOf cX5_approvalsOf 5 (some .int), Cond.methodLink RX5 56 yX5_hasApproval, Cond.instanceMethod yX5_hasApproval, Cond.selects RX5 yX5_hasApproval yX5_hasApproval, Cond.code yX5_hasApproval cX5_hasApproval 4 (some .boolean)]
def wsX8_isCoveredAnew_r6 : List Cond := [Cond.fieldLink RX5 35 "Approvalyard$Requests" "ends" "LApprovalyard$Row;", Cond.methodLink RX5 49 yX5_endApprovals, Cond.instanceMethod yX5_endApprovals, Cond.selects RX5 yX5_endApprovals yX5_endApprovals, Cond.code yX5_endApprovals cX5_endApprovals 3 none, Cond.methodLink RX5 42 yX6_put, Cond.methodLink RX5 46 yX5_reopen, Cond.instanceMethod yX5_reopen, Cond.selects RX5 yX5_reopen yX5_reopen, Cond.code yX5_reopen cX5_reopen 2 none, Cond.fieldLink RX5 32 "Approvalyard$Requests" "costs" "LApprovalyard$Row;", Cond.methodLink RX2 63 yX5_add, Cond.instanceMethod yX5_add, Cond.selects RX5 yX5_add yX5_add, Cond.code yX5_add cX5_add 5 (some .int), Cond.fieldLink RX5 14 "Approvalyard$Requests" "people" "LApprovalyard$Row;", Cond.fieldLink RX5 20 "Approvalyard$Requests" "parts" "LApprovalyard$Row;", Cond.fieldLink RX5 23 "Approvalyard$Requests" "leasts" "LApprovalyard$Row;", Cond.methodLink RX2 66 yX3_costOf, Cond.instanceMethod yX3_costOf, Cond.selects RX3 yX3_costOf yX3_costOf, Cond.code yX3_costOf cX3_costOf 5 (some .int), Cond.methodLink RX3 57 yX1_versionOf, Cond.methodLink RX2 70 yX5_settle]
def wsX8_isCoveredAnew_r7 : List Cond := [Cond.instanceMethod yX5_settle, Cond.selects RX5 yX5_settle yX5_settle, Cond.code yX5_settle cX5_settle 4 (some .int), Cond.methodLink RX2 73 yX4_changeLimit, Cond.instanceMethod yX4_changeLimit, Cond.selects RX4 yX4_changeLimit yX4_changeLimit, Cond.code yX4_changeLimit cX4_changeLimit 4 (some .int), Cond.methodLink RX4 33 yX6_at, Cond.methodLink RX4 37 yX6_put, Cond.methodLink RX2 76 yX4_sendOnLeave, Cond.instanceMethod yX4_sendOnLeave, Cond.selects RX4 yX4_sendOnLeave yX4_sendOnLeave, Cond.code yX4_sendOnLeave cX4_sendOnLeave 4 (some .int), Cond.fieldLink RX4 20 "Approvalyard$People" "delegates" "LApprovalyard$Row;", Cond.methodLink RX2 79 yX2_takeApproval, Cond.instanceMethod yX2_takeApproval, Cond.selects RX2 yX2_takeApproval yX2_takeApproval, Cond.code yX2_takeApproval cX2_takeApproval 5 (some .int), Cond.constant RX2 107 (2147483647), Cond.methodLink RX2 98 yX5_costOf, Cond.instanceMethod yX5_costOf, Cond.selects RX5 yX5_costOf yX5_costOf, Cond.code yX5_costOf cX5_costOf 2 (some .int), Cond.methodLink RX2 99 yX4_principalOf]
def wsX8_isCoveredAnew_r8 : List Cond := [Cond.instanceMethod yX4_principalOf, Cond.selects RX4 yX4_principalOf yX4_principalOf, Cond.code yX4_principalOf cX4_principalOf 4 (some .int), Cond.methodLink RX4 41 yX4_isAway, Cond.instanceMethod yX4_isAway, Cond.selects RX4 yX4_isAway yX4_isAway, Cond.code yX4_isAway cX4_isAway 2 (some .boolean), Cond.methodLink RX2 108 yX4_backOf, Cond.instanceMethod yX4_backOf, Cond.selects RX4 yX4_backOf yX4_backOf, Cond.code yX4_backOf cX4_backOf 2 (some .int), Cond.methodLink RX2 111 yX5_addApproval, Cond.instanceMethod yX5_addApproval, Cond.selects RX5 yX5_addApproval yX5_addApproval, Cond.code yX5_addApproval cX5_addApproval 4 none, Cond.methodLink RX2 82 yX5_markReleased, Cond.instanceMethod yX5_markReleased, Cond.selects RX5 yX5_markReleased yX5_markReleased, Cond.code yX5_markReleased cX5_markReleased 2 (some .int), Cond.methodLink RX2 85 yX4_addDays, Cond.instanceMethod yX4_addDays, Cond.selects RX4 yX4_addDays yX4_addDays, Cond.code yX4_addDays cX4_addDays 2 (some .int), Cond.methodLink RX8 147 yX2_isCovered]
def wsX8_isCoveredAnew_r9 : List Cond := [Cond.instanceMethod yX2_isCovered, Cond.selects RX2 yX2_isCovered yX2_isCovered, Cond.code yX2_isCovered cX2_isCovered 3 (some .boolean), Cond.methodLink RX2 105 yX2_approvalsOf, Cond.instanceMethod yX2_approvalsOf, Cond.selects RX2 yX2_approvalsOf yX2_approvalsOf, Cond.code yX2_approvalsOf cX2_approvalsOf 2 (some .int), Cond.methodLink RX2 102 yX5_approvalsOf]
def wsX8_isCoveredAnew : List Cond := .code yX8_isCoveredAnew cX8_isCoveredAnew 4 (some .boolean) :: ((wsX8_isCoveredAnew_r1 ++ (wsX8_isCoveredAnew_r2 ++ (wsX8_isCoveredAnew_r3 ++ (wsX8_isCoveredAnew_r4 ++ (wsX8_isCoveredAnew_r5 ++ (wsX8_isCoveredAnew_r6 ++ (wsX8_isCoveredAnew_r7 ++ (wsX8_isCoveredAnew_r8 ++ wsX8_isCoveredAnew_r9)))))))) ++ wsX80 ++ wsX20 ++ wsX50 ++ wsX00 ++ wsX30 ++ wsX60 ++ wsX40 ++ (vx_atS RX8 182 "java/lang/IndexOutOfBoundsException" ["java/lang/RuntimeException", "java/lang/Exception"]).filter goodWord)
def wsX8_strain_r1 : List Cond := [Cond.fieldLink RX8 19 "Approvalyard" "desk" "LApprovalyard$Desk;", Cond.fieldLink RX8 97 "Approvalyard$Desk" "requests" "LApprovalyard$Requests;", Cond.constantFloat RX8 165 (3212836864), Cond.fieldLink RX8 166 "Approvalyard$Desk" "people" "LApprovalyard$People;", Cond.methodLink RX8 109 yX8_checkRequest, Cond.instanceMethod yX8_checkRequest, Cond.selects RX8 yX8_checkRequest yX8_checkRequest, Cond.initialized RX8, Cond.code yX8_checkRequest cX8_checkRequest 2 none, Cond.classLink RX8 178 "java/lang/IndexOutOfBoundsException", Cond.initialized "java/lang/IndexOutOfBoundsException", Cond.methodLink RX8 101 yX5_count, Cond.instanceMethod yX5_count, Cond.selects RX5 yX5_count yX5_count, Cond.initialized RX5, Cond.code yX5_count cX5_count 1 (some .int), Cond.fieldLink RX5 38 "Approvalyard$Requests" "number" "I", Cond.methodLink RX8 112 yX5_stateOf, Cond.instanceMethod yX5_stateOf, Cond.selects RX5 yX5_stateOf yX5_stateOf, Cond.code yX5_stateOf cX5_stateOf 2 (some .int), Cond.fieldLink RX5 26 "Approvalyard$Requests" "states" "LApprovalyard$Row;", Cond.methodLink RX5 52 yX6_at, Cond.instanceMethod yX6_at]
def wsX8_strain_r2 : List Cond := [Cond.selects RX6 yX6_at yX6_at, Cond.initialized RX6, Cond.code yX6_at cX6_at 2 (some .int), Cond.fieldLink RX6 7 "Approvalyard$Row" "cells" "[I", Cond.methodLink RX8 153 yX5_costOf, Cond.instanceMethod yX5_costOf, Cond.selects RX5 yX5_costOf yX5_costOf, Cond.code yX5_costOf cX5_costOf 2 (some .int), Cond.fieldLink RX5 32 "Approvalyard$Requests" "costs" "LApprovalyard$Row;", Cond.methodLink RX8 170 yX5_personOf, Cond.instanceMethod yX5_personOf, Cond.selects RX5 yX5_personOf yX5_personOf, Cond.code yX5_personOf cX5_personOf 2 (some .int), Cond.fieldLink RX5 14 "Approvalyard$Requests" "people" "LApprovalyard$Row;", Cond.methodLink RX8 173 yX4_greatestLimit, Cond.instanceMethod yX4_greatestLimit, Cond.selects RX4 yX4_greatestLimit yX4_greatestLimit, Cond.initialized RX4, Cond.code yX4_greatestLimit cX4_greatestLimit 6 (some .int), Cond.fieldLink RX4 14 "Approvalyard$People" "limits" "LApprovalyard$Row;", Cond.methodLink RX4 33 yX6_at, Cond.methodLink RX4 41 yX4_isAway, Cond.instanceMethod yX4_isAway, Cond.selects RX4 yX4_isAway yX4_isAway]
def wsX8_strain_r3 : List Cond := [Cond.code yX4_isAway cX4_isAway 2 (some .boolean), Cond.fieldLink RX4 29 "Approvalyard$People" "day" "I", Cond.fieldLink RX4 23 "Approvalyard$People" "backs" "LApprovalyard$Row;"]
def wsX8_strain : List Cond := .code yX8_strain cX8_strain 4 (some .float) :: ((wsX8_strain_r1 ++ (wsX8_strain_r2 ++ wsX8_strain_r3)) ++ wsX80 ++ wsX20 ++ wsX50 ++ wsX60 ++ wsX40 ++ (vx_atS RX8 182 "java/lang/IndexOutOfBoundsException" ["java/lang/RuntimeException", "java/lang/Exception"]).filter goodWord)
def wsX8_entries : List Cond := .code yX8_entries cX8_entries 1 (some .int) :: ([.fieldLink RX8 10 "Approvalyard" "book" "LApprovalyard$Book;", .methodLink RX8 161 yX0_count, .instanceMethod yX0_count, .selects RX0 yX0_count yX0_count, .initialized RX0, .code yX0_count cX0_count 1 (some .int), .fieldLink RX0 20 "Approvalyard$Book" "number" "I"] ++ wsX80 ++ wsX00)
def wsX9_init : List Cond := .code yX9_init cX9_init 2 none :: ([.methodLink RX9 1 objectInit, .instanceMethod objectInit, .code objectInit ⟨#[0xb1]⟩ 1 none, .arrayClass .int, .fieldLink RX9 7 "ApprovalyardModel" "vc" "[I", .fieldLink RX9 13 "ApprovalyardModel" "vr" "[I", .fieldLink RX9 16 "ApprovalyardModel" "vn" "[I", .fieldLink RX9 19 "ApprovalyardModel" "needs" "[I", .fieldLink RX9 22 "ApprovalyardModel" "versions" "[I", .fieldLink RX9 25 "ApprovalyardModel" "lim" "[I", .fieldLink RX9 28 "ApprovalyardModel" "back" "[I", .fieldLink RX9 31 "ApprovalyardModel" "deputy" "[I", .fieldLink RX9 34 "ApprovalyardModel" "qp" "[I", .fieldLink RX9 37 "ApprovalyardModel" "qt" "[I", .fieldLink RX9 40 "ApprovalyardModel" "ql" "[I", .fieldLink RX9 43 "ApprovalyardModel" "qs" "[I", .fieldLink RX9 46 "ApprovalyardModel" "qc" "[I", .fieldLink RX9 49 "ApprovalyardModel" "chosen" "[I", .fieldLink RX9 52 "ApprovalyardModel" "by" "[I", .fieldLink RX9 55 "ApprovalyardModel" "until" "[I", .fieldLink RX9 58 "ApprovalyardModel" "row" "[I", .fieldLink RX9 61 "ApprovalyardModel" "pick" "[I", .fieldLink RX9 64 "ApprovalyardModel" "size" "[I", .fieldLink RX9 67 "ApprovalyardModel" "place" "[I"] ++ wsX90)
def wsX9_thrown : List Cond := .code yX9_thrown cX9_thrown 1 (some .int) :: ([.fieldLink RX9 70 "ApprovalyardModel" "thrown" "I"] ++ wsX90)
def wsX9_holds : List Cond := .code yX9_holds cX9_holds 2 (some .boolean) :: ([.fieldLink RX9 70 "ApprovalyardModel" "thrown" "I"] ++ wsX90)
def wsX9_in : List Cond := .code yX9_in cX9_in 4 (some .boolean) :: ([])
def wsX9_isEight : List Cond := .code yX9_isEight cX9_isEight 2 (some .boolean) :: ([.methodLink RX9 74 yX9_in, .instanceMethod yX9_in, .selects RX9 yX9_in yX9_in, .initialized RX9, .code yX9_in cX9_in 4 (some .boolean)])
def wsX9_isVersion : List Cond := .code yX9_isVersion cX9_isVersion 3 (some .boolean) :: ([.fieldLink RX9 22 "ApprovalyardModel" "versions" "[I", .methodLink RX9 78 yX9_isEight, .instanceMethod yX9_isEight, .selects RX9 yX9_isEight yX9_isEight, .initialized RX9, .code yX9_isEight cX9_isEight 2 (some .boolean), .methodLink RX9 74 yX9_in, .instanceMethod yX9_in, .selects RX9 yX9_in yX9_in, .code yX9_in cX9_in 4 (some .boolean)] ++ wsX90)
def wsX9_isRequest : List Cond := .code yX9_isRequest cX9_isRequest 2 (some .boolean) :: ([.fieldLink RX9 82 "ApprovalyardModel" "requests" "I", .methodLink RX9 74 yX9_in, .instanceMethod yX9_in, .selects RX9 yX9_in yX9_in, .initialized RX9, .code yX9_in cX9_in 4 (some .boolean)] ++ wsX90)
def wsX9_version : List Cond := .code yX9_version cX9_version 3 (some .int) :: ([.fieldLink RX9 22 "ApprovalyardModel" "versions" "[I", .fieldLink RX9 7 "ApprovalyardModel" "vc" "[I", .fieldLink RX9 88 "ApprovalyardModel" "entries" "I", .methodLink RX9 78 yX9_isEight, .instanceMethod yX9_isEight, .selects RX9 yX9_isEight yX9_isEight, .initialized RX9, .code yX9_isEight cX9_isEight 2 (some .boolean), .methodLink RX9 74 yX9_in, .instanceMethod yX9_in, .selects RX9 yX9_in yX9_in, .code yX9_in cX9_in 4 (some .boolean), .methodLink RX9 85 yX9_holds, .instanceMethod yX9_holds, .selects RX9 yX9_holds yX9_holds, .code yX9_holds cX9_holds 2 (some .boolean), .fieldLink RX9 70 "ApprovalyardModel" "thrown" "I"] ++ wsX90)
def wsX9_need : List Cond := .code yX9_need cX9_need 10 (some .int) :: ([.fieldLink RX9 16 "ApprovalyardModel" "vn" "[I", .fieldLink RX9 19 "ApprovalyardModel" "needs" "[I", .fieldLink RX9 88 "ApprovalyardModel" "entries" "I", .methodLink RX9 91 yX9_isVersion, .instanceMethod yX9_isVersion, .selects RX9 yX9_isVersion yX9_isVersion, .initialized RX9, .code yX9_isVersion cX9_isVersion 3 (some .boolean), .fieldLink RX9 22 "ApprovalyardModel" "versions" "[I", .methodLink RX9 78 yX9_isEight, .instanceMethod yX9_isEight, .selects RX9 yX9_isEight yX9_isEight, .code yX9_isEight cX9_isEight 2 (some .boolean), .methodLink RX9 74 yX9_in, .instanceMethod yX9_in, .selects RX9 yX9_in yX9_in, .code yX9_in cX9_in 4 (some .boolean), .methodLink RX9 85 yX9_holds, .instanceMethod yX9_holds, .selects RX9 yX9_holds yX9_holds, .code yX9_holds cX9_holds 2 (some .boolean), .fieldLink RX9 70 "ApprovalyardModel" "thrown" "I"] ++ wsX90)
def wsX9_ends : List Cond := .code yX9_ends cX9_ends 4 (some .int) :: ([.fieldLink RX9 52 "ApprovalyardModel" "by" "[I"] ++ wsX90)
def wsX9_empty : List Cond := .code yX9_empty cX9_empty 3 none :: ([.fieldLink RX9 49 "ApprovalyardModel" "chosen" "[I"] ++ wsX90)
def wsX9_replace_r1 : List Cond := [Cond.fieldLink RX9 13 "ApprovalyardModel" "vr" "[I", Cond.fieldLink RX9 82 "ApprovalyardModel" "requests" "I", Cond.fieldLink RX9 43 "ApprovalyardModel" "qs" "[I", Cond.fieldLink RX9 49 "ApprovalyardModel" "chosen" "[I", Cond.fieldLink RX9 88 "ApprovalyardModel" "entries" "I", Cond.methodLink RX9 91 yX9_isVersion, Cond.instanceMethod yX9_isVersion, Cond.selects RX9 yX9_isVersion yX9_isVersion, Cond.initialized RX9, Cond.code yX9_isVersion cX9_isVersion 3 (some .boolean), Cond.fieldLink RX9 22 "ApprovalyardModel" "versions" "[I", Cond.methodLink RX9 78 yX9_isEight, Cond.instanceMethod yX9_isEight, Cond.selects RX9 yX9_isEight yX9_isEight, Cond.code yX9_isEight cX9_isEight 2 (some .boolean), Cond.methodLink RX9 74 yX9_in, Cond.instanceMethod yX9_in, Cond.selects RX9 yX9_in yX9_in, Cond.code yX9_in cX9_in 4 (some .boolean), Cond.methodLink RX9 85 yX9_holds, Cond.instanceMethod yX9_holds, Cond.selects RX9 yX9_holds yX9_holds, Cond.code yX9_holds cX9_holds 2 (some .boolean), Cond.fieldLink RX9 70 "ApprovalyardModel" "thrown" "I"]
def wsX9_replace_r2 : List Cond := [Cond.methodLink RX9 95 yX9_ends, Cond.instanceMethod yX9_ends, Cond.selects RX9 yX9_ends yX9_ends, Cond.code yX9_ends cX9_ends 4 (some .int), Cond.fieldLink RX9 52 "ApprovalyardModel" "by" "[I", Cond.methodLink RX9 99 yX9_empty, Cond.instanceMethod yX9_empty, Cond.selects RX9 yX9_empty yX9_empty, Cond.code yX9_empty cX9_empty 3 none]
def wsX9_replace : List Cond := .code yX9_replace cX9_replace 6 (some .int) :: ((wsX9_replace_r1 ++ wsX9_replace_r2) ++ wsX90)
def wsX9_request : List Cond := .code yX9_request cX9_request 4 (some .int) :: ([.fieldLink RX9 82 "ApprovalyardModel" "requests" "I", .fieldLink RX9 34 "ApprovalyardModel" "qp" "[I", .fieldLink RX9 37 "ApprovalyardModel" "qt" "[I", .fieldLink RX9 40 "ApprovalyardModel" "ql" "[I", .fieldLink RX9 88 "ApprovalyardModel" "entries" "I", .methodLink RX9 78 yX9_isEight, .instanceMethod yX9_isEight, .selects RX9 yX9_isEight yX9_isEight, .initialized RX9, .code yX9_isEight cX9_isEight 2 (some .boolean), .methodLink RX9 74 yX9_in, .instanceMethod yX9_in, .selects RX9 yX9_in yX9_in, .code yX9_in cX9_in 4 (some .boolean), .methodLink RX9 85 yX9_holds, .instanceMethod yX9_holds, .selects RX9 yX9_holds yX9_holds, .code yX9_holds cX9_holds 2 (some .boolean), .fieldLink RX9 70 "ApprovalyardModel" "thrown" "I"] ++ wsX90)
def wsX9_goes : List Cond := .code yX9_goes cX9_goes 9 (some .boolean) :: ([.fieldLink RX9 58 "ApprovalyardModel" "row" "[I", .fieldLink RX9 13 "ApprovalyardModel" "vr" "[I", .fieldLink RX9 61 "ApprovalyardModel" "pick" "[I", .fieldLink RX9 16 "ApprovalyardModel" "vn" "[I", .fieldLink RX9 19 "ApprovalyardModel" "needs" "[I", .fieldLink RX9 67 "ApprovalyardModel" "place" "[I", .methodLink RX9 74 yX9_in, .instanceMethod yX9_in, .selects RX9 yX9_in yX9_in, .initialized RX9, .code yX9_in cX9_in 4 (some .boolean)] ++ wsX90)
def wsX9_comes : List Cond := .code yX9_comes cX9_comes 7 (some .int) :: ([.fieldLink RX9 58 "ApprovalyardModel" "row" "[I", .fieldLink RX9 61 "ApprovalyardModel" "pick" "[I", .fieldLink RX9 16 "ApprovalyardModel" "vn" "[I", .fieldLink RX9 19 "ApprovalyardModel" "needs" "[I", .fieldLink RX9 67 "ApprovalyardModel" "place" "[I"] ++ wsX90)
def wsX9_forget : List Cond := .code yX9_forget cX9_forget 3 none :: ([.fieldLink RX9 67 "ApprovalyardModel" "place" "[I"] ++ wsX90)
def wsX9_search_r1 : List Cond := [Cond.fieldLink RX9 67 "ApprovalyardModel" "place" "[I", Cond.fieldLink RX9 58 "ApprovalyardModel" "row" "[I", Cond.fieldLink RX9 37 "ApprovalyardModel" "qt" "[I", Cond.fieldLink RX9 64 "ApprovalyardModel" "size" "[I", Cond.fieldLink RX9 61 "ApprovalyardModel" "pick" "[I", Cond.fieldLink RX9 22 "ApprovalyardModel" "versions" "[I", Cond.fieldLink RX9 40 "ApprovalyardModel" "ql" "[I", Cond.methodLink RX9 103 yX9_forget, Cond.instanceMethod yX9_forget, Cond.selects RX9 yX9_forget yX9_forget, Cond.initialized RX9, Cond.code yX9_forget cX9_forget 3 none, Cond.methodLink RX9 106 yX9_goes, Cond.instanceMethod yX9_goes, Cond.selects RX9 yX9_goes yX9_goes, Cond.code yX9_goes cX9_goes 9 (some .boolean), Cond.fieldLink RX9 13 "ApprovalyardModel" "vr" "[I", Cond.fieldLink RX9 16 "ApprovalyardModel" "vn" "[I", Cond.fieldLink RX9 19 "ApprovalyardModel" "needs" "[I", Cond.methodLink RX9 74 yX9_in, Cond.instanceMethod yX9_in, Cond.selects RX9 yX9_in yX9_in, Cond.code yX9_in cX9_in 4 (some .boolean), Cond.methodLink RX9 109 yX9_comes]
def wsX9_search_r2 : List Cond := [Cond.instanceMethod yX9_comes, Cond.selects RX9 yX9_comes yX9_comes, Cond.code yX9_comes cX9_comes 7 (some .int)]
def wsX9_search : List Cond := .code yX9_search cX9_search 6 (some .int) :: ((wsX9_search_r1 ++ wsX9_search_r2) ++ wsX90)
def wsX9_resolve_r1 : List Cond := [Cond.fieldLink RX9 43 "ApprovalyardModel" "qs" "[I", Cond.fieldLink RX9 46 "ApprovalyardModel" "qc" "[I", Cond.fieldLink RX9 49 "ApprovalyardModel" "chosen" "[I", Cond.fieldLink RX9 58 "ApprovalyardModel" "row" "[I", Cond.fieldLink RX9 61 "ApprovalyardModel" "pick" "[I", Cond.fieldLink RX9 7 "ApprovalyardModel" "vc" "[I", Cond.fieldLink RX9 88 "ApprovalyardModel" "entries" "I", Cond.methodLink RX9 113 yX9_isRequest, Cond.instanceMethod yX9_isRequest, Cond.selects RX9 yX9_isRequest yX9_isRequest, Cond.initialized RX9, Cond.code yX9_isRequest cX9_isRequest 2 (some .boolean), Cond.fieldLink RX9 82 "ApprovalyardModel" "requests" "I", Cond.methodLink RX9 74 yX9_in, Cond.instanceMethod yX9_in, Cond.selects RX9 yX9_in yX9_in, Cond.code yX9_in cX9_in 4 (some .boolean), Cond.methodLink RX9 85 yX9_holds, Cond.instanceMethod yX9_holds, Cond.selects RX9 yX9_holds yX9_holds, Cond.code yX9_holds cX9_holds 2 (some .boolean), Cond.fieldLink RX9 70 "ApprovalyardModel" "thrown" "I", Cond.methodLink RX9 116 yX9_search, Cond.instanceMethod yX9_search]
def wsX9_resolve_r2 : List Cond := [Cond.selects RX9 yX9_search yX9_search, Cond.code yX9_search cX9_search 6 (some .int), Cond.fieldLink RX9 67 "ApprovalyardModel" "place" "[I", Cond.fieldLink RX9 37 "ApprovalyardModel" "qt" "[I", Cond.fieldLink RX9 64 "ApprovalyardModel" "size" "[I", Cond.fieldLink RX9 22 "ApprovalyardModel" "versions" "[I", Cond.fieldLink RX9 40 "ApprovalyardModel" "ql" "[I", Cond.methodLink RX9 103 yX9_forget, Cond.instanceMethod yX9_forget, Cond.selects RX9 yX9_forget yX9_forget, Cond.code yX9_forget cX9_forget 3 none, Cond.methodLink RX9 106 yX9_goes, Cond.instanceMethod yX9_goes, Cond.selects RX9 yX9_goes yX9_goes, Cond.code yX9_goes cX9_goes 9 (some .boolean), Cond.fieldLink RX9 13 "ApprovalyardModel" "vr" "[I", Cond.fieldLink RX9 16 "ApprovalyardModel" "vn" "[I", Cond.fieldLink RX9 19 "ApprovalyardModel" "needs" "[I", Cond.methodLink RX9 109 yX9_comes, Cond.instanceMethod yX9_comes, Cond.selects RX9 yX9_comes yX9_comes, Cond.code yX9_comes cX9_comes 7 (some .int), Cond.methodLink RX9 99 yX9_empty, Cond.instanceMethod yX9_empty]
def wsX9_resolve_r3 : List Cond := [Cond.selects RX9 yX9_empty yX9_empty, Cond.code yX9_empty cX9_empty 3 none, Cond.methodLink RX9 95 yX9_ends, Cond.instanceMethod yX9_ends, Cond.selects RX9 yX9_ends yX9_ends, Cond.code yX9_ends cX9_ends 4 (some .int), Cond.fieldLink RX9 52 "ApprovalyardModel" "by" "[I"]
def wsX9_resolve : List Cond := .code yX9_resolve cX9_resolve 5 (some .int) :: ((wsX9_resolve_r1 ++ (wsX9_resolve_r2 ++ wsX9_resolve_r3)) ++ wsX90)
def wsX9_chosen : List Cond := .code yX9_chosen cX9_chosen 3 (some .int) :: ([.fieldLink RX9 49 "ApprovalyardModel" "chosen" "[I", .methodLink RX9 113 yX9_isRequest, .instanceMethod yX9_isRequest, .selects RX9 yX9_isRequest yX9_isRequest, .initialized RX9, .code yX9_isRequest cX9_isRequest 2 (some .boolean), .fieldLink RX9 82 "ApprovalyardModel" "requests" "I", .methodLink RX9 74 yX9_in, .instanceMethod yX9_in, .selects RX9 yX9_in yX9_in, .code yX9_in cX9_in 4 (some .boolean), .methodLink RX9 78 yX9_isEight, .instanceMethod yX9_isEight, .selects RX9 yX9_isEight yX9_isEight, .code yX9_isEight cX9_isEight 2 (some .boolean), .methodLink RX9 85 yX9_holds, .instanceMethod yX9_holds, .selects RX9 yX9_holds yX9_holds, .code yX9_holds cX9_holds 2 (some .boolean), .fieldLink RX9 70 "ApprovalyardModel" "thrown" "I"] ++ wsX90)
def wsX9_limit : List Cond := .code yX9_limit cX9_limit 4 (some .int) :: ([.fieldLink RX9 25 "ApprovalyardModel" "lim" "[I", .fieldLink RX9 88 "ApprovalyardModel" "entries" "I", .methodLink RX9 78 yX9_isEight, .instanceMethod yX9_isEight, .selects RX9 yX9_isEight yX9_isEight, .initialized RX9, .code yX9_isEight cX9_isEight 2 (some .boolean), .methodLink RX9 74 yX9_in, .instanceMethod yX9_in, .selects RX9 yX9_in yX9_in, .code yX9_in cX9_in 4 (some .boolean), .methodLink RX9 85 yX9_holds, .instanceMethod yX9_holds, .selects RX9 yX9_holds yX9_holds, .code yX9_holds cX9_holds 2 (some .boolean), .fieldLink RX9 70 "ApprovalyardModel" "thrown" "I"] ++ wsX90)
def wsX9_leave : List Cond := .code yX9_leave cX9_leave 4 (some .int) :: ([.fieldLink RX9 28 "ApprovalyardModel" "back" "[I", .fieldLink RX9 119 "ApprovalyardModel" "day" "I", .fieldLink RX9 31 "ApprovalyardModel" "deputy" "[I", .fieldLink RX9 88 "ApprovalyardModel" "entries" "I", .methodLink RX9 78 yX9_isEight, .instanceMethod yX9_isEight, .selects RX9 yX9_isEight yX9_isEight, .initialized RX9, .code yX9_isEight cX9_isEight 2 (some .boolean), .methodLink RX9 74 yX9_in, .instanceMethod yX9_in, .selects RX9 yX9_in yX9_in, .code yX9_in cX9_in 4 (some .boolean), .methodLink RX9 85 yX9_holds, .instanceMethod yX9_holds, .selects RX9 yX9_holds yX9_holds, .code yX9_holds cX9_holds 2 (some .boolean), .fieldLink RX9 70 "ApprovalyardModel" "thrown" "I"] ++ wsX90)
def wsX9_isAway : List Cond := .code yX9_isAway cX9_isAway 2 (some .boolean) :: ([.fieldLink RX9 119 "ApprovalyardModel" "day" "I", .fieldLink RX9 28 "ApprovalyardModel" "back" "[I"] ++ wsX90)
def wsX9_forWhom : List Cond := .code yX9_forWhom cX9_forWhom 4 (some .int) :: ([.fieldLink RX9 34 "ApprovalyardModel" "qp" "[I", .fieldLink RX9 25 "ApprovalyardModel" "lim" "[I", .fieldLink RX9 46 "ApprovalyardModel" "qc" "[I", .fieldLink RX9 31 "ApprovalyardModel" "deputy" "[I", .methodLink RX9 122 yX9_isAway, .instanceMethod yX9_isAway, .selects RX9 yX9_isAway yX9_isAway, .initialized RX9, .code yX9_isAway cX9_isAway 2 (some .boolean), .fieldLink RX9 119 "ApprovalyardModel" "day" "I", .fieldLink RX9 28 "ApprovalyardModel" "back" "[I"] ++ wsX90)
def wsX9_approve_r1 : List Cond := [Cond.fieldLink RX9 43 "ApprovalyardModel" "qs" "[I", Cond.fieldLink RX9 52 "ApprovalyardModel" "by" "[I", Cond.fieldLink RX9 55 "ApprovalyardModel" "until" "[I", Cond.fieldLink RX9 28 "ApprovalyardModel" "back" "[I", Cond.fieldLink RX9 88 "ApprovalyardModel" "entries" "I", Cond.methodLink RX9 113 yX9_isRequest, Cond.instanceMethod yX9_isRequest, Cond.selects RX9 yX9_isRequest yX9_isRequest, Cond.initialized RX9, Cond.code yX9_isRequest cX9_isRequest 2 (some .boolean), Cond.fieldLink RX9 82 "ApprovalyardModel" "requests" "I", Cond.methodLink RX9 74 yX9_in, Cond.instanceMethod yX9_in, Cond.selects RX9 yX9_in yX9_in, Cond.code yX9_in cX9_in 4 (some .boolean), Cond.methodLink RX9 78 yX9_isEight, Cond.instanceMethod yX9_isEight, Cond.selects RX9 yX9_isEight yX9_isEight, Cond.code yX9_isEight cX9_isEight 2 (some .boolean), Cond.methodLink RX9 125 yX9_forWhom, Cond.instanceMethod yX9_forWhom, Cond.selects RX9 yX9_forWhom yX9_forWhom, Cond.code yX9_forWhom cX9_forWhom 4 (some .int), Cond.fieldLink RX9 34 "ApprovalyardModel" "qp" "[I"]
def wsX9_approve_r2 : List Cond := [Cond.fieldLink RX9 25 "ApprovalyardModel" "lim" "[I", Cond.fieldLink RX9 46 "ApprovalyardModel" "qc" "[I", Cond.fieldLink RX9 31 "ApprovalyardModel" "deputy" "[I", Cond.methodLink RX9 122 yX9_isAway, Cond.instanceMethod yX9_isAway, Cond.selects RX9 yX9_isAway yX9_isAway, Cond.code yX9_isAway cX9_isAway 2 (some .boolean), Cond.fieldLink RX9 119 "ApprovalyardModel" "day" "I", Cond.methodLink RX9 85 yX9_holds, Cond.instanceMethod yX9_holds, Cond.selects RX9 yX9_holds yX9_holds, Cond.code yX9_holds cX9_holds 2 (some .boolean), Cond.fieldLink RX9 70 "ApprovalyardModel" "thrown" "I"]
def wsX9_approve : List Cond := .code yX9_approve cX9_approve 6 (some .int) :: ((wsX9_approve_r1 ++ wsX9_approve_r2) ++ wsX90)
def wsX9_approvals : List Cond := .code yX9_approvals cX9_approvals 4 (some .int) :: ([.fieldLink RX9 52 "ApprovalyardModel" "by" "[I"] ++ wsX90)
def wsX9_covered : List Cond := .code yX9_covered cX9_covered 2 (some .boolean) :: ([.fieldLink RX9 46 "ApprovalyardModel" "qc" "[I", .methodLink RX9 128 yX9_approvals, .instanceMethod yX9_approvals, .selects RX9 yX9_approvals yX9_approvals, .initialized RX9, .code yX9_approvals cX9_approvals 4 (some .int), .fieldLink RX9 52 "ApprovalyardModel" "by" "[I"] ++ wsX90)
def wsX9_release_r1 : List Cond := [Cond.fieldLink RX9 43 "ApprovalyardModel" "qs" "[I", Cond.fieldLink RX9 88 "ApprovalyardModel" "entries" "I", Cond.methodLink RX9 113 yX9_isRequest, Cond.instanceMethod yX9_isRequest, Cond.selects RX9 yX9_isRequest yX9_isRequest, Cond.initialized RX9, Cond.code yX9_isRequest cX9_isRequest 2 (some .boolean), Cond.fieldLink RX9 82 "ApprovalyardModel" "requests" "I", Cond.methodLink RX9 74 yX9_in, Cond.instanceMethod yX9_in, Cond.selects RX9 yX9_in yX9_in, Cond.code yX9_in cX9_in 4 (some .boolean), Cond.methodLink RX9 131 yX9_covered, Cond.instanceMethod yX9_covered, Cond.selects RX9 yX9_covered yX9_covered, Cond.code yX9_covered cX9_covered 2 (some .boolean), Cond.fieldLink RX9 46 "ApprovalyardModel" "qc" "[I", Cond.methodLink RX9 128 yX9_approvals, Cond.instanceMethod yX9_approvals, Cond.selects RX9 yX9_approvals yX9_approvals, Cond.code yX9_approvals cX9_approvals 4 (some .int), Cond.fieldLink RX9 52 "ApprovalyardModel" "by" "[I", Cond.methodLink RX9 85 yX9_holds, Cond.instanceMethod yX9_holds]
def wsX9_release_r2 : List Cond := [Cond.selects RX9 yX9_holds yX9_holds, Cond.code yX9_holds cX9_holds 2 (some .boolean), Cond.fieldLink RX9 70 "ApprovalyardModel" "thrown" "I"]
def wsX9_release : List Cond := .code yX9_release cX9_release 2 none :: ((wsX9_release_r1 ++ wsX9_release_r2) ++ wsX90)
def wsX9_pass : List Cond := .code yX9_pass cX9_pass 3 (some .int) :: ([.fieldLink RX9 119 "ApprovalyardModel" "day" "I", .fieldLink RX9 82 "ApprovalyardModel" "requests" "I", .fieldLink RX9 52 "ApprovalyardModel" "by" "[I", .fieldLink RX9 55 "ApprovalyardModel" "until" "[I", .fieldLink RX9 88 "ApprovalyardModel" "entries" "I", .methodLink RX9 74 yX9_in, .instanceMethod yX9_in, .selects RX9 yX9_in yX9_in, .initialized RX9, .code yX9_in cX9_in 4 (some .boolean), .methodLink RX9 85 yX9_holds, .instanceMethod yX9_holds, .selects RX9 yX9_holds yX9_holds, .code yX9_holds cX9_holds 2 (some .boolean), .fieldLink RX9 70 "ApprovalyardModel" "thrown" "I"] ++ wsX90)
def wsX9_ofRequest_r1 : List Cond := [Cond.fieldLink RX9 43 "ApprovalyardModel" "qs" "[I", Cond.fieldLink RX9 46 "ApprovalyardModel" "qc" "[I", Cond.methodLink RX9 113 yX9_isRequest, Cond.instanceMethod yX9_isRequest, Cond.selects RX9 yX9_isRequest yX9_isRequest, Cond.initialized RX9, Cond.code yX9_isRequest cX9_isRequest 2 (some .boolean), Cond.fieldLink RX9 82 "ApprovalyardModel" "requests" "I", Cond.methodLink RX9 74 yX9_in, Cond.instanceMethod yX9_in, Cond.selects RX9 yX9_in yX9_in, Cond.code yX9_in cX9_in 4 (some .boolean), Cond.methodLink RX9 85 yX9_holds, Cond.instanceMethod yX9_holds, Cond.selects RX9 yX9_holds yX9_holds, Cond.code yX9_holds cX9_holds 2 (some .boolean), Cond.fieldLink RX9 70 "ApprovalyardModel" "thrown" "I", Cond.methodLink RX9 128 yX9_approvals, Cond.instanceMethod yX9_approvals, Cond.selects RX9 yX9_approvals yX9_approvals, Cond.code yX9_approvals cX9_approvals 4 (some .int), Cond.fieldLink RX9 52 "ApprovalyardModel" "by" "[I", Cond.methodLink RX9 131 yX9_covered, Cond.instanceMethod yX9_covered]
def wsX9_ofRequest_r2 : List Cond := [Cond.selects RX9 yX9_covered yX9_covered, Cond.code yX9_covered cX9_covered 2 (some .boolean)]
def wsX9_ofRequest : List Cond := .code yX9_ofRequest cX9_ofRequest 3 (some .int) :: ((wsX9_ofRequest_r1 ++ wsX9_ofRequest_r2) ++ wsX90)
def wsX9_isCoveredAnew_r1 : List Cond := [Cond.methodLink RX9 113 yX9_isRequest, Cond.instanceMethod yX9_isRequest, Cond.selects RX9 yX9_isRequest yX9_isRequest, Cond.initialized RX9, Cond.code yX9_isRequest cX9_isRequest 2 (some .boolean), Cond.fieldLink RX9 82 "ApprovalyardModel" "requests" "I", Cond.methodLink RX9 74 yX9_in, Cond.instanceMethod yX9_in, Cond.selects RX9 yX9_in yX9_in, Cond.code yX9_in cX9_in 4 (some .boolean), Cond.methodLink RX9 85 yX9_holds, Cond.instanceMethod yX9_holds, Cond.selects RX9 yX9_holds yX9_holds, Cond.code yX9_holds cX9_holds 2 (some .boolean), Cond.fieldLink RX9 70 "ApprovalyardModel" "thrown" "I", Cond.methodLink RX9 131 yX9_covered, Cond.instanceMethod yX9_covered, Cond.selects RX9 yX9_covered yX9_covered, Cond.code yX9_covered cX9_covered 2 (some .boolean), Cond.fieldLink RX9 46 "ApprovalyardModel" "qc" "[I", Cond.methodLink RX9 128 yX9_approvals, Cond.instanceMethod yX9_approvals, Cond.selects RX9 yX9_approvals yX9_approvals, Cond.code yX9_approvals cX9_approvals 4 (some .int)]
def wsX9_isCoveredAnew_r2 : List Cond := [Cond.fieldLink RX9 52 "ApprovalyardModel" "by" "[I"]
def wsX9_isCoveredAnew : List Cond := .code yX9_isCoveredAnew cX9_isCoveredAnew 2 (some .boolean) :: ((wsX9_isCoveredAnew_r1 ++ wsX9_isCoveredAnew_r2) ++ wsX90)
def wsX9_strain_r1 : List Cond := [Cond.fieldLink RX9 43 "ApprovalyardModel" "qs" "[I", Cond.constantFloat RX9 134 (3212836864), Cond.fieldLink RX9 34 "ApprovalyardModel" "qp" "[I", Cond.fieldLink RX9 25 "ApprovalyardModel" "lim" "[I", Cond.fieldLink RX9 46 "ApprovalyardModel" "qc" "[I", Cond.methodLink RX9 113 yX9_isRequest, Cond.instanceMethod yX9_isRequest, Cond.selects RX9 yX9_isRequest yX9_isRequest, Cond.initialized RX9, Cond.code yX9_isRequest cX9_isRequest 2 (some .boolean), Cond.fieldLink RX9 82 "ApprovalyardModel" "requests" "I", Cond.methodLink RX9 74 yX9_in, Cond.instanceMethod yX9_in, Cond.selects RX9 yX9_in yX9_in, Cond.code yX9_in cX9_in 4 (some .boolean), Cond.methodLink RX9 85 yX9_holds, Cond.instanceMethod yX9_holds, Cond.selects RX9 yX9_holds yX9_holds, Cond.code yX9_holds cX9_holds 2 (some .boolean), Cond.fieldLink RX9 70 "ApprovalyardModel" "thrown" "I", Cond.methodLink RX9 122 yX9_isAway, Cond.instanceMethod yX9_isAway, Cond.selects RX9 yX9_isAway yX9_isAway, Cond.code yX9_isAway cX9_isAway 2 (some .boolean)]
def wsX9_strain_r2 : List Cond := [Cond.fieldLink RX9 119 "ApprovalyardModel" "day" "I", Cond.fieldLink RX9 28 "ApprovalyardModel" "back" "[I"]
def wsX9_strain : List Cond := .code yX9_strain cX9_strain 5 (some .float) :: ((wsX9_strain_r1 ++ wsX9_strain_r2) ++ wsX90)
def wsX9_entries : List Cond := .code yX9_entries cX9_entries 1 (some .int) :: ([.fieldLink RX9 88 "ApprovalyardModel" "entries" "I", .methodLink RX9 85 yX9_holds, .instanceMethod yX9_holds, .selects RX9 yX9_holds yX9_holds, .initialized RX9, .code yX9_holds cX9_holds 2 (some .boolean), .fieldLink RX9 70 "ApprovalyardModel" "thrown" "I"] ++ wsX90)
def wsL_version_r1 : List Cond := [Cond.classLink RL 13 "java/lang/IndexOutOfBoundsException", Cond.classLink RL 15 "java/lang/IllegalArgumentException", Cond.classLink RL 17 "java/lang/IllegalStateException", Cond.methodLink RL 7 yX8_version, Cond.instanceMethod yX8_version, Cond.selects RX8 yX8_version yX8_version, Cond.initialized RX8, Cond.code yX8_version cX8_version 3 (some .int), Cond.classLink RX8 37 "java/lang/IllegalArgumentException", Cond.initialized "java/lang/IllegalArgumentException", Cond.classLink RX8 54 "java/lang/IllegalStateException", Cond.initialized "java/lang/IllegalStateException", Cond.fieldLink RX8 19 "Approvalyard" "desk" "LApprovalyard$Desk;", Cond.fieldLink RX8 44 "Approvalyard$Desk" "parts" "LApprovalyard$Parts;", Cond.methodLink RX8 33 yX8_checkPart, Cond.static yX8_checkPart, Cond.code yX8_checkPart cX8_checkPart 1 none, Cond.classLink RX8 178 "java/lang/IndexOutOfBoundsException", Cond.initialized "java/lang/IndexOutOfBoundsException", Cond.methodLink RX8 48 yX3_countOf, Cond.instanceMethod yX3_countOf, Cond.selects RX3 yX3_countOf yX3_countOf, Cond.initialized RX3, Cond.code yX3_countOf cX3_countOf 2 (some .int)]
def wsL_version_r2 : List Cond := [Cond.fieldLink RX3 14 "Approvalyard$Parts" "counts" "LApprovalyard$Row;", Cond.methodLink RX3 38 yX6_at, Cond.instanceMethod yX6_at, Cond.selects RX6 yX6_at yX6_at, Cond.initialized RX6, Cond.code yX6_at cX6_at 2 (some .int), Cond.fieldLink RX6 7 "Approvalyard$Row" "cells" "[I", Cond.methodLink RX8 59 yX8_tell, Cond.instanceMethod yX8_tell, Cond.selects RX8 yX8_tell yX8_tell, Cond.code yX8_tell cX8_tell 5 (some .int), Cond.fieldLink RX8 10 "Approvalyard" "book" "LApprovalyard$Book;", Cond.methodLink RX8 80 yX0_write, Cond.instanceMethod yX0_write, Cond.selects RX0 yX0_write yX0_write, Cond.initialized RX0, Cond.code yX0_write cX0_write 8 (some .int), Cond.fieldLink RX0 20 "Approvalyard$Book" "number" "I", Cond.fieldLink RX0 16 "Approvalyard$Book" "words" "LApprovalyard$Row;", Cond.methodLink RX0 24 yX6_put, Cond.instanceMethod yX6_put, Cond.selects RX6 yX6_put yX6_put, Cond.code yX6_put cX6_put 3 none, Cond.methodLink RX8 84 yX2_apply]
def wsL_version_r3 : List Cond := [Cond.instanceMethod yX2_apply, Cond.selects RX2 yX2_apply yX2_apply, Cond.initialized RX2, Cond.code yX2_apply cX2_apply 6 (some .int), Cond.fieldLink RX2 12 "Approvalyard$Desk" "parts" "LApprovalyard$Parts;", Cond.fieldLink RX2 28 "Approvalyard$Desk" "requests" "LApprovalyard$Requests;", Cond.fieldLink RX2 21 "Approvalyard$Desk" "people" "LApprovalyard$People;", Cond.methodLink RX2 38 yX0_wordOf, Cond.instanceMethod yX0_wordOf, Cond.selects RX0 yX0_wordOf yX0_wordOf, Cond.code yX0_wordOf cX0_wordOf 3 (some .int), Cond.methodLink RX0 28 yX6_at, Cond.methodLink RX2 44 yX3_addVersion, Cond.instanceMethod yX3_addVersion, Cond.selects RX3 yX3_addVersion yX3_addVersion, Cond.code yX3_addVersion cX3_addVersion 5 (some .int), Cond.fieldLink RX3 20 "Approvalyard$Parts" "costs" "LApprovalyard$Row;", Cond.fieldLink RX3 23 "Approvalyard$Parts" "replaced" "LApprovalyard$Row;", Cond.fieldLink RX3 26 "Approvalyard$Parts" "needCounts" "LApprovalyard$Row;", Cond.methodLink RX3 42 yX3_placeOf, Cond.static yX3_placeOf, Cond.code yX3_placeOf cX3_placeOf 2 (some .int), Cond.methodLink RX3 46 yX6_put, Cond.methodLink RX2 47 yX3_addNeed]
def wsL_version_r4 : List Cond := [Cond.instanceMethod yX3_addNeed, Cond.selects RX3 yX3_addNeed yX3_addNeed, Cond.code yX3_addNeed cX3_addNeed 8 (some .int), Cond.fieldLink RX3 29 "Approvalyard$Parts" "needParts" "LApprovalyard$Row;", Cond.fieldLink RX3 32 "Approvalyard$Parts" "needVersions" "LApprovalyard$Row;", Cond.methodLink RX3 50 yX3_versionSet, Cond.static yX3_versionSet, Cond.code yX3_versionSet cX3_versionSet 2 (some .int), Cond.methodLink RX2 51 yX3_markReplaced, Cond.instanceMethod yX3_markReplaced, Cond.selects RX3 yX3_markReplaced yX3_markReplaced, Cond.code yX3_markReplaced cX3_markReplaced 3 none, Cond.methodLink RX2 55 yX4_today, Cond.instanceMethod yX4_today, Cond.selects RX4 yX4_today yX4_today, Cond.initialized RX4, Cond.code yX4_today cX4_today 1 (some .int), Cond.fieldLink RX4 29 "Approvalyard$People" "day" "I", Cond.methodLink RX2 59 yX5_loseVersion, Cond.instanceMethod yX5_loseVersion, Cond.selects RX5 yX5_loseVersion yX5_loseVersion, Cond.initialized RX5, Cond.code yX5_loseVersion cX5_loseVersion 6 (some .int), Cond.fieldLink RX5 38 "Approvalyard$Requests" "number" "I"]
def wsL_version_r5 : List Cond := [Cond.fieldLink RX5 29 "Approvalyard$Requests" "choices" "LApprovalyard$Row;", Cond.fieldLink RX5 26 "Approvalyard$Requests" "states" "LApprovalyard$Row;", Cond.methodLink RX5 52 yX6_at, Cond.methodLink RX5 60 yX1_versionOf, Cond.static yX1_versionOf, Cond.initialized RX1, Cond.code yX1_versionOf cX1_versionOf 2 (some .int), Cond.methodLink RX5 66 yX5_approvalsOf, Cond.instanceMethod yX5_approvalsOf, Cond.selects RX5 yX5_approvalsOf yX5_approvalsOf, Cond.code yX5_approvalsOf cX5_approvalsOf 5 (some .int), Cond.methodLink RX5 56 yX5_hasApproval, Cond.instanceMethod yX5_hasApproval, Cond.selects RX5 yX5_hasApproval yX5_hasApproval, Cond.code yX5_hasApproval cX5_hasApproval 4 (some .boolean), Cond.fieldLink RX5 35 "Approvalyard$Requests" "ends" "LApprovalyard$Row;", Cond.methodLink RX5 49 yX5_endApprovals, Cond.instanceMethod yX5_endApprovals, Cond.selects RX5 yX5_endApprovals yX5_endApprovals, Cond.code yX5_endApprovals cX5_endApprovals 3 none, Cond.methodLink RX5 42 yX6_put, Cond.methodLink RX5 46 yX5_reopen, Cond.instanceMethod yX5_reopen, Cond.selects RX5 yX5_reopen yX5_reopen]
def wsL_version_r6 : List Cond := [Cond.code yX5_reopen cX5_reopen 2 none, Cond.fieldLink RX5 32 "Approvalyard$Requests" "costs" "LApprovalyard$Row;", Cond.methodLink RX2 63 yX5_add, Cond.instanceMethod yX5_add, Cond.selects RX5 yX5_add yX5_add, Cond.code yX5_add cX5_add 5 (some .int), Cond.fieldLink RX5 14 "Approvalyard$Requests" "people" "LApprovalyard$Row;", Cond.fieldLink RX5 20 "Approvalyard$Requests" "parts" "LApprovalyard$Row;", Cond.fieldLink RX5 23 "Approvalyard$Requests" "leasts" "LApprovalyard$Row;", Cond.methodLink RX2 66 yX3_costOf, Cond.instanceMethod yX3_costOf, Cond.selects RX3 yX3_costOf yX3_costOf, Cond.code yX3_costOf cX3_costOf 5 (some .int), Cond.methodLink RX3 57 yX1_versionOf, Cond.methodLink RX2 70 yX5_settle, Cond.instanceMethod yX5_settle, Cond.selects RX5 yX5_settle yX5_settle, Cond.code yX5_settle cX5_settle 4 (some .int), Cond.methodLink RX2 73 yX4_changeLimit, Cond.instanceMethod yX4_changeLimit, Cond.selects RX4 yX4_changeLimit yX4_changeLimit, Cond.code yX4_changeLimit cX4_changeLimit 4 (some .int), Cond.fieldLink RX4 14 "Approvalyard$People" "limits" "LApprovalyard$Row;", Cond.methodLink RX4 33 yX6_at]
def wsL_version_r7 : List Cond := [Cond.methodLink RX4 37 yX6_put, Cond.methodLink RX2 76 yX4_sendOnLeave, Cond.instanceMethod yX4_sendOnLeave, Cond.selects RX4 yX4_sendOnLeave yX4_sendOnLeave, Cond.code yX4_sendOnLeave cX4_sendOnLeave 4 (some .int), Cond.fieldLink RX4 20 "Approvalyard$People" "delegates" "LApprovalyard$Row;", Cond.fieldLink RX4 23 "Approvalyard$People" "backs" "LApprovalyard$Row;", Cond.methodLink RX2 79 yX2_takeApproval, Cond.instanceMethod yX2_takeApproval, Cond.selects RX2 yX2_takeApproval yX2_takeApproval, Cond.code yX2_takeApproval cX2_takeApproval 5 (some .int), Cond.constant RX2 107 (2147483647), Cond.methodLink RX2 98 yX5_costOf, Cond.instanceMethod yX5_costOf, Cond.selects RX5 yX5_costOf yX5_costOf, Cond.code yX5_costOf cX5_costOf 2 (some .int), Cond.methodLink RX2 99 yX4_principalOf, Cond.instanceMethod yX4_principalOf, Cond.selects RX4 yX4_principalOf yX4_principalOf, Cond.code yX4_principalOf cX4_principalOf 4 (some .int), Cond.methodLink RX4 41 yX4_isAway, Cond.instanceMethod yX4_isAway, Cond.selects RX4 yX4_isAway yX4_isAway, Cond.code yX4_isAway cX4_isAway 2 (some .boolean)]
def wsL_version_r8 : List Cond := [Cond.methodLink RX2 108 yX4_backOf, Cond.instanceMethod yX4_backOf, Cond.selects RX4 yX4_backOf yX4_backOf, Cond.code yX4_backOf cX4_backOf 2 (some .int), Cond.methodLink RX2 111 yX5_addApproval, Cond.instanceMethod yX5_addApproval, Cond.selects RX5 yX5_addApproval yX5_addApproval, Cond.code yX5_addApproval cX5_addApproval 4 none, Cond.methodLink RX2 82 yX5_markReleased, Cond.instanceMethod yX5_markReleased, Cond.selects RX5 yX5_markReleased yX5_markReleased, Cond.code yX5_markReleased cX5_markReleased 2 (some .int), Cond.methodLink RX2 85 yX4_addDays, Cond.instanceMethod yX4_addDays, Cond.selects RX4 yX4_addDays yX4_addDays, Cond.code yX4_addDays cX4_addDays 2 (some .int)]
def wsL_version : List Cond := .codeWith yL_version cL_version 5 (some .int) [(0, 10, 13, 13), (0, 10, 17, 15), (0, 10, 21, 17)] :: ((wsL_version_r1 ++ (wsL_version_r2 ++ (wsL_version_r3 ++ (wsL_version_r4 ++ (wsL_version_r5 ++ (wsL_version_r6 ++ (wsL_version_r7 ++ wsL_version_r8))))))) ++ wsX80 ++ wsX20 ++ wsX30 ++ wsX60 ++ wsX00 ++ wsX40 ++ wsX50 ++ (vx_atS RX8 41 "java/lang/IllegalArgumentException" ["java/lang/RuntimeException", "java/lang/Exception"]).filter goodWord ++ (vx_atS RX8 58 "java/lang/IllegalStateException" ["java/lang/RuntimeException", "java/lang/Exception"]).filter goodWord ++ (vx_atS RX8 182 "java/lang/IndexOutOfBoundsException" ["java/lang/RuntimeException", "java/lang/Exception"]).filter goodWord)
def wsL_need_r1 : List Cond := [Cond.classLink RL 13 "java/lang/IndexOutOfBoundsException", Cond.classLink RL 15 "java/lang/IllegalArgumentException", Cond.classLink RL 17 "java/lang/IllegalStateException", Cond.methodLink RL 19 yX8_need, Cond.instanceMethod yX8_need, Cond.selects RX8 yX8_need yX8_need, Cond.initialized RX8, Cond.code yX8_need cX8_need 6 (some .int), Cond.classLink RX8 37 "java/lang/IllegalArgumentException", Cond.initialized "java/lang/IllegalArgumentException", Cond.classLink RX8 54 "java/lang/IllegalStateException", Cond.initialized "java/lang/IllegalStateException", Cond.fieldLink RX8 19 "Approvalyard" "desk" "LApprovalyard$Desk;", Cond.fieldLink RX8 44 "Approvalyard$Desk" "parts" "LApprovalyard$Parts;", Cond.fieldLink RX8 10 "Approvalyard" "book" "LApprovalyard$Book;", Cond.methodLink RX8 33 yX8_checkPart, Cond.static yX8_checkPart, Cond.code yX8_checkPart cX8_checkPart 1 none, Cond.classLink RX8 178 "java/lang/IndexOutOfBoundsException", Cond.initialized "java/lang/IndexOutOfBoundsException", Cond.methodLink RX8 63 yX8_checkVersion, Cond.instanceMethod yX8_checkVersion, Cond.selects RX8 yX8_checkVersion yX8_checkVersion, Cond.code yX8_checkVersion cX8_checkVersion 3 none]
def wsL_need_r2 : List Cond := [Cond.methodLink RX8 48 yX3_countOf, Cond.instanceMethod yX3_countOf, Cond.selects RX3 yX3_countOf yX3_countOf, Cond.initialized RX3, Cond.code yX3_countOf cX3_countOf 2 (some .int), Cond.fieldLink RX3 14 "Approvalyard$Parts" "counts" "LApprovalyard$Row;", Cond.methodLink RX3 38 yX6_at, Cond.instanceMethod yX6_at, Cond.selects RX6 yX6_at yX6_at, Cond.initialized RX6, Cond.code yX6_at cX6_at 2 (some .int), Cond.fieldLink RX6 7 "Approvalyard$Row" "cells" "[I", Cond.methodLink RX8 69 yX8_checkLeast, Cond.static yX8_checkLeast, Cond.code yX8_checkLeast cX8_checkLeast 1 none, Cond.methodLink RX8 74 yX3_needsOf, Cond.instanceMethod yX3_needsOf, Cond.selects RX3 yX3_needsOf yX3_needsOf, Cond.code yX3_needsOf cX3_needsOf 3 (some .int), Cond.fieldLink RX3 26 "Approvalyard$Parts" "needCounts" "LApprovalyard$Row;", Cond.methodLink RX3 42 yX3_placeOf, Cond.static yX3_placeOf, Cond.code yX3_placeOf cX3_placeOf 2 (some .int), Cond.methodLink RX8 80 yX0_write]
def wsL_need_r3 : List Cond := [Cond.instanceMethod yX0_write, Cond.selects RX0 yX0_write yX0_write, Cond.initialized RX0, Cond.code yX0_write cX0_write 8 (some .int), Cond.fieldLink RX0 20 "Approvalyard$Book" "number" "I", Cond.fieldLink RX0 16 "Approvalyard$Book" "words" "LApprovalyard$Row;", Cond.methodLink RX0 24 yX6_put, Cond.instanceMethod yX6_put, Cond.selects RX6 yX6_put yX6_put, Cond.code yX6_put cX6_put 3 none, Cond.methodLink RX8 84 yX2_apply, Cond.instanceMethod yX2_apply, Cond.selects RX2 yX2_apply yX2_apply, Cond.initialized RX2, Cond.code yX2_apply cX2_apply 6 (some .int), Cond.fieldLink RX2 12 "Approvalyard$Desk" "parts" "LApprovalyard$Parts;", Cond.fieldLink RX2 28 "Approvalyard$Desk" "requests" "LApprovalyard$Requests;", Cond.fieldLink RX2 21 "Approvalyard$Desk" "people" "LApprovalyard$People;", Cond.methodLink RX2 38 yX0_wordOf, Cond.instanceMethod yX0_wordOf, Cond.selects RX0 yX0_wordOf yX0_wordOf, Cond.code yX0_wordOf cX0_wordOf 3 (some .int), Cond.methodLink RX0 28 yX6_at, Cond.methodLink RX2 44 yX3_addVersion]
def wsL_need_r4 : List Cond := [Cond.instanceMethod yX3_addVersion, Cond.selects RX3 yX3_addVersion yX3_addVersion, Cond.code yX3_addVersion cX3_addVersion 5 (some .int), Cond.fieldLink RX3 20 "Approvalyard$Parts" "costs" "LApprovalyard$Row;", Cond.fieldLink RX3 23 "Approvalyard$Parts" "replaced" "LApprovalyard$Row;", Cond.methodLink RX3 46 yX6_put, Cond.methodLink RX2 47 yX3_addNeed, Cond.instanceMethod yX3_addNeed, Cond.selects RX3 yX3_addNeed yX3_addNeed, Cond.code yX3_addNeed cX3_addNeed 8 (some .int), Cond.fieldLink RX3 29 "Approvalyard$Parts" "needParts" "LApprovalyard$Row;", Cond.fieldLink RX3 32 "Approvalyard$Parts" "needVersions" "LApprovalyard$Row;", Cond.methodLink RX3 50 yX3_versionSet, Cond.static yX3_versionSet, Cond.code yX3_versionSet cX3_versionSet 2 (some .int), Cond.methodLink RX2 51 yX3_markReplaced, Cond.instanceMethod yX3_markReplaced, Cond.selects RX3 yX3_markReplaced yX3_markReplaced, Cond.code yX3_markReplaced cX3_markReplaced 3 none, Cond.methodLink RX2 55 yX4_today, Cond.instanceMethod yX4_today, Cond.selects RX4 yX4_today yX4_today, Cond.initialized RX4, Cond.code yX4_today cX4_today 1 (some .int)]
def wsL_need_r5 : List Cond := [Cond.fieldLink RX4 29 "Approvalyard$People" "day" "I", Cond.methodLink RX2 59 yX5_loseVersion, Cond.instanceMethod yX5_loseVersion, Cond.selects RX5 yX5_loseVersion yX5_loseVersion, Cond.initialized RX5, Cond.code yX5_loseVersion cX5_loseVersion 6 (some .int), Cond.fieldLink RX5 38 "Approvalyard$Requests" "number" "I", Cond.fieldLink RX5 29 "Approvalyard$Requests" "choices" "LApprovalyard$Row;", Cond.fieldLink RX5 26 "Approvalyard$Requests" "states" "LApprovalyard$Row;", Cond.methodLink RX5 52 yX6_at, Cond.methodLink RX5 60 yX1_versionOf, Cond.static yX1_versionOf, Cond.initialized RX1, Cond.code yX1_versionOf cX1_versionOf 2 (some .int), Cond.methodLink RX5 66 yX5_approvalsOf, Cond.instanceMethod yX5_approvalsOf, Cond.selects RX5 yX5_approvalsOf yX5_approvalsOf, Cond.code yX5_approvalsOf cX5_approvalsOf 5 (some .int), Cond.methodLink RX5 56 yX5_hasApproval, Cond.instanceMethod yX5_hasApproval, Cond.selects RX5 yX5_hasApproval yX5_hasApproval, Cond.code yX5_hasApproval cX5_hasApproval 4 (some .boolean), Cond.fieldLink RX5 35 "Approvalyard$Requests" "ends" "LApprovalyard$Row;", Cond.methodLink RX5 49 yX5_endApprovals]
def wsL_need_r6 : List Cond := [Cond.instanceMethod yX5_endApprovals, Cond.selects RX5 yX5_endApprovals yX5_endApprovals, Cond.code yX5_endApprovals cX5_endApprovals 3 none, Cond.methodLink RX5 42 yX6_put, Cond.methodLink RX5 46 yX5_reopen, Cond.instanceMethod yX5_reopen, Cond.selects RX5 yX5_reopen yX5_reopen, Cond.code yX5_reopen cX5_reopen 2 none, Cond.fieldLink RX5 32 "Approvalyard$Requests" "costs" "LApprovalyard$Row;", Cond.methodLink RX2 63 yX5_add, Cond.instanceMethod yX5_add, Cond.selects RX5 yX5_add yX5_add, Cond.code yX5_add cX5_add 5 (some .int), Cond.fieldLink RX5 14 "Approvalyard$Requests" "people" "LApprovalyard$Row;", Cond.fieldLink RX5 20 "Approvalyard$Requests" "parts" "LApprovalyard$Row;", Cond.fieldLink RX5 23 "Approvalyard$Requests" "leasts" "LApprovalyard$Row;", Cond.methodLink RX2 66 yX3_costOf, Cond.instanceMethod yX3_costOf, Cond.selects RX3 yX3_costOf yX3_costOf, Cond.code yX3_costOf cX3_costOf 5 (some .int), Cond.methodLink RX3 57 yX1_versionOf, Cond.methodLink RX2 70 yX5_settle, Cond.instanceMethod yX5_settle, Cond.selects RX5 yX5_settle yX5_settle]
def wsL_need_r7 : List Cond := [Cond.code yX5_settle cX5_settle 4 (some .int), Cond.methodLink RX2 73 yX4_changeLimit, Cond.instanceMethod yX4_changeLimit, Cond.selects RX4 yX4_changeLimit yX4_changeLimit, Cond.code yX4_changeLimit cX4_changeLimit 4 (some .int), Cond.fieldLink RX4 14 "Approvalyard$People" "limits" "LApprovalyard$Row;", Cond.methodLink RX4 33 yX6_at, Cond.methodLink RX4 37 yX6_put, Cond.methodLink RX2 76 yX4_sendOnLeave, Cond.instanceMethod yX4_sendOnLeave, Cond.selects RX4 yX4_sendOnLeave yX4_sendOnLeave, Cond.code yX4_sendOnLeave cX4_sendOnLeave 4 (some .int), Cond.fieldLink RX4 20 "Approvalyard$People" "delegates" "LApprovalyard$Row;", Cond.fieldLink RX4 23 "Approvalyard$People" "backs" "LApprovalyard$Row;", Cond.methodLink RX2 79 yX2_takeApproval, Cond.instanceMethod yX2_takeApproval, Cond.selects RX2 yX2_takeApproval yX2_takeApproval, Cond.code yX2_takeApproval cX2_takeApproval 5 (some .int), Cond.constant RX2 107 (2147483647), Cond.methodLink RX2 98 yX5_costOf, Cond.instanceMethod yX5_costOf, Cond.selects RX5 yX5_costOf yX5_costOf, Cond.code yX5_costOf cX5_costOf 2 (some .int), Cond.methodLink RX2 99 yX4_principalOf]
def wsL_need_r8 : List Cond := [Cond.instanceMethod yX4_principalOf, Cond.selects RX4 yX4_principalOf yX4_principalOf, Cond.code yX4_principalOf cX4_principalOf 4 (some .int), Cond.methodLink RX4 41 yX4_isAway, Cond.instanceMethod yX4_isAway, Cond.selects RX4 yX4_isAway yX4_isAway, Cond.code yX4_isAway cX4_isAway 2 (some .boolean), Cond.methodLink RX2 108 yX4_backOf, Cond.instanceMethod yX4_backOf, Cond.selects RX4 yX4_backOf yX4_backOf, Cond.code yX4_backOf cX4_backOf 2 (some .int), Cond.methodLink RX2 111 yX5_addApproval, Cond.instanceMethod yX5_addApproval, Cond.selects RX5 yX5_addApproval yX5_addApproval, Cond.code yX5_addApproval cX5_addApproval 4 none, Cond.methodLink RX2 82 yX5_markReleased, Cond.instanceMethod yX5_markReleased, Cond.selects RX5 yX5_markReleased yX5_markReleased, Cond.code yX5_markReleased cX5_markReleased 2 (some .int), Cond.methodLink RX2 85 yX4_addDays, Cond.instanceMethod yX4_addDays, Cond.selects RX4 yX4_addDays yX4_addDays, Cond.code yX4_addDays cX4_addDays 2 (some .int)]
def wsL_need : List Cond := .codeWith yL_need cL_need 8 (some .int) [(0, 16, 19, 13), (0, 16, 23, 15), (0, 16, 27, 17)] :: ((wsL_need_r1 ++ (wsL_need_r2 ++ (wsL_need_r3 ++ (wsL_need_r4 ++ (wsL_need_r5 ++ (wsL_need_r6 ++ (wsL_need_r7 ++ wsL_need_r8))))))) ++ wsX80 ++ wsX20 ++ wsX30 ++ wsX60 ++ wsX00 ++ wsX40 ++ wsX50 ++ (vx_atS RX8 41 "java/lang/IllegalArgumentException" ["java/lang/RuntimeException", "java/lang/Exception"]).filter goodWord ++ (vx_atS RX8 58 "java/lang/IllegalStateException" ["java/lang/RuntimeException", "java/lang/Exception"]).filter goodWord ++ (vx_atS RX8 182 "java/lang/IndexOutOfBoundsException" ["java/lang/RuntimeException", "java/lang/Exception"]).filter goodWord)
def wsL_replace_r1 : List Cond := [Cond.classLink RL 13 "java/lang/IndexOutOfBoundsException", Cond.classLink RL 17 "java/lang/IllegalStateException", Cond.methodLink RL 23 yX8_replace, Cond.instanceMethod yX8_replace, Cond.selects RX8 yX8_replace yX8_replace, Cond.initialized RX8, Cond.code yX8_replace cX8_replace 3 (some .int), Cond.classLink RX8 54 "java/lang/IllegalStateException", Cond.initialized "java/lang/IllegalStateException", Cond.fieldLink RX8 19 "Approvalyard" "desk" "LApprovalyard$Desk;", Cond.fieldLink RX8 44 "Approvalyard$Desk" "parts" "LApprovalyard$Parts;", Cond.methodLink RX8 33 yX8_checkPart, Cond.static yX8_checkPart, Cond.code yX8_checkPart cX8_checkPart 1 none, Cond.classLink RX8 178 "java/lang/IndexOutOfBoundsException", Cond.initialized "java/lang/IndexOutOfBoundsException", Cond.methodLink RX8 63 yX8_checkVersion, Cond.instanceMethod yX8_checkVersion, Cond.selects RX8 yX8_checkVersion yX8_checkVersion, Cond.code yX8_checkVersion cX8_checkVersion 3 none, Cond.methodLink RX8 48 yX3_countOf, Cond.instanceMethod yX3_countOf, Cond.selects RX3 yX3_countOf yX3_countOf, Cond.initialized RX3]
def wsL_replace_r2 : List Cond := [Cond.code yX3_countOf cX3_countOf 2 (some .int), Cond.fieldLink RX3 14 "Approvalyard$Parts" "counts" "LApprovalyard$Row;", Cond.methodLink RX3 38 yX6_at, Cond.instanceMethod yX6_at, Cond.selects RX6 yX6_at yX6_at, Cond.initialized RX6, Cond.code yX6_at cX6_at 2 (some .int), Cond.fieldLink RX6 7 "Approvalyard$Row" "cells" "[I", Cond.methodLink RX8 88 yX3_isReplaced, Cond.instanceMethod yX3_isReplaced, Cond.selects RX3 yX3_isReplaced yX3_isReplaced, Cond.code yX3_isReplaced cX3_isReplaced 3 (some .boolean), Cond.fieldLink RX3 23 "Approvalyard$Parts" "replaced" "LApprovalyard$Row;", Cond.methodLink RX3 42 yX3_placeOf, Cond.static yX3_placeOf, Cond.code yX3_placeOf cX3_placeOf 2 (some .int), Cond.methodLink RX8 59 yX8_tell, Cond.instanceMethod yX8_tell, Cond.selects RX8 yX8_tell yX8_tell, Cond.code yX8_tell cX8_tell 5 (some .int), Cond.fieldLink RX8 10 "Approvalyard" "book" "LApprovalyard$Book;", Cond.methodLink RX8 80 yX0_write, Cond.instanceMethod yX0_write, Cond.selects RX0 yX0_write yX0_write]
def wsL_replace_r3 : List Cond := [Cond.initialized RX0, Cond.code yX0_write cX0_write 8 (some .int), Cond.fieldLink RX0 20 "Approvalyard$Book" "number" "I", Cond.fieldLink RX0 16 "Approvalyard$Book" "words" "LApprovalyard$Row;", Cond.methodLink RX0 24 yX6_put, Cond.instanceMethod yX6_put, Cond.selects RX6 yX6_put yX6_put, Cond.code yX6_put cX6_put 3 none, Cond.methodLink RX8 84 yX2_apply, Cond.instanceMethod yX2_apply, Cond.selects RX2 yX2_apply yX2_apply, Cond.initialized RX2, Cond.code yX2_apply cX2_apply 6 (some .int), Cond.fieldLink RX2 12 "Approvalyard$Desk" "parts" "LApprovalyard$Parts;", Cond.fieldLink RX2 28 "Approvalyard$Desk" "requests" "LApprovalyard$Requests;", Cond.fieldLink RX2 21 "Approvalyard$Desk" "people" "LApprovalyard$People;", Cond.methodLink RX2 38 yX0_wordOf, Cond.instanceMethod yX0_wordOf, Cond.selects RX0 yX0_wordOf yX0_wordOf, Cond.code yX0_wordOf cX0_wordOf 3 (some .int), Cond.methodLink RX0 28 yX6_at, Cond.methodLink RX2 44 yX3_addVersion, Cond.instanceMethod yX3_addVersion, Cond.selects RX3 yX3_addVersion yX3_addVersion]
def wsL_replace_r4 : List Cond := [Cond.code yX3_addVersion cX3_addVersion 5 (some .int), Cond.fieldLink RX3 20 "Approvalyard$Parts" "costs" "LApprovalyard$Row;", Cond.fieldLink RX3 26 "Approvalyard$Parts" "needCounts" "LApprovalyard$Row;", Cond.methodLink RX3 46 yX6_put, Cond.methodLink RX2 47 yX3_addNeed, Cond.instanceMethod yX3_addNeed, Cond.selects RX3 yX3_addNeed yX3_addNeed, Cond.code yX3_addNeed cX3_addNeed 8 (some .int), Cond.fieldLink RX3 29 "Approvalyard$Parts" "needParts" "LApprovalyard$Row;", Cond.fieldLink RX3 32 "Approvalyard$Parts" "needVersions" "LApprovalyard$Row;", Cond.methodLink RX3 50 yX3_versionSet, Cond.static yX3_versionSet, Cond.code yX3_versionSet cX3_versionSet 2 (some .int), Cond.methodLink RX2 51 yX3_markReplaced, Cond.instanceMethod yX3_markReplaced, Cond.selects RX3 yX3_markReplaced yX3_markReplaced, Cond.code yX3_markReplaced cX3_markReplaced 3 none, Cond.methodLink RX2 55 yX4_today, Cond.instanceMethod yX4_today, Cond.selects RX4 yX4_today yX4_today, Cond.initialized RX4, Cond.code yX4_today cX4_today 1 (some .int), Cond.fieldLink RX4 29 "Approvalyard$People" "day" "I", Cond.methodLink RX2 59 yX5_loseVersion]
def wsL_replace_r5 : List Cond := [Cond.instanceMethod yX5_loseVersion, Cond.selects RX5 yX5_loseVersion yX5_loseVersion, Cond.initialized RX5, Cond.code yX5_loseVersion cX5_loseVersion 6 (some .int), Cond.fieldLink RX5 38 "Approvalyard$Requests" "number" "I", Cond.fieldLink RX5 29 "Approvalyard$Requests" "choices" "LApprovalyard$Row;", Cond.fieldLink RX5 26 "Approvalyard$Requests" "states" "LApprovalyard$Row;", Cond.methodLink RX5 52 yX6_at, Cond.methodLink RX5 60 yX1_versionOf, Cond.static yX1_versionOf, Cond.initialized RX1, Cond.code yX1_versionOf cX1_versionOf 2 (some .int), Cond.methodLink RX5 66 yX5_approvalsOf, Cond.instanceMethod yX5_approvalsOf, Cond.selects RX5 yX5_approvalsOf yX5_approvalsOf, Cond.code yX5_approvalsOf cX5_approvalsOf 5 (some .int), Cond.methodLink RX5 56 yX5_hasApproval, Cond.instanceMethod yX5_hasApproval, Cond.selects RX5 yX5_hasApproval yX5_hasApproval, Cond.code yX5_hasApproval cX5_hasApproval 4 (some .boolean), Cond.fieldLink RX5 35 "Approvalyard$Requests" "ends" "LApprovalyard$Row;", Cond.methodLink RX5 49 yX5_endApprovals, Cond.instanceMethod yX5_endApprovals, Cond.selects RX5 yX5_endApprovals yX5_endApprovals]
def wsL_replace_r6 : List Cond := [Cond.code yX5_endApprovals cX5_endApprovals 3 none, Cond.methodLink RX5 42 yX6_put, Cond.methodLink RX5 46 yX5_reopen, Cond.instanceMethod yX5_reopen, Cond.selects RX5 yX5_reopen yX5_reopen, Cond.code yX5_reopen cX5_reopen 2 none, Cond.fieldLink RX5 32 "Approvalyard$Requests" "costs" "LApprovalyard$Row;", Cond.methodLink RX2 63 yX5_add, Cond.instanceMethod yX5_add, Cond.selects RX5 yX5_add yX5_add, Cond.code yX5_add cX5_add 5 (some .int), Cond.fieldLink RX5 14 "Approvalyard$Requests" "people" "LApprovalyard$Row;", Cond.fieldLink RX5 20 "Approvalyard$Requests" "parts" "LApprovalyard$Row;", Cond.fieldLink RX5 23 "Approvalyard$Requests" "leasts" "LApprovalyard$Row;", Cond.methodLink RX2 66 yX3_costOf, Cond.instanceMethod yX3_costOf, Cond.selects RX3 yX3_costOf yX3_costOf, Cond.code yX3_costOf cX3_costOf 5 (some .int), Cond.methodLink RX3 57 yX1_versionOf, Cond.methodLink RX2 70 yX5_settle, Cond.instanceMethod yX5_settle, Cond.selects RX5 yX5_settle yX5_settle, Cond.code yX5_settle cX5_settle 4 (some .int), Cond.methodLink RX2 73 yX4_changeLimit]
def wsL_replace_r7 : List Cond := [Cond.instanceMethod yX4_changeLimit, Cond.selects RX4 yX4_changeLimit yX4_changeLimit, Cond.code yX4_changeLimit cX4_changeLimit 4 (some .int), Cond.fieldLink RX4 14 "Approvalyard$People" "limits" "LApprovalyard$Row;", Cond.methodLink RX4 33 yX6_at, Cond.methodLink RX4 37 yX6_put, Cond.methodLink RX2 76 yX4_sendOnLeave, Cond.instanceMethod yX4_sendOnLeave, Cond.selects RX4 yX4_sendOnLeave yX4_sendOnLeave, Cond.code yX4_sendOnLeave cX4_sendOnLeave 4 (some .int), Cond.fieldLink RX4 20 "Approvalyard$People" "delegates" "LApprovalyard$Row;", Cond.fieldLink RX4 23 "Approvalyard$People" "backs" "LApprovalyard$Row;", Cond.methodLink RX2 79 yX2_takeApproval, Cond.instanceMethod yX2_takeApproval, Cond.selects RX2 yX2_takeApproval yX2_takeApproval, Cond.code yX2_takeApproval cX2_takeApproval 5 (some .int), Cond.constant RX2 107 (2147483647), Cond.methodLink RX2 98 yX5_costOf, Cond.instanceMethod yX5_costOf, Cond.selects RX5 yX5_costOf yX5_costOf, Cond.code yX5_costOf cX5_costOf 2 (some .int), Cond.methodLink RX2 99 yX4_principalOf, Cond.instanceMethod yX4_principalOf, Cond.selects RX4 yX4_principalOf yX4_principalOf]
def wsL_replace_r8 : List Cond := [Cond.code yX4_principalOf cX4_principalOf 4 (some .int), Cond.methodLink RX4 41 yX4_isAway, Cond.instanceMethod yX4_isAway, Cond.selects RX4 yX4_isAway yX4_isAway, Cond.code yX4_isAway cX4_isAway 2 (some .boolean), Cond.methodLink RX2 108 yX4_backOf, Cond.instanceMethod yX4_backOf, Cond.selects RX4 yX4_backOf yX4_backOf, Cond.code yX4_backOf cX4_backOf 2 (some .int), Cond.methodLink RX2 111 yX5_addApproval, Cond.instanceMethod yX5_addApproval, Cond.selects RX5 yX5_addApproval yX5_addApproval, Cond.code yX5_addApproval cX5_addApproval 4 none, Cond.methodLink RX2 82 yX5_markReleased, Cond.instanceMethod yX5_markReleased, Cond.selects RX5 yX5_markReleased yX5_markReleased, Cond.code yX5_markReleased cX5_markReleased 2 (some .int), Cond.methodLink RX2 85 yX4_addDays, Cond.instanceMethod yX4_addDays, Cond.selects RX4 yX4_addDays yX4_addDays, Cond.code yX4_addDays cX4_addDays 2 (some .int)]
def wsL_replace : List Cond := .codeWith yL_replace cL_replace 5 (some .int) [(0, 10, 13, 13), (0, 10, 17, 17)] :: ((wsL_replace_r1 ++ (wsL_replace_r2 ++ (wsL_replace_r3 ++ (wsL_replace_r4 ++ (wsL_replace_r5 ++ (wsL_replace_r6 ++ (wsL_replace_r7 ++ wsL_replace_r8))))))) ++ wsX80 ++ wsX20 ++ wsX30 ++ wsX60 ++ wsX00 ++ wsX40 ++ wsX50 ++ (vx_atS RX8 58 "java/lang/IllegalStateException" ["java/lang/RuntimeException", "java/lang/Exception"]).filter goodWord ++ (vx_atS RX8 182 "java/lang/IndexOutOfBoundsException" ["java/lang/RuntimeException", "java/lang/Exception"]).filter goodWord)
def wsL_request_r1 : List Cond := [Cond.classLink RL 13 "java/lang/IndexOutOfBoundsException", Cond.classLink RL 15 "java/lang/IllegalArgumentException", Cond.classLink RL 17 "java/lang/IllegalStateException", Cond.methodLink RL 26 yX8_request, Cond.instanceMethod yX8_request, Cond.selects RX8 yX8_request yX8_request, Cond.initialized RX8, Cond.code yX8_request cX8_request 4 (some .int), Cond.classLink RX8 54 "java/lang/IllegalStateException", Cond.initialized "java/lang/IllegalStateException", Cond.fieldLink RX8 19 "Approvalyard" "desk" "LApprovalyard$Desk;", Cond.fieldLink RX8 97 "Approvalyard$Desk" "requests" "LApprovalyard$Requests;", Cond.methodLink RX8 94 yX8_checkPerson, Cond.static yX8_checkPerson, Cond.code yX8_checkPerson cX8_checkPerson 1 none, Cond.classLink RX8 178 "java/lang/IndexOutOfBoundsException", Cond.initialized "java/lang/IndexOutOfBoundsException", Cond.methodLink RX8 33 yX8_checkPart, Cond.static yX8_checkPart, Cond.code yX8_checkPart cX8_checkPart 1 none, Cond.methodLink RX8 69 yX8_checkLeast, Cond.static yX8_checkLeast, Cond.code yX8_checkLeast cX8_checkLeast 1 none, Cond.classLink RX8 37 "java/lang/IllegalArgumentException"]
def wsL_request_r2 : List Cond := [Cond.initialized "java/lang/IllegalArgumentException", Cond.methodLink RX8 101 yX5_count, Cond.instanceMethod yX5_count, Cond.selects RX5 yX5_count yX5_count, Cond.initialized RX5, Cond.code yX5_count cX5_count 1 (some .int), Cond.fieldLink RX5 38 "Approvalyard$Requests" "number" "I", Cond.methodLink RX8 59 yX8_tell, Cond.instanceMethod yX8_tell, Cond.selects RX8 yX8_tell yX8_tell, Cond.code yX8_tell cX8_tell 5 (some .int), Cond.fieldLink RX8 10 "Approvalyard" "book" "LApprovalyard$Book;", Cond.methodLink RX8 80 yX0_write, Cond.instanceMethod yX0_write, Cond.selects RX0 yX0_write yX0_write, Cond.initialized RX0, Cond.code yX0_write cX0_write 8 (some .int), Cond.fieldLink RX0 20 "Approvalyard$Book" "number" "I", Cond.fieldLink RX0 16 "Approvalyard$Book" "words" "LApprovalyard$Row;", Cond.methodLink RX0 24 yX6_put, Cond.instanceMethod yX6_put, Cond.selects RX6 yX6_put yX6_put, Cond.initialized RX6, Cond.code yX6_put cX6_put 3 none]
def wsL_request_r3 : List Cond := [Cond.fieldLink RX6 7 "Approvalyard$Row" "cells" "[I", Cond.methodLink RX8 84 yX2_apply, Cond.instanceMethod yX2_apply, Cond.selects RX2 yX2_apply yX2_apply, Cond.initialized RX2, Cond.code yX2_apply cX2_apply 6 (some .int), Cond.fieldLink RX2 12 "Approvalyard$Desk" "parts" "LApprovalyard$Parts;", Cond.fieldLink RX2 28 "Approvalyard$Desk" "requests" "LApprovalyard$Requests;", Cond.fieldLink RX2 21 "Approvalyard$Desk" "people" "LApprovalyard$People;", Cond.methodLink RX2 38 yX0_wordOf, Cond.instanceMethod yX0_wordOf, Cond.selects RX0 yX0_wordOf yX0_wordOf, Cond.code yX0_wordOf cX0_wordOf 3 (some .int), Cond.methodLink RX0 28 yX6_at, Cond.instanceMethod yX6_at, Cond.selects RX6 yX6_at yX6_at, Cond.code yX6_at cX6_at 2 (some .int), Cond.methodLink RX2 44 yX3_addVersion, Cond.instanceMethod yX3_addVersion, Cond.selects RX3 yX3_addVersion yX3_addVersion, Cond.initialized RX3, Cond.code yX3_addVersion cX3_addVersion 5 (some .int), Cond.fieldLink RX3 14 "Approvalyard$Parts" "counts" "LApprovalyard$Row;", Cond.fieldLink RX3 20 "Approvalyard$Parts" "costs" "LApprovalyard$Row;"]
def wsL_request_r4 : List Cond := [Cond.fieldLink RX3 23 "Approvalyard$Parts" "replaced" "LApprovalyard$Row;", Cond.fieldLink RX3 26 "Approvalyard$Parts" "needCounts" "LApprovalyard$Row;", Cond.methodLink RX3 38 yX6_at, Cond.methodLink RX3 42 yX3_placeOf, Cond.static yX3_placeOf, Cond.code yX3_placeOf cX3_placeOf 2 (some .int), Cond.methodLink RX3 46 yX6_put, Cond.methodLink RX2 47 yX3_addNeed, Cond.instanceMethod yX3_addNeed, Cond.selects RX3 yX3_addNeed yX3_addNeed, Cond.code yX3_addNeed cX3_addNeed 8 (some .int), Cond.fieldLink RX3 29 "Approvalyard$Parts" "needParts" "LApprovalyard$Row;", Cond.fieldLink RX3 32 "Approvalyard$Parts" "needVersions" "LApprovalyard$Row;", Cond.methodLink RX3 50 yX3_versionSet, Cond.static yX3_versionSet, Cond.code yX3_versionSet cX3_versionSet 2 (some .int), Cond.methodLink RX2 51 yX3_markReplaced, Cond.instanceMethod yX3_markReplaced, Cond.selects RX3 yX3_markReplaced yX3_markReplaced, Cond.code yX3_markReplaced cX3_markReplaced 3 none, Cond.methodLink RX2 55 yX4_today, Cond.instanceMethod yX4_today, Cond.selects RX4 yX4_today yX4_today, Cond.initialized RX4]
def wsL_request_r5 : List Cond := [Cond.code yX4_today cX4_today 1 (some .int), Cond.fieldLink RX4 29 "Approvalyard$People" "day" "I", Cond.methodLink RX2 59 yX5_loseVersion, Cond.instanceMethod yX5_loseVersion, Cond.selects RX5 yX5_loseVersion yX5_loseVersion, Cond.code yX5_loseVersion cX5_loseVersion 6 (some .int), Cond.fieldLink RX5 29 "Approvalyard$Requests" "choices" "LApprovalyard$Row;", Cond.fieldLink RX5 26 "Approvalyard$Requests" "states" "LApprovalyard$Row;", Cond.methodLink RX5 52 yX6_at, Cond.methodLink RX5 60 yX1_versionOf, Cond.static yX1_versionOf, Cond.initialized RX1, Cond.code yX1_versionOf cX1_versionOf 2 (some .int), Cond.methodLink RX5 66 yX5_approvalsOf, Cond.instanceMethod yX5_approvalsOf, Cond.selects RX5 yX5_approvalsOf yX5_approvalsOf, Cond.code yX5_approvalsOf cX5_approvalsOf 5 (some .int), Cond.methodLink RX5 56 yX5_hasApproval, Cond.instanceMethod yX5_hasApproval, Cond.selects RX5 yX5_hasApproval yX5_hasApproval, Cond.code yX5_hasApproval cX5_hasApproval 4 (some .boolean), Cond.fieldLink RX5 35 "Approvalyard$Requests" "ends" "LApprovalyard$Row;", Cond.methodLink RX5 49 yX5_endApprovals, Cond.instanceMethod yX5_endApprovals]
def wsL_request_r6 : List Cond := [Cond.selects RX5 yX5_endApprovals yX5_endApprovals, Cond.code yX5_endApprovals cX5_endApprovals 3 none, Cond.methodLink RX5 42 yX6_put, Cond.methodLink RX5 46 yX5_reopen, Cond.instanceMethod yX5_reopen, Cond.selects RX5 yX5_reopen yX5_reopen, Cond.code yX5_reopen cX5_reopen 2 none, Cond.fieldLink RX5 32 "Approvalyard$Requests" "costs" "LApprovalyard$Row;", Cond.methodLink RX2 63 yX5_add, Cond.instanceMethod yX5_add, Cond.selects RX5 yX5_add yX5_add, Cond.code yX5_add cX5_add 5 (some .int), Cond.fieldLink RX5 14 "Approvalyard$Requests" "people" "LApprovalyard$Row;", Cond.fieldLink RX5 20 "Approvalyard$Requests" "parts" "LApprovalyard$Row;", Cond.fieldLink RX5 23 "Approvalyard$Requests" "leasts" "LApprovalyard$Row;", Cond.methodLink RX2 66 yX3_costOf, Cond.instanceMethod yX3_costOf, Cond.selects RX3 yX3_costOf yX3_costOf, Cond.code yX3_costOf cX3_costOf 5 (some .int), Cond.methodLink RX3 57 yX1_versionOf, Cond.methodLink RX2 70 yX5_settle, Cond.instanceMethod yX5_settle, Cond.selects RX5 yX5_settle yX5_settle, Cond.code yX5_settle cX5_settle 4 (some .int)]
def wsL_request_r7 : List Cond := [Cond.methodLink RX2 73 yX4_changeLimit, Cond.instanceMethod yX4_changeLimit, Cond.selects RX4 yX4_changeLimit yX4_changeLimit, Cond.code yX4_changeLimit cX4_changeLimit 4 (some .int), Cond.fieldLink RX4 14 "Approvalyard$People" "limits" "LApprovalyard$Row;", Cond.methodLink RX4 33 yX6_at, Cond.methodLink RX4 37 yX6_put, Cond.methodLink RX2 76 yX4_sendOnLeave, Cond.instanceMethod yX4_sendOnLeave, Cond.selects RX4 yX4_sendOnLeave yX4_sendOnLeave, Cond.code yX4_sendOnLeave cX4_sendOnLeave 4 (some .int), Cond.fieldLink RX4 20 "Approvalyard$People" "delegates" "LApprovalyard$Row;", Cond.fieldLink RX4 23 "Approvalyard$People" "backs" "LApprovalyard$Row;", Cond.methodLink RX2 79 yX2_takeApproval, Cond.instanceMethod yX2_takeApproval, Cond.selects RX2 yX2_takeApproval yX2_takeApproval, Cond.code yX2_takeApproval cX2_takeApproval 5 (some .int), Cond.constant RX2 107 (2147483647), Cond.methodLink RX2 98 yX5_costOf, Cond.instanceMethod yX5_costOf, Cond.selects RX5 yX5_costOf yX5_costOf, Cond.code yX5_costOf cX5_costOf 2 (some .int), Cond.methodLink RX2 99 yX4_principalOf, Cond.instanceMethod yX4_principalOf]
def wsL_request_r8 : List Cond := [Cond.selects RX4 yX4_principalOf yX4_principalOf, Cond.code yX4_principalOf cX4_principalOf 4 (some .int), Cond.methodLink RX4 41 yX4_isAway, Cond.instanceMethod yX4_isAway, Cond.selects RX4 yX4_isAway yX4_isAway, Cond.code yX4_isAway cX4_isAway 2 (some .boolean), Cond.methodLink RX2 108 yX4_backOf, Cond.instanceMethod yX4_backOf, Cond.selects RX4 yX4_backOf yX4_backOf, Cond.code yX4_backOf cX4_backOf 2 (some .int), Cond.methodLink RX2 111 yX5_addApproval, Cond.instanceMethod yX5_addApproval, Cond.selects RX5 yX5_addApproval yX5_addApproval, Cond.code yX5_addApproval cX5_addApproval 4 none, Cond.methodLink RX2 82 yX5_markReleased, Cond.instanceMethod yX5_markReleased, Cond.selects RX5 yX5_markReleased yX5_markReleased, Cond.code yX5_markReleased cX5_markReleased 2 (some .int), Cond.methodLink RX2 85 yX4_addDays, Cond.instanceMethod yX4_addDays, Cond.selects RX4 yX4_addDays yX4_addDays, Cond.code yX4_addDays cX4_addDays 2 (some .int)]
def wsL_request : List Cond := .codeWith yL_request cL_request 6 (some .int) [(0, 12, 15, 13), (0, 12, 19, 15), (0, 12, 23, 17)] :: ((wsL_request_r1 ++ (wsL_request_r2 ++ (wsL_request_r3 ++ (wsL_request_r4 ++ (wsL_request_r5 ++ (wsL_request_r6 ++ (wsL_request_r7 ++ wsL_request_r8))))))) ++ wsX80 ++ wsX20 ++ wsX50 ++ wsX00 ++ wsX60 ++ wsX30 ++ wsX40 ++ (vx_atS RX8 58 "java/lang/IllegalStateException" ["java/lang/RuntimeException", "java/lang/Exception"]).filter goodWord ++ (vx_atS RX8 182 "java/lang/IndexOutOfBoundsException" ["java/lang/RuntimeException", "java/lang/Exception"]).filter goodWord ++ (vx_atS RX8 41 "java/lang/IllegalArgumentException" ["java/lang/RuntimeException", "java/lang/Exception"]).filter goodWord)
def wsL_resolve_r1 : List Cond := [Cond.classLink RL 13 "java/lang/IndexOutOfBoundsException", Cond.classLink RL 17 "java/lang/IllegalStateException", Cond.methodLink RL 30 yX8_resolve, Cond.instanceMethod yX8_resolve, Cond.selects RX8 yX8_resolve yX8_resolve, Cond.initialized RX8, Cond.code yX8_resolve cX8_resolve 3 (some .int), Cond.classLink RX8 54 "java/lang/IllegalStateException", Cond.initialized "java/lang/IllegalStateException", Cond.fieldLink RX8 19 "Approvalyard" "desk" "LApprovalyard$Desk;", Cond.fieldLink RX8 97 "Approvalyard$Desk" "requests" "LApprovalyard$Requests;", Cond.fieldLink RX8 29 "Approvalyard" "search" "LApprovalyard$Search;", Cond.fieldLink RX8 44 "Approvalyard$Desk" "parts" "LApprovalyard$Parts;", Cond.methodLink RX8 109 yX8_checkRequest, Cond.instanceMethod yX8_checkRequest, Cond.selects RX8 yX8_checkRequest yX8_checkRequest, Cond.code yX8_checkRequest cX8_checkRequest 2 none, Cond.classLink RX8 178 "java/lang/IndexOutOfBoundsException", Cond.initialized "java/lang/IndexOutOfBoundsException", Cond.methodLink RX8 101 yX5_count, Cond.instanceMethod yX5_count, Cond.selects RX5 yX5_count yX5_count, Cond.initialized RX5, Cond.code yX5_count cX5_count 1 (some .int)]
def wsL_resolve_r2 : List Cond := [Cond.fieldLink RX5 38 "Approvalyard$Requests" "number" "I", Cond.methodLink RX8 112 yX5_stateOf, Cond.instanceMethod yX5_stateOf, Cond.selects RX5 yX5_stateOf yX5_stateOf, Cond.code yX5_stateOf cX5_stateOf 2 (some .int), Cond.fieldLink RX5 26 "Approvalyard$Requests" "states" "LApprovalyard$Row;", Cond.methodLink RX5 52 yX6_at, Cond.instanceMethod yX6_at, Cond.selects RX6 yX6_at yX6_at, Cond.initialized RX6, Cond.code yX6_at cX6_at 2 (some .int), Cond.fieldLink RX6 7 "Approvalyard$Row" "cells" "[I", Cond.methodLink RX8 117 yX5_partOf, Cond.instanceMethod yX5_partOf, Cond.selects RX5 yX5_partOf yX5_partOf, Cond.code yX5_partOf cX5_partOf 2 (some .int), Cond.fieldLink RX5 20 "Approvalyard$Requests" "parts" "LApprovalyard$Row;", Cond.methodLink RX8 120 yX5_leastOf, Cond.instanceMethod yX5_leastOf, Cond.selects RX5 yX5_leastOf yX5_leastOf, Cond.code yX5_leastOf cX5_leastOf 2 (some .int), Cond.fieldLink RX5 23 "Approvalyard$Requests" "leasts" "LApprovalyard$Row;", Cond.methodLink RX8 123 yX7_find, Cond.instanceMethod yX7_find]
def wsL_resolve_r3 : List Cond := [Cond.selects RX7 yX7_find yX7_find, Cond.initialized RX7, Cond.code yX7_find cX7_find 5 (some .int), Cond.fieldLink RX7 20 "Approvalyard$Search" "wanted" "LApprovalyard$Row;", Cond.fieldLink RX7 14 "Approvalyard$Search" "order" "LApprovalyard$Row;", Cond.fieldLink RX7 40 "Approvalyard$Search" "number" "I", Cond.fieldLink RX7 46 "Approvalyard$Search" "choice" "I", Cond.methodLink RX7 23 yX3_current, Cond.instanceMethod yX3_current, Cond.selects RX3 yX3_current yX3_current, Cond.initialized RX3, Cond.code yX3_current cX3_current 4 (some .int), Cond.fieldLink RX3 14 "Approvalyard$Parts" "counts" "LApprovalyard$Row;", Cond.methodLink RX3 38 yX6_at, Cond.methodLink RX3 53 yX3_isReplaced, Cond.instanceMethod yX3_isReplaced, Cond.selects RX3 yX3_isReplaced yX3_isReplaced, Cond.code yX3_isReplaced cX3_isReplaced 3 (some .boolean), Cond.fieldLink RX3 23 "Approvalyard$Parts" "replaced" "LApprovalyard$Row;", Cond.methodLink RX3 42 yX3_placeOf, Cond.static yX3_placeOf, Cond.code yX3_placeOf cX3_placeOf 2 (some .int), Cond.methodLink RX3 50 yX3_versionSet, Cond.static yX3_versionSet]
def wsL_resolve_r4 : List Cond := [Cond.code yX3_versionSet cX3_versionSet 2 (some .int), Cond.methodLink RX7 29 yX6_put, Cond.instanceMethod yX6_put, Cond.selects RX6 yX6_put yX6_put, Cond.code yX6_put cX6_put 3 none, Cond.methodLink RX7 33 yX6_at, Cond.methodLink RX7 36 yX3_versionSet, Cond.methodLink RX7 49 yX7_fill, Cond.instanceMethod yX7_fill, Cond.selects RX7 yX7_fill yX7_fill, Cond.code yX7_fill cX7_fill 8 (some .boolean), Cond.methodLink RX7 53 yX7_take, Cond.instanceMethod yX7_take, Cond.selects RX7 yX7_take yX7_take, Cond.code yX7_take cX7_take 10 (some .boolean), Cond.methodLink RX7 61 yX3_needsOf, Cond.instanceMethod yX3_needsOf, Cond.selects RX3 yX3_needsOf yX3_needsOf, Cond.code yX3_needsOf cX3_needsOf 3 (some .int), Cond.fieldLink RX3 26 "Approvalyard$Parts" "needCounts" "LApprovalyard$Row;", Cond.methodLink RX7 64 yX3_neededPart, Cond.instanceMethod yX3_neededPart, Cond.selects RX3 yX3_neededPart yX3_neededPart, Cond.code yX3_neededPart cX3_neededPart 4 (some .int)]
def wsL_resolve_r5 : List Cond := [Cond.fieldLink RX3 29 "Approvalyard$Parts" "needParts" "LApprovalyard$Row;", Cond.methodLink RX7 67 yX3_neededVersions, Cond.instanceMethod yX3_neededVersions, Cond.selects RX3 yX3_neededVersions yX3_neededVersions, Cond.code yX3_neededVersions cX3_neededVersions 4 (some .int), Cond.fieldLink RX3 32 "Approvalyard$Parts" "needVersions" "LApprovalyard$Row;", Cond.methodLink RX7 70 yX7_await, Cond.instanceMethod yX7_await, Cond.selects RX7 yX7_await yX7_await, Cond.code yX7_await cX7_await 3 none, Cond.methodLink RX7 57 yX1_with, Cond.static yX1_with, Cond.initialized RX1, Cond.code yX1_with cX1_with 3 (some .int), Cond.methodLink RX8 59 yX8_tell, Cond.instanceMethod yX8_tell, Cond.selects RX8 yX8_tell yX8_tell, Cond.code yX8_tell cX8_tell 5 (some .int), Cond.fieldLink RX8 10 "Approvalyard" "book" "LApprovalyard$Book;", Cond.methodLink RX8 80 yX0_write, Cond.instanceMethod yX0_write, Cond.selects RX0 yX0_write yX0_write, Cond.initialized RX0, Cond.code yX0_write cX0_write 8 (some .int)]
def wsL_resolve_r6 : List Cond := [Cond.fieldLink RX0 20 "Approvalyard$Book" "number" "I", Cond.fieldLink RX0 16 "Approvalyard$Book" "words" "LApprovalyard$Row;", Cond.methodLink RX0 24 yX6_put, Cond.methodLink RX8 84 yX2_apply, Cond.instanceMethod yX2_apply, Cond.selects RX2 yX2_apply yX2_apply, Cond.initialized RX2, Cond.code yX2_apply cX2_apply 6 (some .int), Cond.fieldLink RX2 12 "Approvalyard$Desk" "parts" "LApprovalyard$Parts;", Cond.fieldLink RX2 28 "Approvalyard$Desk" "requests" "LApprovalyard$Requests;", Cond.fieldLink RX2 21 "Approvalyard$Desk" "people" "LApprovalyard$People;", Cond.methodLink RX2 38 yX0_wordOf, Cond.instanceMethod yX0_wordOf, Cond.selects RX0 yX0_wordOf yX0_wordOf, Cond.code yX0_wordOf cX0_wordOf 3 (some .int), Cond.methodLink RX0 28 yX6_at, Cond.methodLink RX2 44 yX3_addVersion, Cond.instanceMethod yX3_addVersion, Cond.selects RX3 yX3_addVersion yX3_addVersion, Cond.code yX3_addVersion cX3_addVersion 5 (some .int), Cond.fieldLink RX3 20 "Approvalyard$Parts" "costs" "LApprovalyard$Row;", Cond.methodLink RX3 46 yX6_put, Cond.methodLink RX2 47 yX3_addNeed, Cond.instanceMethod yX3_addNeed]
def wsL_resolve_r7 : List Cond := [Cond.selects RX3 yX3_addNeed yX3_addNeed, Cond.code yX3_addNeed cX3_addNeed 8 (some .int), Cond.methodLink RX2 51 yX3_markReplaced, Cond.instanceMethod yX3_markReplaced, Cond.selects RX3 yX3_markReplaced yX3_markReplaced, Cond.code yX3_markReplaced cX3_markReplaced 3 none, Cond.methodLink RX2 55 yX4_today, Cond.instanceMethod yX4_today, Cond.selects RX4 yX4_today yX4_today, Cond.initialized RX4, Cond.code yX4_today cX4_today 1 (some .int), Cond.fieldLink RX4 29 "Approvalyard$People" "day" "I", Cond.methodLink RX2 59 yX5_loseVersion, Cond.instanceMethod yX5_loseVersion, Cond.selects RX5 yX5_loseVersion yX5_loseVersion, Cond.code yX5_loseVersion cX5_loseVersion 6 (some .int), Cond.fieldLink RX5 29 "Approvalyard$Requests" "choices" "LApprovalyard$Row;", Cond.methodLink RX5 60 yX1_versionOf, Cond.static yX1_versionOf, Cond.code yX1_versionOf cX1_versionOf 2 (some .int), Cond.methodLink RX5 66 yX5_approvalsOf, Cond.instanceMethod yX5_approvalsOf, Cond.selects RX5 yX5_approvalsOf yX5_approvalsOf, Cond.code yX5_approvalsOf cX5_approvalsOf 5 (some .int)]
def wsL_resolve_r8 : List Cond := [Cond.methodLink RX5 56 yX5_hasApproval, Cond.instanceMethod yX5_hasApproval, Cond.selects RX5 yX5_hasApproval yX5_hasApproval, Cond.code yX5_hasApproval cX5_hasApproval 4 (some .boolean), Cond.fieldLink RX5 35 "Approvalyard$Requests" "ends" "LApprovalyard$Row;", Cond.methodLink RX5 49 yX5_endApprovals, Cond.instanceMethod yX5_endApprovals, Cond.selects RX5 yX5_endApprovals yX5_endApprovals, Cond.code yX5_endApprovals cX5_endApprovals 3 none, Cond.methodLink RX5 42 yX6_put, Cond.methodLink RX5 46 yX5_reopen, Cond.instanceMethod yX5_reopen, Cond.selects RX5 yX5_reopen yX5_reopen, Cond.code yX5_reopen cX5_reopen 2 none, Cond.fieldLink RX5 32 "Approvalyard$Requests" "costs" "LApprovalyard$Row;", Cond.methodLink RX2 63 yX5_add, Cond.instanceMethod yX5_add, Cond.selects RX5 yX5_add yX5_add, Cond.code yX5_add cX5_add 5 (some .int), Cond.fieldLink RX5 14 "Approvalyard$Requests" "people" "LApprovalyard$Row;", Cond.methodLink RX2 66 yX3_costOf, Cond.instanceMethod yX3_costOf, Cond.selects RX3 yX3_costOf yX3_costOf, Cond.code yX3_costOf cX3_costOf 5 (some .int)]
def wsL_resolve_r9 : List Cond := [Cond.methodLink RX3 57 yX1_versionOf, Cond.methodLink RX2 70 yX5_settle, Cond.instanceMethod yX5_settle, Cond.selects RX5 yX5_settle yX5_settle, Cond.code yX5_settle cX5_settle 4 (some .int), Cond.methodLink RX2 73 yX4_changeLimit, Cond.instanceMethod yX4_changeLimit, Cond.selects RX4 yX4_changeLimit yX4_changeLimit, Cond.code yX4_changeLimit cX4_changeLimit 4 (some .int), Cond.fieldLink RX4 14 "Approvalyard$People" "limits" "LApprovalyard$Row;", Cond.methodLink RX4 33 yX6_at, Cond.methodLink RX4 37 yX6_put, Cond.methodLink RX2 76 yX4_sendOnLeave, Cond.instanceMethod yX4_sendOnLeave, Cond.selects RX4 yX4_sendOnLeave yX4_sendOnLeave, Cond.code yX4_sendOnLeave cX4_sendOnLeave 4 (some .int), Cond.fieldLink RX4 20 "Approvalyard$People" "delegates" "LApprovalyard$Row;", Cond.fieldLink RX4 23 "Approvalyard$People" "backs" "LApprovalyard$Row;", Cond.methodLink RX2 79 yX2_takeApproval, Cond.instanceMethod yX2_takeApproval, Cond.selects RX2 yX2_takeApproval yX2_takeApproval, Cond.code yX2_takeApproval cX2_takeApproval 5 (some .int), Cond.constant RX2 107 (2147483647), Cond.methodLink RX2 98 yX5_costOf]
def wsL_resolve_r10 : List Cond := [Cond.instanceMethod yX5_costOf, Cond.selects RX5 yX5_costOf yX5_costOf, Cond.code yX5_costOf cX5_costOf 2 (some .int), Cond.methodLink RX2 99 yX4_principalOf, Cond.instanceMethod yX4_principalOf, Cond.selects RX4 yX4_principalOf yX4_principalOf, Cond.code yX4_principalOf cX4_principalOf 4 (some .int), Cond.methodLink RX4 41 yX4_isAway, Cond.instanceMethod yX4_isAway, Cond.selects RX4 yX4_isAway yX4_isAway, Cond.code yX4_isAway cX4_isAway 2 (some .boolean), Cond.methodLink RX2 108 yX4_backOf, Cond.instanceMethod yX4_backOf, Cond.selects RX4 yX4_backOf yX4_backOf, Cond.code yX4_backOf cX4_backOf 2 (some .int), Cond.methodLink RX2 111 yX5_addApproval, Cond.instanceMethod yX5_addApproval, Cond.selects RX5 yX5_addApproval yX5_addApproval, Cond.code yX5_addApproval cX5_addApproval 4 none, Cond.methodLink RX2 82 yX5_markReleased, Cond.instanceMethod yX5_markReleased, Cond.selects RX5 yX5_markReleased yX5_markReleased, Cond.code yX5_markReleased cX5_markReleased 2 (some .int), Cond.methodLink RX2 85 yX4_addDays]
def wsL_resolve_r11 : List Cond := [Cond.instanceMethod yX4_addDays, Cond.selects RX4 yX4_addDays yX4_addDays, Cond.code yX4_addDays cX4_addDays 2 (some .int)]
def wsL_resolve : List Cond := .codeWith yL_resolve cL_resolve 4 (some .int) [(0, 9, 12, 13), (0, 9, 15, 17)] :: ((wsL_resolve_r1 ++ (wsL_resolve_r2 ++ (wsL_resolve_r3 ++ (wsL_resolve_r4 ++ (wsL_resolve_r5 ++ (wsL_resolve_r6 ++ (wsL_resolve_r7 ++ (wsL_resolve_r8 ++ (wsL_resolve_r9 ++ (wsL_resolve_r10 ++ wsL_resolve_r11)))))))))) ++ wsX80 ++ wsX20 ++ wsX50 ++ wsX60 ++ wsX70 ++ wsX30 ++ wsX00 ++ wsX40 ++ (vx_atS RX8 58 "java/lang/IllegalStateException" ["java/lang/RuntimeException", "java/lang/Exception"]).filter goodWord ++ (vx_atS RX8 182 "java/lang/IndexOutOfBoundsException" ["java/lang/RuntimeException", "java/lang/Exception"]).filter goodWord)
def wsL_chosen_r1 : List Cond := [Cond.classLink RL 13 "java/lang/IndexOutOfBoundsException", Cond.methodLink RL 34 yX8_chosen, Cond.instanceMethod yX8_chosen, Cond.selects RX8 yX8_chosen yX8_chosen, Cond.initialized RX8, Cond.code yX8_chosen cX8_chosen 4 (some .int), Cond.fieldLink RX8 19 "Approvalyard" "desk" "LApprovalyard$Desk;", Cond.fieldLink RX8 97 "Approvalyard$Desk" "requests" "LApprovalyard$Requests;", Cond.methodLink RX8 109 yX8_checkRequest, Cond.instanceMethod yX8_checkRequest, Cond.selects RX8 yX8_checkRequest yX8_checkRequest, Cond.code yX8_checkRequest cX8_checkRequest 2 none, Cond.classLink RX8 178 "java/lang/IndexOutOfBoundsException", Cond.initialized "java/lang/IndexOutOfBoundsException", Cond.methodLink RX8 101 yX5_count, Cond.instanceMethod yX5_count, Cond.selects RX5 yX5_count yX5_count, Cond.initialized RX5, Cond.code yX5_count cX5_count 1 (some .int), Cond.fieldLink RX5 38 "Approvalyard$Requests" "number" "I", Cond.methodLink RX8 33 yX8_checkPart, Cond.static yX8_checkPart, Cond.code yX8_checkPart cX8_checkPart 1 none, Cond.methodLink RX8 127 yX5_choiceOf]
def wsL_chosen_r2 : List Cond := [Cond.instanceMethod yX5_choiceOf, Cond.selects RX5 yX5_choiceOf yX5_choiceOf, Cond.code yX5_choiceOf cX5_choiceOf 2 (some .int), Cond.fieldLink RX5 29 "Approvalyard$Requests" "choices" "LApprovalyard$Row;", Cond.methodLink RX5 52 yX6_at, Cond.instanceMethod yX6_at, Cond.selects RX6 yX6_at yX6_at, Cond.initialized RX6, Cond.code yX6_at cX6_at 2 (some .int), Cond.fieldLink RX6 7 "Approvalyard$Row" "cells" "[I", Cond.methodLink RX8 130 yX1_versionOf, Cond.static yX1_versionOf, Cond.initialized RX1, Cond.code yX1_versionOf cX1_versionOf 2 (some .int)]
def wsL_chosen : List Cond := .codeWith yL_chosen cL_chosen 5 (some .int) [(0, 10, 13, 13)] :: ((wsL_chosen_r1 ++ wsL_chosen_r2) ++ wsX80 ++ wsX20 ++ wsX50 ++ wsX60 ++ (vx_atS RX8 182 "java/lang/IndexOutOfBoundsException" ["java/lang/RuntimeException", "java/lang/Exception"]).filter goodWord)
def wsL_limit_r1 : List Cond := [Cond.classLink RL 13 "java/lang/IndexOutOfBoundsException", Cond.classLink RL 15 "java/lang/IllegalArgumentException", Cond.methodLink RL 37 yX8_limit, Cond.instanceMethod yX8_limit, Cond.selects RX8 yX8_limit yX8_limit, Cond.initialized RX8, Cond.code yX8_limit cX8_limit 3 (some .int), Cond.classLink RX8 37 "java/lang/IllegalArgumentException", Cond.initialized "java/lang/IllegalArgumentException", Cond.methodLink RX8 94 yX8_checkPerson, Cond.static yX8_checkPerson, Cond.code yX8_checkPerson cX8_checkPerson 1 none, Cond.classLink RX8 178 "java/lang/IndexOutOfBoundsException", Cond.initialized "java/lang/IndexOutOfBoundsException", Cond.methodLink RX8 59 yX8_tell, Cond.instanceMethod yX8_tell, Cond.selects RX8 yX8_tell yX8_tell, Cond.code yX8_tell cX8_tell 5 (some .int), Cond.fieldLink RX8 19 "Approvalyard" "desk" "LApprovalyard$Desk;", Cond.fieldLink RX8 10 "Approvalyard" "book" "LApprovalyard$Book;", Cond.methodLink RX8 80 yX0_write, Cond.instanceMethod yX0_write, Cond.selects RX0 yX0_write yX0_write, Cond.initialized RX0]
def wsL_limit_r2 : List Cond := [Cond.code yX0_write cX0_write 8 (some .int), Cond.fieldLink RX0 20 "Approvalyard$Book" "number" "I", Cond.fieldLink RX0 16 "Approvalyard$Book" "words" "LApprovalyard$Row;", Cond.methodLink RX0 24 yX6_put, Cond.instanceMethod yX6_put, Cond.selects RX6 yX6_put yX6_put, Cond.initialized RX6, Cond.code yX6_put cX6_put 3 none, Cond.fieldLink RX6 7 "Approvalyard$Row" "cells" "[I", Cond.methodLink RX8 84 yX2_apply, Cond.instanceMethod yX2_apply, Cond.selects RX2 yX2_apply yX2_apply, Cond.initialized RX2, Cond.code yX2_apply cX2_apply 6 (some .int), Cond.fieldLink RX2 12 "Approvalyard$Desk" "parts" "LApprovalyard$Parts;", Cond.fieldLink RX2 28 "Approvalyard$Desk" "requests" "LApprovalyard$Requests;", Cond.fieldLink RX2 21 "Approvalyard$Desk" "people" "LApprovalyard$People;", Cond.methodLink RX2 38 yX0_wordOf, Cond.instanceMethod yX0_wordOf, Cond.selects RX0 yX0_wordOf yX0_wordOf, Cond.code yX0_wordOf cX0_wordOf 3 (some .int), Cond.methodLink RX0 28 yX6_at, Cond.instanceMethod yX6_at, Cond.selects RX6 yX6_at yX6_at]
def wsL_limit_r3 : List Cond := [Cond.code yX6_at cX6_at 2 (some .int), Cond.methodLink RX2 44 yX3_addVersion, Cond.instanceMethod yX3_addVersion, Cond.selects RX3 yX3_addVersion yX3_addVersion, Cond.initialized RX3, Cond.code yX3_addVersion cX3_addVersion 5 (some .int), Cond.fieldLink RX3 14 "Approvalyard$Parts" "counts" "LApprovalyard$Row;", Cond.fieldLink RX3 20 "Approvalyard$Parts" "costs" "LApprovalyard$Row;", Cond.fieldLink RX3 23 "Approvalyard$Parts" "replaced" "LApprovalyard$Row;", Cond.fieldLink RX3 26 "Approvalyard$Parts" "needCounts" "LApprovalyard$Row;", Cond.methodLink RX3 38 yX6_at, Cond.methodLink RX3 42 yX3_placeOf, Cond.static yX3_placeOf, Cond.code yX3_placeOf cX3_placeOf 2 (some .int), Cond.methodLink RX3 46 yX6_put, Cond.methodLink RX2 47 yX3_addNeed, Cond.instanceMethod yX3_addNeed, Cond.selects RX3 yX3_addNeed yX3_addNeed, Cond.code yX3_addNeed cX3_addNeed 8 (some .int), Cond.fieldLink RX3 29 "Approvalyard$Parts" "needParts" "LApprovalyard$Row;", Cond.fieldLink RX3 32 "Approvalyard$Parts" "needVersions" "LApprovalyard$Row;", Cond.methodLink RX3 50 yX3_versionSet, Cond.static yX3_versionSet, Cond.code yX3_versionSet cX3_versionSet 2 (some .int)]
def wsL_limit_r4 : List Cond := [Cond.methodLink RX2 51 yX3_markReplaced, Cond.instanceMethod yX3_markReplaced, Cond.selects RX3 yX3_markReplaced yX3_markReplaced, Cond.code yX3_markReplaced cX3_markReplaced 3 none, Cond.methodLink RX2 55 yX4_today, Cond.instanceMethod yX4_today, Cond.selects RX4 yX4_today yX4_today, Cond.initialized RX4, Cond.code yX4_today cX4_today 1 (some .int), Cond.fieldLink RX4 29 "Approvalyard$People" "day" "I", Cond.methodLink RX2 59 yX5_loseVersion, Cond.instanceMethod yX5_loseVersion, Cond.selects RX5 yX5_loseVersion yX5_loseVersion, Cond.initialized RX5, Cond.code yX5_loseVersion cX5_loseVersion 6 (some .int), Cond.fieldLink RX5 38 "Approvalyard$Requests" "number" "I", Cond.fieldLink RX5 29 "Approvalyard$Requests" "choices" "LApprovalyard$Row;", Cond.fieldLink RX5 26 "Approvalyard$Requests" "states" "LApprovalyard$Row;", Cond.methodLink RX5 52 yX6_at, Cond.methodLink RX5 60 yX1_versionOf, Cond.static yX1_versionOf, Cond.initialized RX1, Cond.code yX1_versionOf cX1_versionOf 2 (some .int), Cond.methodLink RX5 66 yX5_approvalsOf]
def wsL_limit_r5 : List Cond := [Cond.instanceMethod yX5_approvalsOf, Cond.selects RX5 yX5_approvalsOf yX5_approvalsOf, Cond.code yX5_approvalsOf cX5_approvalsOf 5 (some .int), Cond.methodLink RX5 56 yX5_hasApproval, Cond.instanceMethod yX5_hasApproval, Cond.selects RX5 yX5_hasApproval yX5_hasApproval, Cond.code yX5_hasApproval cX5_hasApproval 4 (some .boolean), Cond.fieldLink RX5 35 "Approvalyard$Requests" "ends" "LApprovalyard$Row;", Cond.methodLink RX5 49 yX5_endApprovals, Cond.instanceMethod yX5_endApprovals, Cond.selects RX5 yX5_endApprovals yX5_endApprovals, Cond.code yX5_endApprovals cX5_endApprovals 3 none, Cond.methodLink RX5 42 yX6_put, Cond.methodLink RX5 46 yX5_reopen, Cond.instanceMethod yX5_reopen, Cond.selects RX5 yX5_reopen yX5_reopen, Cond.code yX5_reopen cX5_reopen 2 none, Cond.fieldLink RX5 32 "Approvalyard$Requests" "costs" "LApprovalyard$Row;", Cond.methodLink RX2 63 yX5_add, Cond.instanceMethod yX5_add, Cond.selects RX5 yX5_add yX5_add, Cond.code yX5_add cX5_add 5 (some .int), Cond.fieldLink RX5 14 "Approvalyard$Requests" "people" "LApprovalyard$Row;", Cond.fieldLink RX5 20 "Approvalyard$Requests" "parts" "LApprovalyard$Row;"]
def wsL_limit_r6 : List Cond := [Cond.fieldLink RX5 23 "Approvalyard$Requests" "leasts" "LApprovalyard$Row;", Cond.methodLink RX2 66 yX3_costOf, Cond.instanceMethod yX3_costOf, Cond.selects RX3 yX3_costOf yX3_costOf, Cond.code yX3_costOf cX3_costOf 5 (some .int), Cond.methodLink RX3 57 yX1_versionOf, Cond.methodLink RX2 70 yX5_settle, Cond.instanceMethod yX5_settle, Cond.selects RX5 yX5_settle yX5_settle, Cond.code yX5_settle cX5_settle 4 (some .int), Cond.methodLink RX2 73 yX4_changeLimit, Cond.instanceMethod yX4_changeLimit, Cond.selects RX4 yX4_changeLimit yX4_changeLimit, Cond.code yX4_changeLimit cX4_changeLimit 4 (some .int), Cond.fieldLink RX4 14 "Approvalyard$People" "limits" "LApprovalyard$Row;", Cond.methodLink RX4 33 yX6_at, Cond.methodLink RX4 37 yX6_put, Cond.methodLink RX2 76 yX4_sendOnLeave, Cond.instanceMethod yX4_sendOnLeave, Cond.selects RX4 yX4_sendOnLeave yX4_sendOnLeave, Cond.code yX4_sendOnLeave cX4_sendOnLeave 4 (some .int), Cond.fieldLink RX4 20 "Approvalyard$People" "delegates" "LApprovalyard$Row;", Cond.fieldLink RX4 23 "Approvalyard$People" "backs" "LApprovalyard$Row;", Cond.methodLink RX2 79 yX2_takeApproval]
def wsL_limit_r7 : List Cond := [Cond.instanceMethod yX2_takeApproval, Cond.selects RX2 yX2_takeApproval yX2_takeApproval, Cond.code yX2_takeApproval cX2_takeApproval 5 (some .int), Cond.constant RX2 107 (2147483647), Cond.methodLink RX2 98 yX5_costOf, Cond.instanceMethod yX5_costOf, Cond.selects RX5 yX5_costOf yX5_costOf, Cond.code yX5_costOf cX5_costOf 2 (some .int), Cond.methodLink RX2 99 yX4_principalOf, Cond.instanceMethod yX4_principalOf, Cond.selects RX4 yX4_principalOf yX4_principalOf, Cond.code yX4_principalOf cX4_principalOf 4 (some .int), Cond.methodLink RX4 41 yX4_isAway, Cond.instanceMethod yX4_isAway, Cond.selects RX4 yX4_isAway yX4_isAway, Cond.code yX4_isAway cX4_isAway 2 (some .boolean), Cond.methodLink RX2 108 yX4_backOf, Cond.instanceMethod yX4_backOf, Cond.selects RX4 yX4_backOf yX4_backOf, Cond.code yX4_backOf cX4_backOf 2 (some .int), Cond.methodLink RX2 111 yX5_addApproval, Cond.instanceMethod yX5_addApproval, Cond.selects RX5 yX5_addApproval yX5_addApproval, Cond.code yX5_addApproval cX5_addApproval 4 none]
def wsL_limit_r8 : List Cond := [Cond.methodLink RX2 82 yX5_markReleased, Cond.instanceMethod yX5_markReleased, Cond.selects RX5 yX5_markReleased yX5_markReleased, Cond.code yX5_markReleased cX5_markReleased 2 (some .int), Cond.methodLink RX2 85 yX4_addDays, Cond.instanceMethod yX4_addDays, Cond.selects RX4 yX4_addDays yX4_addDays, Cond.code yX4_addDays cX4_addDays 2 (some .int)]
def wsL_limit : List Cond := .codeWith yL_limit cL_limit 5 (some .int) [(0, 10, 13, 13), (0, 10, 17, 15)] :: ((wsL_limit_r1 ++ (wsL_limit_r2 ++ (wsL_limit_r3 ++ (wsL_limit_r4 ++ (wsL_limit_r5 ++ (wsL_limit_r6 ++ (wsL_limit_r7 ++ wsL_limit_r8))))))) ++ wsX80 ++ wsX00 ++ wsX60 ++ wsX20 ++ wsX30 ++ wsX40 ++ wsX50 ++ (vx_atS RX8 41 "java/lang/IllegalArgumentException" ["java/lang/RuntimeException", "java/lang/Exception"]).filter goodWord ++ (vx_atS RX8 182 "java/lang/IndexOutOfBoundsException" ["java/lang/RuntimeException", "java/lang/Exception"]).filter goodWord)
def wsL_leave_r1 : List Cond := [Cond.classLink RL 13 "java/lang/IndexOutOfBoundsException", Cond.classLink RL 15 "java/lang/IllegalArgumentException", Cond.methodLink RL 40 yX8_leave, Cond.instanceMethod yX8_leave, Cond.selects RX8 yX8_leave yX8_leave, Cond.initialized RX8, Cond.code yX8_leave cX8_leave 4 (some .int), Cond.classLink RX8 37 "java/lang/IllegalArgumentException", Cond.initialized "java/lang/IllegalArgumentException", Cond.methodLink RX8 94 yX8_checkPerson, Cond.static yX8_checkPerson, Cond.code yX8_checkPerson cX8_checkPerson 1 none, Cond.classLink RX8 178 "java/lang/IndexOutOfBoundsException", Cond.initialized "java/lang/IndexOutOfBoundsException", Cond.methodLink RX8 139 yX8_checkDays, Cond.static yX8_checkDays, Cond.code yX8_checkDays cX8_checkDays 1 none, Cond.methodLink RX8 59 yX8_tell, Cond.instanceMethod yX8_tell, Cond.selects RX8 yX8_tell yX8_tell, Cond.code yX8_tell cX8_tell 5 (some .int), Cond.fieldLink RX8 19 "Approvalyard" "desk" "LApprovalyard$Desk;", Cond.fieldLink RX8 10 "Approvalyard" "book" "LApprovalyard$Book;", Cond.methodLink RX8 80 yX0_write]
def wsL_leave_r2 : List Cond := [Cond.instanceMethod yX0_write, Cond.selects RX0 yX0_write yX0_write, Cond.initialized RX0, Cond.code yX0_write cX0_write 8 (some .int), Cond.fieldLink RX0 20 "Approvalyard$Book" "number" "I", Cond.fieldLink RX0 16 "Approvalyard$Book" "words" "LApprovalyard$Row;", Cond.methodLink RX0 24 yX6_put, Cond.instanceMethod yX6_put, Cond.selects RX6 yX6_put yX6_put, Cond.initialized RX6, Cond.code yX6_put cX6_put 3 none, Cond.fieldLink RX6 7 "Approvalyard$Row" "cells" "[I", Cond.methodLink RX8 84 yX2_apply, Cond.instanceMethod yX2_apply, Cond.selects RX2 yX2_apply yX2_apply, Cond.initialized RX2, Cond.code yX2_apply cX2_apply 6 (some .int), Cond.fieldLink RX2 12 "Approvalyard$Desk" "parts" "LApprovalyard$Parts;", Cond.fieldLink RX2 28 "Approvalyard$Desk" "requests" "LApprovalyard$Requests;", Cond.fieldLink RX2 21 "Approvalyard$Desk" "people" "LApprovalyard$People;", Cond.methodLink RX2 38 yX0_wordOf, Cond.instanceMethod yX0_wordOf, Cond.selects RX0 yX0_wordOf yX0_wordOf, Cond.code yX0_wordOf cX0_wordOf 3 (some .int)]
def wsL_leave_r3 : List Cond := [Cond.methodLink RX0 28 yX6_at, Cond.instanceMethod yX6_at, Cond.selects RX6 yX6_at yX6_at, Cond.code yX6_at cX6_at 2 (some .int), Cond.methodLink RX2 44 yX3_addVersion, Cond.instanceMethod yX3_addVersion, Cond.selects RX3 yX3_addVersion yX3_addVersion, Cond.initialized RX3, Cond.code yX3_addVersion cX3_addVersion 5 (some .int), Cond.fieldLink RX3 14 "Approvalyard$Parts" "counts" "LApprovalyard$Row;", Cond.fieldLink RX3 20 "Approvalyard$Parts" "costs" "LApprovalyard$Row;", Cond.fieldLink RX3 23 "Approvalyard$Parts" "replaced" "LApprovalyard$Row;", Cond.fieldLink RX3 26 "Approvalyard$Parts" "needCounts" "LApprovalyard$Row;", Cond.methodLink RX3 38 yX6_at, Cond.methodLink RX3 42 yX3_placeOf, Cond.static yX3_placeOf, Cond.code yX3_placeOf cX3_placeOf 2 (some .int), Cond.methodLink RX3 46 yX6_put, Cond.methodLink RX2 47 yX3_addNeed, Cond.instanceMethod yX3_addNeed, Cond.selects RX3 yX3_addNeed yX3_addNeed, Cond.code yX3_addNeed cX3_addNeed 8 (some .int), Cond.fieldLink RX3 29 "Approvalyard$Parts" "needParts" "LApprovalyard$Row;", Cond.fieldLink RX3 32 "Approvalyard$Parts" "needVersions" "LApprovalyard$Row;"]
def wsL_leave_r4 : List Cond := [Cond.methodLink RX3 50 yX3_versionSet, Cond.static yX3_versionSet, Cond.code yX3_versionSet cX3_versionSet 2 (some .int), Cond.methodLink RX2 51 yX3_markReplaced, Cond.instanceMethod yX3_markReplaced, Cond.selects RX3 yX3_markReplaced yX3_markReplaced, Cond.code yX3_markReplaced cX3_markReplaced 3 none, Cond.methodLink RX2 55 yX4_today, Cond.instanceMethod yX4_today, Cond.selects RX4 yX4_today yX4_today, Cond.initialized RX4, Cond.code yX4_today cX4_today 1 (some .int), Cond.fieldLink RX4 29 "Approvalyard$People" "day" "I", Cond.methodLink RX2 59 yX5_loseVersion, Cond.instanceMethod yX5_loseVersion, Cond.selects RX5 yX5_loseVersion yX5_loseVersion, Cond.initialized RX5, Cond.code yX5_loseVersion cX5_loseVersion 6 (some .int), Cond.fieldLink RX5 38 "Approvalyard$Requests" "number" "I", Cond.fieldLink RX5 29 "Approvalyard$Requests" "choices" "LApprovalyard$Row;", Cond.fieldLink RX5 26 "Approvalyard$Requests" "states" "LApprovalyard$Row;", Cond.methodLink RX5 52 yX6_at, Cond.methodLink RX5 60 yX1_versionOf, Cond.static yX1_versionOf]
def wsL_leave_r5 : List Cond := [Cond.initialized RX1, Cond.code yX1_versionOf cX1_versionOf 2 (some .int), Cond.methodLink RX5 66 yX5_approvalsOf, Cond.instanceMethod yX5_approvalsOf, Cond.selects RX5 yX5_approvalsOf yX5_approvalsOf, Cond.code yX5_approvalsOf cX5_approvalsOf 5 (some .int), Cond.methodLink RX5 56 yX5_hasApproval, Cond.instanceMethod yX5_hasApproval, Cond.selects RX5 yX5_hasApproval yX5_hasApproval, Cond.code yX5_hasApproval cX5_hasApproval 4 (some .boolean), Cond.fieldLink RX5 35 "Approvalyard$Requests" "ends" "LApprovalyard$Row;", Cond.methodLink RX5 49 yX5_endApprovals, Cond.instanceMethod yX5_endApprovals, Cond.selects RX5 yX5_endApprovals yX5_endApprovals, Cond.code yX5_endApprovals cX5_endApprovals 3 none, Cond.methodLink RX5 42 yX6_put, Cond.methodLink RX5 46 yX5_reopen, Cond.instanceMethod yX5_reopen, Cond.selects RX5 yX5_reopen yX5_reopen, Cond.code yX5_reopen cX5_reopen 2 none, Cond.fieldLink RX5 32 "Approvalyard$Requests" "costs" "LApprovalyard$Row;", Cond.methodLink RX2 63 yX5_add, Cond.instanceMethod yX5_add, Cond.selects RX5 yX5_add yX5_add]
def wsL_leave_r6 : List Cond := [Cond.code yX5_add cX5_add 5 (some .int), Cond.fieldLink RX5 14 "Approvalyard$Requests" "people" "LApprovalyard$Row;", Cond.fieldLink RX5 20 "Approvalyard$Requests" "parts" "LApprovalyard$Row;", Cond.fieldLink RX5 23 "Approvalyard$Requests" "leasts" "LApprovalyard$Row;", Cond.methodLink RX2 66 yX3_costOf, Cond.instanceMethod yX3_costOf, Cond.selects RX3 yX3_costOf yX3_costOf, Cond.code yX3_costOf cX3_costOf 5 (some .int), Cond.methodLink RX3 57 yX1_versionOf, Cond.methodLink RX2 70 yX5_settle, Cond.instanceMethod yX5_settle, Cond.selects RX5 yX5_settle yX5_settle, Cond.code yX5_settle cX5_settle 4 (some .int), Cond.methodLink RX2 73 yX4_changeLimit, Cond.instanceMethod yX4_changeLimit, Cond.selects RX4 yX4_changeLimit yX4_changeLimit, Cond.code yX4_changeLimit cX4_changeLimit 4 (some .int), Cond.fieldLink RX4 14 "Approvalyard$People" "limits" "LApprovalyard$Row;", Cond.methodLink RX4 33 yX6_at, Cond.methodLink RX4 37 yX6_put, Cond.methodLink RX2 76 yX4_sendOnLeave, Cond.instanceMethod yX4_sendOnLeave, Cond.selects RX4 yX4_sendOnLeave yX4_sendOnLeave, Cond.code yX4_sendOnLeave cX4_sendOnLeave 4 (some .int)]
def wsL_leave_r7 : List Cond := [Cond.fieldLink RX4 20 "Approvalyard$People" "delegates" "LApprovalyard$Row;", Cond.fieldLink RX4 23 "Approvalyard$People" "backs" "LApprovalyard$Row;", Cond.methodLink RX2 79 yX2_takeApproval, Cond.instanceMethod yX2_takeApproval, Cond.selects RX2 yX2_takeApproval yX2_takeApproval, Cond.code yX2_takeApproval cX2_takeApproval 5 (some .int), Cond.constant RX2 107 (2147483647), Cond.methodLink RX2 98 yX5_costOf, Cond.instanceMethod yX5_costOf, Cond.selects RX5 yX5_costOf yX5_costOf, Cond.code yX5_costOf cX5_costOf 2 (some .int), Cond.methodLink RX2 99 yX4_principalOf, Cond.instanceMethod yX4_principalOf, Cond.selects RX4 yX4_principalOf yX4_principalOf, Cond.code yX4_principalOf cX4_principalOf 4 (some .int), Cond.methodLink RX4 41 yX4_isAway, Cond.instanceMethod yX4_isAway, Cond.selects RX4 yX4_isAway yX4_isAway, Cond.code yX4_isAway cX4_isAway 2 (some .boolean), Cond.methodLink RX2 108 yX4_backOf, Cond.instanceMethod yX4_backOf, Cond.selects RX4 yX4_backOf yX4_backOf, Cond.code yX4_backOf cX4_backOf 2 (some .int), Cond.methodLink RX2 111 yX5_addApproval]
def wsL_leave_r8 : List Cond := [Cond.instanceMethod yX5_addApproval, Cond.selects RX5 yX5_addApproval yX5_addApproval, Cond.code yX5_addApproval cX5_addApproval 4 none, Cond.methodLink RX2 82 yX5_markReleased, Cond.instanceMethod yX5_markReleased, Cond.selects RX5 yX5_markReleased yX5_markReleased, Cond.code yX5_markReleased cX5_markReleased 2 (some .int), Cond.methodLink RX2 85 yX4_addDays, Cond.instanceMethod yX4_addDays, Cond.selects RX4 yX4_addDays yX4_addDays, Cond.code yX4_addDays cX4_addDays 2 (some .int)]
def wsL_leave : List Cond := .codeWith yL_leave cL_leave 6 (some .int) [(0, 12, 15, 13), (0, 12, 19, 15)] :: ((wsL_leave_r1 ++ (wsL_leave_r2 ++ (wsL_leave_r3 ++ (wsL_leave_r4 ++ (wsL_leave_r5 ++ (wsL_leave_r6 ++ (wsL_leave_r7 ++ wsL_leave_r8))))))) ++ wsX80 ++ wsX00 ++ wsX60 ++ wsX20 ++ wsX30 ++ wsX40 ++ wsX50 ++ (vx_atS RX8 41 "java/lang/IllegalArgumentException" ["java/lang/RuntimeException", "java/lang/Exception"]).filter goodWord ++ (vx_atS RX8 182 "java/lang/IndexOutOfBoundsException" ["java/lang/RuntimeException", "java/lang/Exception"]).filter goodWord)
def wsL_approve_r1 : List Cond := [Cond.classLink RL 13 "java/lang/IndexOutOfBoundsException", Cond.classLink RL 17 "java/lang/IllegalStateException", Cond.methodLink RL 43 yX8_approve, Cond.instanceMethod yX8_approve, Cond.selects RX8 yX8_approve yX8_approve, Cond.initialized RX8, Cond.code yX8_approve cX8_approve 3 (some .int), Cond.classLink RX8 54 "java/lang/IllegalStateException", Cond.initialized "java/lang/IllegalStateException", Cond.fieldLink RX8 19 "Approvalyard" "desk" "LApprovalyard$Desk;", Cond.methodLink RX8 109 yX8_checkRequest, Cond.instanceMethod yX8_checkRequest, Cond.selects RX8 yX8_checkRequest yX8_checkRequest, Cond.code yX8_checkRequest cX8_checkRequest 2 none, Cond.classLink RX8 178 "java/lang/IndexOutOfBoundsException", Cond.initialized "java/lang/IndexOutOfBoundsException", Cond.fieldLink RX8 97 "Approvalyard$Desk" "requests" "LApprovalyard$Requests;", Cond.methodLink RX8 101 yX5_count, Cond.instanceMethod yX5_count, Cond.selects RX5 yX5_count yX5_count, Cond.initialized RX5, Cond.code yX5_count cX5_count 1 (some .int), Cond.fieldLink RX5 38 "Approvalyard$Requests" "number" "I", Cond.methodLink RX8 94 yX8_checkPerson]
def wsL_approve_r2 : List Cond := [Cond.static yX8_checkPerson, Cond.code yX8_checkPerson cX8_checkPerson 1 none, Cond.methodLink RX8 142 yX2_principalFor, Cond.instanceMethod yX2_principalFor, Cond.selects RX2 yX2_principalFor yX2_principalFor, Cond.initialized RX2, Cond.code yX2_principalFor cX2_principalFor 4 (some .int), Cond.fieldLink RX2 28 "Approvalyard$Desk" "requests" "LApprovalyard$Requests;", Cond.fieldLink RX2 21 "Approvalyard$Desk" "people" "LApprovalyard$People;", Cond.methodLink RX2 88 yX5_stateOf, Cond.instanceMethod yX5_stateOf, Cond.selects RX5 yX5_stateOf yX5_stateOf, Cond.code yX5_stateOf cX5_stateOf 2 (some .int), Cond.fieldLink RX5 26 "Approvalyard$Requests" "states" "LApprovalyard$Row;", Cond.methodLink RX5 52 yX6_at, Cond.instanceMethod yX6_at, Cond.selects RX6 yX6_at yX6_at, Cond.initialized RX6, Cond.code yX6_at cX6_at 2 (some .int), Cond.fieldLink RX6 7 "Approvalyard$Row" "cells" "[I", Cond.methodLink RX2 91 yX5_personOf, Cond.instanceMethod yX5_personOf, Cond.selects RX5 yX5_personOf yX5_personOf, Cond.code yX5_personOf cX5_personOf 2 (some .int)]
def wsL_approve_r3 : List Cond := [Cond.fieldLink RX5 14 "Approvalyard$Requests" "people" "LApprovalyard$Row;", Cond.methodLink RX2 55 yX4_today, Cond.instanceMethod yX4_today, Cond.selects RX4 yX4_today yX4_today, Cond.initialized RX4, Cond.code yX4_today cX4_today 1 (some .int), Cond.fieldLink RX4 29 "Approvalyard$People" "day" "I", Cond.methodLink RX2 94 yX5_hasApproval, Cond.instanceMethod yX5_hasApproval, Cond.selects RX5 yX5_hasApproval yX5_hasApproval, Cond.code yX5_hasApproval cX5_hasApproval 4 (some .boolean), Cond.fieldLink RX5 35 "Approvalyard$Requests" "ends" "LApprovalyard$Row;", Cond.methodLink RX2 98 yX5_costOf, Cond.instanceMethod yX5_costOf, Cond.selects RX5 yX5_costOf yX5_costOf, Cond.code yX5_costOf cX5_costOf 2 (some .int), Cond.fieldLink RX5 32 "Approvalyard$Requests" "costs" "LApprovalyard$Row;", Cond.methodLink RX2 99 yX4_principalOf, Cond.instanceMethod yX4_principalOf, Cond.selects RX4 yX4_principalOf yX4_principalOf, Cond.code yX4_principalOf cX4_principalOf 4 (some .int), Cond.fieldLink RX4 14 "Approvalyard$People" "limits" "LApprovalyard$Row;", Cond.fieldLink RX4 20 "Approvalyard$People" "delegates" "LApprovalyard$Row;", Cond.methodLink RX4 41 yX4_isAway]
def wsL_approve_r4 : List Cond := [Cond.instanceMethod yX4_isAway, Cond.selects RX4 yX4_isAway yX4_isAway, Cond.code yX4_isAway cX4_isAway 2 (some .boolean), Cond.fieldLink RX4 23 "Approvalyard$People" "backs" "LApprovalyard$Row;", Cond.methodLink RX4 33 yX6_at, Cond.methodLink RX8 59 yX8_tell, Cond.instanceMethod yX8_tell, Cond.selects RX8 yX8_tell yX8_tell, Cond.code yX8_tell cX8_tell 5 (some .int), Cond.fieldLink RX8 10 "Approvalyard" "book" "LApprovalyard$Book;", Cond.methodLink RX8 80 yX0_write, Cond.instanceMethod yX0_write, Cond.selects RX0 yX0_write yX0_write, Cond.initialized RX0, Cond.code yX0_write cX0_write 8 (some .int), Cond.fieldLink RX0 20 "Approvalyard$Book" "number" "I", Cond.fieldLink RX0 16 "Approvalyard$Book" "words" "LApprovalyard$Row;", Cond.methodLink RX0 24 yX6_put, Cond.instanceMethod yX6_put, Cond.selects RX6 yX6_put yX6_put, Cond.code yX6_put cX6_put 3 none, Cond.methodLink RX8 84 yX2_apply, Cond.instanceMethod yX2_apply, Cond.selects RX2 yX2_apply yX2_apply]
def wsL_approve_r5 : List Cond := [Cond.code yX2_apply cX2_apply 6 (some .int), Cond.fieldLink RX2 12 "Approvalyard$Desk" "parts" "LApprovalyard$Parts;", Cond.methodLink RX2 38 yX0_wordOf, Cond.instanceMethod yX0_wordOf, Cond.selects RX0 yX0_wordOf yX0_wordOf, Cond.code yX0_wordOf cX0_wordOf 3 (some .int), Cond.methodLink RX0 28 yX6_at, Cond.methodLink RX2 44 yX3_addVersion, Cond.instanceMethod yX3_addVersion, Cond.selects RX3 yX3_addVersion yX3_addVersion, Cond.initialized RX3, Cond.code yX3_addVersion cX3_addVersion 5 (some .int), Cond.fieldLink RX3 14 "Approvalyard$Parts" "counts" "LApprovalyard$Row;", Cond.fieldLink RX3 20 "Approvalyard$Parts" "costs" "LApprovalyard$Row;", Cond.fieldLink RX3 23 "Approvalyard$Parts" "replaced" "LApprovalyard$Row;", Cond.fieldLink RX3 26 "Approvalyard$Parts" "needCounts" "LApprovalyard$Row;", Cond.methodLink RX3 38 yX6_at, Cond.methodLink RX3 42 yX3_placeOf, Cond.static yX3_placeOf, Cond.code yX3_placeOf cX3_placeOf 2 (some .int), Cond.methodLink RX3 46 yX6_put, Cond.methodLink RX2 47 yX3_addNeed, Cond.instanceMethod yX3_addNeed, Cond.selects RX3 yX3_addNeed yX3_addNeed]
def wsL_approve_r6 : List Cond := [Cond.code yX3_addNeed cX3_addNeed 8 (some .int), Cond.fieldLink RX3 29 "Approvalyard$Parts" "needParts" "LApprovalyard$Row;", Cond.fieldLink RX3 32 "Approvalyard$Parts" "needVersions" "LApprovalyard$Row;", Cond.methodLink RX3 50 yX3_versionSet, Cond.static yX3_versionSet, Cond.code yX3_versionSet cX3_versionSet 2 (some .int), Cond.methodLink RX2 51 yX3_markReplaced, Cond.instanceMethod yX3_markReplaced, Cond.selects RX3 yX3_markReplaced yX3_markReplaced, Cond.code yX3_markReplaced cX3_markReplaced 3 none, Cond.methodLink RX2 59 yX5_loseVersion, Cond.instanceMethod yX5_loseVersion, Cond.selects RX5 yX5_loseVersion yX5_loseVersion, Cond.code yX5_loseVersion cX5_loseVersion 6 (some .int), Cond.fieldLink RX5 29 "Approvalyard$Requests" "choices" "LApprovalyard$Row;", Cond.methodLink RX5 60 yX1_versionOf, Cond.static yX1_versionOf, Cond.initialized RX1, Cond.code yX1_versionOf cX1_versionOf 2 (some .int), Cond.methodLink RX5 66 yX5_approvalsOf, Cond.instanceMethod yX5_approvalsOf, Cond.selects RX5 yX5_approvalsOf yX5_approvalsOf, Cond.code yX5_approvalsOf cX5_approvalsOf 5 (some .int), Cond.methodLink RX5 56 yX5_hasApproval]
def wsL_approve_r7 : List Cond := [Cond.methodLink RX5 49 yX5_endApprovals, Cond.instanceMethod yX5_endApprovals, Cond.selects RX5 yX5_endApprovals yX5_endApprovals, Cond.code yX5_endApprovals cX5_endApprovals 3 none, Cond.methodLink RX5 42 yX6_put, Cond.methodLink RX5 46 yX5_reopen, Cond.instanceMethod yX5_reopen, Cond.selects RX5 yX5_reopen yX5_reopen, Cond.code yX5_reopen cX5_reopen 2 none, Cond.methodLink RX2 63 yX5_add, Cond.instanceMethod yX5_add, Cond.selects RX5 yX5_add yX5_add, Cond.code yX5_add cX5_add 5 (some .int), Cond.fieldLink RX5 20 "Approvalyard$Requests" "parts" "LApprovalyard$Row;", Cond.fieldLink RX5 23 "Approvalyard$Requests" "leasts" "LApprovalyard$Row;", Cond.methodLink RX2 66 yX3_costOf, Cond.instanceMethod yX3_costOf, Cond.selects RX3 yX3_costOf yX3_costOf, Cond.code yX3_costOf cX3_costOf 5 (some .int), Cond.methodLink RX3 57 yX1_versionOf, Cond.methodLink RX2 70 yX5_settle, Cond.instanceMethod yX5_settle, Cond.selects RX5 yX5_settle yX5_settle, Cond.code yX5_settle cX5_settle 4 (some .int)]
def wsL_approve_r8 : List Cond := [Cond.methodLink RX2 73 yX4_changeLimit, Cond.instanceMethod yX4_changeLimit, Cond.selects RX4 yX4_changeLimit yX4_changeLimit, Cond.code yX4_changeLimit cX4_changeLimit 4 (some .int), Cond.methodLink RX4 37 yX6_put, Cond.methodLink RX2 76 yX4_sendOnLeave, Cond.instanceMethod yX4_sendOnLeave, Cond.selects RX4 yX4_sendOnLeave yX4_sendOnLeave, Cond.code yX4_sendOnLeave cX4_sendOnLeave 4 (some .int), Cond.methodLink RX2 79 yX2_takeApproval, Cond.instanceMethod yX2_takeApproval, Cond.selects RX2 yX2_takeApproval yX2_takeApproval, Cond.code yX2_takeApproval cX2_takeApproval 5 (some .int), Cond.constant RX2 107 (2147483647), Cond.methodLink RX2 108 yX4_backOf, Cond.instanceMethod yX4_backOf, Cond.selects RX4 yX4_backOf yX4_backOf, Cond.code yX4_backOf cX4_backOf 2 (some .int), Cond.methodLink RX2 111 yX5_addApproval, Cond.instanceMethod yX5_addApproval, Cond.selects RX5 yX5_addApproval yX5_addApproval, Cond.code yX5_addApproval cX5_addApproval 4 none, Cond.methodLink RX2 82 yX5_markReleased, Cond.instanceMethod yX5_markReleased]
def wsL_approve_r9 : List Cond := [Cond.selects RX5 yX5_markReleased yX5_markReleased, Cond.code yX5_markReleased cX5_markReleased 2 (some .int), Cond.methodLink RX2 85 yX4_addDays, Cond.instanceMethod yX4_addDays, Cond.selects RX4 yX4_addDays yX4_addDays, Cond.code yX4_addDays cX4_addDays 2 (some .int)]
def wsL_approve : List Cond := .codeWith yL_approve cL_approve 5 (some .int) [(0, 10, 13, 13), (0, 10, 17, 17)] :: ((wsL_approve_r1 ++ (wsL_approve_r2 ++ (wsL_approve_r3 ++ (wsL_approve_r4 ++ (wsL_approve_r5 ++ (wsL_approve_r6 ++ (wsL_approve_r7 ++ (wsL_approve_r8 ++ wsL_approve_r9)))))))) ++ wsX80 ++ wsX20 ++ wsX50 ++ wsX60 ++ wsX40 ++ wsX00 ++ wsX30 ++ (vx_atS RX8 58 "java/lang/IllegalStateException" ["java/lang/RuntimeException", "java/lang/Exception"]).filter goodWord ++ (vx_atS RX8 182 "java/lang/IndexOutOfBoundsException" ["java/lang/RuntimeException", "java/lang/Exception"]).filter goodWord)
def wsL_release_r1 : List Cond := [Cond.classLink RL 13 "java/lang/IndexOutOfBoundsException", Cond.classLink RL 17 "java/lang/IllegalStateException", Cond.methodLink RL 46 yX8_release, Cond.instanceMethod yX8_release, Cond.selects RX8 yX8_release yX8_release, Cond.initialized RX8, Cond.code yX8_release cX8_release 2 none, Cond.classLink RX8 54 "java/lang/IllegalStateException", Cond.initialized "java/lang/IllegalStateException", Cond.fieldLink RX8 19 "Approvalyard" "desk" "LApprovalyard$Desk;", Cond.fieldLink RX8 97 "Approvalyard$Desk" "requests" "LApprovalyard$Requests;", Cond.methodLink RX8 109 yX8_checkRequest, Cond.instanceMethod yX8_checkRequest, Cond.selects RX8 yX8_checkRequest yX8_checkRequest, Cond.code yX8_checkRequest cX8_checkRequest 2 none, Cond.classLink RX8 178 "java/lang/IndexOutOfBoundsException", Cond.initialized "java/lang/IndexOutOfBoundsException", Cond.methodLink RX8 101 yX5_count, Cond.instanceMethod yX5_count, Cond.selects RX5 yX5_count yX5_count, Cond.initialized RX5, Cond.code yX5_count cX5_count 1 (some .int), Cond.fieldLink RX5 38 "Approvalyard$Requests" "number" "I", Cond.methodLink RX8 112 yX5_stateOf]
def wsL_release_r2 : List Cond := [Cond.instanceMethod yX5_stateOf, Cond.selects RX5 yX5_stateOf yX5_stateOf, Cond.code yX5_stateOf cX5_stateOf 2 (some .int), Cond.fieldLink RX5 26 "Approvalyard$Requests" "states" "LApprovalyard$Row;", Cond.methodLink RX5 52 yX6_at, Cond.instanceMethod yX6_at, Cond.selects RX6 yX6_at yX6_at, Cond.initialized RX6, Cond.code yX6_at cX6_at 2 (some .int), Cond.fieldLink RX6 7 "Approvalyard$Row" "cells" "[I", Cond.methodLink RX8 147 yX2_isCovered, Cond.instanceMethod yX2_isCovered, Cond.selects RX2 yX2_isCovered yX2_isCovered, Cond.initialized RX2, Cond.code yX2_isCovered cX2_isCovered 3 (some .boolean), Cond.fieldLink RX2 28 "Approvalyard$Desk" "requests" "LApprovalyard$Requests;", Cond.methodLink RX2 98 yX5_costOf, Cond.instanceMethod yX5_costOf, Cond.selects RX5 yX5_costOf yX5_costOf, Cond.code yX5_costOf cX5_costOf 2 (some .int), Cond.fieldLink RX5 32 "Approvalyard$Requests" "costs" "LApprovalyard$Row;", Cond.methodLink RX2 105 yX2_approvalsOf, Cond.instanceMethod yX2_approvalsOf, Cond.selects RX2 yX2_approvalsOf yX2_approvalsOf]
def wsL_release_r3 : List Cond := [Cond.code yX2_approvalsOf cX2_approvalsOf 2 (some .int), Cond.fieldLink RX2 21 "Approvalyard$Desk" "people" "LApprovalyard$People;", Cond.methodLink RX2 55 yX4_today, Cond.instanceMethod yX4_today, Cond.selects RX4 yX4_today yX4_today, Cond.initialized RX4, Cond.code yX4_today cX4_today 1 (some .int), Cond.fieldLink RX4 29 "Approvalyard$People" "day" "I", Cond.methodLink RX2 102 yX5_approvalsOf, Cond.instanceMethod yX5_approvalsOf, Cond.selects RX5 yX5_approvalsOf yX5_approvalsOf, Cond.code yX5_approvalsOf cX5_approvalsOf 5 (some .int), Cond.methodLink RX5 56 yX5_hasApproval, Cond.instanceMethod yX5_hasApproval, Cond.selects RX5 yX5_hasApproval yX5_hasApproval, Cond.code yX5_hasApproval cX5_hasApproval 4 (some .boolean), Cond.fieldLink RX5 35 "Approvalyard$Requests" "ends" "LApprovalyard$Row;", Cond.methodLink RX8 59 yX8_tell, Cond.instanceMethod yX8_tell, Cond.selects RX8 yX8_tell yX8_tell, Cond.code yX8_tell cX8_tell 5 (some .int), Cond.fieldLink RX8 10 "Approvalyard" "book" "LApprovalyard$Book;", Cond.methodLink RX8 80 yX0_write, Cond.instanceMethod yX0_write]
def wsL_release_r4 : List Cond := [Cond.selects RX0 yX0_write yX0_write, Cond.initialized RX0, Cond.code yX0_write cX0_write 8 (some .int), Cond.fieldLink RX0 20 "Approvalyard$Book" "number" "I", Cond.fieldLink RX0 16 "Approvalyard$Book" "words" "LApprovalyard$Row;", Cond.methodLink RX0 24 yX6_put, Cond.instanceMethod yX6_put, Cond.selects RX6 yX6_put yX6_put, Cond.code yX6_put cX6_put 3 none, Cond.methodLink RX8 84 yX2_apply, Cond.instanceMethod yX2_apply, Cond.selects RX2 yX2_apply yX2_apply, Cond.code yX2_apply cX2_apply 6 (some .int), Cond.fieldLink RX2 12 "Approvalyard$Desk" "parts" "LApprovalyard$Parts;", Cond.methodLink RX2 38 yX0_wordOf, Cond.instanceMethod yX0_wordOf, Cond.selects RX0 yX0_wordOf yX0_wordOf, Cond.code yX0_wordOf cX0_wordOf 3 (some .int), Cond.methodLink RX0 28 yX6_at, Cond.methodLink RX2 44 yX3_addVersion, Cond.instanceMethod yX3_addVersion, Cond.selects RX3 yX3_addVersion yX3_addVersion, Cond.initialized RX3, Cond.code yX3_addVersion cX3_addVersion 5 (some .int)]
def wsL_release_r5 : List Cond := [Cond.fieldLink RX3 14 "Approvalyard$Parts" "counts" "LApprovalyard$Row;", Cond.fieldLink RX3 20 "Approvalyard$Parts" "costs" "LApprovalyard$Row;", Cond.fieldLink RX3 23 "Approvalyard$Parts" "replaced" "LApprovalyard$Row;", Cond.fieldLink RX3 26 "Approvalyard$Parts" "needCounts" "LApprovalyard$Row;", Cond.methodLink RX3 38 yX6_at, Cond.methodLink RX3 42 yX3_placeOf, Cond.static yX3_placeOf, Cond.code yX3_placeOf cX3_placeOf 2 (some .int), Cond.methodLink RX3 46 yX6_put, Cond.methodLink RX2 47 yX3_addNeed, Cond.instanceMethod yX3_addNeed, Cond.selects RX3 yX3_addNeed yX3_addNeed, Cond.code yX3_addNeed cX3_addNeed 8 (some .int), Cond.fieldLink RX3 29 "Approvalyard$Parts" "needParts" "LApprovalyard$Row;", Cond.fieldLink RX3 32 "Approvalyard$Parts" "needVersions" "LApprovalyard$Row;", Cond.methodLink RX3 50 yX3_versionSet, Cond.static yX3_versionSet, Cond.code yX3_versionSet cX3_versionSet 2 (some .int), Cond.methodLink RX2 51 yX3_markReplaced, Cond.instanceMethod yX3_markReplaced, Cond.selects RX3 yX3_markReplaced yX3_markReplaced, Cond.code yX3_markReplaced cX3_markReplaced 3 none, Cond.methodLink RX2 59 yX5_loseVersion, Cond.instanceMethod yX5_loseVersion]
def wsL_release_r6 : List Cond := [Cond.selects RX5 yX5_loseVersion yX5_loseVersion, Cond.code yX5_loseVersion cX5_loseVersion 6 (some .int), Cond.fieldLink RX5 29 "Approvalyard$Requests" "choices" "LApprovalyard$Row;", Cond.methodLink RX5 60 yX1_versionOf, Cond.static yX1_versionOf, Cond.initialized RX1, Cond.code yX1_versionOf cX1_versionOf 2 (some .int), Cond.methodLink RX5 66 yX5_approvalsOf, Cond.methodLink RX5 49 yX5_endApprovals, Cond.instanceMethod yX5_endApprovals, Cond.selects RX5 yX5_endApprovals yX5_endApprovals, Cond.code yX5_endApprovals cX5_endApprovals 3 none, Cond.methodLink RX5 42 yX6_put, Cond.methodLink RX5 46 yX5_reopen, Cond.instanceMethod yX5_reopen, Cond.selects RX5 yX5_reopen yX5_reopen, Cond.code yX5_reopen cX5_reopen 2 none, Cond.methodLink RX2 63 yX5_add, Cond.instanceMethod yX5_add, Cond.selects RX5 yX5_add yX5_add, Cond.code yX5_add cX5_add 5 (some .int), Cond.fieldLink RX5 14 "Approvalyard$Requests" "people" "LApprovalyard$Row;", Cond.fieldLink RX5 20 "Approvalyard$Requests" "parts" "LApprovalyard$Row;", Cond.fieldLink RX5 23 "Approvalyard$Requests" "leasts" "LApprovalyard$Row;"]
def wsL_release_r7 : List Cond := [Cond.methodLink RX2 66 yX3_costOf, Cond.instanceMethod yX3_costOf, Cond.selects RX3 yX3_costOf yX3_costOf, Cond.code yX3_costOf cX3_costOf 5 (some .int), Cond.methodLink RX3 57 yX1_versionOf, Cond.methodLink RX2 70 yX5_settle, Cond.instanceMethod yX5_settle, Cond.selects RX5 yX5_settle yX5_settle, Cond.code yX5_settle cX5_settle 4 (some .int), Cond.methodLink RX2 73 yX4_changeLimit, Cond.instanceMethod yX4_changeLimit, Cond.selects RX4 yX4_changeLimit yX4_changeLimit, Cond.code yX4_changeLimit cX4_changeLimit 4 (some .int), Cond.fieldLink RX4 14 "Approvalyard$People" "limits" "LApprovalyard$Row;", Cond.methodLink RX4 33 yX6_at, Cond.methodLink RX4 37 yX6_put, Cond.methodLink RX2 76 yX4_sendOnLeave, Cond.instanceMethod yX4_sendOnLeave, Cond.selects RX4 yX4_sendOnLeave yX4_sendOnLeave, Cond.code yX4_sendOnLeave cX4_sendOnLeave 4 (some .int), Cond.fieldLink RX4 20 "Approvalyard$People" "delegates" "LApprovalyard$Row;", Cond.fieldLink RX4 23 "Approvalyard$People" "backs" "LApprovalyard$Row;", Cond.methodLink RX2 79 yX2_takeApproval, Cond.instanceMethod yX2_takeApproval]
def wsL_release_r8 : List Cond := [Cond.selects RX2 yX2_takeApproval yX2_takeApproval, Cond.code yX2_takeApproval cX2_takeApproval 5 (some .int), Cond.constant RX2 107 (2147483647), Cond.methodLink RX2 99 yX4_principalOf, Cond.instanceMethod yX4_principalOf, Cond.selects RX4 yX4_principalOf yX4_principalOf, Cond.code yX4_principalOf cX4_principalOf 4 (some .int), Cond.methodLink RX4 41 yX4_isAway, Cond.instanceMethod yX4_isAway, Cond.selects RX4 yX4_isAway yX4_isAway, Cond.code yX4_isAway cX4_isAway 2 (some .boolean), Cond.methodLink RX2 108 yX4_backOf, Cond.instanceMethod yX4_backOf, Cond.selects RX4 yX4_backOf yX4_backOf, Cond.code yX4_backOf cX4_backOf 2 (some .int), Cond.methodLink RX2 111 yX5_addApproval, Cond.instanceMethod yX5_addApproval, Cond.selects RX5 yX5_addApproval yX5_addApproval, Cond.code yX5_addApproval cX5_addApproval 4 none, Cond.methodLink RX2 82 yX5_markReleased, Cond.instanceMethod yX5_markReleased, Cond.selects RX5 yX5_markReleased yX5_markReleased, Cond.code yX5_markReleased cX5_markReleased 2 (some .int), Cond.methodLink RX2 85 yX4_addDays]
def wsL_release_r9 : List Cond := [Cond.instanceMethod yX4_addDays, Cond.selects RX4 yX4_addDays yX4_addDays, Cond.code yX4_addDays cX4_addDays 2 (some .int)]
def wsL_release : List Cond := .codeWith yL_release cL_release 3 (some .int) [(0, 5, 8, 13), (0, 5, 11, 17)] :: ((wsL_release_r1 ++ (wsL_release_r2 ++ (wsL_release_r3 ++ (wsL_release_r4 ++ (wsL_release_r5 ++ (wsL_release_r6 ++ (wsL_release_r7 ++ (wsL_release_r8 ++ wsL_release_r9)))))))) ++ wsX80 ++ wsX20 ++ wsX50 ++ wsX60 ++ wsX40 ++ wsX00 ++ wsX30 ++ (vx_atS RX8 58 "java/lang/IllegalStateException" ["java/lang/RuntimeException", "java/lang/Exception"]).filter goodWord ++ (vx_atS RX8 182 "java/lang/IndexOutOfBoundsException" ["java/lang/RuntimeException", "java/lang/Exception"]).filter goodWord)
def wsL_pass_r1 : List Cond := [Cond.classLink RL 15 "java/lang/IllegalArgumentException", Cond.methodLink RL 50 yX8_pass, Cond.instanceMethod yX8_pass, Cond.selects RX8 yX8_pass yX8_pass, Cond.initialized RX8, Cond.code yX8_pass cX8_pass 2 (some .int), Cond.methodLink RX8 139 yX8_checkDays, Cond.static yX8_checkDays, Cond.code yX8_checkDays cX8_checkDays 1 none, Cond.classLink RX8 37 "java/lang/IllegalArgumentException", Cond.initialized "java/lang/IllegalArgumentException", Cond.methodLink RX8 59 yX8_tell, Cond.instanceMethod yX8_tell, Cond.selects RX8 yX8_tell yX8_tell, Cond.code yX8_tell cX8_tell 5 (some .int), Cond.fieldLink RX8 19 "Approvalyard" "desk" "LApprovalyard$Desk;", Cond.fieldLink RX8 10 "Approvalyard" "book" "LApprovalyard$Book;", Cond.methodLink RX8 80 yX0_write, Cond.instanceMethod yX0_write, Cond.selects RX0 yX0_write yX0_write, Cond.initialized RX0, Cond.code yX0_write cX0_write 8 (some .int), Cond.fieldLink RX0 20 "Approvalyard$Book" "number" "I", Cond.fieldLink RX0 16 "Approvalyard$Book" "words" "LApprovalyard$Row;"]
def wsL_pass_r2 : List Cond := [Cond.methodLink RX0 24 yX6_put, Cond.instanceMethod yX6_put, Cond.selects RX6 yX6_put yX6_put, Cond.initialized RX6, Cond.code yX6_put cX6_put 3 none, Cond.fieldLink RX6 7 "Approvalyard$Row" "cells" "[I", Cond.methodLink RX8 84 yX2_apply, Cond.instanceMethod yX2_apply, Cond.selects RX2 yX2_apply yX2_apply, Cond.initialized RX2, Cond.code yX2_apply cX2_apply 6 (some .int), Cond.fieldLink RX2 12 "Approvalyard$Desk" "parts" "LApprovalyard$Parts;", Cond.fieldLink RX2 28 "Approvalyard$Desk" "requests" "LApprovalyard$Requests;", Cond.fieldLink RX2 21 "Approvalyard$Desk" "people" "LApprovalyard$People;", Cond.methodLink RX2 38 yX0_wordOf, Cond.instanceMethod yX0_wordOf, Cond.selects RX0 yX0_wordOf yX0_wordOf, Cond.code yX0_wordOf cX0_wordOf 3 (some .int), Cond.methodLink RX0 28 yX6_at, Cond.instanceMethod yX6_at, Cond.selects RX6 yX6_at yX6_at, Cond.code yX6_at cX6_at 2 (some .int), Cond.methodLink RX2 44 yX3_addVersion, Cond.instanceMethod yX3_addVersion]
def wsL_pass_r3 : List Cond := [Cond.selects RX3 yX3_addVersion yX3_addVersion, Cond.initialized RX3, Cond.code yX3_addVersion cX3_addVersion 5 (some .int), Cond.fieldLink RX3 14 "Approvalyard$Parts" "counts" "LApprovalyard$Row;", Cond.fieldLink RX3 20 "Approvalyard$Parts" "costs" "LApprovalyard$Row;", Cond.fieldLink RX3 23 "Approvalyard$Parts" "replaced" "LApprovalyard$Row;", Cond.fieldLink RX3 26 "Approvalyard$Parts" "needCounts" "LApprovalyard$Row;", Cond.methodLink RX3 38 yX6_at, Cond.methodLink RX3 42 yX3_placeOf, Cond.static yX3_placeOf, Cond.code yX3_placeOf cX3_placeOf 2 (some .int), Cond.methodLink RX3 46 yX6_put, Cond.methodLink RX2 47 yX3_addNeed, Cond.instanceMethod yX3_addNeed, Cond.selects RX3 yX3_addNeed yX3_addNeed, Cond.code yX3_addNeed cX3_addNeed 8 (some .int), Cond.fieldLink RX3 29 "Approvalyard$Parts" "needParts" "LApprovalyard$Row;", Cond.fieldLink RX3 32 "Approvalyard$Parts" "needVersions" "LApprovalyard$Row;", Cond.methodLink RX3 50 yX3_versionSet, Cond.static yX3_versionSet, Cond.code yX3_versionSet cX3_versionSet 2 (some .int), Cond.methodLink RX2 51 yX3_markReplaced, Cond.instanceMethod yX3_markReplaced, Cond.selects RX3 yX3_markReplaced yX3_markReplaced]
def wsL_pass_r4 : List Cond := [Cond.code yX3_markReplaced cX3_markReplaced 3 none, Cond.methodLink RX2 55 yX4_today, Cond.instanceMethod yX4_today, Cond.selects RX4 yX4_today yX4_today, Cond.initialized RX4, Cond.code yX4_today cX4_today 1 (some .int), Cond.fieldLink RX4 29 "Approvalyard$People" "day" "I", Cond.methodLink RX2 59 yX5_loseVersion, Cond.instanceMethod yX5_loseVersion, Cond.selects RX5 yX5_loseVersion yX5_loseVersion, Cond.initialized RX5, Cond.code yX5_loseVersion cX5_loseVersion 6 (some .int), Cond.fieldLink RX5 38 "Approvalyard$Requests" "number" "I", Cond.fieldLink RX5 29 "Approvalyard$Requests" "choices" "LApprovalyard$Row;", Cond.fieldLink RX5 26 "Approvalyard$Requests" "states" "LApprovalyard$Row;", Cond.methodLink RX5 52 yX6_at, Cond.methodLink RX5 60 yX1_versionOf, Cond.static yX1_versionOf, Cond.initialized RX1, Cond.code yX1_versionOf cX1_versionOf 2 (some .int), Cond.methodLink RX5 66 yX5_approvalsOf, Cond.instanceMethod yX5_approvalsOf, Cond.selects RX5 yX5_approvalsOf yX5_approvalsOf, Cond.code yX5_approvalsOf cX5_approvalsOf 5 (some .int)]
def wsL_pass_r5 : List Cond := [Cond.methodLink RX5 56 yX5_hasApproval, Cond.instanceMethod yX5_hasApproval, Cond.selects RX5 yX5_hasApproval yX5_hasApproval, Cond.code yX5_hasApproval cX5_hasApproval 4 (some .boolean), Cond.fieldLink RX5 35 "Approvalyard$Requests" "ends" "LApprovalyard$Row;", Cond.methodLink RX5 49 yX5_endApprovals, Cond.instanceMethod yX5_endApprovals, Cond.selects RX5 yX5_endApprovals yX5_endApprovals, Cond.code yX5_endApprovals cX5_endApprovals 3 none, Cond.methodLink RX5 42 yX6_put, Cond.methodLink RX5 46 yX5_reopen, Cond.instanceMethod yX5_reopen, Cond.selects RX5 yX5_reopen yX5_reopen, Cond.code yX5_reopen cX5_reopen 2 none, Cond.fieldLink RX5 32 "Approvalyard$Requests" "costs" "LApprovalyard$Row;", Cond.methodLink RX2 63 yX5_add, Cond.instanceMethod yX5_add, Cond.selects RX5 yX5_add yX5_add, Cond.code yX5_add cX5_add 5 (some .int), Cond.fieldLink RX5 14 "Approvalyard$Requests" "people" "LApprovalyard$Row;", Cond.fieldLink RX5 20 "Approvalyard$Requests" "parts" "LApprovalyard$Row;", Cond.fieldLink RX5 23 "Approvalyard$Requests" "leasts" "LApprovalyard$Row;", Cond.methodLink RX2 66 yX3_costOf, Cond.instanceMethod yX3_costOf]
def wsL_pass_r6 : List Cond := [Cond.selects RX3 yX3_costOf yX3_costOf, Cond.code yX3_costOf cX3_costOf 5 (some .int), Cond.methodLink RX3 57 yX1_versionOf, Cond.methodLink RX2 70 yX5_settle, Cond.instanceMethod yX5_settle, Cond.selects RX5 yX5_settle yX5_settle, Cond.code yX5_settle cX5_settle 4 (some .int), Cond.methodLink RX2 73 yX4_changeLimit, Cond.instanceMethod yX4_changeLimit, Cond.selects RX4 yX4_changeLimit yX4_changeLimit, Cond.code yX4_changeLimit cX4_changeLimit 4 (some .int), Cond.fieldLink RX4 14 "Approvalyard$People" "limits" "LApprovalyard$Row;", Cond.methodLink RX4 33 yX6_at, Cond.methodLink RX4 37 yX6_put, Cond.methodLink RX2 76 yX4_sendOnLeave, Cond.instanceMethod yX4_sendOnLeave, Cond.selects RX4 yX4_sendOnLeave yX4_sendOnLeave, Cond.code yX4_sendOnLeave cX4_sendOnLeave 4 (some .int), Cond.fieldLink RX4 20 "Approvalyard$People" "delegates" "LApprovalyard$Row;", Cond.fieldLink RX4 23 "Approvalyard$People" "backs" "LApprovalyard$Row;", Cond.methodLink RX2 79 yX2_takeApproval, Cond.instanceMethod yX2_takeApproval, Cond.selects RX2 yX2_takeApproval yX2_takeApproval, Cond.code yX2_takeApproval cX2_takeApproval 5 (some .int)]
def wsL_pass_r7 : List Cond := [Cond.constant RX2 107 (2147483647), Cond.methodLink RX2 98 yX5_costOf, Cond.instanceMethod yX5_costOf, Cond.selects RX5 yX5_costOf yX5_costOf, Cond.code yX5_costOf cX5_costOf 2 (some .int), Cond.methodLink RX2 99 yX4_principalOf, Cond.instanceMethod yX4_principalOf, Cond.selects RX4 yX4_principalOf yX4_principalOf, Cond.code yX4_principalOf cX4_principalOf 4 (some .int), Cond.methodLink RX4 41 yX4_isAway, Cond.instanceMethod yX4_isAway, Cond.selects RX4 yX4_isAway yX4_isAway, Cond.code yX4_isAway cX4_isAway 2 (some .boolean), Cond.methodLink RX2 108 yX4_backOf, Cond.instanceMethod yX4_backOf, Cond.selects RX4 yX4_backOf yX4_backOf, Cond.code yX4_backOf cX4_backOf 2 (some .int), Cond.methodLink RX2 111 yX5_addApproval, Cond.instanceMethod yX5_addApproval, Cond.selects RX5 yX5_addApproval yX5_addApproval, Cond.code yX5_addApproval cX5_addApproval 4 none, Cond.methodLink RX2 82 yX5_markReleased, Cond.instanceMethod yX5_markReleased, Cond.selects RX5 yX5_markReleased yX5_markReleased]
def wsL_pass_r8 : List Cond := [Cond.code yX5_markReleased cX5_markReleased 2 (some .int), Cond.methodLink RX2 85 yX4_addDays, Cond.instanceMethod yX4_addDays, Cond.selects RX4 yX4_addDays yX4_addDays, Cond.code yX4_addDays cX4_addDays 2 (some .int)]
def wsL_pass : List Cond := .codeWith yL_pass cL_pass 4 (some .int) [(0, 9, 12, 15)] :: ((wsL_pass_r1 ++ (wsL_pass_r2 ++ (wsL_pass_r3 ++ (wsL_pass_r4 ++ (wsL_pass_r5 ++ (wsL_pass_r6 ++ (wsL_pass_r7 ++ wsL_pass_r8))))))) ++ wsX80 ++ wsX00 ++ wsX60 ++ wsX20 ++ wsX30 ++ wsX40 ++ wsX50 ++ (vx_atS RX8 41 "java/lang/IllegalArgumentException" ["java/lang/RuntimeException", "java/lang/Exception"]).filter goodWord)
def wsL_ofRequest_r1 : List Cond := [Cond.classLink RL 13 "java/lang/IndexOutOfBoundsException", Cond.classLink RL 15 "java/lang/IllegalArgumentException", Cond.methodLink RL 53 yX8_ofRequest, Cond.instanceMethod yX8_ofRequest, Cond.selects RX8 yX8_ofRequest yX8_ofRequest, Cond.initialized RX8, Cond.code yX8_ofRequest cX8_ofRequest 3 (some .int), Cond.classLink RX8 37 "java/lang/IllegalArgumentException", Cond.initialized "java/lang/IllegalArgumentException", Cond.fieldLink RX8 19 "Approvalyard" "desk" "LApprovalyard$Desk;", Cond.fieldLink RX8 97 "Approvalyard$Desk" "requests" "LApprovalyard$Requests;", Cond.methodLink RX8 109 yX8_checkRequest, Cond.instanceMethod yX8_checkRequest, Cond.selects RX8 yX8_checkRequest yX8_checkRequest, Cond.code yX8_checkRequest cX8_checkRequest 2 none, Cond.classLink RX8 178 "java/lang/IndexOutOfBoundsException", Cond.initialized "java/lang/IndexOutOfBoundsException", Cond.methodLink RX8 101 yX5_count, Cond.instanceMethod yX5_count, Cond.selects RX5 yX5_count yX5_count, Cond.initialized RX5, Cond.code yX5_count cX5_count 1 (some .int), Cond.fieldLink RX5 38 "Approvalyard$Requests" "number" "I", Cond.methodLink RX8 112 yX5_stateOf]
def wsL_ofRequest_r2 : List Cond := [Cond.instanceMethod yX5_stateOf, Cond.selects RX5 yX5_stateOf yX5_stateOf, Cond.code yX5_stateOf cX5_stateOf 2 (some .int), Cond.fieldLink RX5 26 "Approvalyard$Requests" "states" "LApprovalyard$Row;", Cond.methodLink RX5 52 yX6_at, Cond.instanceMethod yX6_at, Cond.selects RX6 yX6_at yX6_at, Cond.initialized RX6, Cond.code yX6_at cX6_at 2 (some .int), Cond.fieldLink RX6 7 "Approvalyard$Row" "cells" "[I", Cond.methodLink RX8 153 yX5_costOf, Cond.instanceMethod yX5_costOf, Cond.selects RX5 yX5_costOf yX5_costOf, Cond.code yX5_costOf cX5_costOf 2 (some .int), Cond.fieldLink RX5 32 "Approvalyard$Requests" "costs" "LApprovalyard$Row;", Cond.methodLink RX8 156 yX2_approvalsOf, Cond.instanceMethod yX2_approvalsOf, Cond.selects RX2 yX2_approvalsOf yX2_approvalsOf, Cond.initialized RX2, Cond.code yX2_approvalsOf cX2_approvalsOf 2 (some .int), Cond.fieldLink RX2 28 "Approvalyard$Desk" "requests" "LApprovalyard$Requests;", Cond.fieldLink RX2 21 "Approvalyard$Desk" "people" "LApprovalyard$People;", Cond.methodLink RX2 55 yX4_today, Cond.instanceMethod yX4_today]
def wsL_ofRequest_r3 : List Cond := [Cond.selects RX4 yX4_today yX4_today, Cond.initialized RX4, Cond.code yX4_today cX4_today 1 (some .int), Cond.fieldLink RX4 29 "Approvalyard$People" "day" "I", Cond.methodLink RX2 102 yX5_approvalsOf, Cond.instanceMethod yX5_approvalsOf, Cond.selects RX5 yX5_approvalsOf yX5_approvalsOf, Cond.code yX5_approvalsOf cX5_approvalsOf 5 (some .int), Cond.methodLink RX5 56 yX5_hasApproval, Cond.instanceMethod yX5_hasApproval, Cond.selects RX5 yX5_hasApproval yX5_hasApproval, Cond.code yX5_hasApproval cX5_hasApproval 4 (some .boolean), Cond.fieldLink RX5 35 "Approvalyard$Requests" "ends" "LApprovalyard$Row;", Cond.methodLink RX8 147 yX2_isCovered, Cond.instanceMethod yX2_isCovered, Cond.selects RX2 yX2_isCovered yX2_isCovered, Cond.code yX2_isCovered cX2_isCovered 3 (some .boolean), Cond.methodLink RX2 98 yX5_costOf, Cond.methodLink RX2 105 yX2_approvalsOf]
def wsL_ofRequest : List Cond := .codeWith yL_ofRequest cL_ofRequest 5 (some .int) [(0, 10, 13, 13), (0, 10, 17, 15)] :: ((wsL_ofRequest_r1 ++ (wsL_ofRequest_r2 ++ wsL_ofRequest_r3)) ++ wsX80 ++ wsX20 ++ wsX50 ++ wsX60 ++ wsX40 ++ (vx_atS RX8 41 "java/lang/IllegalArgumentException" ["java/lang/RuntimeException", "java/lang/Exception"]).filter goodWord ++ (vx_atS RX8 182 "java/lang/IndexOutOfBoundsException" ["java/lang/RuntimeException", "java/lang/Exception"]).filter goodWord)
def wsL_isCoveredAnew_r1 : List Cond := [Cond.classLink RL 13 "java/lang/IndexOutOfBoundsException", Cond.methodLink RL 56 yX8_isCoveredAnew, Cond.instanceMethod yX8_isCoveredAnew, Cond.selects RX8 yX8_isCoveredAnew yX8_isCoveredAnew, Cond.initialized RX8, Cond.code yX8_isCoveredAnew cX8_isCoveredAnew 4 (some .boolean), Cond.fieldLink RX8 10 "Approvalyard" "book" "LApprovalyard$Book;", Cond.fieldLink RX8 23 "Approvalyard" "deskAnew" "LApprovalyard$Desk;", Cond.methodLink RX8 109 yX8_checkRequest, Cond.instanceMethod yX8_checkRequest, Cond.selects RX8 yX8_checkRequest yX8_checkRequest, Cond.code yX8_checkRequest cX8_checkRequest 2 none, Cond.classLink RX8 178 "java/lang/IndexOutOfBoundsException", Cond.initialized "java/lang/IndexOutOfBoundsException", Cond.fieldLink RX8 19 "Approvalyard" "desk" "LApprovalyard$Desk;", Cond.fieldLink RX8 97 "Approvalyard$Desk" "requests" "LApprovalyard$Requests;", Cond.methodLink RX8 101 yX5_count, Cond.instanceMethod yX5_count, Cond.selects RX5 yX5_count yX5_count, Cond.initialized RX5, Cond.code yX5_count cX5_count 1 (some .int), Cond.fieldLink RX5 38 "Approvalyard$Requests" "number" "I", Cond.methodLink RX8 161 yX0_count, Cond.instanceMethod yX0_count]
def wsL_isCoveredAnew_r2 : List Cond := [Cond.selects RX0 yX0_count yX0_count, Cond.initialized RX0, Cond.code yX0_count cX0_count 1 (some .int), Cond.fieldLink RX0 20 "Approvalyard$Book" "number" "I", Cond.methodLink RX8 162 yX2_clear, Cond.instanceMethod yX2_clear, Cond.selects RX2 yX2_clear yX2_clear, Cond.initialized RX2, Cond.code yX2_clear cX2_clear 1 none, Cond.fieldLink RX2 12 "Approvalyard$Desk" "parts" "LApprovalyard$Parts;", Cond.fieldLink RX2 21 "Approvalyard$Desk" "people" "LApprovalyard$People;", Cond.fieldLink RX2 28 "Approvalyard$Desk" "requests" "LApprovalyard$Requests;", Cond.methodLink RX2 35 yX3_clear, Cond.instanceMethod yX3_clear, Cond.selects RX3 yX3_clear yX3_clear, Cond.initialized RX3, Cond.code yX3_clear cX3_clear 1 none, Cond.fieldLink RX3 14 "Approvalyard$Parts" "counts" "LApprovalyard$Row;", Cond.methodLink RX3 35 yX6_fill, Cond.instanceMethod yX6_fill, Cond.selects RX6 yX6_fill yX6_fill, Cond.initialized RX6, Cond.code yX6_fill cX6_fill 3 none, Cond.fieldLink RX6 7 "Approvalyard$Row" "cells" "[I"]
def wsL_isCoveredAnew_r3 : List Cond := [Cond.methodLink RX2 36 yX4_clear, Cond.instanceMethod yX4_clear, Cond.selects RX4 yX4_clear yX4_clear, Cond.initialized RX4, Cond.code yX4_clear cX4_clear 1 none, Cond.fieldLink RX4 14 "Approvalyard$People" "limits" "LApprovalyard$Row;", Cond.fieldLink RX4 23 "Approvalyard$People" "backs" "LApprovalyard$Row;", Cond.fieldLink RX4 29 "Approvalyard$People" "day" "I", Cond.methodLink RX4 26 yX6_fill, Cond.methodLink RX2 37 yX5_clear, Cond.instanceMethod yX5_clear, Cond.selects RX5 yX5_clear yX5_clear, Cond.code yX5_clear cX5_clear 1 none, Cond.methodLink RX8 84 yX2_apply, Cond.instanceMethod yX2_apply, Cond.selects RX2 yX2_apply yX2_apply, Cond.code yX2_apply cX2_apply 6 (some .int), Cond.methodLink RX2 38 yX0_wordOf, Cond.instanceMethod yX0_wordOf, Cond.selects RX0 yX0_wordOf yX0_wordOf, Cond.code yX0_wordOf cX0_wordOf 3 (some .int), Cond.fieldLink RX0 16 "Approvalyard$Book" "words" "LApprovalyard$Row;", Cond.methodLink RX0 28 yX6_at, Cond.instanceMethod yX6_at]
def wsL_isCoveredAnew_r4 : List Cond := [Cond.selects RX6 yX6_at yX6_at, Cond.code yX6_at cX6_at 2 (some .int), Cond.methodLink RX2 44 yX3_addVersion, Cond.instanceMethod yX3_addVersion, Cond.selects RX3 yX3_addVersion yX3_addVersion, Cond.code yX3_addVersion cX3_addVersion 5 (some .int), Cond.fieldLink RX3 20 "Approvalyard$Parts" "costs" "LApprovalyard$Row;", Cond.fieldLink RX3 23 "Approvalyard$Parts" "replaced" "LApprovalyard$Row;", Cond.fieldLink RX3 26 "Approvalyard$Parts" "needCounts" "LApprovalyard$Row;", Cond.methodLink RX3 38 yX6_at, Cond.methodLink RX3 42 yX3_placeOf, Cond.static yX3_placeOf, Cond.code yX3_placeOf cX3_placeOf 2 (some .int), Cond.methodLink RX3 46 yX6_put, Cond.instanceMethod yX6_put, Cond.selects RX6 yX6_put yX6_put, Cond.code yX6_put cX6_put 3 none, Cond.methodLink RX2 47 yX3_addNeed, Cond.instanceMethod yX3_addNeed, Cond.selects RX3 yX3_addNeed yX3_addNeed, Cond.code yX3_addNeed cX3_addNeed 8 (some .int), Cond.fieldLink RX3 29 "Approvalyard$Parts" "needParts" "LApprovalyard$Row;", Cond.fieldLink RX3 32 "Approvalyard$Parts" "needVersions" "LApprovalyard$Row;", Cond.methodLink RX3 50 yX3_versionSet]
def wsL_isCoveredAnew_r5 : List Cond := [Cond.static yX3_versionSet, Cond.code yX3_versionSet cX3_versionSet 2 (some .int), Cond.methodLink RX2 51 yX3_markReplaced, Cond.instanceMethod yX3_markReplaced, Cond.selects RX3 yX3_markReplaced yX3_markReplaced, Cond.code yX3_markReplaced cX3_markReplaced 3 none, Cond.methodLink RX2 55 yX4_today, Cond.instanceMethod yX4_today, Cond.selects RX4 yX4_today yX4_today, Cond.code yX4_today cX4_today 1 (some .int), Cond.methodLink RX2 59 yX5_loseVersion, Cond.instanceMethod yX5_loseVersion, Cond.selects RX5 yX5_loseVersion yX5_loseVersion, Cond.code yX5_loseVersion cX5_loseVersion 6 (some .int), Cond.fieldLink RX5 29 "Approvalyard$Requests" "choices" "LApprovalyard$Row;", Cond.fieldLink RX5 26 "Approvalyard$Requests" "states" "LApprovalyard$Row;", Cond.methodLink RX5 52 yX6_at, Cond.methodLink RX5 60 yX1_versionOf, Cond.static yX1_versionOf, Cond.initialized RX1, Cond.code yX1_versionOf cX1_versionOf 2 (some .int), Cond.methodLink RX5 66 yX5_approvalsOf, Cond.instanceMethod yX5_approvalsOf, Cond.selects RX5 yX5_approvalsOf yX5_approvalsOf]
def wsL_isCoveredAnew_r6 : List Cond := [Cond.code yX5_approvalsOf cX5_approvalsOf 5 (some .int), Cond.methodLink RX5 56 yX5_hasApproval, Cond.instanceMethod yX5_hasApproval, Cond.selects RX5 yX5_hasApproval yX5_hasApproval, Cond.code yX5_hasApproval cX5_hasApproval 4 (some .boolean), Cond.fieldLink RX5 35 "Approvalyard$Requests" "ends" "LApprovalyard$Row;", Cond.methodLink RX5 49 yX5_endApprovals, Cond.instanceMethod yX5_endApprovals, Cond.selects RX5 yX5_endApprovals yX5_endApprovals, Cond.code yX5_endApprovals cX5_endApprovals 3 none, Cond.methodLink RX5 42 yX6_put, Cond.methodLink RX5 46 yX5_reopen, Cond.instanceMethod yX5_reopen, Cond.selects RX5 yX5_reopen yX5_reopen, Cond.code yX5_reopen cX5_reopen 2 none, Cond.fieldLink RX5 32 "Approvalyard$Requests" "costs" "LApprovalyard$Row;", Cond.methodLink RX2 63 yX5_add, Cond.instanceMethod yX5_add, Cond.selects RX5 yX5_add yX5_add, Cond.code yX5_add cX5_add 5 (some .int), Cond.fieldLink RX5 14 "Approvalyard$Requests" "people" "LApprovalyard$Row;", Cond.fieldLink RX5 20 "Approvalyard$Requests" "parts" "LApprovalyard$Row;", Cond.fieldLink RX5 23 "Approvalyard$Requests" "leasts" "LApprovalyard$Row;", Cond.methodLink RX2 66 yX3_costOf]
def wsL_isCoveredAnew_r7 : List Cond := [Cond.instanceMethod yX3_costOf, Cond.selects RX3 yX3_costOf yX3_costOf, Cond.code yX3_costOf cX3_costOf 5 (some .int), Cond.methodLink RX3 57 yX1_versionOf, Cond.methodLink RX2 70 yX5_settle, Cond.instanceMethod yX5_settle, Cond.selects RX5 yX5_settle yX5_settle, Cond.code yX5_settle cX5_settle 4 (some .int), Cond.methodLink RX2 73 yX4_changeLimit, Cond.instanceMethod yX4_changeLimit, Cond.selects RX4 yX4_changeLimit yX4_changeLimit, Cond.code yX4_changeLimit cX4_changeLimit 4 (some .int), Cond.methodLink RX4 33 yX6_at, Cond.methodLink RX4 37 yX6_put, Cond.methodLink RX2 76 yX4_sendOnLeave, Cond.instanceMethod yX4_sendOnLeave, Cond.selects RX4 yX4_sendOnLeave yX4_sendOnLeave, Cond.code yX4_sendOnLeave cX4_sendOnLeave 4 (some .int), Cond.fieldLink RX4 20 "Approvalyard$People" "delegates" "LApprovalyard$Row;", Cond.methodLink RX2 79 yX2_takeApproval, Cond.instanceMethod yX2_takeApproval, Cond.selects RX2 yX2_takeApproval yX2_takeApproval, Cond.code yX2_takeApproval cX2_takeApproval 5 (some .int), Cond.constant RX2 107 (2147483647)]
def wsL_isCoveredAnew_r8 : List Cond := [Cond.methodLink RX2 98 yX5_costOf, Cond.instanceMethod yX5_costOf, Cond.selects RX5 yX5_costOf yX5_costOf, Cond.code yX5_costOf cX5_costOf 2 (some .int), Cond.methodLink RX2 99 yX4_principalOf, Cond.instanceMethod yX4_principalOf, Cond.selects RX4 yX4_principalOf yX4_principalOf, Cond.code yX4_principalOf cX4_principalOf 4 (some .int), Cond.methodLink RX4 41 yX4_isAway, Cond.instanceMethod yX4_isAway, Cond.selects RX4 yX4_isAway yX4_isAway, Cond.code yX4_isAway cX4_isAway 2 (some .boolean), Cond.methodLink RX2 108 yX4_backOf, Cond.instanceMethod yX4_backOf, Cond.selects RX4 yX4_backOf yX4_backOf, Cond.code yX4_backOf cX4_backOf 2 (some .int), Cond.methodLink RX2 111 yX5_addApproval, Cond.instanceMethod yX5_addApproval, Cond.selects RX5 yX5_addApproval yX5_addApproval, Cond.code yX5_addApproval cX5_addApproval 4 none, Cond.methodLink RX2 82 yX5_markReleased, Cond.instanceMethod yX5_markReleased, Cond.selects RX5 yX5_markReleased yX5_markReleased, Cond.code yX5_markReleased cX5_markReleased 2 (some .int)]
def wsL_isCoveredAnew_r9 : List Cond := [Cond.methodLink RX2 85 yX4_addDays, Cond.instanceMethod yX4_addDays, Cond.selects RX4 yX4_addDays yX4_addDays, Cond.code yX4_addDays cX4_addDays 2 (some .int), Cond.methodLink RX8 147 yX2_isCovered, Cond.instanceMethod yX2_isCovered, Cond.selects RX2 yX2_isCovered yX2_isCovered, Cond.code yX2_isCovered cX2_isCovered 3 (some .boolean), Cond.methodLink RX2 105 yX2_approvalsOf, Cond.instanceMethod yX2_approvalsOf, Cond.selects RX2 yX2_approvalsOf yX2_approvalsOf, Cond.code yX2_approvalsOf cX2_approvalsOf 2 (some .int), Cond.methodLink RX2 102 yX5_approvalsOf]
def wsL_isCoveredAnew : List Cond := .codeWith yL_isCoveredAnew cL_isCoveredAnew 4 (some .int) [(0, 16, 19, 13)] :: ((wsL_isCoveredAnew_r1 ++ (wsL_isCoveredAnew_r2 ++ (wsL_isCoveredAnew_r3 ++ (wsL_isCoveredAnew_r4 ++ (wsL_isCoveredAnew_r5 ++ (wsL_isCoveredAnew_r6 ++ (wsL_isCoveredAnew_r7 ++ (wsL_isCoveredAnew_r8 ++ wsL_isCoveredAnew_r9)))))))) ++ wsX80 ++ wsX20 ++ wsX50 ++ wsX00 ++ wsX30 ++ wsX60 ++ wsX40 ++ (vx_atS RX8 182 "java/lang/IndexOutOfBoundsException" ["java/lang/RuntimeException", "java/lang/Exception"]).filter goodWord)
def wsL_strain_r1 : List Cond := [Cond.classLink RL 13 "java/lang/IndexOutOfBoundsException", Cond.methodLink RL 60 yX8_strain, Cond.instanceMethod yX8_strain, Cond.selects RX8 yX8_strain yX8_strain, Cond.initialized RX8, Cond.code yX8_strain cX8_strain 4 (some .float), Cond.fieldLink RX8 19 "Approvalyard" "desk" "LApprovalyard$Desk;", Cond.fieldLink RX8 97 "Approvalyard$Desk" "requests" "LApprovalyard$Requests;", Cond.constantFloat RX8 165 (3212836864), Cond.fieldLink RX8 166 "Approvalyard$Desk" "people" "LApprovalyard$People;", Cond.methodLink RX8 109 yX8_checkRequest, Cond.instanceMethod yX8_checkRequest, Cond.selects RX8 yX8_checkRequest yX8_checkRequest, Cond.code yX8_checkRequest cX8_checkRequest 2 none, Cond.classLink RX8 178 "java/lang/IndexOutOfBoundsException", Cond.initialized "java/lang/IndexOutOfBoundsException", Cond.methodLink RX8 101 yX5_count, Cond.instanceMethod yX5_count, Cond.selects RX5 yX5_count yX5_count, Cond.initialized RX5, Cond.code yX5_count cX5_count 1 (some .int), Cond.fieldLink RX5 38 "Approvalyard$Requests" "number" "I", Cond.methodLink RX8 112 yX5_stateOf, Cond.instanceMethod yX5_stateOf]
def wsL_strain_r2 : List Cond := [Cond.selects RX5 yX5_stateOf yX5_stateOf, Cond.code yX5_stateOf cX5_stateOf 2 (some .int), Cond.fieldLink RX5 26 "Approvalyard$Requests" "states" "LApprovalyard$Row;", Cond.methodLink RX5 52 yX6_at, Cond.instanceMethod yX6_at, Cond.selects RX6 yX6_at yX6_at, Cond.initialized RX6, Cond.code yX6_at cX6_at 2 (some .int), Cond.fieldLink RX6 7 "Approvalyard$Row" "cells" "[I", Cond.methodLink RX8 153 yX5_costOf, Cond.instanceMethod yX5_costOf, Cond.selects RX5 yX5_costOf yX5_costOf, Cond.code yX5_costOf cX5_costOf 2 (some .int), Cond.fieldLink RX5 32 "Approvalyard$Requests" "costs" "LApprovalyard$Row;", Cond.methodLink RX8 170 yX5_personOf, Cond.instanceMethod yX5_personOf, Cond.selects RX5 yX5_personOf yX5_personOf, Cond.code yX5_personOf cX5_personOf 2 (some .int), Cond.fieldLink RX5 14 "Approvalyard$Requests" "people" "LApprovalyard$Row;", Cond.methodLink RX8 173 yX4_greatestLimit, Cond.instanceMethod yX4_greatestLimit, Cond.selects RX4 yX4_greatestLimit yX4_greatestLimit, Cond.initialized RX4, Cond.code yX4_greatestLimit cX4_greatestLimit 6 (some .int)]
def wsL_strain_r3 : List Cond := [Cond.fieldLink RX4 14 "Approvalyard$People" "limits" "LApprovalyard$Row;", Cond.methodLink RX4 33 yX6_at, Cond.methodLink RX4 41 yX4_isAway, Cond.instanceMethod yX4_isAway, Cond.selects RX4 yX4_isAway yX4_isAway, Cond.code yX4_isAway cX4_isAway 2 (some .boolean), Cond.fieldLink RX4 29 "Approvalyard$People" "day" "I", Cond.fieldLink RX4 23 "Approvalyard$People" "backs" "LApprovalyard$Row;"]
def wsL_strain : List Cond := .codeWith yL_strain cL_strain 4 (some .int) [(0, 9, 12, 13)] :: ((wsL_strain_r1 ++ (wsL_strain_r2 ++ wsL_strain_r3)) ++ wsX80 ++ wsX20 ++ wsX50 ++ wsX60 ++ wsX40 ++ (vx_atS RX8 182 "java/lang/IndexOutOfBoundsException" ["java/lang/RuntimeException", "java/lang/Exception"]).filter goodWord)
def wsL_law0_r1 : List Cond := [Cond.classLink RL 8 RX8, Cond.instantiable RX8 4, Cond.initialized RX8, Cond.classLink RL 65 RX9, Cond.instantiable RX9 24, Cond.initialized RX9, Cond.arrayClass .long, Cond.arrayClass .double, Cond.methodLink RL 64 yX8_init, Cond.instanceMethod yX8_init, Cond.code yX8_init cX8_init 1 none, Cond.methodLink RX8 1 objectInit, Cond.instanceMethod objectInit, Cond.code objectInit ⟨#[0xb1]⟩ 1 none, Cond.classLink RX8 7 RX0, Cond.instantiable RX0 2, Cond.initialized RX0, Cond.fieldLink RX8 10 "Approvalyard" "book" "LApprovalyard$Book;", Cond.classLink RX8 16 RX2, Cond.instantiable RX2 3, Cond.initialized RX2, Cond.fieldLink RX8 19 "Approvalyard" "desk" "LApprovalyard$Desk;", Cond.fieldLink RX8 23 "Approvalyard" "deskAnew" "LApprovalyard$Desk;", Cond.classLink RX8 26 RX7]
def wsL_law0_r2 : List Cond := [Cond.instantiable RX7 4, Cond.initialized RX7, Cond.fieldLink RX8 29 "Approvalyard" "search" "LApprovalyard$Search;", Cond.instanceMethod yX0_init, Cond.code yX0_init cX0_init 1 none, Cond.methodLink RX0 3 objectInit, Cond.classLink RX0 9 RX6, Cond.instantiable RX6 1, Cond.initialized RX6, Cond.fieldLink RX0 16 "Approvalyard$Book" "words" "LApprovalyard$Row;", Cond.methodLink RX0 13 yX6_init, Cond.instanceMethod yX6_init, Cond.code yX6_init cX6_init 2 none, Cond.methodLink RX6 1 objectInit, Cond.arrayClass .int, Cond.fieldLink RX6 7 "Approvalyard$Row" "cells" "[I", Cond.methodLink RX8 18 yX2_init, Cond.instanceMethod yX2_init, Cond.code yX2_init cX2_init 1 none, Cond.methodLink RX2 3 objectInit, Cond.classLink RX2 9 RX3, Cond.instantiable RX3 6, Cond.initialized RX3, Cond.fieldLink RX2 12 "Approvalyard$Desk" "parts" "LApprovalyard$Parts;"]
def wsL_law0_r3 : List Cond := [Cond.classLink RX2 18 RX4, Cond.instantiable RX4 4, Cond.initialized RX4, Cond.fieldLink RX2 21 "Approvalyard$Desk" "people" "LApprovalyard$People;", Cond.classLink RX2 25 RX5, Cond.instantiable RX5 8, Cond.initialized RX5, Cond.fieldLink RX2 28 "Approvalyard$Desk" "requests" "LApprovalyard$Requests;", Cond.instanceMethod yX3_init, Cond.code yX3_init cX3_init 1 none, Cond.methodLink RX3 3 objectInit, Cond.classLink RX3 9 RX6, Cond.fieldLink RX3 14 "Approvalyard$Parts" "counts" "LApprovalyard$Row;", Cond.fieldLink RX3 20 "Approvalyard$Parts" "costs" "LApprovalyard$Row;", Cond.fieldLink RX3 23 "Approvalyard$Parts" "replaced" "LApprovalyard$Row;", Cond.fieldLink RX3 26 "Approvalyard$Parts" "needCounts" "LApprovalyard$Row;", Cond.fieldLink RX3 29 "Approvalyard$Parts" "needParts" "LApprovalyard$Row;", Cond.fieldLink RX3 32 "Approvalyard$Parts" "needVersions" "LApprovalyard$Row;", Cond.methodLink RX3 11 yX6_init, Cond.instanceMethod yX4_init, Cond.code yX4_init cX4_init 1 none, Cond.methodLink RX4 3 objectInit, Cond.classLink RX4 9 RX6, Cond.fieldLink RX4 14 "Approvalyard$People" "limits" "LApprovalyard$Row;"]
def wsL_law0_r4 : List Cond := [Cond.fieldLink RX4 20 "Approvalyard$People" "delegates" "LApprovalyard$Row;", Cond.fieldLink RX4 23 "Approvalyard$People" "backs" "LApprovalyard$Row;", Cond.methodLink RX4 11 yX6_init, Cond.instanceMethod yX5_init, Cond.code yX5_init cX5_init 1 none, Cond.methodLink RX5 3 objectInit, Cond.classLink RX5 9 RX6, Cond.fieldLink RX5 14 "Approvalyard$Requests" "people" "LApprovalyard$Row;", Cond.fieldLink RX5 20 "Approvalyard$Requests" "parts" "LApprovalyard$Row;", Cond.fieldLink RX5 23 "Approvalyard$Requests" "leasts" "LApprovalyard$Row;", Cond.fieldLink RX5 26 "Approvalyard$Requests" "states" "LApprovalyard$Row;", Cond.fieldLink RX5 29 "Approvalyard$Requests" "choices" "LApprovalyard$Row;", Cond.fieldLink RX5 32 "Approvalyard$Requests" "costs" "LApprovalyard$Row;", Cond.fieldLink RX5 35 "Approvalyard$Requests" "ends" "LApprovalyard$Row;", Cond.methodLink RX5 11 yX6_init, Cond.methodLink RX2 32 yX2_clear, Cond.instanceMethod yX2_clear, Cond.selects RX2 yX2_clear yX2_clear, Cond.code yX2_clear cX2_clear 1 none, Cond.methodLink RX2 35 yX3_clear, Cond.instanceMethod yX3_clear, Cond.selects RX3 yX3_clear yX3_clear, Cond.code yX3_clear cX3_clear 1 none, Cond.methodLink RX3 35 yX6_fill]
def wsL_law0_r5 : List Cond := [Cond.instanceMethod yX6_fill, Cond.selects RX6 yX6_fill yX6_fill, Cond.code yX6_fill cX6_fill 3 none, Cond.methodLink RX2 36 yX4_clear, Cond.instanceMethod yX4_clear, Cond.selects RX4 yX4_clear yX4_clear, Cond.code yX4_clear cX4_clear 1 none, Cond.fieldLink RX4 29 "Approvalyard$People" "day" "I", Cond.methodLink RX4 26 yX6_fill, Cond.methodLink RX2 37 yX5_clear, Cond.instanceMethod yX5_clear, Cond.selects RX5 yX5_clear yX5_clear, Cond.code yX5_clear cX5_clear 1 none, Cond.fieldLink RX5 38 "Approvalyard$Requests" "number" "I", Cond.instanceMethod yX7_init, Cond.code yX7_init cX7_init 1 none, Cond.methodLink RX7 3 objectInit, Cond.classLink RX7 9 RX6, Cond.fieldLink RX7 14 "Approvalyard$Search" "order" "LApprovalyard$Row;", Cond.fieldLink RX7 20 "Approvalyard$Search" "wanted" "LApprovalyard$Row;", Cond.methodLink RX7 11 yX6_init, Cond.methodLink RL 67 yX9_init, Cond.instanceMethod yX9_init, Cond.code yX9_init cX9_init 2 none]
def wsL_law0_r6 : List Cond := [Cond.methodLink RX9 1 objectInit, Cond.fieldLink RX9 7 "ApprovalyardModel" "vc" "[I", Cond.fieldLink RX9 13 "ApprovalyardModel" "vr" "[I", Cond.fieldLink RX9 16 "ApprovalyardModel" "vn" "[I", Cond.fieldLink RX9 19 "ApprovalyardModel" "needs" "[I", Cond.fieldLink RX9 22 "ApprovalyardModel" "versions" "[I", Cond.fieldLink RX9 25 "ApprovalyardModel" "lim" "[I", Cond.fieldLink RX9 28 "ApprovalyardModel" "back" "[I", Cond.fieldLink RX9 31 "ApprovalyardModel" "deputy" "[I", Cond.fieldLink RX9 34 "ApprovalyardModel" "qp" "[I", Cond.fieldLink RX9 37 "ApprovalyardModel" "qt" "[I", Cond.fieldLink RX9 40 "ApprovalyardModel" "ql" "[I", Cond.fieldLink RX9 43 "ApprovalyardModel" "qs" "[I", Cond.fieldLink RX9 46 "ApprovalyardModel" "qc" "[I", Cond.fieldLink RX9 49 "ApprovalyardModel" "chosen" "[I", Cond.fieldLink RX9 52 "ApprovalyardModel" "by" "[I", Cond.fieldLink RX9 55 "ApprovalyardModel" "until" "[I", Cond.fieldLink RX9 58 "ApprovalyardModel" "row" "[I", Cond.fieldLink RX9 61 "ApprovalyardModel" "pick" "[I", Cond.fieldLink RX9 64 "ApprovalyardModel" "size" "[I", Cond.fieldLink RX9 67 "ApprovalyardModel" "place" "[I", Cond.methodLink RL 68 yL_version, Cond.static yL_version, Cond.initialized RL]
def wsL_law0_r7 : List Cond := [Cond.codeWith yL_version cL_version 5 (some .int) [(0, 10, 13, 13), (0, 10, 17, 15), (0, 10, 21, 17)], Cond.classLink RL 13 "java/lang/IndexOutOfBoundsException", Cond.classLink RL 15 "java/lang/IllegalArgumentException", Cond.classLink RL 17 "java/lang/IllegalStateException", Cond.methodLink RL 7 yX8_version, Cond.instanceMethod yX8_version, Cond.selects RX8 yX8_version yX8_version, Cond.code yX8_version cX8_version 3 (some .int), Cond.classLink RX8 37 "java/lang/IllegalArgumentException", Cond.initialized "java/lang/IllegalArgumentException", Cond.classLink RX8 54 "java/lang/IllegalStateException", Cond.initialized "java/lang/IllegalStateException", Cond.fieldLink RX8 44 "Approvalyard$Desk" "parts" "LApprovalyard$Parts;", Cond.methodLink RX8 33 yX8_checkPart, Cond.static yX8_checkPart, Cond.code yX8_checkPart cX8_checkPart 1 none, Cond.classLink RX8 178 "java/lang/IndexOutOfBoundsException", Cond.initialized "java/lang/IndexOutOfBoundsException", Cond.methodLink RX8 48 yX3_countOf, Cond.instanceMethod yX3_countOf, Cond.selects RX3 yX3_countOf yX3_countOf, Cond.code yX3_countOf cX3_countOf 2 (some .int), Cond.methodLink RX3 38 yX6_at, Cond.instanceMethod yX6_at]
def wsL_law0_r8 : List Cond := [Cond.selects RX6 yX6_at yX6_at, Cond.code yX6_at cX6_at 2 (some .int), Cond.methodLink RX8 59 yX8_tell, Cond.instanceMethod yX8_tell, Cond.selects RX8 yX8_tell yX8_tell, Cond.code yX8_tell cX8_tell 5 (some .int), Cond.methodLink RX8 80 yX0_write, Cond.instanceMethod yX0_write, Cond.selects RX0 yX0_write yX0_write, Cond.code yX0_write cX0_write 8 (some .int), Cond.fieldLink RX0 20 "Approvalyard$Book" "number" "I", Cond.methodLink RX0 24 yX6_put, Cond.instanceMethod yX6_put, Cond.selects RX6 yX6_put yX6_put, Cond.code yX6_put cX6_put 3 none, Cond.methodLink RX8 84 yX2_apply, Cond.instanceMethod yX2_apply, Cond.selects RX2 yX2_apply yX2_apply, Cond.code yX2_apply cX2_apply 6 (some .int), Cond.methodLink RX2 38 yX0_wordOf, Cond.instanceMethod yX0_wordOf, Cond.selects RX0 yX0_wordOf yX0_wordOf, Cond.code yX0_wordOf cX0_wordOf 3 (some .int), Cond.methodLink RX0 28 yX6_at]
def wsL_law0_r9 : List Cond := [Cond.methodLink RX2 44 yX3_addVersion, Cond.instanceMethod yX3_addVersion, Cond.selects RX3 yX3_addVersion yX3_addVersion, Cond.code yX3_addVersion cX3_addVersion 5 (some .int), Cond.methodLink RX3 42 yX3_placeOf, Cond.static yX3_placeOf, Cond.code yX3_placeOf cX3_placeOf 2 (some .int), Cond.methodLink RX3 46 yX6_put, Cond.methodLink RX2 47 yX3_addNeed, Cond.instanceMethod yX3_addNeed, Cond.selects RX3 yX3_addNeed yX3_addNeed, Cond.code yX3_addNeed cX3_addNeed 8 (some .int), Cond.methodLink RX3 50 yX3_versionSet, Cond.static yX3_versionSet, Cond.code yX3_versionSet cX3_versionSet 2 (some .int), Cond.methodLink RX2 51 yX3_markReplaced, Cond.instanceMethod yX3_markReplaced, Cond.selects RX3 yX3_markReplaced yX3_markReplaced, Cond.code yX3_markReplaced cX3_markReplaced 3 none, Cond.methodLink RX2 55 yX4_today, Cond.instanceMethod yX4_today, Cond.selects RX4 yX4_today yX4_today, Cond.code yX4_today cX4_today 1 (some .int), Cond.methodLink RX2 59 yX5_loseVersion]
def wsL_law0_r10 : List Cond := [Cond.instanceMethod yX5_loseVersion, Cond.selects RX5 yX5_loseVersion yX5_loseVersion, Cond.code yX5_loseVersion cX5_loseVersion 6 (some .int), Cond.methodLink RX5 52 yX6_at, Cond.methodLink RX5 60 yX1_versionOf, Cond.static yX1_versionOf, Cond.initialized RX1, Cond.code yX1_versionOf cX1_versionOf 2 (some .int), Cond.methodLink RX5 66 yX5_approvalsOf, Cond.instanceMethod yX5_approvalsOf, Cond.selects RX5 yX5_approvalsOf yX5_approvalsOf, Cond.code yX5_approvalsOf cX5_approvalsOf 5 (some .int), Cond.methodLink RX5 56 yX5_hasApproval, Cond.instanceMethod yX5_hasApproval, Cond.selects RX5 yX5_hasApproval yX5_hasApproval, Cond.code yX5_hasApproval cX5_hasApproval 4 (some .boolean), Cond.methodLink RX5 49 yX5_endApprovals, Cond.instanceMethod yX5_endApprovals, Cond.selects RX5 yX5_endApprovals yX5_endApprovals, Cond.code yX5_endApprovals cX5_endApprovals 3 none, Cond.methodLink RX5 42 yX6_put, Cond.methodLink RX5 46 yX5_reopen, Cond.instanceMethod yX5_reopen, Cond.selects RX5 yX5_reopen yX5_reopen]
def wsL_law0_r11 : List Cond := [Cond.code yX5_reopen cX5_reopen 2 none, Cond.methodLink RX2 63 yX5_add, Cond.instanceMethod yX5_add, Cond.selects RX5 yX5_add yX5_add, Cond.code yX5_add cX5_add 5 (some .int), Cond.methodLink RX2 66 yX3_costOf, Cond.instanceMethod yX3_costOf, Cond.selects RX3 yX3_costOf yX3_costOf, Cond.code yX3_costOf cX3_costOf 5 (some .int), Cond.methodLink RX3 57 yX1_versionOf, Cond.methodLink RX2 70 yX5_settle, Cond.instanceMethod yX5_settle, Cond.selects RX5 yX5_settle yX5_settle, Cond.code yX5_settle cX5_settle 4 (some .int), Cond.methodLink RX2 73 yX4_changeLimit, Cond.instanceMethod yX4_changeLimit, Cond.selects RX4 yX4_changeLimit yX4_changeLimit, Cond.code yX4_changeLimit cX4_changeLimit 4 (some .int), Cond.methodLink RX4 33 yX6_at, Cond.methodLink RX4 37 yX6_put, Cond.methodLink RX2 76 yX4_sendOnLeave, Cond.instanceMethod yX4_sendOnLeave, Cond.selects RX4 yX4_sendOnLeave yX4_sendOnLeave, Cond.code yX4_sendOnLeave cX4_sendOnLeave 4 (some .int)]
def wsL_law0_r12 : List Cond := [Cond.methodLink RX2 79 yX2_takeApproval, Cond.instanceMethod yX2_takeApproval, Cond.selects RX2 yX2_takeApproval yX2_takeApproval, Cond.code yX2_takeApproval cX2_takeApproval 5 (some .int), Cond.constant RX2 107 (2147483647), Cond.methodLink RX2 98 yX5_costOf, Cond.instanceMethod yX5_costOf, Cond.selects RX5 yX5_costOf yX5_costOf, Cond.code yX5_costOf cX5_costOf 2 (some .int), Cond.methodLink RX2 99 yX4_principalOf, Cond.instanceMethod yX4_principalOf, Cond.selects RX4 yX4_principalOf yX4_principalOf, Cond.code yX4_principalOf cX4_principalOf 4 (some .int), Cond.methodLink RX4 41 yX4_isAway, Cond.instanceMethod yX4_isAway, Cond.selects RX4 yX4_isAway yX4_isAway, Cond.code yX4_isAway cX4_isAway 2 (some .boolean), Cond.methodLink RX2 108 yX4_backOf, Cond.instanceMethod yX4_backOf, Cond.selects RX4 yX4_backOf yX4_backOf, Cond.code yX4_backOf cX4_backOf 2 (some .int), Cond.methodLink RX2 111 yX5_addApproval, Cond.instanceMethod yX5_addApproval, Cond.selects RX5 yX5_addApproval yX5_addApproval]
def wsL_law0_r13 : List Cond := [Cond.code yX5_addApproval cX5_addApproval 4 none, Cond.methodLink RX2 82 yX5_markReleased, Cond.instanceMethod yX5_markReleased, Cond.selects RX5 yX5_markReleased yX5_markReleased, Cond.code yX5_markReleased cX5_markReleased 2 (some .int), Cond.methodLink RX2 85 yX4_addDays, Cond.instanceMethod yX4_addDays, Cond.selects RX4 yX4_addDays yX4_addDays, Cond.code yX4_addDays cX4_addDays 2 (some .int), Cond.methodLink RL 73 yX9_version, Cond.instanceMethod yX9_version, Cond.selects RX9 yX9_version yX9_version, Cond.code yX9_version cX9_version 3 (some .int), Cond.fieldLink RX9 88 "ApprovalyardModel" "entries" "I", Cond.methodLink RX9 78 yX9_isEight, Cond.instanceMethod yX9_isEight, Cond.selects RX9 yX9_isEight yX9_isEight, Cond.code yX9_isEight cX9_isEight 2 (some .boolean), Cond.methodLink RX9 74 yX9_in, Cond.instanceMethod yX9_in, Cond.selects RX9 yX9_in yX9_in, Cond.code yX9_in cX9_in 4 (some .boolean), Cond.methodLink RX9 85 yX9_holds, Cond.instanceMethod yX9_holds]
def wsL_law0_r14 : List Cond := [Cond.selects RX9 yX9_holds yX9_holds, Cond.code yX9_holds cX9_holds 2 (some .boolean), Cond.fieldLink RX9 70 "ApprovalyardModel" "thrown" "I", Cond.methodLink RL 74 yX9_thrown, Cond.instanceMethod yX9_thrown, Cond.selects RX9 yX9_thrown yX9_thrown, Cond.code yX9_thrown cX9_thrown 1 (some .int), Cond.methodLink RL 78 yL_need, Cond.static yL_need, Cond.codeWith yL_need cL_need 8 (some .int) [(0, 16, 19, 13), (0, 16, 23, 15), (0, 16, 27, 17)], Cond.methodLink RL 19 yX8_need, Cond.instanceMethod yX8_need, Cond.selects RX8 yX8_need yX8_need, Cond.code yX8_need cX8_need 6 (some .int), Cond.methodLink RX8 63 yX8_checkVersion, Cond.instanceMethod yX8_checkVersion, Cond.selects RX8 yX8_checkVersion yX8_checkVersion, Cond.code yX8_checkVersion cX8_checkVersion 3 none, Cond.methodLink RX8 69 yX8_checkLeast, Cond.static yX8_checkLeast, Cond.code yX8_checkLeast cX8_checkLeast 1 none, Cond.methodLink RX8 74 yX3_needsOf, Cond.instanceMethod yX3_needsOf, Cond.selects RX3 yX3_needsOf yX3_needsOf]
def wsL_law0_r15 : List Cond := [Cond.code yX3_needsOf cX3_needsOf 3 (some .int), Cond.methodLink RL 81 yX9_need, Cond.instanceMethod yX9_need, Cond.selects RX9 yX9_need yX9_need, Cond.code yX9_need cX9_need 10 (some .int), Cond.methodLink RX9 91 yX9_isVersion, Cond.instanceMethod yX9_isVersion, Cond.selects RX9 yX9_isVersion yX9_isVersion, Cond.code yX9_isVersion cX9_isVersion 3 (some .boolean), Cond.methodLink RL 82 yL_replace, Cond.static yL_replace, Cond.codeWith yL_replace cL_replace 5 (some .int) [(0, 10, 13, 13), (0, 10, 17, 17)], Cond.methodLink RL 23 yX8_replace, Cond.instanceMethod yX8_replace, Cond.selects RX8 yX8_replace yX8_replace, Cond.code yX8_replace cX8_replace 3 (some .int), Cond.methodLink RX8 88 yX3_isReplaced, Cond.instanceMethod yX3_isReplaced, Cond.selects RX3 yX3_isReplaced yX3_isReplaced, Cond.code yX3_isReplaced cX3_isReplaced 3 (some .boolean), Cond.methodLink RL 84 yX9_replace, Cond.instanceMethod yX9_replace, Cond.selects RX9 yX9_replace yX9_replace, Cond.code yX9_replace cX9_replace 6 (some .int)]
def wsL_law0_r16 : List Cond := [Cond.fieldLink RX9 82 "ApprovalyardModel" "requests" "I", Cond.methodLink RX9 95 yX9_ends, Cond.instanceMethod yX9_ends, Cond.selects RX9 yX9_ends yX9_ends, Cond.code yX9_ends cX9_ends 4 (some .int), Cond.methodLink RX9 99 yX9_empty, Cond.instanceMethod yX9_empty, Cond.selects RX9 yX9_empty yX9_empty, Cond.code yX9_empty cX9_empty 3 none, Cond.methodLink RL 85 yL_request, Cond.static yL_request, Cond.codeWith yL_request cL_request 6 (some .int) [(0, 12, 15, 13), (0, 12, 19, 15), (0, 12, 23, 17)], Cond.methodLink RL 26 yX8_request, Cond.instanceMethod yX8_request, Cond.selects RX8 yX8_request yX8_request, Cond.code yX8_request cX8_request 4 (some .int), Cond.fieldLink RX8 97 "Approvalyard$Desk" "requests" "LApprovalyard$Requests;", Cond.methodLink RX8 94 yX8_checkPerson, Cond.static yX8_checkPerson, Cond.code yX8_checkPerson cX8_checkPerson 1 none, Cond.methodLink RX8 101 yX5_count, Cond.instanceMethod yX5_count, Cond.selects RX5 yX5_count yX5_count, Cond.code yX5_count cX5_count 1 (some .int)]
def wsL_law0_r17 : List Cond := [Cond.methodLink RL 88 yX9_request, Cond.instanceMethod yX9_request, Cond.selects RX9 yX9_request yX9_request, Cond.code yX9_request cX9_request 4 (some .int), Cond.methodLink RL 89 yL_resolve, Cond.static yL_resolve, Cond.codeWith yL_resolve cL_resolve 4 (some .int) [(0, 9, 12, 13), (0, 9, 15, 17)], Cond.methodLink RL 30 yX8_resolve, Cond.instanceMethod yX8_resolve, Cond.selects RX8 yX8_resolve yX8_resolve, Cond.code yX8_resolve cX8_resolve 3 (some .int), Cond.methodLink RX8 109 yX8_checkRequest, Cond.instanceMethod yX8_checkRequest, Cond.selects RX8 yX8_checkRequest yX8_checkRequest, Cond.code yX8_checkRequest cX8_checkRequest 2 none, Cond.methodLink RX8 112 yX5_stateOf, Cond.instanceMethod yX5_stateOf, Cond.selects RX5 yX5_stateOf yX5_stateOf, Cond.code yX5_stateOf cX5_stateOf 2 (some .int), Cond.methodLink RX8 117 yX5_partOf, Cond.instanceMethod yX5_partOf, Cond.selects RX5 yX5_partOf yX5_partOf, Cond.code yX5_partOf cX5_partOf 2 (some .int), Cond.methodLink RX8 120 yX5_leastOf]
def wsL_law0_r18 : List Cond := [Cond.instanceMethod yX5_leastOf, Cond.selects RX5 yX5_leastOf yX5_leastOf, Cond.code yX5_leastOf cX5_leastOf 2 (some .int), Cond.methodLink RX8 123 yX7_find, Cond.instanceMethod yX7_find, Cond.selects RX7 yX7_find yX7_find, Cond.code yX7_find cX7_find 5 (some .int), Cond.fieldLink RX7 40 "Approvalyard$Search" "number" "I", Cond.fieldLink RX7 46 "Approvalyard$Search" "choice" "I", Cond.methodLink RX7 23 yX3_current, Cond.instanceMethod yX3_current, Cond.selects RX3 yX3_current yX3_current, Cond.code yX3_current cX3_current 4 (some .int), Cond.methodLink RX3 53 yX3_isReplaced, Cond.methodLink RX7 29 yX6_put, Cond.methodLink RX7 33 yX6_at, Cond.methodLink RX7 36 yX3_versionSet, Cond.methodLink RX7 49 yX7_fill, Cond.instanceMethod yX7_fill, Cond.selects RX7 yX7_fill yX7_fill, Cond.code yX7_fill cX7_fill 8 (some .boolean), Cond.methodLink RX7 53 yX7_take, Cond.instanceMethod yX7_take, Cond.selects RX7 yX7_take yX7_take]
def wsL_law0_r19 : List Cond := [Cond.code yX7_take cX7_take 10 (some .boolean), Cond.methodLink RX7 61 yX3_needsOf, Cond.methodLink RX7 64 yX3_neededPart, Cond.instanceMethod yX3_neededPart, Cond.selects RX3 yX3_neededPart yX3_neededPart, Cond.code yX3_neededPart cX3_neededPart 4 (some .int), Cond.methodLink RX7 67 yX3_neededVersions, Cond.instanceMethod yX3_neededVersions, Cond.selects RX3 yX3_neededVersions yX3_neededVersions, Cond.code yX3_neededVersions cX3_neededVersions 4 (some .int), Cond.methodLink RX7 70 yX7_await, Cond.instanceMethod yX7_await, Cond.selects RX7 yX7_await yX7_await, Cond.code yX7_await cX7_await 3 none, Cond.methodLink RX7 57 yX1_with, Cond.static yX1_with, Cond.code yX1_with cX1_with 3 (some .int), Cond.methodLink RL 92 yX9_resolve, Cond.instanceMethod yX9_resolve, Cond.selects RX9 yX9_resolve yX9_resolve, Cond.code yX9_resolve cX9_resolve 5 (some .int), Cond.methodLink RX9 113 yX9_isRequest, Cond.instanceMethod yX9_isRequest, Cond.selects RX9 yX9_isRequest yX9_isRequest]
def wsL_law0_r20 : List Cond := [Cond.code yX9_isRequest cX9_isRequest 2 (some .boolean), Cond.methodLink RX9 116 yX9_search, Cond.instanceMethod yX9_search, Cond.selects RX9 yX9_search yX9_search, Cond.code yX9_search cX9_search 6 (some .int), Cond.methodLink RX9 103 yX9_forget, Cond.instanceMethod yX9_forget, Cond.selects RX9 yX9_forget yX9_forget, Cond.code yX9_forget cX9_forget 3 none, Cond.methodLink RX9 106 yX9_goes, Cond.instanceMethod yX9_goes, Cond.selects RX9 yX9_goes yX9_goes, Cond.code yX9_goes cX9_goes 9 (some .boolean), Cond.methodLink RX9 109 yX9_comes, Cond.instanceMethod yX9_comes, Cond.selects RX9 yX9_comes yX9_comes, Cond.code yX9_comes cX9_comes 7 (some .int), Cond.methodLink RL 93 yL_chosen, Cond.static yL_chosen, Cond.codeWith yL_chosen cL_chosen 5 (some .int) [(0, 10, 13, 13)], Cond.methodLink RL 34 yX8_chosen, Cond.instanceMethod yX8_chosen, Cond.selects RX8 yX8_chosen yX8_chosen, Cond.code yX8_chosen cX8_chosen 4 (some .int)]
def wsL_law0_r21 : List Cond := [Cond.methodLink RX8 127 yX5_choiceOf, Cond.instanceMethod yX5_choiceOf, Cond.selects RX5 yX5_choiceOf yX5_choiceOf, Cond.code yX5_choiceOf cX5_choiceOf 2 (some .int), Cond.methodLink RX8 130 yX1_versionOf, Cond.methodLink RL 95 yX9_chosen, Cond.instanceMethod yX9_chosen, Cond.selects RX9 yX9_chosen yX9_chosen, Cond.code yX9_chosen cX9_chosen 3 (some .int), Cond.methodLink RL 96 yL_limit, Cond.static yL_limit, Cond.codeWith yL_limit cL_limit 5 (some .int) [(0, 10, 13, 13), (0, 10, 17, 15)], Cond.methodLink RL 37 yX8_limit, Cond.instanceMethod yX8_limit, Cond.selects RX8 yX8_limit yX8_limit, Cond.code yX8_limit cX8_limit 3 (some .int), Cond.methodLink RL 98 yX9_limit, Cond.instanceMethod yX9_limit, Cond.selects RX9 yX9_limit yX9_limit, Cond.code yX9_limit cX9_limit 4 (some .int), Cond.methodLink RL 99 yL_leave, Cond.static yL_leave, Cond.codeWith yL_leave cL_leave 6 (some .int) [(0, 12, 15, 13), (0, 12, 19, 15)], Cond.methodLink RL 40 yX8_leave]
def wsL_law0_r22 : List Cond := [Cond.instanceMethod yX8_leave, Cond.selects RX8 yX8_leave yX8_leave, Cond.code yX8_leave cX8_leave 4 (some .int), Cond.methodLink RX8 139 yX8_checkDays, Cond.static yX8_checkDays, Cond.code yX8_checkDays cX8_checkDays 1 none, Cond.methodLink RL 101 yX9_leave, Cond.instanceMethod yX9_leave, Cond.selects RX9 yX9_leave yX9_leave, Cond.code yX9_leave cX9_leave 4 (some .int), Cond.fieldLink RX9 119 "ApprovalyardModel" "day" "I", Cond.methodLink RL 102 yL_approve, Cond.static yL_approve, Cond.codeWith yL_approve cL_approve 5 (some .int) [(0, 10, 13, 13), (0, 10, 17, 17)], Cond.methodLink RL 43 yX8_approve, Cond.instanceMethod yX8_approve, Cond.selects RX8 yX8_approve yX8_approve, Cond.code yX8_approve cX8_approve 3 (some .int), Cond.methodLink RX8 142 yX2_principalFor, Cond.instanceMethod yX2_principalFor, Cond.selects RX2 yX2_principalFor yX2_principalFor, Cond.code yX2_principalFor cX2_principalFor 4 (some .int), Cond.methodLink RX2 88 yX5_stateOf, Cond.methodLink RX2 91 yX5_personOf]
def wsL_law0_r23 : List Cond := [Cond.instanceMethod yX5_personOf, Cond.selects RX5 yX5_personOf yX5_personOf, Cond.code yX5_personOf cX5_personOf 2 (some .int), Cond.methodLink RX2 94 yX5_hasApproval, Cond.methodLink RL 104 yX9_approve, Cond.instanceMethod yX9_approve, Cond.selects RX9 yX9_approve yX9_approve, Cond.code yX9_approve cX9_approve 6 (some .int), Cond.methodLink RX9 125 yX9_forWhom, Cond.instanceMethod yX9_forWhom, Cond.selects RX9 yX9_forWhom yX9_forWhom, Cond.code yX9_forWhom cX9_forWhom 4 (some .int), Cond.methodLink RX9 122 yX9_isAway, Cond.instanceMethod yX9_isAway, Cond.selects RX9 yX9_isAway yX9_isAway, Cond.code yX9_isAway cX9_isAway 2 (some .boolean), Cond.methodLink RL 105 yL_release, Cond.static yL_release, Cond.codeWith yL_release cL_release 3 (some .int) [(0, 5, 8, 13), (0, 5, 11, 17)], Cond.methodLink RL 46 yX8_release, Cond.instanceMethod yX8_release, Cond.selects RX8 yX8_release yX8_release, Cond.code yX8_release cX8_release 2 none, Cond.methodLink RX8 147 yX2_isCovered]
def wsL_law0_r24 : List Cond := [Cond.instanceMethod yX2_isCovered, Cond.selects RX2 yX2_isCovered yX2_isCovered, Cond.code yX2_isCovered cX2_isCovered 3 (some .boolean), Cond.methodLink RX2 105 yX2_approvalsOf, Cond.instanceMethod yX2_approvalsOf, Cond.selects RX2 yX2_approvalsOf yX2_approvalsOf, Cond.code yX2_approvalsOf cX2_approvalsOf 2 (some .int), Cond.methodLink RX2 102 yX5_approvalsOf, Cond.methodLink RL 108 yX9_release, Cond.instanceMethod yX9_release, Cond.selects RX9 yX9_release yX9_release, Cond.code yX9_release cX9_release 2 none, Cond.methodLink RX9 131 yX9_covered, Cond.instanceMethod yX9_covered, Cond.selects RX9 yX9_covered yX9_covered, Cond.code yX9_covered cX9_covered 2 (some .boolean), Cond.methodLink RX9 128 yX9_approvals, Cond.instanceMethod yX9_approvals, Cond.selects RX9 yX9_approvals yX9_approvals, Cond.code yX9_approvals cX9_approvals 4 (some .int), Cond.methodLink RL 109 yL_pass, Cond.static yL_pass, Cond.codeWith yL_pass cL_pass 4 (some .int) [(0, 9, 12, 15)], Cond.methodLink RL 50 yX8_pass]
def wsL_law0_r25 : List Cond := [Cond.instanceMethod yX8_pass, Cond.selects RX8 yX8_pass yX8_pass, Cond.code yX8_pass cX8_pass 2 (some .int), Cond.methodLink RL 111 yX9_pass, Cond.instanceMethod yX9_pass, Cond.selects RX9 yX9_pass yX9_pass, Cond.code yX9_pass cX9_pass 3 (some .int), Cond.methodLink RL 112 yL_ofRequest, Cond.static yL_ofRequest, Cond.codeWith yL_ofRequest cL_ofRequest 5 (some .int) [(0, 10, 13, 13), (0, 10, 17, 15)], Cond.methodLink RL 53 yX8_ofRequest, Cond.instanceMethod yX8_ofRequest, Cond.selects RX8 yX8_ofRequest yX8_ofRequest, Cond.code yX8_ofRequest cX8_ofRequest 3 (some .int), Cond.methodLink RX8 153 yX5_costOf, Cond.methodLink RX8 156 yX2_approvalsOf, Cond.methodLink RL 114 yX9_ofRequest, Cond.instanceMethod yX9_ofRequest, Cond.selects RX9 yX9_ofRequest yX9_ofRequest, Cond.code yX9_ofRequest cX9_ofRequest 3 (some .int), Cond.methodLink RL 115 yL_isCoveredAnew, Cond.static yL_isCoveredAnew, Cond.codeWith yL_isCoveredAnew cL_isCoveredAnew 4 (some .int) [(0, 16, 19, 13)], Cond.methodLink RL 56 yX8_isCoveredAnew]
def wsL_law0_r26 : List Cond := [Cond.instanceMethod yX8_isCoveredAnew, Cond.selects RX8 yX8_isCoveredAnew yX8_isCoveredAnew, Cond.code yX8_isCoveredAnew cX8_isCoveredAnew 4 (some .boolean), Cond.methodLink RX8 161 yX0_count, Cond.instanceMethod yX0_count, Cond.selects RX0 yX0_count yX0_count, Cond.code yX0_count cX0_count 1 (some .int), Cond.methodLink RX8 162 yX2_clear, Cond.methodLink RL 117 yX9_isCoveredAnew, Cond.instanceMethod yX9_isCoveredAnew, Cond.selects RX9 yX9_isCoveredAnew yX9_isCoveredAnew, Cond.code yX9_isCoveredAnew cX9_isCoveredAnew 2 (some .boolean), Cond.methodLink RL 118 yL_strain, Cond.static yL_strain, Cond.codeWith yL_strain cL_strain 4 (some .int) [(0, 9, 12, 13)], Cond.methodLink RL 60 yX8_strain, Cond.instanceMethod yX8_strain, Cond.selects RX8 yX8_strain yX8_strain, Cond.code yX8_strain cX8_strain 4 (some .float), Cond.constantFloat RX8 165 (3212836864), Cond.fieldLink RX8 166 "Approvalyard$Desk" "people" "LApprovalyard$People;", Cond.methodLink RX8 170 yX5_personOf, Cond.methodLink RX8 173 yX4_greatestLimit, Cond.instanceMethod yX4_greatestLimit]
def wsL_law0_r27 : List Cond := [Cond.selects RX4 yX4_greatestLimit yX4_greatestLimit, Cond.code yX4_greatestLimit cX4_greatestLimit 6 (some .int), Cond.methodLink RL 121 yX9_strain, Cond.instanceMethod yX9_strain, Cond.selects RX9 yX9_strain yX9_strain, Cond.code yX9_strain cX9_strain 5 (some .float), Cond.constantFloat RX9 134 (3212836864), Cond.methodLink RL 122 yX8_entries, Cond.instanceMethod yX8_entries, Cond.selects RX8 yX8_entries yX8_entries, Cond.code yX8_entries cX8_entries 1 (some .int), Cond.methodLink RL 125 yX9_entries, Cond.instanceMethod yX9_entries, Cond.selects RX9 yX9_entries yX9_entries, Cond.code yX9_entries cX9_entries 1 (some .int)]
def wsL_law0 : List Cond := (wsL_law0_r1 ++ (wsL_law0_r2 ++ (wsL_law0_r3 ++ (wsL_law0_r4 ++ (wsL_law0_r5 ++ (wsL_law0_r6 ++ (wsL_law0_r7 ++ (wsL_law0_r8 ++ (wsL_law0_r9 ++ (wsL_law0_r10 ++ (wsL_law0_r11 ++ (wsL_law0_r12 ++ (wsL_law0_r13 ++ (wsL_law0_r14 ++ (wsL_law0_r15 ++ (wsL_law0_r16 ++ (wsL_law0_r17 ++ (wsL_law0_r18 ++ (wsL_law0_r19 ++ (wsL_law0_r20 ++ (wsL_law0_r21 ++ (wsL_law0_r22 ++ (wsL_law0_r23 ++ (wsL_law0_r24 ++ (wsL_law0_r25 ++ (wsL_law0_r26 ++ wsL_law0_r27)))))))))))))))))))))))))) ++ wsX80 ++ wsX90 ++ wsX00 ++ wsX20 ++ wsX70 ++ wsX60 ++ wsX30 ++ wsX40 ++ wsX50 ++ ([] : List Cond)
def wsL_law : List Cond := wsL_law0 ++ (vx_atS RX8 41 "java/lang/IllegalArgumentException" ["java/lang/RuntimeException", "java/lang/Exception"]).filter goodWord ++ (vx_atS RX8 58 "java/lang/IllegalStateException" ["java/lang/RuntimeException", "java/lang/Exception"]).filter goodWord ++ (vx_atS RX8 182 "java/lang/IndexOutOfBoundsException" ["java/lang/RuntimeException", "java/lang/Exception"]).filter goodWord
abbrev vwCl : List vw_C := [(RX0, TX0, 2), (RX2, TX2, 3), (RX3, TX3, 6), (RX4, TX4, 4), (RX5, TX5, 8), (RX6, TX6, 1), (RX7, TX7, 4), (RX8, TX8, 4), (RX9, TX9, 24)]
end
section
theorem dX6_init_0 : decode cX6_init 0 = .ok (.aload_n 0, 1) := by decide +kernel
theorem dX6_init_1 : decode cX6_init 1 = .ok (.invokespecial 1, 3) := by decide +kernel
theorem dX6_init_4 : decode cX6_init 4 = .ok (.aload_n 0, 1) := by decide +kernel
theorem dX6_init_5 : decode cX6_init 5 = .ok (.iload_n 1, 1) := by decide +kernel
theorem dX6_init_6 : decode cX6_init 6 = .ok (.ifCond .ge 7, 3) := by decide +kernel
theorem dX6_init_9 : decode cX6_init 9 = .ok (.iconst 0, 1) := by decide +kernel
theorem dX6_init_10 : decode cX6_init 10 = .ok (.goto 4, 3) := by decide +kernel
theorem dX6_init_13 : decode cX6_init 13 = .ok (.iload_n 1, 1) := by decide +kernel
theorem dX6_init_14 : decode cX6_init 14 = .ok (.newarray .int, 2) := by decide +kernel
theorem dX6_init_16 : decode cX6_init 16 = .ok (.putfield 7, 3) := by decide +kernel
theorem dX6_init_19 : decode cX6_init 19 = .ok (.return_, 1) := by decide +kernel
theorem dX6_at_0 : decode cX6_at 0 = .ok (.iload_n 1, 1) := by decide +kernel
theorem dX6_at_1 : decode cX6_at 1 = .ok (.ifCond .lt 21, 3) := by decide +kernel
theorem dX6_at_4 : decode cX6_at 4 = .ok (.iload_n 1, 1) := by decide +kernel
theorem dX6_at_5 : decode cX6_at 5 = .ok (.aload_n 0, 1) := by decide +kernel
theorem dX6_at_6 : decode cX6_at 6 = .ok (.getfield 7, 3) := by decide +kernel
theorem dX6_at_9 : decode cX6_at 9 = .ok (.arraylength, 1) := by decide +kernel
theorem dX6_at_10 : decode cX6_at 10 = .ok (.if_icmp .ge 12, 3) := by decide +kernel
theorem dX6_at_13 : decode cX6_at 13 = .ok (.aload_n 0, 1) := by decide +kernel
theorem dX6_at_14 : decode cX6_at 14 = .ok (.getfield 7, 3) := by decide +kernel
theorem dX6_at_17 : decode cX6_at 17 = .ok (.iload_n 1, 1) := by decide +kernel
theorem dX6_at_18 : decode cX6_at 18 = .ok (.iaload, 1) := by decide +kernel
theorem dX6_at_19 : decode cX6_at 19 = .ok (.goto 4, 3) := by decide +kernel
theorem dX6_at_22 : decode cX6_at 22 = .ok (.iconst 0, 1) := by decide +kernel
theorem dX6_at_23 : decode cX6_at 23 = .ok (.ireturn, 1) := by decide +kernel
theorem dX6_put_0 : decode cX6_put 0 = .ok (.iload_n 1, 1) := by decide +kernel
theorem dX6_put_1 : decode cX6_put 1 = .ok (.ifCond .lt 19, 3) := by decide +kernel
theorem dX6_put_4 : decode cX6_put 4 = .ok (.iload_n 1, 1) := by decide +kernel
theorem dX6_put_5 : decode cX6_put 5 = .ok (.aload_n 0, 1) := by decide +kernel
theorem dX6_put_6 : decode cX6_put 6 = .ok (.getfield 7, 3) := by decide +kernel
theorem dX6_put_9 : decode cX6_put 9 = .ok (.arraylength, 1) := by decide +kernel
theorem dX6_put_10 : decode cX6_put 10 = .ok (.if_icmp .ge 10, 3) := by decide +kernel
theorem dX6_put_13 : decode cX6_put 13 = .ok (.aload_n 0, 1) := by decide +kernel
theorem dX6_put_14 : decode cX6_put 14 = .ok (.getfield 7, 3) := by decide +kernel
theorem dX6_put_17 : decode cX6_put 17 = .ok (.iload_n 1, 1) := by decide +kernel
theorem dX6_put_18 : decode cX6_put 18 = .ok (.iload_n 2, 1) := by decide +kernel
theorem dX6_put_19 : decode cX6_put 19 = .ok (.iastore, 1) := by decide +kernel
theorem dX6_put_20 : decode cX6_put 20 = .ok (.return_, 1) := by decide +kernel
theorem dX6_fill_0 : decode cX6_fill 0 = .ok (.iconst 0, 1) := by decide +kernel
theorem dX6_fill_1 : decode cX6_fill 1 = .ok (.istore_n 2, 1) := by decide +kernel
theorem dX6_fill_2 : decode cX6_fill 2 = .ok (.iload_n 2, 1) := by decide +kernel
theorem dX6_fill_3 : decode cX6_fill 3 = .ok (.aload_n 0, 1) := by decide +kernel
theorem dX6_fill_4 : decode cX6_fill 4 = .ok (.getfield 7, 3) := by decide +kernel
theorem dX6_fill_7 : decode cX6_fill 7 = .ok (.arraylength, 1) := by decide +kernel
theorem dX6_fill_8 : decode cX6_fill 8 = .ok (.if_icmp .ge 16, 3) := by decide +kernel
theorem dX6_fill_11 : decode cX6_fill 11 = .ok (.aload_n 0, 1) := by decide +kernel
theorem dX6_fill_12 : decode cX6_fill 12 = .ok (.getfield 7, 3) := by decide +kernel
theorem dX6_fill_15 : decode cX6_fill 15 = .ok (.iload_n 2, 1) := by decide +kernel
theorem dX6_fill_16 : decode cX6_fill 16 = .ok (.iload_n 1, 1) := by decide +kernel
theorem dX6_fill_17 : decode cX6_fill 17 = .ok (.iastore, 1) := by decide +kernel
theorem dX6_fill_18 : decode cX6_fill 18 = .ok (.iinc 2 1, 3) := by decide +kernel
theorem dX6_fill_21 : decode cX6_fill 21 = .ok (.goto (-19), 3) := by decide +kernel
theorem dX6_fill_24 : decode cX6_fill 24 = .ok (.return_, 1) := by decide +kernel
set_option maxRecDepth 20000 in
theorem ggX0_init_X6_init : GoodIn wsX0_init wsX6_init := goodIn_r _ [10, 11, 2, 3, 12, 13, 14] (by decide +kernel) (by decide +kernel)
set_option maxRecDepth 20000 in
theorem gX0_init_X6_init : GoodIn wsX0_init (wsX6_init) := ggX0_init_X6_init
theorem dX0_init_0 : decode cX0_init 0 = .ok (.aload_n 0, 1) := by decide +kernel
theorem dX0_init_1 : decode cX0_init 1 = .ok (.invokespecial 3, 3) := by decide +kernel
theorem dX0_init_4 : decode cX0_init 4 = .ok (.aload_n 0, 1) := by decide +kernel
theorem dX0_init_5 : decode cX0_init 5 = .ok (.new 9, 3) := by decide +kernel
theorem dX0_init_8 : decode cX0_init 8 = .ok (.dup, 1) := by decide +kernel
theorem dX0_init_9 : decode cX0_init 9 = .ok (.sipush 3072, 3) := by decide +kernel
theorem dX0_init_12 : decode cX0_init 12 = .ok (.invokespecial 13, 3) := by decide +kernel
theorem dX0_init_15 : decode cX0_init 15 = .ok (.putfield 16, 3) := by decide +kernel
theorem dX0_init_18 : decode cX0_init 18 = .ok (.return_, 1) := by decide +kernel
theorem dX0_count_0 : decode cX0_count 0 = .ok (.aload_n 0, 1) := by decide +kernel
theorem dX0_count_1 : decode cX0_count 1 = .ok (.getfield 20, 3) := by decide +kernel
theorem dX0_count_4 : decode cX0_count 4 = .ok (.ireturn, 1) := by decide +kernel
set_option maxRecDepth 20000 in
theorem ggX0_write_X6_put : GoodIn wsX0_write wsX6_put := goodIn_r _ [7, 8, 11] (by decide +kernel) (by decide +kernel)
set_option maxRecDepth 20000 in
theorem gX0_write_X6_put : GoodIn wsX0_write (wsV RX0 24 RX6 yX6_put wsX6_put) := goodIn_app (goodIn_of _ (by decide +kernel)) ggX0_write_X6_put
theorem dX0_write_0 : decode cX0_write 0 = .ok (.aload_n 0, 1) := by decide +kernel
theorem dX0_write_1 : decode cX0_write 1 = .ok (.getfield 20, 3) := by decide +kernel
theorem dX0_write_4 : decode cX0_write 4 = .ok (.sipush 512, 3) := by decide +kernel
theorem dX0_write_7 : decode cX0_write 7 = .ok (.if_icmp .lt 5, 3) := by decide +kernel
theorem dX0_write_10 : decode cX0_write 10 = .ok (.iconst (-1), 1) := by decide +kernel
theorem dX0_write_11 : decode cX0_write 11 = .ok (.ireturn, 1) := by decide +kernel
theorem dX0_write_12 : decode cX0_write 12 = .ok (.aload_n 0, 1) := by decide +kernel
theorem dX0_write_13 : decode cX0_write 13 = .ok (.getfield 20, 3) := by decide +kernel
theorem dX0_write_16 : decode cX0_write 16 = .ok (.bipush 6, 2) := by decide +kernel
theorem dX0_write_18 : decode cX0_write 18 = .ok (.imul, 1) := by decide +kernel
theorem dX0_write_19 : decode cX0_write 19 = .ok (.istore 7, 2) := by decide +kernel
theorem dX0_write_21 : decode cX0_write 21 = .ok (.aload_n 0, 1) := by decide +kernel
theorem dX0_write_22 : decode cX0_write 22 = .ok (.getfield 16, 3) := by decide +kernel
theorem dX0_write_25 : decode cX0_write 25 = .ok (.iload 7, 2) := by decide +kernel
theorem dX0_write_27 : decode cX0_write 27 = .ok (.iload_n 1, 1) := by decide +kernel
theorem dX0_write_28 : decode cX0_write 28 = .ok (.invokevirtual 24, 3) := by decide +kernel
theorem dX0_write_31 : decode cX0_write 31 = .ok (.aload_n 0, 1) := by decide +kernel
theorem dX0_write_32 : decode cX0_write 32 = .ok (.getfield 16, 3) := by decide +kernel
theorem dX0_write_35 : decode cX0_write 35 = .ok (.iload 7, 2) := by decide +kernel
theorem dX0_write_37 : decode cX0_write 37 = .ok (.iconst 1, 1) := by decide +kernel
theorem dX0_write_38 : decode cX0_write 38 = .ok (.iadd, 1) := by decide +kernel
theorem dX0_write_39 : decode cX0_write 39 = .ok (.iload_n 2, 1) := by decide +kernel
theorem dX0_write_40 : decode cX0_write 40 = .ok (.invokevirtual 24, 3) := by decide +kernel
theorem dX0_write_43 : decode cX0_write 43 = .ok (.aload_n 0, 1) := by decide +kernel
theorem dX0_write_44 : decode cX0_write 44 = .ok (.getfield 16, 3) := by decide +kernel
theorem dX0_write_47 : decode cX0_write 47 = .ok (.iload 7, 2) := by decide +kernel
theorem dX0_write_49 : decode cX0_write 49 = .ok (.iconst 2, 1) := by decide +kernel
theorem dX0_write_50 : decode cX0_write 50 = .ok (.iadd, 1) := by decide +kernel
theorem dX0_write_51 : decode cX0_write 51 = .ok (.iload_n 3, 1) := by decide +kernel
theorem dX0_write_52 : decode cX0_write 52 = .ok (.invokevirtual 24, 3) := by decide +kernel
theorem dX0_write_55 : decode cX0_write 55 = .ok (.aload_n 0, 1) := by decide +kernel
theorem dX0_write_56 : decode cX0_write 56 = .ok (.getfield 16, 3) := by decide +kernel
theorem dX0_write_59 : decode cX0_write 59 = .ok (.iload 7, 2) := by decide +kernel
theorem dX0_write_61 : decode cX0_write 61 = .ok (.iconst 3, 1) := by decide +kernel
theorem dX0_write_62 : decode cX0_write 62 = .ok (.iadd, 1) := by decide +kernel
theorem dX0_write_63 : decode cX0_write 63 = .ok (.iload 4, 2) := by decide +kernel
theorem dX0_write_65 : decode cX0_write 65 = .ok (.invokevirtual 24, 3) := by decide +kernel
theorem dX0_write_68 : decode cX0_write 68 = .ok (.aload_n 0, 1) := by decide +kernel
theorem dX0_write_69 : decode cX0_write 69 = .ok (.getfield 16, 3) := by decide +kernel
theorem dX0_write_72 : decode cX0_write 72 = .ok (.iload 7, 2) := by decide +kernel
theorem dX0_write_74 : decode cX0_write 74 = .ok (.iconst 4, 1) := by decide +kernel
theorem dX0_write_75 : decode cX0_write 75 = .ok (.iadd, 1) := by decide +kernel
theorem dX0_write_76 : decode cX0_write 76 = .ok (.iload 5, 2) := by decide +kernel
theorem dX0_write_78 : decode cX0_write 78 = .ok (.invokevirtual 24, 3) := by decide +kernel
theorem dX0_write_81 : decode cX0_write 81 = .ok (.aload_n 0, 1) := by decide +kernel
theorem dX0_write_82 : decode cX0_write 82 = .ok (.getfield 16, 3) := by decide +kernel
theorem dX0_write_85 : decode cX0_write 85 = .ok (.iload 7, 2) := by decide +kernel
theorem dX0_write_87 : decode cX0_write 87 = .ok (.iconst 5, 1) := by decide +kernel
theorem dX0_write_88 : decode cX0_write 88 = .ok (.iadd, 1) := by decide +kernel
theorem dX0_write_89 : decode cX0_write 89 = .ok (.iload 6, 2) := by decide +kernel
theorem dX0_write_91 : decode cX0_write 91 = .ok (.invokevirtual 24, 3) := by decide +kernel
theorem dX0_write_94 : decode cX0_write 94 = .ok (.aload_n 0, 1) := by decide +kernel
theorem dX0_write_95 : decode cX0_write 95 = .ok (.dup, 1) := by decide +kernel
theorem dX0_write_96 : decode cX0_write 96 = .ok (.getfield 20, 3) := by decide +kernel
theorem dX0_write_99 : decode cX0_write 99 = .ok (.iconst 1, 1) := by decide +kernel
theorem dX0_write_100 : decode cX0_write 100 = .ok (.iadd, 1) := by decide +kernel
theorem dX0_write_101 : decode cX0_write 101 = .ok (.putfield 20, 3) := by decide +kernel
theorem dX0_write_104 : decode cX0_write 104 = .ok (.aload_n 0, 1) := by decide +kernel
theorem dX0_write_105 : decode cX0_write 105 = .ok (.getfield 20, 3) := by decide +kernel
theorem dX0_write_108 : decode cX0_write 108 = .ok (.iconst 1, 1) := by decide +kernel
theorem dX0_write_109 : decode cX0_write 109 = .ok (.isub, 1) := by decide +kernel
theorem dX0_write_110 : decode cX0_write 110 = .ok (.ireturn, 1) := by decide +kernel
set_option maxRecDepth 20000 in
theorem ggX0_wordOf_X6_at : GoodIn wsX0_wordOf wsX6_at := goodIn_r _ [6, 7, 10] (by decide +kernel) (by decide +kernel)
set_option maxRecDepth 20000 in
theorem gX0_wordOf_X6_at : GoodIn wsX0_wordOf (wsV RX0 28 RX6 yX6_at wsX6_at) := goodIn_app (goodIn_of _ (by decide +kernel)) ggX0_wordOf_X6_at
theorem dX0_wordOf_0 : decode cX0_wordOf 0 = .ok (.aload_n 0, 1) := by decide +kernel
theorem dX0_wordOf_1 : decode cX0_wordOf 1 = .ok (.getfield 16, 3) := by decide +kernel
theorem dX0_wordOf_4 : decode cX0_wordOf 4 = .ok (.iload_n 1, 1) := by decide +kernel
theorem dX0_wordOf_5 : decode cX0_wordOf 5 = .ok (.bipush 6, 2) := by decide +kernel
theorem dX0_wordOf_7 : decode cX0_wordOf 7 = .ok (.imul, 1) := by decide +kernel
theorem dX0_wordOf_8 : decode cX0_wordOf 8 = .ok (.iload_n 2, 1) := by decide +kernel
theorem dX0_wordOf_9 : decode cX0_wordOf 9 = .ok (.iadd, 1) := by decide +kernel
theorem dX0_wordOf_10 : decode cX0_wordOf 10 = .ok (.invokevirtual 28, 3) := by decide +kernel
theorem dX0_wordOf_13 : decode cX0_wordOf 13 = .ok (.ireturn, 1) := by decide +kernel
theorem dX1_versionOf_0 : decode cX1_versionOf 0 = .ok (.iload_n 0, 1) := by decide +kernel
theorem dX1_versionOf_1 : decode cX1_versionOf 1 = .ok (.iconst 2, 1) := by decide +kernel
theorem dX1_versionOf_2 : decode cX1_versionOf 2 = .ok (.iload_n 1, 1) := by decide +kernel
theorem dX1_versionOf_3 : decode cX1_versionOf 3 = .ok (.imul, 1) := by decide +kernel
theorem dX1_versionOf_4 : decode cX1_versionOf 4 = .ok (.ishr, 1) := by decide +kernel
theorem dX1_versionOf_5 : decode cX1_versionOf 5 = .ok (.iconst 3, 1) := by decide +kernel
theorem dX1_versionOf_6 : decode cX1_versionOf 6 = .ok (.iand, 1) := by decide +kernel
theorem dX1_versionOf_7 : decode cX1_versionOf 7 = .ok (.ireturn, 1) := by decide +kernel
theorem dX1_with_0 : decode cX1_with 0 = .ok (.iload_n 0, 1) := by decide +kernel
theorem dX1_with_1 : decode cX1_with 1 = .ok (.iload_n 2, 1) := by decide +kernel
theorem dX1_with_2 : decode cX1_with 2 = .ok (.iconst 2, 1) := by decide +kernel
theorem dX1_with_3 : decode cX1_with 3 = .ok (.iload_n 1, 1) := by decide +kernel
theorem dX1_with_4 : decode cX1_with 4 = .ok (.imul, 1) := by decide +kernel
theorem dX1_with_5 : decode cX1_with 5 = .ok (.ishl, 1) := by decide +kernel
theorem dX1_with_6 : decode cX1_with 6 = .ok (.ior, 1) := by decide +kernel
theorem dX1_with_7 : decode cX1_with 7 = .ok (.ireturn, 1) := by decide +kernel
set_option maxRecDepth 20000 in
theorem ggX3_init_X6_init : GoodIn wsX3_init wsX6_init := goodIn_r _ [15, 16, 2, 3, 17, 18, 19] (by decide +kernel) (by decide +kernel)
set_option maxRecDepth 20000 in
theorem gX3_init_X6_init : GoodIn wsX3_init (wsX6_init) := ggX3_init_X6_init
theorem dX3_init_0 : decode cX3_init 0 = .ok (.aload_n 0, 1) := by decide +kernel
theorem dX3_init_1 : decode cX3_init 1 = .ok (.invokespecial 3, 3) := by decide +kernel
theorem dX3_init_4 : decode cX3_init 4 = .ok (.aload_n 0, 1) := by decide +kernel
theorem dX3_init_5 : decode cX3_init 5 = .ok (.new 9, 3) := by decide +kernel
theorem dX3_init_8 : decode cX3_init 8 = .ok (.dup, 1) := by decide +kernel
theorem dX3_init_9 : decode cX3_init 9 = .ok (.bipush 8, 2) := by decide +kernel
theorem dX3_init_11 : decode cX3_init 11 = .ok (.invokespecial 11, 3) := by decide +kernel
theorem dX3_init_14 : decode cX3_init 14 = .ok (.putfield 14, 3) := by decide +kernel
theorem dX3_init_17 : decode cX3_init 17 = .ok (.aload_n 0, 1) := by decide +kernel
theorem dX3_init_18 : decode cX3_init 18 = .ok (.new 9, 3) := by decide +kernel
theorem dX3_init_21 : decode cX3_init 21 = .ok (.dup, 1) := by decide +kernel
theorem dX3_init_22 : decode cX3_init 22 = .ok (.bipush 24, 2) := by decide +kernel
theorem dX3_init_24 : decode cX3_init 24 = .ok (.invokespecial 11, 3) := by decide +kernel
theorem dX3_init_27 : decode cX3_init 27 = .ok (.putfield 20, 3) := by decide +kernel
theorem dX3_init_30 : decode cX3_init 30 = .ok (.aload_n 0, 1) := by decide +kernel
theorem dX3_init_31 : decode cX3_init 31 = .ok (.new 9, 3) := by decide +kernel
theorem dX3_init_34 : decode cX3_init 34 = .ok (.dup, 1) := by decide +kernel
theorem dX3_init_35 : decode cX3_init 35 = .ok (.bipush 24, 2) := by decide +kernel
theorem dX3_init_37 : decode cX3_init 37 = .ok (.invokespecial 11, 3) := by decide +kernel
theorem dX3_init_40 : decode cX3_init 40 = .ok (.putfield 23, 3) := by decide +kernel
theorem dX3_init_43 : decode cX3_init 43 = .ok (.aload_n 0, 1) := by decide +kernel
theorem dX3_init_44 : decode cX3_init 44 = .ok (.new 9, 3) := by decide +kernel
theorem dX3_init_47 : decode cX3_init 47 = .ok (.dup, 1) := by decide +kernel
theorem dX3_init_48 : decode cX3_init 48 = .ok (.bipush 24, 2) := by decide +kernel
theorem dX3_init_50 : decode cX3_init 50 = .ok (.invokespecial 11, 3) := by decide +kernel
theorem dX3_init_53 : decode cX3_init 53 = .ok (.putfield 26, 3) := by decide +kernel
theorem dX3_init_56 : decode cX3_init 56 = .ok (.aload_n 0, 1) := by decide +kernel
theorem dX3_init_57 : decode cX3_init 57 = .ok (.new 9, 3) := by decide +kernel
theorem dX3_init_60 : decode cX3_init 60 = .ok (.dup, 1) := by decide +kernel
theorem dX3_init_61 : decode cX3_init 61 = .ok (.bipush 96, 2) := by decide +kernel
theorem dX3_init_63 : decode cX3_init 63 = .ok (.invokespecial 11, 3) := by decide +kernel
theorem dX3_init_66 : decode cX3_init 66 = .ok (.putfield 29, 3) := by decide +kernel
theorem dX3_init_69 : decode cX3_init 69 = .ok (.aload_n 0, 1) := by decide +kernel
theorem dX3_init_70 : decode cX3_init 70 = .ok (.new 9, 3) := by decide +kernel
theorem dX3_init_73 : decode cX3_init 73 = .ok (.dup, 1) := by decide +kernel
theorem dX3_init_74 : decode cX3_init 74 = .ok (.bipush 96, 2) := by decide +kernel
theorem dX3_init_76 : decode cX3_init 76 = .ok (.invokespecial 11, 3) := by decide +kernel
theorem dX3_init_79 : decode cX3_init 79 = .ok (.putfield 32, 3) := by decide +kernel
theorem dX3_init_82 : decode cX3_init 82 = .ok (.return_, 1) := by decide +kernel
set_option maxRecDepth 20000 in
theorem ggX3_clear_X6_fill : GoodIn wsX3_clear wsX6_fill := goodIn_r _ [6, 7, 14] (by decide +kernel) (by decide +kernel)
set_option maxRecDepth 20000 in
theorem gX3_clear_X6_fill : GoodIn wsX3_clear (wsV RX3 35 RX6 yX6_fill wsX6_fill) := goodIn_app (goodIn_of _ (by decide +kernel)) ggX3_clear_X6_fill
theorem dX3_clear_0 : decode cX3_clear 0 = .ok (.aload_n 0, 1) := by decide +kernel
theorem dX3_clear_1 : decode cX3_clear 1 = .ok (.getfield 14, 3) := by decide +kernel
theorem dX3_clear_4 : decode cX3_clear 4 = .ok (.iconst 0, 1) := by decide +kernel
theorem dX3_clear_5 : decode cX3_clear 5 = .ok (.invokevirtual 35, 3) := by decide +kernel
theorem dX3_clear_8 : decode cX3_clear 8 = .ok (.return_, 1) := by decide +kernel
set_option maxRecDepth 20000 in
theorem ggX3_countOf_X6_at : GoodIn wsX3_countOf wsX6_at := goodIn_r _ [6, 7, 14] (by decide +kernel) (by decide +kernel)
set_option maxRecDepth 20000 in
theorem gX3_countOf_X6_at : GoodIn wsX3_countOf (wsV RX3 38 RX6 yX6_at wsX6_at) := goodIn_app (goodIn_of _ (by decide +kernel)) ggX3_countOf_X6_at
theorem dX3_countOf_0 : decode cX3_countOf 0 = .ok (.aload_n 0, 1) := by decide +kernel
theorem dX3_countOf_1 : decode cX3_countOf 1 = .ok (.getfield 14, 3) := by decide +kernel
theorem dX3_countOf_4 : decode cX3_countOf 4 = .ok (.iload_n 1, 1) := by decide +kernel
theorem dX3_countOf_5 : decode cX3_countOf 5 = .ok (.invokevirtual 38, 3) := by decide +kernel
theorem dX3_countOf_8 : decode cX3_countOf 8 = .ok (.ireturn, 1) := by decide +kernel
set_option maxRecDepth 20000 in
theorem ggX3_addVersion_X6_at : GoodIn wsX3_addVersion wsX6_at := goodIn_r _ [9, 10, 25] (by decide +kernel) (by decide +kernel)
set_option maxRecDepth 20000 in
theorem gX3_addVersion_X6_at : GoodIn wsX3_addVersion (wsV RX3 38 RX6 yX6_at wsX6_at) := goodIn_app (goodIn_of _ (by decide +kernel)) ggX3_addVersion_X6_at
set_option maxRecDepth 20000 in
theorem ggX3_addVersion_X3_placeOf : GoodIn wsX3_addVersion wsX3_placeOf := goodIn_r _ [14] (by decide +kernel) (by decide +kernel)
set_option maxRecDepth 20000 in
theorem gX3_addVersion_X3_placeOf : GoodIn wsX3_addVersion (va_wsS RX3 42 yX3_placeOf wsX3_placeOf) := goodIn_app (goodIn_of _ (by decide +kernel)) ggX3_addVersion_X3_placeOf
set_option maxRecDepth 20000 in
theorem ggX3_addVersion_X6_put : GoodIn wsX3_addVersion wsX6_put := goodIn_r _ [18, 10, 25] (by decide +kernel) (by decide +kernel)
set_option maxRecDepth 20000 in
theorem gX3_addVersion_X6_put : GoodIn wsX3_addVersion (wsV RX3 46 RX6 yX6_put wsX6_put) := goodIn_app (goodIn_of _ (by decide +kernel)) ggX3_addVersion_X6_put
theorem dX3_addVersion_0 : decode cX3_addVersion 0 = .ok (.aload_n 0, 1) := by decide +kernel
theorem dX3_addVersion_1 : decode cX3_addVersion 1 = .ok (.getfield 14, 3) := by decide +kernel
theorem dX3_addVersion_4 : decode cX3_addVersion 4 = .ok (.iload_n 1, 1) := by decide +kernel
theorem dX3_addVersion_5 : decode cX3_addVersion 5 = .ok (.invokevirtual 38, 3) := by decide +kernel
theorem dX3_addVersion_8 : decode cX3_addVersion 8 = .ok (.iconst 1, 1) := by decide +kernel
theorem dX3_addVersion_9 : decode cX3_addVersion 9 = .ok (.iadd, 1) := by decide +kernel
theorem dX3_addVersion_10 : decode cX3_addVersion 10 = .ok (.istore_n 3, 1) := by decide +kernel
theorem dX3_addVersion_11 : decode cX3_addVersion 11 = .ok (.iload_n 1, 1) := by decide +kernel
theorem dX3_addVersion_12 : decode cX3_addVersion 12 = .ok (.iload_n 3, 1) := by decide +kernel
theorem dX3_addVersion_13 : decode cX3_addVersion 13 = .ok (.invokestatic 42, 3) := by decide +kernel
theorem dX3_addVersion_16 : decode cX3_addVersion 16 = .ok (.istore 4, 2) := by decide +kernel
theorem dX3_addVersion_18 : decode cX3_addVersion 18 = .ok (.aload_n 0, 1) := by decide +kernel
theorem dX3_addVersion_19 : decode cX3_addVersion 19 = .ok (.getfield 14, 3) := by decide +kernel
theorem dX3_addVersion_22 : decode cX3_addVersion 22 = .ok (.iload_n 1, 1) := by decide +kernel
theorem dX3_addVersion_23 : decode cX3_addVersion 23 = .ok (.iload_n 3, 1) := by decide +kernel
theorem dX3_addVersion_24 : decode cX3_addVersion 24 = .ok (.invokevirtual 46, 3) := by decide +kernel
theorem dX3_addVersion_27 : decode cX3_addVersion 27 = .ok (.aload_n 0, 1) := by decide +kernel
theorem dX3_addVersion_28 : decode cX3_addVersion 28 = .ok (.getfield 20, 3) := by decide +kernel
theorem dX3_addVersion_31 : decode cX3_addVersion 31 = .ok (.iload 4, 2) := by decide +kernel
theorem dX3_addVersion_33 : decode cX3_addVersion 33 = .ok (.iload_n 2, 1) := by decide +kernel
theorem dX3_addVersion_34 : decode cX3_addVersion 34 = .ok (.invokevirtual 46, 3) := by decide +kernel
theorem dX3_addVersion_37 : decode cX3_addVersion 37 = .ok (.aload_n 0, 1) := by decide +kernel
theorem dX3_addVersion_38 : decode cX3_addVersion 38 = .ok (.getfield 23, 3) := by decide +kernel
theorem dX3_addVersion_41 : decode cX3_addVersion 41 = .ok (.iload 4, 2) := by decide +kernel
theorem dX3_addVersion_43 : decode cX3_addVersion 43 = .ok (.iconst 0, 1) := by decide +kernel
theorem dX3_addVersion_44 : decode cX3_addVersion 44 = .ok (.invokevirtual 46, 3) := by decide +kernel
theorem dX3_addVersion_47 : decode cX3_addVersion 47 = .ok (.aload_n 0, 1) := by decide +kernel
theorem dX3_addVersion_48 : decode cX3_addVersion 48 = .ok (.getfield 26, 3) := by decide +kernel
theorem dX3_addVersion_51 : decode cX3_addVersion 51 = .ok (.iload 4, 2) := by decide +kernel
theorem dX3_addVersion_53 : decode cX3_addVersion 53 = .ok (.iconst 0, 1) := by decide +kernel
theorem dX3_addVersion_54 : decode cX3_addVersion 54 = .ok (.invokevirtual 46, 3) := by decide +kernel
theorem dX3_addVersion_57 : decode cX3_addVersion 57 = .ok (.iload_n 3, 1) := by decide +kernel
theorem dX3_addVersion_58 : decode cX3_addVersion 58 = .ok (.ireturn, 1) := by decide +kernel
set_option maxRecDepth 20000 in
theorem ggX3_needsOf_X3_placeOf : GoodIn wsX3_needsOf wsX3_placeOf := goodIn_r _ [5] (by decide +kernel) (by decide +kernel)
set_option maxRecDepth 20000 in
theorem gX3_needsOf_X3_placeOf : GoodIn wsX3_needsOf (va_wsS RX3 42 yX3_placeOf wsX3_placeOf) := goodIn_app (goodIn_of _ (by decide +kernel)) ggX3_needsOf_X3_placeOf
set_option maxRecDepth 20000 in
theorem ggX3_needsOf_X6_at : GoodIn wsX3_needsOf wsX6_at := goodIn_r _ [10, 11, 18] (by decide +kernel) (by decide +kernel)
set_option maxRecDepth 20000 in
theorem gX3_needsOf_X6_at : GoodIn wsX3_needsOf (wsV RX3 38 RX6 yX6_at wsX6_at) := goodIn_app (goodIn_of _ (by decide +kernel)) ggX3_needsOf_X6_at
theorem dX3_needsOf_0 : decode cX3_needsOf 0 = .ok (.aload_n 0, 1) := by decide +kernel
theorem dX3_needsOf_1 : decode cX3_needsOf 1 = .ok (.getfield 26, 3) := by decide +kernel
theorem dX3_needsOf_4 : decode cX3_needsOf 4 = .ok (.iload_n 1, 1) := by decide +kernel
theorem dX3_needsOf_5 : decode cX3_needsOf 5 = .ok (.iload_n 2, 1) := by decide +kernel
theorem dX3_needsOf_6 : decode cX3_needsOf 6 = .ok (.invokestatic 42, 3) := by decide +kernel
theorem dX3_needsOf_9 : decode cX3_needsOf 9 = .ok (.invokevirtual 38, 3) := by decide +kernel
theorem dX3_needsOf_12 : decode cX3_needsOf 12 = .ok (.ireturn, 1) := by decide +kernel
set_option maxRecDepth 20000 in
theorem ggX3_addNeed_X3_placeOf : GoodIn wsX3_addNeed wsX3_placeOf := goodIn_r _ [7] (by decide +kernel) (by decide +kernel)
set_option maxRecDepth 20000 in
theorem gX3_addNeed_X3_placeOf : GoodIn wsX3_addNeed (va_wsS RX3 42 yX3_placeOf wsX3_placeOf) := goodIn_app (goodIn_of _ (by decide +kernel)) ggX3_addNeed_X3_placeOf
set_option maxRecDepth 20000 in
theorem ggX3_addNeed_X6_at : GoodIn wsX3_addNeed wsX6_at := goodIn_r _ [12, 13, 27] (by decide +kernel) (by decide +kernel)
set_option maxRecDepth 20000 in
theorem gX3_addNeed_X6_at : GoodIn wsX3_addNeed (wsV RX3 38 RX6 yX6_at wsX6_at) := goodIn_app (goodIn_of _ (by decide +kernel)) ggX3_addNeed_X6_at
set_option maxRecDepth 20000 in
theorem ggX3_addNeed_X6_put : GoodIn wsX3_addNeed wsX6_put := goodIn_r _ [17, 13, 27] (by decide +kernel) (by decide +kernel)
set_option maxRecDepth 20000 in
theorem gX3_addNeed_X6_put : GoodIn wsX3_addNeed (wsV RX3 46 RX6 yX6_put wsX6_put) := goodIn_app (goodIn_of _ (by decide +kernel)) ggX3_addNeed_X6_put
set_option maxRecDepth 20000 in
theorem ggX3_addNeed_X3_versionSet : GoodIn wsX3_addNeed wsX3_versionSet := goodIn_r _ [20] (by decide +kernel) (by decide +kernel)
set_option maxRecDepth 20000 in
theorem gX3_addNeed_X3_versionSet : GoodIn wsX3_addNeed (va_wsS RX3 50 yX3_versionSet wsX3_versionSet) := goodIn_app (goodIn_of _ (by decide +kernel)) ggX3_addNeed_X3_versionSet
theorem dX3_addNeed_0 : decode cX3_addNeed 0 = .ok (.iload_n 1, 1) := by decide +kernel
theorem dX3_addNeed_1 : decode cX3_addNeed 1 = .ok (.iload_n 2, 1) := by decide +kernel
theorem dX3_addNeed_2 : decode cX3_addNeed 2 = .ok (.invokestatic 42, 3) := by decide +kernel
theorem dX3_addNeed_5 : decode cX3_addNeed 5 = .ok (.istore 6, 2) := by decide +kernel
theorem dX3_addNeed_7 : decode cX3_addNeed 7 = .ok (.aload_n 0, 1) := by decide +kernel
theorem dX3_addNeed_8 : decode cX3_addNeed 8 = .ok (.getfield 26, 3) := by decide +kernel
theorem dX3_addNeed_11 : decode cX3_addNeed 11 = .ok (.iload 6, 2) := by decide +kernel
theorem dX3_addNeed_13 : decode cX3_addNeed 13 = .ok (.invokevirtual 38, 3) := by decide +kernel
theorem dX3_addNeed_16 : decode cX3_addNeed 16 = .ok (.istore 7, 2) := by decide +kernel
theorem dX3_addNeed_18 : decode cX3_addNeed 18 = .ok (.aload_n 0, 1) := by decide +kernel
theorem dX3_addNeed_19 : decode cX3_addNeed 19 = .ok (.getfield 29, 3) := by decide +kernel
theorem dX3_addNeed_22 : decode cX3_addNeed 22 = .ok (.iload 6, 2) := by decide +kernel
theorem dX3_addNeed_24 : decode cX3_addNeed 24 = .ok (.iconst 4, 1) := by decide +kernel
theorem dX3_addNeed_25 : decode cX3_addNeed 25 = .ok (.imul, 1) := by decide +kernel
theorem dX3_addNeed_26 : decode cX3_addNeed 26 = .ok (.iload 7, 2) := by decide +kernel
theorem dX3_addNeed_28 : decode cX3_addNeed 28 = .ok (.iadd, 1) := by decide +kernel
theorem dX3_addNeed_29 : decode cX3_addNeed 29 = .ok (.iload_n 3, 1) := by decide +kernel
theorem dX3_addNeed_30 : decode cX3_addNeed 30 = .ok (.invokevirtual 46, 3) := by decide +kernel
theorem dX3_addNeed_33 : decode cX3_addNeed 33 = .ok (.aload_n 0, 1) := by decide +kernel
theorem dX3_addNeed_34 : decode cX3_addNeed 34 = .ok (.getfield 32, 3) := by decide +kernel
theorem dX3_addNeed_37 : decode cX3_addNeed 37 = .ok (.iload 6, 2) := by decide +kernel
theorem dX3_addNeed_39 : decode cX3_addNeed 39 = .ok (.iconst 4, 1) := by decide +kernel
theorem dX3_addNeed_40 : decode cX3_addNeed 40 = .ok (.imul, 1) := by decide +kernel
theorem dX3_addNeed_41 : decode cX3_addNeed 41 = .ok (.iload 7, 2) := by decide +kernel
theorem dX3_addNeed_43 : decode cX3_addNeed 43 = .ok (.iadd, 1) := by decide +kernel
theorem dX3_addNeed_44 : decode cX3_addNeed 44 = .ok (.iload 4, 2) := by decide +kernel
theorem dX3_addNeed_46 : decode cX3_addNeed 46 = .ok (.iload 5, 2) := by decide +kernel
theorem dX3_addNeed_48 : decode cX3_addNeed 48 = .ok (.invokestatic 50, 3) := by decide +kernel
theorem dX3_addNeed_51 : decode cX3_addNeed 51 = .ok (.invokevirtual 46, 3) := by decide +kernel
theorem dX3_addNeed_54 : decode cX3_addNeed 54 = .ok (.aload_n 0, 1) := by decide +kernel
theorem dX3_addNeed_55 : decode cX3_addNeed 55 = .ok (.getfield 26, 3) := by decide +kernel
theorem dX3_addNeed_58 : decode cX3_addNeed 58 = .ok (.iload 6, 2) := by decide +kernel
theorem dX3_addNeed_60 : decode cX3_addNeed 60 = .ok (.iload 7, 2) := by decide +kernel
theorem dX3_addNeed_62 : decode cX3_addNeed 62 = .ok (.iconst 1, 1) := by decide +kernel
theorem dX3_addNeed_63 : decode cX3_addNeed 63 = .ok (.iadd, 1) := by decide +kernel
theorem dX3_addNeed_64 : decode cX3_addNeed 64 = .ok (.invokevirtual 46, 3) := by decide +kernel
theorem dX3_addNeed_67 : decode cX3_addNeed 67 = .ok (.iload 7, 2) := by decide +kernel
theorem dX3_addNeed_69 : decode cX3_addNeed 69 = .ok (.iconst 1, 1) := by decide +kernel
theorem dX3_addNeed_70 : decode cX3_addNeed 70 = .ok (.iadd, 1) := by decide +kernel
theorem dX3_addNeed_71 : decode cX3_addNeed 71 = .ok (.ireturn, 1) := by decide +kernel
set_option maxRecDepth 20000 in
theorem ggX3_neededPart_X3_placeOf : GoodIn wsX3_neededPart wsX3_placeOf := goodIn_r _ [5] (by decide +kernel) (by decide +kernel)
set_option maxRecDepth 20000 in
theorem gX3_neededPart_X3_placeOf : GoodIn wsX3_neededPart (va_wsS RX3 42 yX3_placeOf wsX3_placeOf) := goodIn_app (goodIn_of _ (by decide +kernel)) ggX3_neededPart_X3_placeOf
set_option maxRecDepth 20000 in
theorem ggX3_neededPart_X6_at : GoodIn wsX3_neededPart wsX6_at := goodIn_r _ [10, 11, 18] (by decide +kernel) (by decide +kernel)
set_option maxRecDepth 20000 in
theorem gX3_neededPart_X6_at : GoodIn wsX3_neededPart (wsV RX3 38 RX6 yX6_at wsX6_at) := goodIn_app (goodIn_of _ (by decide +kernel)) ggX3_neededPart_X6_at
theorem dX3_neededPart_0 : decode cX3_neededPart 0 = .ok (.aload_n 0, 1) := by decide +kernel
theorem dX3_neededPart_1 : decode cX3_neededPart 1 = .ok (.getfield 29, 3) := by decide +kernel
theorem dX3_neededPart_4 : decode cX3_neededPart 4 = .ok (.iload_n 1, 1) := by decide +kernel
theorem dX3_neededPart_5 : decode cX3_neededPart 5 = .ok (.iload_n 2, 1) := by decide +kernel
theorem dX3_neededPart_6 : decode cX3_neededPart 6 = .ok (.invokestatic 42, 3) := by decide +kernel
theorem dX3_neededPart_9 : decode cX3_neededPart 9 = .ok (.iconst 4, 1) := by decide +kernel
theorem dX3_neededPart_10 : decode cX3_neededPart 10 = .ok (.imul, 1) := by decide +kernel
theorem dX3_neededPart_11 : decode cX3_neededPart 11 = .ok (.iload_n 3, 1) := by decide +kernel
theorem dX3_neededPart_12 : decode cX3_neededPart 12 = .ok (.iadd, 1) := by decide +kernel
theorem dX3_neededPart_13 : decode cX3_neededPart 13 = .ok (.invokevirtual 38, 3) := by decide +kernel
theorem dX3_neededPart_16 : decode cX3_neededPart 16 = .ok (.ireturn, 1) := by decide +kernel
set_option maxRecDepth 20000 in
theorem ggX3_neededVersions_X3_placeOf : GoodIn wsX3_neededVersions wsX3_placeOf := goodIn_r _ [5] (by decide +kernel) (by decide +kernel)
set_option maxRecDepth 20000 in
theorem gX3_neededVersions_X3_placeOf : GoodIn wsX3_neededVersions (va_wsS RX3 42 yX3_placeOf wsX3_placeOf) := goodIn_app (goodIn_of _ (by decide +kernel)) ggX3_neededVersions_X3_placeOf
set_option maxRecDepth 20000 in
theorem ggX3_neededVersions_X6_at : GoodIn wsX3_neededVersions wsX6_at := goodIn_r _ [10, 11, 18] (by decide +kernel) (by decide +kernel)
set_option maxRecDepth 20000 in
theorem gX3_neededVersions_X6_at : GoodIn wsX3_neededVersions (wsV RX3 38 RX6 yX6_at wsX6_at) := goodIn_app (goodIn_of _ (by decide +kernel)) ggX3_neededVersions_X6_at
theorem dX3_neededVersions_0 : decode cX3_neededVersions 0 = .ok (.aload_n 0, 1) := by decide +kernel
theorem dX3_neededVersions_1 : decode cX3_neededVersions 1 = .ok (.getfield 32, 3) := by decide +kernel
theorem dX3_neededVersions_4 : decode cX3_neededVersions 4 = .ok (.iload_n 1, 1) := by decide +kernel
theorem dX3_neededVersions_5 : decode cX3_neededVersions 5 = .ok (.iload_n 2, 1) := by decide +kernel
theorem dX3_neededVersions_6 : decode cX3_neededVersions 6 = .ok (.invokestatic 42, 3) := by decide +kernel
theorem dX3_neededVersions_9 : decode cX3_neededVersions 9 = .ok (.iconst 4, 1) := by decide +kernel
theorem dX3_neededVersions_10 : decode cX3_neededVersions 10 = .ok (.imul, 1) := by decide +kernel
theorem dX3_neededVersions_11 : decode cX3_neededVersions 11 = .ok (.iload_n 3, 1) := by decide +kernel
theorem dX3_neededVersions_12 : decode cX3_neededVersions 12 = .ok (.iadd, 1) := by decide +kernel
theorem dX3_neededVersions_13 : decode cX3_neededVersions 13 = .ok (.invokevirtual 38, 3) := by decide +kernel
theorem dX3_neededVersions_16 : decode cX3_neededVersions 16 = .ok (.ireturn, 1) := by decide +kernel
set_option maxRecDepth 20000 in
theorem ggX3_markReplaced_X3_placeOf : GoodIn wsX3_markReplaced wsX3_placeOf := goodIn_r _ [5] (by decide +kernel) (by decide +kernel)
set_option maxRecDepth 20000 in
theorem gX3_markReplaced_X3_placeOf : GoodIn wsX3_markReplaced (va_wsS RX3 42 yX3_placeOf wsX3_placeOf) := goodIn_app (goodIn_of _ (by decide +kernel)) ggX3_markReplaced_X3_placeOf
set_option maxRecDepth 20000 in
theorem ggX3_markReplaced_X6_put : GoodIn wsX3_markReplaced wsX6_put := goodIn_r _ [10, 11, 18] (by decide +kernel) (by decide +kernel)
set_option maxRecDepth 20000 in
theorem gX3_markReplaced_X6_put : GoodIn wsX3_markReplaced (wsV RX3 46 RX6 yX6_put wsX6_put) := goodIn_app (goodIn_of _ (by decide +kernel)) ggX3_markReplaced_X6_put
theorem dX3_markReplaced_0 : decode cX3_markReplaced 0 = .ok (.aload_n 0, 1) := by decide +kernel
theorem dX3_markReplaced_1 : decode cX3_markReplaced 1 = .ok (.getfield 23, 3) := by decide +kernel
theorem dX3_markReplaced_4 : decode cX3_markReplaced 4 = .ok (.iload_n 1, 1) := by decide +kernel
theorem dX3_markReplaced_5 : decode cX3_markReplaced 5 = .ok (.iload_n 2, 1) := by decide +kernel
theorem dX3_markReplaced_6 : decode cX3_markReplaced 6 = .ok (.invokestatic 42, 3) := by decide +kernel
theorem dX3_markReplaced_9 : decode cX3_markReplaced 9 = .ok (.iconst 1, 1) := by decide +kernel
theorem dX3_markReplaced_10 : decode cX3_markReplaced 10 = .ok (.invokevirtual 46, 3) := by decide +kernel
theorem dX3_markReplaced_13 : decode cX3_markReplaced 13 = .ok (.return_, 1) := by decide +kernel
set_option maxRecDepth 20000 in
theorem ggX3_isReplaced_X3_placeOf : GoodIn wsX3_isReplaced wsX3_placeOf := goodIn_r _ [5] (by decide +kernel) (by decide +kernel)
set_option maxRecDepth 20000 in
theorem gX3_isReplaced_X3_placeOf : GoodIn wsX3_isReplaced (va_wsS RX3 42 yX3_placeOf wsX3_placeOf) := goodIn_app (goodIn_of _ (by decide +kernel)) ggX3_isReplaced_X3_placeOf
set_option maxRecDepth 20000 in
theorem ggX3_isReplaced_X6_at : GoodIn wsX3_isReplaced wsX6_at := goodIn_r _ [10, 11, 18] (by decide +kernel) (by decide +kernel)
set_option maxRecDepth 20000 in
theorem gX3_isReplaced_X6_at : GoodIn wsX3_isReplaced (wsV RX3 38 RX6 yX6_at wsX6_at) := goodIn_app (goodIn_of _ (by decide +kernel)) ggX3_isReplaced_X6_at
theorem dX3_isReplaced_0 : decode cX3_isReplaced 0 = .ok (.aload_n 0, 1) := by decide +kernel
theorem dX3_isReplaced_1 : decode cX3_isReplaced 1 = .ok (.getfield 23, 3) := by decide +kernel
theorem dX3_isReplaced_4 : decode cX3_isReplaced 4 = .ok (.iload_n 1, 1) := by decide +kernel
theorem dX3_isReplaced_5 : decode cX3_isReplaced 5 = .ok (.iload_n 2, 1) := by decide +kernel
theorem dX3_isReplaced_6 : decode cX3_isReplaced 6 = .ok (.invokestatic 42, 3) := by decide +kernel
theorem dX3_isReplaced_9 : decode cX3_isReplaced 9 = .ok (.invokevirtual 38, 3) := by decide +kernel
theorem dX3_isReplaced_12 : decode cX3_isReplaced 12 = .ok (.ifCond .eq 7, 3) := by decide +kernel
theorem dX3_isReplaced_15 : decode cX3_isReplaced 15 = .ok (.iconst 1, 1) := by decide +kernel
theorem dX3_isReplaced_16 : decode cX3_isReplaced 16 = .ok (.goto 4, 3) := by decide +kernel
theorem dX3_isReplaced_19 : decode cX3_isReplaced 19 = .ok (.iconst 0, 1) := by decide +kernel
theorem dX3_isReplaced_20 : decode cX3_isReplaced 20 = .ok (.ireturn, 1) := by decide +kernel
set_option maxRecDepth 20000 in
theorem ggX3_current_X6_at : GoodIn wsX3_current wsX6_at := goodIn_r _ [6, 7, 26] (by decide +kernel) (by decide +kernel)
set_option maxRecDepth 20000 in
theorem gX3_current_X6_at : GoodIn wsX3_current (wsV RX3 38 RX6 yX6_at wsX6_at) := goodIn_app (goodIn_of _ (by decide +kernel)) ggX3_current_X6_at
set_option maxRecDepth 20000 in
theorem ggX3_current_X3_isReplaced : GoodIn wsX3_current wsX3_isReplaced := goodIn_r _ [12, 13, 14, 15, 11, 16, 2, 3, 4, 5, 6, 7, 20, 21, 22, 23, 24, 25, 26] (by decide +kernel) (by decide +kernel)
set_option maxRecDepth 20000 in
theorem gX3_current_X3_isReplaced : GoodIn wsX3_current (wsV RX3 53 RX3 yX3_isReplaced wsX3_isReplaced) := goodIn_app (goodIn_of _ (by decide +kernel)) ggX3_current_X3_isReplaced
set_option maxRecDepth 20000 in
theorem ggX3_current_X3_versionSet : GoodIn wsX3_current wsX3_versionSet := goodIn_r _ [19] (by decide +kernel) (by decide +kernel)
set_option maxRecDepth 20000 in
theorem gX3_current_X3_versionSet : GoodIn wsX3_current (va_wsS RX3 50 yX3_versionSet wsX3_versionSet) := goodIn_app (goodIn_of _ (by decide +kernel)) ggX3_current_X3_versionSet
theorem dX3_current_0 : decode cX3_current 0 = .ok (.iconst 0, 1) := by decide +kernel
theorem dX3_current_1 : decode cX3_current 1 = .ok (.istore_n 2, 1) := by decide +kernel
theorem dX3_current_2 : decode cX3_current 2 = .ok (.iconst 1, 1) := by decide +kernel
theorem dX3_current_3 : decode cX3_current 3 = .ok (.istore_n 3, 1) := by decide +kernel
theorem dX3_current_4 : decode cX3_current 4 = .ok (.iload_n 3, 1) := by decide +kernel
theorem dX3_current_5 : decode cX3_current 5 = .ok (.aload_n 0, 1) := by decide +kernel
theorem dX3_current_6 : decode cX3_current 6 = .ok (.getfield 14, 3) := by decide +kernel
theorem dX3_current_9 : decode cX3_current 9 = .ok (.iload_n 1, 1) := by decide +kernel
theorem dX3_current_10 : decode cX3_current 10 = .ok (.invokevirtual 38, 3) := by decide +kernel
theorem dX3_current_13 : decode cX3_current 13 = .ok (.if_icmp .gt 31, 3) := by decide +kernel
theorem dX3_current_16 : decode cX3_current 16 = .ok (.iload_n 3, 1) := by decide +kernel
theorem dX3_current_17 : decode cX3_current 17 = .ok (.iconst 3, 1) := by decide +kernel
theorem dX3_current_18 : decode cX3_current 18 = .ok (.if_icmp .gt 26, 3) := by decide +kernel
theorem dX3_current_21 : decode cX3_current 21 = .ok (.aload_n 0, 1) := by decide +kernel
theorem dX3_current_22 : decode cX3_current 22 = .ok (.iload_n 1, 1) := by decide +kernel
theorem dX3_current_23 : decode cX3_current 23 = .ok (.iload_n 3, 1) := by decide +kernel
theorem dX3_current_24 : decode cX3_current 24 = .ok (.invokevirtual 53, 3) := by decide +kernel
theorem dX3_current_27 : decode cX3_current 27 = .ok (.ifCond .ne 11, 3) := by decide +kernel
theorem dX3_current_30 : decode cX3_current 30 = .ok (.iload_n 2, 1) := by decide +kernel
theorem dX3_current_31 : decode cX3_current 31 = .ok (.iload_n 3, 1) := by decide +kernel
theorem dX3_current_32 : decode cX3_current 32 = .ok (.iload_n 3, 1) := by decide +kernel
theorem dX3_current_33 : decode cX3_current 33 = .ok (.invokestatic 50, 3) := by decide +kernel
theorem dX3_current_36 : decode cX3_current 36 = .ok (.ior, 1) := by decide +kernel
theorem dX3_current_37 : decode cX3_current 37 = .ok (.istore_n 2, 1) := by decide +kernel
theorem dX3_current_38 : decode cX3_current 38 = .ok (.iinc 3 1, 3) := by decide +kernel
theorem dX3_current_41 : decode cX3_current 41 = .ok (.goto (-37), 3) := by decide +kernel
theorem dX3_current_44 : decode cX3_current 44 = .ok (.iload_n 2, 1) := by decide +kernel
theorem dX3_current_45 : decode cX3_current 45 = .ok (.ireturn, 1) := by decide +kernel
set_option maxRecDepth 20000 in
theorem ggX3_costOf_X1_versionOf : GoodIn wsX3_costOf wsX1_versionOf := goodIn_r _ [5] (by decide +kernel) (by decide +kernel)
set_option maxRecDepth 20000 in
theorem gX3_costOf_X1_versionOf : GoodIn wsX3_costOf (va_wsS RX3 57 yX1_versionOf wsX1_versionOf) := goodIn_app (goodIn_of _ (by decide +kernel)) ggX3_costOf_X1_versionOf
set_option maxRecDepth 20000 in
theorem ggX3_costOf_X3_placeOf : GoodIn wsX3_costOf wsX3_placeOf := goodIn_r _ [9] (by decide +kernel) (by decide +kernel)
set_option maxRecDepth 20000 in
theorem gX3_costOf_X3_placeOf : GoodIn wsX3_costOf (va_wsS RX3 42 yX3_placeOf wsX3_placeOf) := goodIn_app (goodIn_of _ (by decide +kernel)) ggX3_costOf_X3_placeOf
set_option maxRecDepth 20000 in
theorem ggX3_costOf_X6_at : GoodIn wsX3_costOf wsX6_at := goodIn_r _ [14, 15, 22] (by decide +kernel) (by decide +kernel)
set_option maxRecDepth 20000 in
theorem gX3_costOf_X6_at : GoodIn wsX3_costOf (wsV RX3 38 RX6 yX6_at wsX6_at) := goodIn_app (goodIn_of _ (by decide +kernel)) ggX3_costOf_X6_at
theorem dX3_costOf_0 : decode cX3_costOf 0 = .ok (.iconst 0, 1) := by decide +kernel
theorem dX3_costOf_1 : decode cX3_costOf 1 = .ok (.istore_n 2, 1) := by decide +kernel
theorem dX3_costOf_2 : decode cX3_costOf 2 = .ok (.iconst 0, 1) := by decide +kernel
theorem dX3_costOf_3 : decode cX3_costOf 3 = .ok (.istore_n 3, 1) := by decide +kernel
theorem dX3_costOf_4 : decode cX3_costOf 4 = .ok (.iload_n 3, 1) := by decide +kernel
theorem dX3_costOf_5 : decode cX3_costOf 5 = .ok (.bipush 8, 2) := by decide +kernel
theorem dX3_costOf_7 : decode cX3_costOf 7 = .ok (.if_icmp .ge 37, 3) := by decide +kernel
theorem dX3_costOf_10 : decode cX3_costOf 10 = .ok (.iload_n 1, 1) := by decide +kernel
theorem dX3_costOf_11 : decode cX3_costOf 11 = .ok (.iload_n 3, 1) := by decide +kernel
theorem dX3_costOf_12 : decode cX3_costOf 12 = .ok (.invokestatic 57, 3) := by decide +kernel
theorem dX3_costOf_15 : decode cX3_costOf 15 = .ok (.istore 4, 2) := by decide +kernel
theorem dX3_costOf_17 : decode cX3_costOf 17 = .ok (.iload 4, 2) := by decide +kernel
theorem dX3_costOf_19 : decode cX3_costOf 19 = .ok (.ifCond .eq 19, 3) := by decide +kernel
theorem dX3_costOf_22 : decode cX3_costOf 22 = .ok (.iload_n 2, 1) := by decide +kernel
theorem dX3_costOf_23 : decode cX3_costOf 23 = .ok (.aload_n 0, 1) := by decide +kernel
theorem dX3_costOf_24 : decode cX3_costOf 24 = .ok (.getfield 20, 3) := by decide +kernel
theorem dX3_costOf_27 : decode cX3_costOf 27 = .ok (.iload_n 3, 1) := by decide +kernel
theorem dX3_costOf_28 : decode cX3_costOf 28 = .ok (.iload 4, 2) := by decide +kernel
theorem dX3_costOf_30 : decode cX3_costOf 30 = .ok (.invokestatic 42, 3) := by decide +kernel
theorem dX3_costOf_33 : decode cX3_costOf 33 = .ok (.invokevirtual 38, 3) := by decide +kernel
theorem dX3_costOf_36 : decode cX3_costOf 36 = .ok (.iadd, 1) := by decide +kernel
theorem dX3_costOf_37 : decode cX3_costOf 37 = .ok (.istore_n 2, 1) := by decide +kernel
theorem dX3_costOf_38 : decode cX3_costOf 38 = .ok (.iinc 3 1, 3) := by decide +kernel
theorem dX3_costOf_41 : decode cX3_costOf 41 = .ok (.goto (-37), 3) := by decide +kernel
theorem dX3_costOf_44 : decode cX3_costOf 44 = .ok (.iload_n 2, 1) := by decide +kernel
theorem dX3_costOf_45 : decode cX3_costOf 45 = .ok (.ireturn, 1) := by decide +kernel
theorem dX3_versionSet_0 : decode cX3_versionSet 0 = .ok (.iconst 2, 1) := by decide +kernel
theorem dX3_versionSet_1 : decode cX3_versionSet 1 = .ok (.iload_n 1, 1) := by decide +kernel
theorem dX3_versionSet_2 : decode cX3_versionSet 2 = .ok (.ishl, 1) := by decide +kernel
theorem dX3_versionSet_3 : decode cX3_versionSet 3 = .ok (.iconst 1, 1) := by decide +kernel
theorem dX3_versionSet_4 : decode cX3_versionSet 4 = .ok (.iload_n 0, 1) := by decide +kernel
theorem dX3_versionSet_5 : decode cX3_versionSet 5 = .ok (.ishl, 1) := by decide +kernel
theorem dX3_versionSet_6 : decode cX3_versionSet 6 = .ok (.isub, 1) := by decide +kernel
theorem dX3_versionSet_7 : decode cX3_versionSet 7 = .ok (.ireturn, 1) := by decide +kernel
theorem dX3_placeOf_0 : decode cX3_placeOf 0 = .ok (.iload_n 0, 1) := by decide +kernel
theorem dX3_placeOf_1 : decode cX3_placeOf 1 = .ok (.iconst 3, 1) := by decide +kernel
theorem dX3_placeOf_2 : decode cX3_placeOf 2 = .ok (.imul, 1) := by decide +kernel
theorem dX3_placeOf_3 : decode cX3_placeOf 3 = .ok (.iload_n 1, 1) := by decide +kernel
theorem dX3_placeOf_4 : decode cX3_placeOf 4 = .ok (.iadd, 1) := by decide +kernel
theorem dX3_placeOf_5 : decode cX3_placeOf 5 = .ok (.iconst 1, 1) := by decide +kernel
theorem dX3_placeOf_6 : decode cX3_placeOf 6 = .ok (.isub, 1) := by decide +kernel
theorem dX3_placeOf_7 : decode cX3_placeOf 7 = .ok (.ireturn, 1) := by decide +kernel
end
section
set_option maxRecDepth 20000 in
theorem ggX4_init_X6_init : GoodIn wsX4_init wsX6_init := goodIn_r _ [12, 13, 2, 3, 14, 15, 16] (by decide +kernel) (by decide +kernel)
set_option maxRecDepth 20000 in
theorem gX4_init_X6_init : GoodIn wsX4_init (wsX6_init) := ggX4_init_X6_init
theorem dX4_init_0 : decode cX4_init 0 = .ok (.aload_n 0, 1) := by decide +kernel
theorem dX4_init_1 : decode cX4_init 1 = .ok (.invokespecial 3, 3) := by decide +kernel
theorem dX4_init_4 : decode cX4_init 4 = .ok (.aload_n 0, 1) := by decide +kernel
theorem dX4_init_5 : decode cX4_init 5 = .ok (.new 9, 3) := by decide +kernel
theorem dX4_init_8 : decode cX4_init 8 = .ok (.dup, 1) := by decide +kernel
theorem dX4_init_9 : decode cX4_init 9 = .ok (.bipush 8, 2) := by decide +kernel
theorem dX4_init_11 : decode cX4_init 11 = .ok (.invokespecial 11, 3) := by decide +kernel
theorem dX4_init_14 : decode cX4_init 14 = .ok (.putfield 14, 3) := by decide +kernel
theorem dX4_init_17 : decode cX4_init 17 = .ok (.aload_n 0, 1) := by decide +kernel
theorem dX4_init_18 : decode cX4_init 18 = .ok (.new 9, 3) := by decide +kernel
theorem dX4_init_21 : decode cX4_init 21 = .ok (.dup, 1) := by decide +kernel
theorem dX4_init_22 : decode cX4_init 22 = .ok (.bipush 8, 2) := by decide +kernel
theorem dX4_init_24 : decode cX4_init 24 = .ok (.invokespecial 11, 3) := by decide +kernel
theorem dX4_init_27 : decode cX4_init 27 = .ok (.putfield 20, 3) := by decide +kernel
theorem dX4_init_30 : decode cX4_init 30 = .ok (.aload_n 0, 1) := by decide +kernel
theorem dX4_init_31 : decode cX4_init 31 = .ok (.new 9, 3) := by decide +kernel
theorem dX4_init_34 : decode cX4_init 34 = .ok (.dup, 1) := by decide +kernel
theorem dX4_init_35 : decode cX4_init 35 = .ok (.bipush 8, 2) := by decide +kernel
theorem dX4_init_37 : decode cX4_init 37 = .ok (.invokespecial 11, 3) := by decide +kernel
theorem dX4_init_40 : decode cX4_init 40 = .ok (.putfield 23, 3) := by decide +kernel
theorem dX4_init_43 : decode cX4_init 43 = .ok (.return_, 1) := by decide +kernel
set_option maxRecDepth 20000 in
theorem ggX4_clear_X6_fill : GoodIn wsX4_clear wsX6_fill := goodIn_r _ [8, 9, 14] (by decide +kernel) (by decide +kernel)
set_option maxRecDepth 20000 in
theorem gX4_clear_X6_fill : GoodIn wsX4_clear (wsV RX4 26 RX6 yX6_fill wsX6_fill) := goodIn_app (goodIn_of _ (by decide +kernel)) ggX4_clear_X6_fill
theorem dX4_clear_0 : decode cX4_clear 0 = .ok (.aload_n 0, 1) := by decide +kernel
theorem dX4_clear_1 : decode cX4_clear 1 = .ok (.getfield 14, 3) := by decide +kernel
theorem dX4_clear_4 : decode cX4_clear 4 = .ok (.bipush 100, 2) := by decide +kernel
theorem dX4_clear_6 : decode cX4_clear 6 = .ok (.invokevirtual 26, 3) := by decide +kernel
theorem dX4_clear_9 : decode cX4_clear 9 = .ok (.aload_n 0, 1) := by decide +kernel
theorem dX4_clear_10 : decode cX4_clear 10 = .ok (.getfield 23, 3) := by decide +kernel
theorem dX4_clear_13 : decode cX4_clear 13 = .ok (.iconst 0, 1) := by decide +kernel
theorem dX4_clear_14 : decode cX4_clear 14 = .ok (.invokevirtual 26, 3) := by decide +kernel
theorem dX4_clear_17 : decode cX4_clear 17 = .ok (.aload_n 0, 1) := by decide +kernel
theorem dX4_clear_18 : decode cX4_clear 18 = .ok (.iconst 0, 1) := by decide +kernel
theorem dX4_clear_19 : decode cX4_clear 19 = .ok (.putfield 29, 3) := by decide +kernel
theorem dX4_clear_22 : decode cX4_clear 22 = .ok (.return_, 1) := by decide +kernel
theorem dX4_today_0 : decode cX4_today 0 = .ok (.aload_n 0, 1) := by decide +kernel
theorem dX4_today_1 : decode cX4_today 1 = .ok (.getfield 29, 3) := by decide +kernel
theorem dX4_today_4 : decode cX4_today 4 = .ok (.ireturn, 1) := by decide +kernel
theorem dX4_addDays_0 : decode cX4_addDays 0 = .ok (.aload_n 0, 1) := by decide +kernel
theorem dX4_addDays_1 : decode cX4_addDays 1 = .ok (.dup, 1) := by decide +kernel
theorem dX4_addDays_2 : decode cX4_addDays 2 = .ok (.getfield 29, 3) := by decide +kernel
theorem dX4_addDays_5 : decode cX4_addDays 5 = .ok (.iload_n 1, 1) := by decide +kernel
theorem dX4_addDays_6 : decode cX4_addDays 6 = .ok (.iadd, 1) := by decide +kernel
theorem dX4_addDays_7 : decode cX4_addDays 7 = .ok (.putfield 29, 3) := by decide +kernel
theorem dX4_addDays_10 : decode cX4_addDays 10 = .ok (.aload_n 0, 1) := by decide +kernel
theorem dX4_addDays_11 : decode cX4_addDays 11 = .ok (.getfield 29, 3) := by decide +kernel
theorem dX4_addDays_14 : decode cX4_addDays 14 = .ok (.ireturn, 1) := by decide +kernel
set_option maxRecDepth 20000 in
theorem ggX4_changeLimit_X6_at : GoodIn wsX4_changeLimit wsX6_at := goodIn_r _ [6, 7, 16] (by decide +kernel) (by decide +kernel)
set_option maxRecDepth 20000 in
theorem gX4_changeLimit_X6_at : GoodIn wsX4_changeLimit (wsV RX4 33 RX6 yX6_at wsX6_at) := goodIn_app (goodIn_of _ (by decide +kernel)) ggX4_changeLimit_X6_at
set_option maxRecDepth 20000 in
theorem ggX4_changeLimit_X6_put : GoodIn wsX4_changeLimit wsX6_put := goodIn_r _ [11, 7, 16] (by decide +kernel) (by decide +kernel)
set_option maxRecDepth 20000 in
theorem gX4_changeLimit_X6_put : GoodIn wsX4_changeLimit (wsV RX4 37 RX6 yX6_put wsX6_put) := goodIn_app (goodIn_of _ (by decide +kernel)) ggX4_changeLimit_X6_put
theorem dX4_changeLimit_0 : decode cX4_changeLimit 0 = .ok (.aload_n 0, 1) := by decide +kernel
theorem dX4_changeLimit_1 : decode cX4_changeLimit 1 = .ok (.getfield 14, 3) := by decide +kernel
theorem dX4_changeLimit_4 : decode cX4_changeLimit 4 = .ok (.iload_n 1, 1) := by decide +kernel
theorem dX4_changeLimit_5 : decode cX4_changeLimit 5 = .ok (.invokevirtual 33, 3) := by decide +kernel
theorem dX4_changeLimit_8 : decode cX4_changeLimit 8 = .ok (.istore_n 3, 1) := by decide +kernel
theorem dX4_changeLimit_9 : decode cX4_changeLimit 9 = .ok (.aload_n 0, 1) := by decide +kernel
theorem dX4_changeLimit_10 : decode cX4_changeLimit 10 = .ok (.getfield 14, 3) := by decide +kernel
theorem dX4_changeLimit_13 : decode cX4_changeLimit 13 = .ok (.iload_n 1, 1) := by decide +kernel
theorem dX4_changeLimit_14 : decode cX4_changeLimit 14 = .ok (.iload_n 2, 1) := by decide +kernel
theorem dX4_changeLimit_15 : decode cX4_changeLimit 15 = .ok (.invokevirtual 37, 3) := by decide +kernel
theorem dX4_changeLimit_18 : decode cX4_changeLimit 18 = .ok (.iload_n 3, 1) := by decide +kernel
theorem dX4_changeLimit_19 : decode cX4_changeLimit 19 = .ok (.ireturn, 1) := by decide +kernel
set_option maxRecDepth 20000 in
theorem ggX4_sendOnLeave_X6_put : GoodIn wsX4_sendOnLeave wsX6_put := goodIn_r _ [8, 9, 18] (by decide +kernel) (by decide +kernel)
set_option maxRecDepth 20000 in
theorem gX4_sendOnLeave_X6_put : GoodIn wsX4_sendOnLeave (wsV RX4 37 RX6 yX6_put wsX6_put) := goodIn_app (goodIn_of _ (by decide +kernel)) ggX4_sendOnLeave_X6_put
set_option maxRecDepth 20000 in
theorem ggX4_sendOnLeave_X6_at : GoodIn wsX4_sendOnLeave wsX6_at := goodIn_r _ [13, 9, 18] (by decide +kernel) (by decide +kernel)
set_option maxRecDepth 20000 in
theorem gX4_sendOnLeave_X6_at : GoodIn wsX4_sendOnLeave (wsV RX4 33 RX6 yX6_at wsX6_at) := goodIn_app (goodIn_of _ (by decide +kernel)) ggX4_sendOnLeave_X6_at
theorem dX4_sendOnLeave_0 : decode cX4_sendOnLeave 0 = .ok (.aload_n 0, 1) := by decide +kernel
theorem dX4_sendOnLeave_1 : decode cX4_sendOnLeave 1 = .ok (.getfield 20, 3) := by decide +kernel
theorem dX4_sendOnLeave_4 : decode cX4_sendOnLeave 4 = .ok (.iload_n 1, 1) := by decide +kernel
theorem dX4_sendOnLeave_5 : decode cX4_sendOnLeave 5 = .ok (.iload_n 2, 1) := by decide +kernel
theorem dX4_sendOnLeave_6 : decode cX4_sendOnLeave 6 = .ok (.invokevirtual 37, 3) := by decide +kernel
theorem dX4_sendOnLeave_9 : decode cX4_sendOnLeave 9 = .ok (.aload_n 0, 1) := by decide +kernel
theorem dX4_sendOnLeave_10 : decode cX4_sendOnLeave 10 = .ok (.getfield 23, 3) := by decide +kernel
theorem dX4_sendOnLeave_13 : decode cX4_sendOnLeave 13 = .ok (.iload_n 1, 1) := by decide +kernel
theorem dX4_sendOnLeave_14 : decode cX4_sendOnLeave 14 = .ok (.aload_n 0, 1) := by decide +kernel
theorem dX4_sendOnLeave_15 : decode cX4_sendOnLeave 15 = .ok (.getfield 29, 3) := by decide +kernel
theorem dX4_sendOnLeave_18 : decode cX4_sendOnLeave 18 = .ok (.iload_n 3, 1) := by decide +kernel
theorem dX4_sendOnLeave_19 : decode cX4_sendOnLeave 19 = .ok (.iadd, 1) := by decide +kernel
theorem dX4_sendOnLeave_20 : decode cX4_sendOnLeave 20 = .ok (.invokevirtual 37, 3) := by decide +kernel
theorem dX4_sendOnLeave_23 : decode cX4_sendOnLeave 23 = .ok (.aload_n 0, 1) := by decide +kernel
theorem dX4_sendOnLeave_24 : decode cX4_sendOnLeave 24 = .ok (.getfield 23, 3) := by decide +kernel
theorem dX4_sendOnLeave_27 : decode cX4_sendOnLeave 27 = .ok (.iload_n 1, 1) := by decide +kernel
theorem dX4_sendOnLeave_28 : decode cX4_sendOnLeave 28 = .ok (.invokevirtual 33, 3) := by decide +kernel
theorem dX4_sendOnLeave_31 : decode cX4_sendOnLeave 31 = .ok (.ireturn, 1) := by decide +kernel
set_option maxRecDepth 20000 in
theorem ggX4_backOf_X6_at : GoodIn wsX4_backOf wsX6_at := goodIn_r _ [6, 7, 12] (by decide +kernel) (by decide +kernel)
set_option maxRecDepth 20000 in
theorem gX4_backOf_X6_at : GoodIn wsX4_backOf (wsV RX4 33 RX6 yX6_at wsX6_at) := goodIn_app (goodIn_of _ (by decide +kernel)) ggX4_backOf_X6_at
theorem dX4_backOf_0 : decode cX4_backOf 0 = .ok (.aload_n 0, 1) := by decide +kernel
theorem dX4_backOf_1 : decode cX4_backOf 1 = .ok (.getfield 23, 3) := by decide +kernel
theorem dX4_backOf_4 : decode cX4_backOf 4 = .ok (.iload_n 1, 1) := by decide +kernel
theorem dX4_backOf_5 : decode cX4_backOf 5 = .ok (.invokevirtual 33, 3) := by decide +kernel
theorem dX4_backOf_8 : decode cX4_backOf 8 = .ok (.ireturn, 1) := by decide +kernel
set_option maxRecDepth 20000 in
theorem ggX4_isAway_X6_at : GoodIn wsX4_isAway wsX6_at := goodIn_r _ [7, 8, 13] (by decide +kernel) (by decide +kernel)
set_option maxRecDepth 20000 in
theorem gX4_isAway_X6_at : GoodIn wsX4_isAway (wsV RX4 33 RX6 yX6_at wsX6_at) := goodIn_app (goodIn_of _ (by decide +kernel)) ggX4_isAway_X6_at
theorem dX4_isAway_0 : decode cX4_isAway 0 = .ok (.aload_n 0, 1) := by decide +kernel
theorem dX4_isAway_1 : decode cX4_isAway 1 = .ok (.getfield 29, 3) := by decide +kernel
theorem dX4_isAway_4 : decode cX4_isAway 4 = .ok (.aload_n 0, 1) := by decide +kernel
theorem dX4_isAway_5 : decode cX4_isAway 5 = .ok (.getfield 23, 3) := by decide +kernel
theorem dX4_isAway_8 : decode cX4_isAway 8 = .ok (.iload_n 1, 1) := by decide +kernel
theorem dX4_isAway_9 : decode cX4_isAway 9 = .ok (.invokevirtual 33, 3) := by decide +kernel
theorem dX4_isAway_12 : decode cX4_isAway 12 = .ok (.if_icmp .ge 7, 3) := by decide +kernel
theorem dX4_isAway_15 : decode cX4_isAway 15 = .ok (.iconst 1, 1) := by decide +kernel
theorem dX4_isAway_16 : decode cX4_isAway 16 = .ok (.goto 4, 3) := by decide +kernel
theorem dX4_isAway_19 : decode cX4_isAway 19 = .ok (.iconst 0, 1) := by decide +kernel
theorem dX4_isAway_20 : decode cX4_isAway 20 = .ok (.ireturn, 1) := by decide +kernel
set_option maxRecDepth 20000 in
theorem ggX4_principalOf_X4_isAway : GoodIn wsX4_principalOf wsX4_isAway := goodIn_r _ [7, 8, 9, 10, 11, 12, 13, 14, 15, 16, 17, 18, 19, 20] (by decide +kernel) (by decide +kernel)
set_option maxRecDepth 20000 in
theorem gX4_principalOf_X4_isAway : GoodIn wsX4_principalOf (wsV RX4 41 RX4 yX4_isAway wsX4_isAway) := goodIn_app (goodIn_of _ (by decide +kernel)) ggX4_principalOf_X4_isAway
set_option maxRecDepth 20000 in
theorem ggX4_principalOf_X6_at : GoodIn wsX4_principalOf wsX6_at := goodIn_r _ [14, 15, 20] (by decide +kernel) (by decide +kernel)
set_option maxRecDepth 20000 in
theorem gX4_principalOf_X6_at : GoodIn wsX4_principalOf (wsV RX4 33 RX6 yX6_at wsX6_at) := goodIn_app (goodIn_of _ (by decide +kernel)) ggX4_principalOf_X6_at
theorem dX4_principalOf_0 : decode cX4_principalOf 0 = .ok (.aload_n 0, 1) := by decide +kernel
theorem dX4_principalOf_1 : decode cX4_principalOf 1 = .ok (.iload_n 1, 1) := by decide +kernel
theorem dX4_principalOf_2 : decode cX4_principalOf 2 = .ok (.invokevirtual 41, 3) := by decide +kernel
theorem dX4_principalOf_5 : decode cX4_principalOf 5 = .ok (.ifCond .eq 5, 3) := by decide +kernel
theorem dX4_principalOf_8 : decode cX4_principalOf 8 = .ok (.iconst (-1), 1) := by decide +kernel
theorem dX4_principalOf_9 : decode cX4_principalOf 9 = .ok (.ireturn, 1) := by decide +kernel
theorem dX4_principalOf_10 : decode cX4_principalOf 10 = .ok (.aload_n 0, 1) := by decide +kernel
theorem dX4_principalOf_11 : decode cX4_principalOf 11 = .ok (.getfield 14, 3) := by decide +kernel
theorem dX4_principalOf_14 : decode cX4_principalOf 14 = .ok (.iload_n 1, 1) := by decide +kernel
theorem dX4_principalOf_15 : decode cX4_principalOf 15 = .ok (.invokevirtual 33, 3) := by decide +kernel
theorem dX4_principalOf_18 : decode cX4_principalOf 18 = .ok (.iload_n 2, 1) := by decide +kernel
theorem dX4_principalOf_19 : decode cX4_principalOf 19 = .ok (.if_icmp .lt 5, 3) := by decide +kernel
theorem dX4_principalOf_22 : decode cX4_principalOf 22 = .ok (.iload_n 1, 1) := by decide +kernel
theorem dX4_principalOf_23 : decode cX4_principalOf 23 = .ok (.ireturn, 1) := by decide +kernel
theorem dX4_principalOf_24 : decode cX4_principalOf 24 = .ok (.iload_n 2, 1) := by decide +kernel
theorem dX4_principalOf_25 : decode cX4_principalOf 25 = .ok (.iconst 2, 1) := by decide +kernel
theorem dX4_principalOf_26 : decode cX4_principalOf 26 = .ok (.aload_n 0, 1) := by decide +kernel
theorem dX4_principalOf_27 : decode cX4_principalOf 27 = .ok (.getfield 14, 3) := by decide +kernel
theorem dX4_principalOf_30 : decode cX4_principalOf 30 = .ok (.iload_n 1, 1) := by decide +kernel
theorem dX4_principalOf_31 : decode cX4_principalOf 31 = .ok (.invokevirtual 33, 3) := by decide +kernel
theorem dX4_principalOf_34 : decode cX4_principalOf 34 = .ok (.imul, 1) := by decide +kernel
theorem dX4_principalOf_35 : decode cX4_principalOf 35 = .ok (.if_icmp .le 5, 3) := by decide +kernel
theorem dX4_principalOf_38 : decode cX4_principalOf 38 = .ok (.iconst (-1), 1) := by decide +kernel
theorem dX4_principalOf_39 : decode cX4_principalOf 39 = .ok (.ireturn, 1) := by decide +kernel
theorem dX4_principalOf_40 : decode cX4_principalOf 40 = .ok (.iconst 0, 1) := by decide +kernel
theorem dX4_principalOf_41 : decode cX4_principalOf 41 = .ok (.istore_n 3, 1) := by decide +kernel
theorem dX4_principalOf_42 : decode cX4_principalOf 42 = .ok (.iload_n 3, 1) := by decide +kernel
theorem dX4_principalOf_43 : decode cX4_principalOf 43 = .ok (.bipush 8, 2) := by decide +kernel
theorem dX4_principalOf_45 : decode cX4_principalOf 45 = .ok (.if_icmp .ge 43, 3) := by decide +kernel
theorem dX4_principalOf_48 : decode cX4_principalOf 48 = .ok (.aload_n 0, 1) := by decide +kernel
theorem dX4_principalOf_49 : decode cX4_principalOf 49 = .ok (.iload_n 3, 1) := by decide +kernel
theorem dX4_principalOf_50 : decode cX4_principalOf 50 = .ok (.invokevirtual 41, 3) := by decide +kernel
theorem dX4_principalOf_53 : decode cX4_principalOf 53 = .ok (.ifCond .eq 29, 3) := by decide +kernel
theorem dX4_principalOf_56 : decode cX4_principalOf 56 = .ok (.aload_n 0, 1) := by decide +kernel
theorem dX4_principalOf_57 : decode cX4_principalOf 57 = .ok (.getfield 20, 3) := by decide +kernel
theorem dX4_principalOf_60 : decode cX4_principalOf 60 = .ok (.iload_n 3, 1) := by decide +kernel
theorem dX4_principalOf_61 : decode cX4_principalOf 61 = .ok (.invokevirtual 33, 3) := by decide +kernel
theorem dX4_principalOf_64 : decode cX4_principalOf 64 = .ok (.iload_n 1, 1) := by decide +kernel
theorem dX4_principalOf_65 : decode cX4_principalOf 65 = .ok (.if_icmp .ne 17, 3) := by decide +kernel
theorem dX4_principalOf_68 : decode cX4_principalOf 68 = .ok (.aload_n 0, 1) := by decide +kernel
theorem dX4_principalOf_69 : decode cX4_principalOf 69 = .ok (.getfield 14, 3) := by decide +kernel
theorem dX4_principalOf_72 : decode cX4_principalOf 72 = .ok (.iload_n 3, 1) := by decide +kernel
theorem dX4_principalOf_73 : decode cX4_principalOf 73 = .ok (.invokevirtual 33, 3) := by decide +kernel
theorem dX4_principalOf_76 : decode cX4_principalOf 76 = .ok (.iload_n 2, 1) := by decide +kernel
theorem dX4_principalOf_77 : decode cX4_principalOf 77 = .ok (.if_icmp .lt 5, 3) := by decide +kernel
theorem dX4_principalOf_80 : decode cX4_principalOf 80 = .ok (.iload_n 3, 1) := by decide +kernel
theorem dX4_principalOf_81 : decode cX4_principalOf 81 = .ok (.ireturn, 1) := by decide +kernel
theorem dX4_principalOf_82 : decode cX4_principalOf 82 = .ok (.iinc 3 1, 3) := by decide +kernel
theorem dX4_principalOf_85 : decode cX4_principalOf 85 = .ok (.goto (-43), 3) := by decide +kernel
theorem dX4_principalOf_88 : decode cX4_principalOf 88 = .ok (.iconst (-1), 1) := by decide +kernel
theorem dX4_principalOf_89 : decode cX4_principalOf 89 = .ok (.ireturn, 1) := by decide +kernel
set_option maxRecDepth 20000 in
theorem ggX4_greatestLimit_X6_at : GoodIn wsX4_greatestLimit wsX6_at := goodIn_r _ [6, 7, 19] (by decide +kernel) (by decide +kernel)
set_option maxRecDepth 20000 in
theorem gX4_greatestLimit_X6_at : GoodIn wsX4_greatestLimit (wsV RX4 33 RX6 yX6_at wsX6_at) := goodIn_app (goodIn_of _ (by decide +kernel)) ggX4_greatestLimit_X6_at
set_option maxRecDepth 20000 in
theorem ggX4_greatestLimit_X4_isAway : GoodIn wsX4_greatestLimit wsX4_isAway := goodIn_r _ [12, 13, 14, 2, 3, 4, 5, 6, 7, 15, 16, 17, 18, 19] (by decide +kernel) (by decide +kernel)
set_option maxRecDepth 20000 in
theorem gX4_greatestLimit_X4_isAway : GoodIn wsX4_greatestLimit (wsV RX4 41 RX4 yX4_isAway wsX4_isAway) := goodIn_app (goodIn_of _ (by decide +kernel)) ggX4_greatestLimit_X4_isAway
theorem dX4_greatestLimit_0 : decode cX4_greatestLimit 0 = .ok (.iconst (-1), 1) := by decide +kernel
theorem dX4_greatestLimit_1 : decode cX4_greatestLimit 1 = .ok (.istore_n 3, 1) := by decide +kernel
theorem dX4_greatestLimit_2 : decode cX4_greatestLimit 2 = .ok (.iconst 0, 1) := by decide +kernel
theorem dX4_greatestLimit_3 : decode cX4_greatestLimit 3 = .ok (.istore 4, 2) := by decide +kernel
theorem dX4_greatestLimit_5 : decode cX4_greatestLimit 5 = .ok (.iload 4, 2) := by decide +kernel
theorem dX4_greatestLimit_7 : decode cX4_greatestLimit 7 = .ok (.bipush 8, 2) := by decide +kernel
theorem dX4_greatestLimit_9 : decode cX4_greatestLimit 9 = .ok (.if_icmp .ge 50, 3) := by decide +kernel
theorem dX4_greatestLimit_12 : decode cX4_greatestLimit 12 = .ok (.aload_n 0, 1) := by decide +kernel
theorem dX4_greatestLimit_13 : decode cX4_greatestLimit 13 = .ok (.getfield 14, 3) := by decide +kernel
theorem dX4_greatestLimit_16 : decode cX4_greatestLimit 16 = .ok (.iload 4, 2) := by decide +kernel
theorem dX4_greatestLimit_18 : decode cX4_greatestLimit 18 = .ok (.invokevirtual 33, 3) := by decide +kernel
theorem dX4_greatestLimit_21 : decode cX4_greatestLimit 21 = .ok (.istore 5, 2) := by decide +kernel
theorem dX4_greatestLimit_23 : decode cX4_greatestLimit 23 = .ok (.iload 4, 2) := by decide +kernel
theorem dX4_greatestLimit_25 : decode cX4_greatestLimit 25 = .ok (.iload_n 1, 1) := by decide +kernel
theorem dX4_greatestLimit_26 : decode cX4_greatestLimit 26 = .ok (.if_icmp .eq 27, 3) := by decide +kernel
theorem dX4_greatestLimit_29 : decode cX4_greatestLimit 29 = .ok (.aload_n 0, 1) := by decide +kernel
theorem dX4_greatestLimit_30 : decode cX4_greatestLimit 30 = .ok (.iload 4, 2) := by decide +kernel
theorem dX4_greatestLimit_32 : decode cX4_greatestLimit 32 = .ok (.invokevirtual 41, 3) := by decide +kernel
theorem dX4_greatestLimit_35 : decode cX4_greatestLimit 35 = .ok (.ifCond .ne 18, 3) := by decide +kernel
theorem dX4_greatestLimit_38 : decode cX4_greatestLimit 38 = .ok (.iload 5, 2) := by decide +kernel
theorem dX4_greatestLimit_40 : decode cX4_greatestLimit 40 = .ok (.iload_n 2, 1) := by decide +kernel
theorem dX4_greatestLimit_41 : decode cX4_greatestLimit 41 = .ok (.if_icmp .lt 12, 3) := by decide +kernel
theorem dX4_greatestLimit_44 : decode cX4_greatestLimit 44 = .ok (.iload 5, 2) := by decide +kernel
theorem dX4_greatestLimit_46 : decode cX4_greatestLimit 46 = .ok (.iload_n 3, 1) := by decide +kernel
theorem dX4_greatestLimit_47 : decode cX4_greatestLimit 47 = .ok (.if_icmp .le 6, 3) := by decide +kernel
theorem dX4_greatestLimit_50 : decode cX4_greatestLimit 50 = .ok (.iload 5, 2) := by decide +kernel
theorem dX4_greatestLimit_52 : decode cX4_greatestLimit 52 = .ok (.istore_n 3, 1) := by decide +kernel
theorem dX4_greatestLimit_53 : decode cX4_greatestLimit 53 = .ok (.iinc 4 1, 3) := by decide +kernel
theorem dX4_greatestLimit_56 : decode cX4_greatestLimit 56 = .ok (.goto (-51), 3) := by decide +kernel
theorem dX4_greatestLimit_59 : decode cX4_greatestLimit 59 = .ok (.iload_n 3, 1) := by decide +kernel
theorem dX4_greatestLimit_60 : decode cX4_greatestLimit 60 = .ok (.ireturn, 1) := by decide +kernel
set_option maxRecDepth 20000 in
theorem ggX5_init_X6_init : GoodIn wsX5_init wsX6_init := goodIn_r _ [16, 17, 2, 3, 18, 19, 20] (by decide +kernel) (by decide +kernel)
set_option maxRecDepth 20000 in
theorem gX5_init_X6_init : GoodIn wsX5_init (wsX6_init) := ggX5_init_X6_init
theorem dX5_init_0 : decode cX5_init 0 = .ok (.aload_n 0, 1) := by decide +kernel
theorem dX5_init_1 : decode cX5_init 1 = .ok (.invokespecial 3, 3) := by decide +kernel
theorem dX5_init_4 : decode cX5_init 4 = .ok (.aload_n 0, 1) := by decide +kernel
theorem dX5_init_5 : decode cX5_init 5 = .ok (.new 9, 3) := by decide +kernel
theorem dX5_init_8 : decode cX5_init 8 = .ok (.dup, 1) := by decide +kernel
theorem dX5_init_9 : decode cX5_init 9 = .ok (.bipush 30, 2) := by decide +kernel
theorem dX5_init_11 : decode cX5_init 11 = .ok (.invokespecial 11, 3) := by decide +kernel
theorem dX5_init_14 : decode cX5_init 14 = .ok (.putfield 14, 3) := by decide +kernel
theorem dX5_init_17 : decode cX5_init 17 = .ok (.aload_n 0, 1) := by decide +kernel
theorem dX5_init_18 : decode cX5_init 18 = .ok (.new 9, 3) := by decide +kernel
theorem dX5_init_21 : decode cX5_init 21 = .ok (.dup, 1) := by decide +kernel
theorem dX5_init_22 : decode cX5_init 22 = .ok (.bipush 30, 2) := by decide +kernel
theorem dX5_init_24 : decode cX5_init 24 = .ok (.invokespecial 11, 3) := by decide +kernel
theorem dX5_init_27 : decode cX5_init 27 = .ok (.putfield 20, 3) := by decide +kernel
theorem dX5_init_30 : decode cX5_init 30 = .ok (.aload_n 0, 1) := by decide +kernel
theorem dX5_init_31 : decode cX5_init 31 = .ok (.new 9, 3) := by decide +kernel
theorem dX5_init_34 : decode cX5_init 34 = .ok (.dup, 1) := by decide +kernel
theorem dX5_init_35 : decode cX5_init 35 = .ok (.bipush 30, 2) := by decide +kernel
theorem dX5_init_37 : decode cX5_init 37 = .ok (.invokespecial 11, 3) := by decide +kernel
theorem dX5_init_40 : decode cX5_init 40 = .ok (.putfield 23, 3) := by decide +kernel
theorem dX5_init_43 : decode cX5_init 43 = .ok (.aload_n 0, 1) := by decide +kernel
theorem dX5_init_44 : decode cX5_init 44 = .ok (.new 9, 3) := by decide +kernel
theorem dX5_init_47 : decode cX5_init 47 = .ok (.dup, 1) := by decide +kernel
theorem dX5_init_48 : decode cX5_init 48 = .ok (.bipush 30, 2) := by decide +kernel
theorem dX5_init_50 : decode cX5_init 50 = .ok (.invokespecial 11, 3) := by decide +kernel
theorem dX5_init_53 : decode cX5_init 53 = .ok (.putfield 26, 3) := by decide +kernel
theorem dX5_init_56 : decode cX5_init 56 = .ok (.aload_n 0, 1) := by decide +kernel
theorem dX5_init_57 : decode cX5_init 57 = .ok (.new 9, 3) := by decide +kernel
theorem dX5_init_60 : decode cX5_init 60 = .ok (.dup, 1) := by decide +kernel
theorem dX5_init_61 : decode cX5_init 61 = .ok (.bipush 30, 2) := by decide +kernel
theorem dX5_init_63 : decode cX5_init 63 = .ok (.invokespecial 11, 3) := by decide +kernel
theorem dX5_init_66 : decode cX5_init 66 = .ok (.putfield 29, 3) := by decide +kernel
theorem dX5_init_69 : decode cX5_init 69 = .ok (.aload_n 0, 1) := by decide +kernel
theorem dX5_init_70 : decode cX5_init 70 = .ok (.new 9, 3) := by decide +kernel
theorem dX5_init_73 : decode cX5_init 73 = .ok (.dup, 1) := by decide +kernel
theorem dX5_init_74 : decode cX5_init 74 = .ok (.bipush 30, 2) := by decide +kernel
theorem dX5_init_76 : decode cX5_init 76 = .ok (.invokespecial 11, 3) := by decide +kernel
theorem dX5_init_79 : decode cX5_init 79 = .ok (.putfield 32, 3) := by decide +kernel
theorem dX5_init_82 : decode cX5_init 82 = .ok (.aload_n 0, 1) := by decide +kernel
theorem dX5_init_83 : decode cX5_init 83 = .ok (.new 9, 3) := by decide +kernel
theorem dX5_init_86 : decode cX5_init 86 = .ok (.dup, 1) := by decide +kernel
theorem dX5_init_87 : decode cX5_init 87 = .ok (.sipush 240, 3) := by decide +kernel
theorem dX5_init_90 : decode cX5_init 90 = .ok (.invokespecial 11, 3) := by decide +kernel
theorem dX5_init_93 : decode cX5_init 93 = .ok (.putfield 35, 3) := by decide +kernel
theorem dX5_init_96 : decode cX5_init 96 = .ok (.return_, 1) := by decide +kernel
theorem dX5_clear_0 : decode cX5_clear 0 = .ok (.aload_n 0, 1) := by decide +kernel
theorem dX5_clear_1 : decode cX5_clear 1 = .ok (.iconst 0, 1) := by decide +kernel
theorem dX5_clear_2 : decode cX5_clear 2 = .ok (.putfield 38, 3) := by decide +kernel
theorem dX5_clear_5 : decode cX5_clear 5 = .ok (.return_, 1) := by decide +kernel
theorem dX5_count_0 : decode cX5_count 0 = .ok (.aload_n 0, 1) := by decide +kernel
theorem dX5_count_1 : decode cX5_count 1 = .ok (.getfield 38, 3) := by decide +kernel
theorem dX5_count_4 : decode cX5_count 4 = .ok (.ireturn, 1) := by decide +kernel
set_option maxRecDepth 20000 in
theorem ggX5_add_X6_put : GoodIn wsX5_add wsX6_put := goodIn_r _ [9, 10, 32] (by decide +kernel) (by decide +kernel)
set_option maxRecDepth 20000 in
theorem gX5_add_X6_put : GoodIn wsX5_add (wsV RX5 42 RX6 yX6_put wsX6_put) := goodIn_app (goodIn_of _ (by decide +kernel)) ggX5_add_X6_put
set_option maxRecDepth 20000 in
theorem ggX5_add_X5_reopen : GoodIn wsX5_add wsX5_reopen := goodIn_r _ [15, 16, 17, 18, 5, 6, 7, 8, 9, 10, 24, 25, 26, 27, 28, 29, 30, 31, 32] (by decide +kernel) (by decide +kernel)
set_option maxRecDepth 20000 in
theorem gX5_add_X5_reopen : GoodIn wsX5_add (wsV RX5 46 RX5 yX5_reopen wsX5_reopen) := goodIn_app (goodIn_of _ (by decide +kernel)) ggX5_add_X5_reopen
set_option maxRecDepth 20000 in
theorem ggX5_add_X5_endApprovals : GoodIn wsX5_add wsX5_endApprovals := goodIn_r _ [22, 23, 5, 6, 7, 8, 9, 10, 24, 25, 26, 27, 28, 29, 30, 31, 32] (by decide +kernel) (by decide +kernel)
set_option maxRecDepth 20000 in
theorem gX5_add_X5_endApprovals : GoodIn wsX5_add (wsV RX5 49 RX5 yX5_endApprovals wsX5_endApprovals) := goodIn_app (goodIn_of _ (by decide +kernel)) ggX5_add_X5_endApprovals
theorem dX5_add_0 : decode cX5_add 0 = .ok (.aload_n 0, 1) := by decide +kernel
theorem dX5_add_1 : decode cX5_add 1 = .ok (.getfield 38, 3) := by decide +kernel
theorem dX5_add_4 : decode cX5_add 4 = .ok (.istore 4, 2) := by decide +kernel
theorem dX5_add_6 : decode cX5_add 6 = .ok (.aload_n 0, 1) := by decide +kernel
theorem dX5_add_7 : decode cX5_add 7 = .ok (.dup, 1) := by decide +kernel
theorem dX5_add_8 : decode cX5_add 8 = .ok (.getfield 38, 3) := by decide +kernel
theorem dX5_add_11 : decode cX5_add 11 = .ok (.iconst 1, 1) := by decide +kernel
theorem dX5_add_12 : decode cX5_add 12 = .ok (.iadd, 1) := by decide +kernel
theorem dX5_add_13 : decode cX5_add 13 = .ok (.putfield 38, 3) := by decide +kernel
theorem dX5_add_16 : decode cX5_add 16 = .ok (.aload_n 0, 1) := by decide +kernel
theorem dX5_add_17 : decode cX5_add 17 = .ok (.getfield 14, 3) := by decide +kernel
theorem dX5_add_20 : decode cX5_add 20 = .ok (.iload 4, 2) := by decide +kernel
theorem dX5_add_22 : decode cX5_add 22 = .ok (.iload_n 1, 1) := by decide +kernel
theorem dX5_add_23 : decode cX5_add 23 = .ok (.invokevirtual 42, 3) := by decide +kernel
theorem dX5_add_26 : decode cX5_add 26 = .ok (.aload_n 0, 1) := by decide +kernel
theorem dX5_add_27 : decode cX5_add 27 = .ok (.getfield 20, 3) := by decide +kernel
theorem dX5_add_30 : decode cX5_add 30 = .ok (.iload 4, 2) := by decide +kernel
theorem dX5_add_32 : decode cX5_add 32 = .ok (.iload_n 2, 1) := by decide +kernel
theorem dX5_add_33 : decode cX5_add 33 = .ok (.invokevirtual 42, 3) := by decide +kernel
theorem dX5_add_36 : decode cX5_add 36 = .ok (.aload_n 0, 1) := by decide +kernel
theorem dX5_add_37 : decode cX5_add 37 = .ok (.getfield 23, 3) := by decide +kernel
theorem dX5_add_40 : decode cX5_add 40 = .ok (.iload 4, 2) := by decide +kernel
theorem dX5_add_42 : decode cX5_add 42 = .ok (.iload_n 3, 1) := by decide +kernel
theorem dX5_add_43 : decode cX5_add 43 = .ok (.invokevirtual 42, 3) := by decide +kernel
theorem dX5_add_46 : decode cX5_add 46 = .ok (.aload_n 0, 1) := by decide +kernel
theorem dX5_add_47 : decode cX5_add 47 = .ok (.iload 4, 2) := by decide +kernel
theorem dX5_add_49 : decode cX5_add 49 = .ok (.invokevirtual 46, 3) := by decide +kernel
theorem dX5_add_52 : decode cX5_add 52 = .ok (.aload_n 0, 1) := by decide +kernel
theorem dX5_add_53 : decode cX5_add 53 = .ok (.iload 4, 2) := by decide +kernel
theorem dX5_add_55 : decode cX5_add 55 = .ok (.invokevirtual 49, 3) := by decide +kernel
theorem dX5_add_58 : decode cX5_add 58 = .ok (.iload 4, 2) := by decide +kernel
theorem dX5_add_60 : decode cX5_add 60 = .ok (.ireturn, 1) := by decide +kernel
set_option maxRecDepth 20000 in
theorem ggX5_personOf_X6_at : GoodIn wsX5_personOf wsX6_at := goodIn_r _ [6, 7, 16] (by decide +kernel) (by decide +kernel)
set_option maxRecDepth 20000 in
theorem gX5_personOf_X6_at : GoodIn wsX5_personOf (wsV RX5 52 RX6 yX6_at wsX6_at) := goodIn_app (goodIn_of _ (by decide +kernel)) ggX5_personOf_X6_at
theorem dX5_personOf_0 : decode cX5_personOf 0 = .ok (.aload_n 0, 1) := by decide +kernel
theorem dX5_personOf_1 : decode cX5_personOf 1 = .ok (.getfield 14, 3) := by decide +kernel
theorem dX5_personOf_4 : decode cX5_personOf 4 = .ok (.iload_n 1, 1) := by decide +kernel
theorem dX5_personOf_5 : decode cX5_personOf 5 = .ok (.invokevirtual 52, 3) := by decide +kernel
theorem dX5_personOf_8 : decode cX5_personOf 8 = .ok (.ireturn, 1) := by decide +kernel
set_option maxRecDepth 20000 in
theorem ggX5_partOf_X6_at : GoodIn wsX5_partOf wsX6_at := goodIn_r _ [6, 7, 16] (by decide +kernel) (by decide +kernel)
set_option maxRecDepth 20000 in
theorem gX5_partOf_X6_at : GoodIn wsX5_partOf (wsV RX5 52 RX6 yX6_at wsX6_at) := goodIn_app (goodIn_of _ (by decide +kernel)) ggX5_partOf_X6_at
theorem dX5_partOf_0 : decode cX5_partOf 0 = .ok (.aload_n 0, 1) := by decide +kernel
theorem dX5_partOf_1 : decode cX5_partOf 1 = .ok (.getfield 20, 3) := by decide +kernel
theorem dX5_partOf_4 : decode cX5_partOf 4 = .ok (.iload_n 1, 1) := by decide +kernel
theorem dX5_partOf_5 : decode cX5_partOf 5 = .ok (.invokevirtual 52, 3) := by decide +kernel
theorem dX5_partOf_8 : decode cX5_partOf 8 = .ok (.ireturn, 1) := by decide +kernel
set_option maxRecDepth 20000 in
theorem ggX5_leastOf_X6_at : GoodIn wsX5_leastOf wsX6_at := goodIn_r _ [6, 7, 16] (by decide +kernel) (by decide +kernel)
set_option maxRecDepth 20000 in
theorem gX5_leastOf_X6_at : GoodIn wsX5_leastOf (wsV RX5 52 RX6 yX6_at wsX6_at) := goodIn_app (goodIn_of _ (by decide +kernel)) ggX5_leastOf_X6_at
theorem dX5_leastOf_0 : decode cX5_leastOf 0 = .ok (.aload_n 0, 1) := by decide +kernel
theorem dX5_leastOf_1 : decode cX5_leastOf 1 = .ok (.getfield 23, 3) := by decide +kernel
theorem dX5_leastOf_4 : decode cX5_leastOf 4 = .ok (.iload_n 1, 1) := by decide +kernel
theorem dX5_leastOf_5 : decode cX5_leastOf 5 = .ok (.invokevirtual 52, 3) := by decide +kernel
theorem dX5_leastOf_8 : decode cX5_leastOf 8 = .ok (.ireturn, 1) := by decide +kernel
set_option maxRecDepth 20000 in
theorem ggX5_stateOf_X6_at : GoodIn wsX5_stateOf wsX6_at := goodIn_r _ [6, 7, 16] (by decide +kernel) (by decide +kernel)
set_option maxRecDepth 20000 in
theorem gX5_stateOf_X6_at : GoodIn wsX5_stateOf (wsV RX5 52 RX6 yX6_at wsX6_at) := goodIn_app (goodIn_of _ (by decide +kernel)) ggX5_stateOf_X6_at
theorem dX5_stateOf_0 : decode cX5_stateOf 0 = .ok (.aload_n 0, 1) := by decide +kernel
theorem dX5_stateOf_1 : decode cX5_stateOf 1 = .ok (.getfield 26, 3) := by decide +kernel
theorem dX5_stateOf_4 : decode cX5_stateOf 4 = .ok (.iload_n 1, 1) := by decide +kernel
theorem dX5_stateOf_5 : decode cX5_stateOf 5 = .ok (.invokevirtual 52, 3) := by decide +kernel
theorem dX5_stateOf_8 : decode cX5_stateOf 8 = .ok (.ireturn, 1) := by decide +kernel
set_option maxRecDepth 20000 in
theorem ggX5_choiceOf_X6_at : GoodIn wsX5_choiceOf wsX6_at := goodIn_r _ [6, 7, 16] (by decide +kernel) (by decide +kernel)
set_option maxRecDepth 20000 in
theorem gX5_choiceOf_X6_at : GoodIn wsX5_choiceOf (wsV RX5 52 RX6 yX6_at wsX6_at) := goodIn_app (goodIn_of _ (by decide +kernel)) ggX5_choiceOf_X6_at
theorem dX5_choiceOf_0 : decode cX5_choiceOf 0 = .ok (.aload_n 0, 1) := by decide +kernel
theorem dX5_choiceOf_1 : decode cX5_choiceOf 1 = .ok (.getfield 29, 3) := by decide +kernel
theorem dX5_choiceOf_4 : decode cX5_choiceOf 4 = .ok (.iload_n 1, 1) := by decide +kernel
theorem dX5_choiceOf_5 : decode cX5_choiceOf 5 = .ok (.invokevirtual 52, 3) := by decide +kernel
theorem dX5_choiceOf_8 : decode cX5_choiceOf 8 = .ok (.ireturn, 1) := by decide +kernel
set_option maxRecDepth 20000 in
theorem ggX5_costOf_X6_at : GoodIn wsX5_costOf wsX6_at := goodIn_r _ [6, 7, 16] (by decide +kernel) (by decide +kernel)
set_option maxRecDepth 20000 in
theorem gX5_costOf_X6_at : GoodIn wsX5_costOf (wsV RX5 52 RX6 yX6_at wsX6_at) := goodIn_app (goodIn_of _ (by decide +kernel)) ggX5_costOf_X6_at
theorem dX5_costOf_0 : decode cX5_costOf 0 = .ok (.aload_n 0, 1) := by decide +kernel
theorem dX5_costOf_1 : decode cX5_costOf 1 = .ok (.getfield 32, 3) := by decide +kernel
theorem dX5_costOf_4 : decode cX5_costOf 4 = .ok (.iload_n 1, 1) := by decide +kernel
theorem dX5_costOf_5 : decode cX5_costOf 5 = .ok (.invokevirtual 52, 3) := by decide +kernel
theorem dX5_costOf_8 : decode cX5_costOf 8 = .ok (.ireturn, 1) := by decide +kernel
set_option maxRecDepth 20000 in
theorem ggX5_settle_X6_put : GoodIn wsX5_settle wsX6_put := goodIn_r _ [8, 9, 24] (by decide +kernel) (by decide +kernel)
set_option maxRecDepth 20000 in
theorem gX5_settle_X6_put : GoodIn wsX5_settle (wsV RX5 42 RX6 yX6_put wsX6_put) := goodIn_app (goodIn_of _ (by decide +kernel)) ggX5_settle_X6_put
set_option maxRecDepth 20000 in
theorem ggX5_settle_X5_endApprovals : GoodIn wsX5_settle wsX5_endApprovals := goodIn_r _ [14, 15, 4, 5, 6, 7, 8, 9, 16, 17, 18, 19, 20, 21, 22, 23, 24] (by decide +kernel) (by decide +kernel)
set_option maxRecDepth 20000 in
theorem gX5_settle_X5_endApprovals : GoodIn wsX5_settle (wsV RX5 49 RX5 yX5_endApprovals wsX5_endApprovals) := goodIn_app (goodIn_of _ (by decide +kernel)) ggX5_settle_X5_endApprovals
theorem dX5_settle_0 : decode cX5_settle 0 = .ok (.aload_n 0, 1) := by decide +kernel
theorem dX5_settle_1 : decode cX5_settle 1 = .ok (.getfield 26, 3) := by decide +kernel
theorem dX5_settle_4 : decode cX5_settle 4 = .ok (.iload_n 1, 1) := by decide +kernel
theorem dX5_settle_5 : decode cX5_settle 5 = .ok (.iconst 1, 1) := by decide +kernel
theorem dX5_settle_6 : decode cX5_settle 6 = .ok (.invokevirtual 42, 3) := by decide +kernel
theorem dX5_settle_9 : decode cX5_settle 9 = .ok (.aload_n 0, 1) := by decide +kernel
theorem dX5_settle_10 : decode cX5_settle 10 = .ok (.getfield 29, 3) := by decide +kernel
theorem dX5_settle_13 : decode cX5_settle 13 = .ok (.iload_n 1, 1) := by decide +kernel
theorem dX5_settle_14 : decode cX5_settle 14 = .ok (.iload_n 2, 1) := by decide +kernel
theorem dX5_settle_15 : decode cX5_settle 15 = .ok (.invokevirtual 42, 3) := by decide +kernel
theorem dX5_settle_18 : decode cX5_settle 18 = .ok (.aload_n 0, 1) := by decide +kernel
theorem dX5_settle_19 : decode cX5_settle 19 = .ok (.getfield 32, 3) := by decide +kernel
theorem dX5_settle_22 : decode cX5_settle 22 = .ok (.iload_n 1, 1) := by decide +kernel
theorem dX5_settle_23 : decode cX5_settle 23 = .ok (.iload_n 3, 1) := by decide +kernel
theorem dX5_settle_24 : decode cX5_settle 24 = .ok (.invokevirtual 42, 3) := by decide +kernel
theorem dX5_settle_27 : decode cX5_settle 27 = .ok (.aload_n 0, 1) := by decide +kernel
theorem dX5_settle_28 : decode cX5_settle 28 = .ok (.iload_n 1, 1) := by decide +kernel
theorem dX5_settle_29 : decode cX5_settle 29 = .ok (.invokevirtual 49, 3) := by decide +kernel
theorem dX5_settle_32 : decode cX5_settle 32 = .ok (.iload_n 3, 1) := by decide +kernel
theorem dX5_settle_33 : decode cX5_settle 33 = .ok (.ireturn, 1) := by decide +kernel
set_option maxRecDepth 20000 in
theorem ggX5_markReleased_X6_put : GoodIn wsX5_markReleased wsX6_put := goodIn_r _ [6, 7, 16] (by decide +kernel) (by decide +kernel)
set_option maxRecDepth 20000 in
theorem gX5_markReleased_X6_put : GoodIn wsX5_markReleased (wsV RX5 42 RX6 yX6_put wsX6_put) := goodIn_app (goodIn_of _ (by decide +kernel)) ggX5_markReleased_X6_put
theorem dX5_markReleased_0 : decode cX5_markReleased 0 = .ok (.aload_n 0, 1) := by decide +kernel
theorem dX5_markReleased_1 : decode cX5_markReleased 1 = .ok (.getfield 26, 3) := by decide +kernel
theorem dX5_markReleased_4 : decode cX5_markReleased 4 = .ok (.iload_n 1, 1) := by decide +kernel
theorem dX5_markReleased_5 : decode cX5_markReleased 5 = .ok (.iconst 2, 1) := by decide +kernel
theorem dX5_markReleased_6 : decode cX5_markReleased 6 = .ok (.invokevirtual 42, 3) := by decide +kernel
theorem dX5_markReleased_9 : decode cX5_markReleased 9 = .ok (.iconst 2, 1) := by decide +kernel
theorem dX5_markReleased_10 : decode cX5_markReleased 10 = .ok (.ireturn, 1) := by decide +kernel
set_option maxRecDepth 20000 in
theorem ggX5_addApproval_X6_put : GoodIn wsX5_addApproval wsX6_put := goodIn_r _ [6, 7, 16] (by decide +kernel) (by decide +kernel)
set_option maxRecDepth 20000 in
theorem gX5_addApproval_X6_put : GoodIn wsX5_addApproval (wsV RX5 42 RX6 yX6_put wsX6_put) := goodIn_app (goodIn_of _ (by decide +kernel)) ggX5_addApproval_X6_put
theorem dX5_addApproval_0 : decode cX5_addApproval 0 = .ok (.aload_n 0, 1) := by decide +kernel
theorem dX5_addApproval_1 : decode cX5_addApproval 1 = .ok (.getfield 35, 3) := by decide +kernel
theorem dX5_addApproval_4 : decode cX5_addApproval 4 = .ok (.iload_n 1, 1) := by decide +kernel
theorem dX5_addApproval_5 : decode cX5_addApproval 5 = .ok (.bipush 8, 2) := by decide +kernel
theorem dX5_addApproval_7 : decode cX5_addApproval 7 = .ok (.imul, 1) := by decide +kernel
theorem dX5_addApproval_8 : decode cX5_addApproval 8 = .ok (.iload_n 2, 1) := by decide +kernel
theorem dX5_addApproval_9 : decode cX5_addApproval 9 = .ok (.iadd, 1) := by decide +kernel
theorem dX5_addApproval_10 : decode cX5_addApproval 10 = .ok (.iload_n 3, 1) := by decide +kernel
theorem dX5_addApproval_11 : decode cX5_addApproval 11 = .ok (.invokevirtual 42, 3) := by decide +kernel
theorem dX5_addApproval_14 : decode cX5_addApproval 14 = .ok (.return_, 1) := by decide +kernel
set_option maxRecDepth 20000 in
theorem ggX5_hasApproval_X6_at : GoodIn wsX5_hasApproval wsX6_at := goodIn_r _ [6, 7, 16] (by decide +kernel) (by decide +kernel)
set_option maxRecDepth 20000 in
theorem gX5_hasApproval_X6_at : GoodIn wsX5_hasApproval (wsV RX5 52 RX6 yX6_at wsX6_at) := goodIn_app (goodIn_of _ (by decide +kernel)) ggX5_hasApproval_X6_at
theorem dX5_hasApproval_0 : decode cX5_hasApproval 0 = .ok (.iload_n 3, 1) := by decide +kernel
theorem dX5_hasApproval_1 : decode cX5_hasApproval 1 = .ok (.aload_n 0, 1) := by decide +kernel
theorem dX5_hasApproval_2 : decode cX5_hasApproval 2 = .ok (.getfield 35, 3) := by decide +kernel
theorem dX5_hasApproval_5 : decode cX5_hasApproval 5 = .ok (.iload_n 1, 1) := by decide +kernel
theorem dX5_hasApproval_6 : decode cX5_hasApproval 6 = .ok (.bipush 8, 2) := by decide +kernel
theorem dX5_hasApproval_8 : decode cX5_hasApproval 8 = .ok (.imul, 1) := by decide +kernel
theorem dX5_hasApproval_9 : decode cX5_hasApproval 9 = .ok (.iload_n 2, 1) := by decide +kernel
theorem dX5_hasApproval_10 : decode cX5_hasApproval 10 = .ok (.iadd, 1) := by decide +kernel
theorem dX5_hasApproval_11 : decode cX5_hasApproval 11 = .ok (.invokevirtual 52, 3) := by decide +kernel
theorem dX5_hasApproval_14 : decode cX5_hasApproval 14 = .ok (.if_icmp .ge 7, 3) := by decide +kernel
theorem dX5_hasApproval_17 : decode cX5_hasApproval 17 = .ok (.iconst 1, 1) := by decide +kernel
theorem dX5_hasApproval_18 : decode cX5_hasApproval 18 = .ok (.goto 4, 3) := by decide +kernel
theorem dX5_hasApproval_21 : decode cX5_hasApproval 21 = .ok (.iconst 0, 1) := by decide +kernel
theorem dX5_hasApproval_22 : decode cX5_hasApproval 22 = .ok (.ireturn, 1) := by decide +kernel
set_option maxRecDepth 20000 in
theorem ggX5_approvalsOf_X5_hasApproval : GoodIn wsX5_approvalsOf wsX5_hasApproval := goodIn_r _ [5, 6, 7, 8, 9, 10, 11, 12, 13, 14, 15, 16, 17, 18, 19, 20, 21] (by decide +kernel) (by decide +kernel)
set_option maxRecDepth 20000 in
theorem gX5_approvalsOf_X5_hasApproval : GoodIn wsX5_approvalsOf (wsV RX5 56 RX5 yX5_hasApproval wsX5_hasApproval) := goodIn_app (goodIn_of _ (by decide +kernel)) ggX5_approvalsOf_X5_hasApproval
theorem dX5_approvalsOf_0 : decode cX5_approvalsOf 0 = .ok (.iconst 0, 1) := by decide +kernel
theorem dX5_approvalsOf_1 : decode cX5_approvalsOf 1 = .ok (.istore_n 3, 1) := by decide +kernel
theorem dX5_approvalsOf_2 : decode cX5_approvalsOf 2 = .ok (.iconst 0, 1) := by decide +kernel
theorem dX5_approvalsOf_3 : decode cX5_approvalsOf 3 = .ok (.istore 4, 2) := by decide +kernel
theorem dX5_approvalsOf_5 : decode cX5_approvalsOf 5 = .ok (.iload 4, 2) := by decide +kernel
theorem dX5_approvalsOf_7 : decode cX5_approvalsOf 7 = .ok (.bipush 8, 2) := by decide +kernel
theorem dX5_approvalsOf_9 : decode cX5_approvalsOf 9 = .ok (.if_icmp .ge 23, 3) := by decide +kernel
theorem dX5_approvalsOf_12 : decode cX5_approvalsOf 12 = .ok (.aload_n 0, 1) := by decide +kernel
theorem dX5_approvalsOf_13 : decode cX5_approvalsOf 13 = .ok (.iload_n 1, 1) := by decide +kernel
theorem dX5_approvalsOf_14 : decode cX5_approvalsOf 14 = .ok (.iload 4, 2) := by decide +kernel
theorem dX5_approvalsOf_16 : decode cX5_approvalsOf 16 = .ok (.iload_n 2, 1) := by decide +kernel
theorem dX5_approvalsOf_17 : decode cX5_approvalsOf 17 = .ok (.invokevirtual 56, 3) := by decide +kernel
theorem dX5_approvalsOf_20 : decode cX5_approvalsOf 20 = .ok (.ifCond .eq 6, 3) := by decide +kernel
theorem dX5_approvalsOf_23 : decode cX5_approvalsOf 23 = .ok (.iinc 3 1, 3) := by decide +kernel
theorem dX5_approvalsOf_26 : decode cX5_approvalsOf 26 = .ok (.iinc 4 1, 3) := by decide +kernel
theorem dX5_approvalsOf_29 : decode cX5_approvalsOf 29 = .ok (.goto (-24), 3) := by decide +kernel
theorem dX5_approvalsOf_32 : decode cX5_approvalsOf 32 = .ok (.iload_n 3, 1) := by decide +kernel
theorem dX5_approvalsOf_33 : decode cX5_approvalsOf 33 = .ok (.ireturn, 1) := by decide +kernel
set_option maxRecDepth 20000 in
theorem ggX5_loseVersion_X6_at : GoodIn wsX5_loseVersion wsX6_at := goodIn_r _ [8, 9, 45] (by decide +kernel) (by decide +kernel)
set_option maxRecDepth 20000 in
theorem gX5_loseVersion_X6_at : GoodIn wsX5_loseVersion (wsV RX5 52 RX6 yX6_at wsX6_at) := goodIn_app (goodIn_of _ (by decide +kernel)) ggX5_loseVersion_X6_at
set_option maxRecDepth 20000 in
theorem ggX5_loseVersion_X1_versionOf : GoodIn wsX5_loseVersion wsX1_versionOf := goodIn_r _ [13] (by decide +kernel) (by decide +kernel)
set_option maxRecDepth 20000 in
theorem gX5_loseVersion_X1_versionOf : GoodIn wsX5_loseVersion (va_wsS RX5 60 yX1_versionOf wsX1_versionOf) := goodIn_app (goodIn_of _ (by decide +kernel)) ggX5_loseVersion_X1_versionOf
set_option maxRecDepth 20000 in
theorem ggX5_loseVersion_X5_approvalsOf : GoodIn wsX5_loseVersion wsX5_approvalsOf := goodIn_r _ [18, 19, 20, 21, 17, 22, 23, 4, 5, 6, 7, 8, 9, 37, 38, 39, 40, 41, 42, 43, 44, 45] (by decide +kernel) (by decide +kernel)
set_option maxRecDepth 20000 in
theorem gX5_loseVersion_X5_approvalsOf : GoodIn wsX5_loseVersion (wsV RX5 66 RX5 yX5_approvalsOf wsX5_approvalsOf) := goodIn_app (goodIn_of _ (by decide +kernel)) ggX5_loseVersion_X5_approvalsOf
set_option maxRecDepth 20000 in
theorem ggX5_loseVersion_X5_endApprovals : GoodIn wsX5_loseVersion wsX5_endApprovals := goodIn_r _ [27, 23, 28, 29, 30, 7, 31, 9, 37, 38, 39, 40, 41, 42, 43, 44, 45] (by decide +kernel) (by decide +kernel)
set_option maxRecDepth 20000 in
theorem gX5_loseVersion_X5_endApprovals : GoodIn wsX5_loseVersion (wsV RX5 49 RX5 yX5_endApprovals wsX5_endApprovals) := goodIn_app (goodIn_of _ (by decide +kernel)) ggX5_loseVersion_X5_endApprovals
set_option maxRecDepth 20000 in
theorem ggX5_loseVersion_X5_reopen : GoodIn wsX5_loseVersion wsX5_reopen := goodIn_r _ [35, 3, 2, 36, 28, 29, 30, 7, 31, 9, 37, 38, 39, 40, 41, 42, 43, 44, 45] (by decide +kernel) (by decide +kernel)
set_option maxRecDepth 20000 in
theorem gX5_loseVersion_X5_reopen : GoodIn wsX5_loseVersion (wsV RX5 46 RX5 yX5_reopen wsX5_reopen) := goodIn_app (goodIn_of _ (by decide +kernel)) ggX5_loseVersion_X5_reopen
theorem dX5_loseVersion_0 : decode cX5_loseVersion 0 = .ok (.iconst 0, 1) := by decide +kernel
theorem dX5_loseVersion_1 : decode cX5_loseVersion 1 = .ok (.istore 4, 2) := by decide +kernel
theorem dX5_loseVersion_3 : decode cX5_loseVersion 3 = .ok (.iconst 0, 1) := by decide +kernel
theorem dX5_loseVersion_4 : decode cX5_loseVersion 4 = .ok (.istore 5, 2) := by decide +kernel
theorem dX5_loseVersion_6 : decode cX5_loseVersion 6 = .ok (.iload 5, 2) := by decide +kernel
theorem dX5_loseVersion_8 : decode cX5_loseVersion 8 = .ok (.aload_n 0, 1) := by decide +kernel
theorem dX5_loseVersion_9 : decode cX5_loseVersion 9 = .ok (.getfield 38, 3) := by decide +kernel
theorem dX5_loseVersion_12 : decode cX5_loseVersion 12 = .ok (.if_icmp .ge 63, 3) := by decide +kernel
theorem dX5_loseVersion_15 : decode cX5_loseVersion 15 = .ok (.aload_n 0, 1) := by decide +kernel
theorem dX5_loseVersion_16 : decode cX5_loseVersion 16 = .ok (.getfield 29, 3) := by decide +kernel
theorem dX5_loseVersion_19 : decode cX5_loseVersion 19 = .ok (.iload 5, 2) := by decide +kernel
theorem dX5_loseVersion_21 : decode cX5_loseVersion 21 = .ok (.invokevirtual 52, 3) := by decide +kernel
theorem dX5_loseVersion_24 : decode cX5_loseVersion 24 = .ok (.iload_n 1, 1) := by decide +kernel
theorem dX5_loseVersion_25 : decode cX5_loseVersion 25 = .ok (.invokestatic 60, 3) := by decide +kernel
theorem dX5_loseVersion_28 : decode cX5_loseVersion 28 = .ok (.iload_n 2, 1) := by decide +kernel
theorem dX5_loseVersion_29 : decode cX5_loseVersion 29 = .ok (.if_icmp .ne 40, 3) := by decide +kernel
theorem dX5_loseVersion_32 : decode cX5_loseVersion 32 = .ok (.iload 4, 2) := by decide +kernel
theorem dX5_loseVersion_34 : decode cX5_loseVersion 34 = .ok (.aload_n 0, 1) := by decide +kernel
theorem dX5_loseVersion_35 : decode cX5_loseVersion 35 = .ok (.iload 5, 2) := by decide +kernel
theorem dX5_loseVersion_37 : decode cX5_loseVersion 37 = .ok (.iload_n 3, 1) := by decide +kernel
theorem dX5_loseVersion_38 : decode cX5_loseVersion 38 = .ok (.invokevirtual 66, 3) := by decide +kernel
theorem dX5_loseVersion_41 : decode cX5_loseVersion 41 = .ok (.iadd, 1) := by decide +kernel
theorem dX5_loseVersion_42 : decode cX5_loseVersion 42 = .ok (.istore 4, 2) := by decide +kernel
theorem dX5_loseVersion_44 : decode cX5_loseVersion 44 = .ok (.aload_n 0, 1) := by decide +kernel
theorem dX5_loseVersion_45 : decode cX5_loseVersion 45 = .ok (.iload 5, 2) := by decide +kernel
theorem dX5_loseVersion_47 : decode cX5_loseVersion 47 = .ok (.invokevirtual 49, 3) := by decide +kernel
theorem dX5_loseVersion_50 : decode cX5_loseVersion 50 = .ok (.aload_n 0, 1) := by decide +kernel
theorem dX5_loseVersion_51 : decode cX5_loseVersion 51 = .ok (.getfield 26, 3) := by decide +kernel
theorem dX5_loseVersion_54 : decode cX5_loseVersion 54 = .ok (.iload 5, 2) := by decide +kernel
theorem dX5_loseVersion_56 : decode cX5_loseVersion 56 = .ok (.invokevirtual 52, 3) := by decide +kernel
theorem dX5_loseVersion_59 : decode cX5_loseVersion 59 = .ok (.iconst 1, 1) := by decide +kernel
theorem dX5_loseVersion_60 : decode cX5_loseVersion 60 = .ok (.if_icmp .ne 9, 3) := by decide +kernel
theorem dX5_loseVersion_63 : decode cX5_loseVersion 63 = .ok (.aload_n 0, 1) := by decide +kernel
theorem dX5_loseVersion_64 : decode cX5_loseVersion 64 = .ok (.iload 5, 2) := by decide +kernel
theorem dX5_loseVersion_66 : decode cX5_loseVersion 66 = .ok (.invokevirtual 46, 3) := by decide +kernel
theorem dX5_loseVersion_69 : decode cX5_loseVersion 69 = .ok (.iinc 5 1, 3) := by decide +kernel
theorem dX5_loseVersion_72 : decode cX5_loseVersion 72 = .ok (.goto (-66), 3) := by decide +kernel
theorem dX5_loseVersion_75 : decode cX5_loseVersion 75 = .ok (.iload 4, 2) := by decide +kernel
theorem dX5_loseVersion_77 : decode cX5_loseVersion 77 = .ok (.ireturn, 1) := by decide +kernel
set_option maxRecDepth 20000 in
theorem ggX5_reopen_X6_put : GoodIn wsX5_reopen wsX6_put := goodIn_r _ [8, 9, 18] (by decide +kernel) (by decide +kernel)
set_option maxRecDepth 20000 in
theorem gX5_reopen_X6_put : GoodIn wsX5_reopen (wsV RX5 42 RX6 yX6_put wsX6_put) := goodIn_app (goodIn_of _ (by decide +kernel)) ggX5_reopen_X6_put
theorem dX5_reopen_0 : decode cX5_reopen 0 = .ok (.aload_n 0, 1) := by decide +kernel
theorem dX5_reopen_1 : decode cX5_reopen 1 = .ok (.getfield 26, 3) := by decide +kernel
theorem dX5_reopen_4 : decode cX5_reopen 4 = .ok (.iload_n 1, 1) := by decide +kernel
theorem dX5_reopen_5 : decode cX5_reopen 5 = .ok (.iconst 0, 1) := by decide +kernel
theorem dX5_reopen_6 : decode cX5_reopen 6 = .ok (.invokevirtual 42, 3) := by decide +kernel
theorem dX5_reopen_9 : decode cX5_reopen 9 = .ok (.aload_n 0, 1) := by decide +kernel
theorem dX5_reopen_10 : decode cX5_reopen 10 = .ok (.getfield 29, 3) := by decide +kernel
theorem dX5_reopen_13 : decode cX5_reopen 13 = .ok (.iload_n 1, 1) := by decide +kernel
theorem dX5_reopen_14 : decode cX5_reopen 14 = .ok (.iconst 0, 1) := by decide +kernel
theorem dX5_reopen_15 : decode cX5_reopen 15 = .ok (.invokevirtual 42, 3) := by decide +kernel
theorem dX5_reopen_18 : decode cX5_reopen 18 = .ok (.aload_n 0, 1) := by decide +kernel
theorem dX5_reopen_19 : decode cX5_reopen 19 = .ok (.getfield 32, 3) := by decide +kernel
theorem dX5_reopen_22 : decode cX5_reopen 22 = .ok (.iload_n 1, 1) := by decide +kernel
theorem dX5_reopen_23 : decode cX5_reopen 23 = .ok (.iconst 0, 1) := by decide +kernel
theorem dX5_reopen_24 : decode cX5_reopen 24 = .ok (.invokevirtual 42, 3) := by decide +kernel
theorem dX5_reopen_27 : decode cX5_reopen 27 = .ok (.return_, 1) := by decide +kernel
set_option maxRecDepth 20000 in
theorem ggX5_endApprovals_X6_put : GoodIn wsX5_endApprovals wsX6_put := goodIn_r _ [6, 7, 16] (by decide +kernel) (by decide +kernel)
set_option maxRecDepth 20000 in
theorem gX5_endApprovals_X6_put : GoodIn wsX5_endApprovals (wsV RX5 42 RX6 yX6_put wsX6_put) := goodIn_app (goodIn_of _ (by decide +kernel)) ggX5_endApprovals_X6_put
theorem dX5_endApprovals_0 : decode cX5_endApprovals 0 = .ok (.iconst 0, 1) := by decide +kernel
theorem dX5_endApprovals_1 : decode cX5_endApprovals 1 = .ok (.istore_n 2, 1) := by decide +kernel
theorem dX5_endApprovals_2 : decode cX5_endApprovals 2 = .ok (.iload_n 2, 1) := by decide +kernel
theorem dX5_endApprovals_3 : decode cX5_endApprovals 3 = .ok (.bipush 8, 2) := by decide +kernel
theorem dX5_endApprovals_5 : decode cX5_endApprovals 5 = .ok (.if_icmp .ge 23, 3) := by decide +kernel
theorem dX5_endApprovals_8 : decode cX5_endApprovals 8 = .ok (.aload_n 0, 1) := by decide +kernel
theorem dX5_endApprovals_9 : decode cX5_endApprovals 9 = .ok (.getfield 35, 3) := by decide +kernel
theorem dX5_endApprovals_12 : decode cX5_endApprovals 12 = .ok (.iload_n 1, 1) := by decide +kernel
theorem dX5_endApprovals_13 : decode cX5_endApprovals 13 = .ok (.bipush 8, 2) := by decide +kernel
theorem dX5_endApprovals_15 : decode cX5_endApprovals 15 = .ok (.imul, 1) := by decide +kernel
theorem dX5_endApprovals_16 : decode cX5_endApprovals 16 = .ok (.iload_n 2, 1) := by decide +kernel
theorem dX5_endApprovals_17 : decode cX5_endApprovals 17 = .ok (.iadd, 1) := by decide +kernel
theorem dX5_endApprovals_18 : decode cX5_endApprovals 18 = .ok (.iconst 0, 1) := by decide +kernel
theorem dX5_endApprovals_19 : decode cX5_endApprovals 19 = .ok (.invokevirtual 42, 3) := by decide +kernel
theorem dX5_endApprovals_22 : decode cX5_endApprovals 22 = .ok (.iinc 2 1, 3) := by decide +kernel
theorem dX5_endApprovals_25 : decode cX5_endApprovals 25 = .ok (.goto (-23), 3) := by decide +kernel
theorem dX5_endApprovals_28 : decode cX5_endApprovals 28 = .ok (.return_, 1) := by decide +kernel
set_option maxRecDepth 20000 in
theorem ggX2_init_X3_init : GoodIn wsX2_init wsX3_init := goodIn_r _ [17, 18, 2, 3, 19, 20, 21, 22, 23, 24, 25, 26, 27, 28, 29, 30, 31, 32, 33, 99, 78, 79, 80, 81, 82, 83] (by decide +kernel) (by decide +kernel)
set_option maxRecDepth 20000 in
theorem gX2_init_X3_init_n11 : GoodIn wsX2_init (wsX3_init) := ggX2_init_X3_init
set_option maxRecDepth 20000 in
theorem ggX2_init_X4_init : GoodIn wsX2_init wsX4_init := goodIn_r _ [35, 36, 2, 3, 37, 20, 21, 38, 39, 40, 41, 29, 30, 31, 32, 33, 99, 87, 88, 89, 90] (by decide +kernel) (by decide +kernel)
set_option maxRecDepth 20000 in
theorem gX2_init_X4_init_n20 : GoodIn wsX2_init (wsX4_init) := ggX2_init_X4_init
set_option maxRecDepth 20000 in
theorem ggX2_init_X5_init : GoodIn wsX2_init wsX5_init := goodIn_r _ [43, 44, 2, 3, 45, 20, 21, 46, 47, 48, 49, 50, 51, 52, 53, 29, 30, 31, 32, 33, 99, 91, 92, 93, 94, 95, 96, 97, 98] (by decide +kernel) (by decide +kernel)
set_option maxRecDepth 20000 in
theorem gX2_init_X5_init_n27 : GoodIn wsX2_init (wsX5_init) := ggX2_init_X5_init
set_option maxRecDepth 20000 in
theorem ggX2_init_X2_clear : GoodIn wsX2_init wsX2_clear := goodIn_r _ [58, 7, 11, 15, 59, 60, 61, 6, 62, 22, 63, 64, 65, 21, 66, 33, 67, 68, 69, 10, 70, 38, 40, 71, 72, 73, 74, 75, 14, 76, 77, 84, 85, 86, 78, 79, 80, 81, 82, 83, 99, 87, 88, 89, 90, 91, 92, 93, 94, 95, 96, 97, 98] (by decide +kernel) (by decide +kernel)
set_option maxRecDepth 20000 in
theorem gX2_init_X2_clear : GoodIn wsX2_init (wsV RX2 32 RX2 yX2_clear wsX2_clear) := goodIn_app (goodIn_of _ (by decide +kernel)) ggX2_init_X2_clear
theorem dX2_init_0 : decode cX2_init 0 = .ok (.aload_n 0, 1) := by decide +kernel
theorem dX2_init_1 : decode cX2_init 1 = .ok (.invokespecial 3, 3) := by decide +kernel
theorem dX2_init_4 : decode cX2_init 4 = .ok (.aload_n 0, 1) := by decide +kernel
theorem dX2_init_5 : decode cX2_init 5 = .ok (.new 9, 3) := by decide +kernel
theorem dX2_init_8 : decode cX2_init 8 = .ok (.dup, 1) := by decide +kernel
theorem dX2_init_9 : decode cX2_init 9 = .ok (.invokespecial 11, 3) := by decide +kernel
theorem dX2_init_12 : decode cX2_init 12 = .ok (.putfield 12, 3) := by decide +kernel
theorem dX2_init_15 : decode cX2_init 15 = .ok (.aload_n 0, 1) := by decide +kernel
theorem dX2_init_16 : decode cX2_init 16 = .ok (.new 18, 3) := by decide +kernel
theorem dX2_init_19 : decode cX2_init 19 = .ok (.dup, 1) := by decide +kernel
theorem dX2_init_20 : decode cX2_init 20 = .ok (.invokespecial 20, 3) := by decide +kernel
theorem dX2_init_23 : decode cX2_init 23 = .ok (.putfield 21, 3) := by decide +kernel
theorem dX2_init_26 : decode cX2_init 26 = .ok (.aload_n 0, 1) := by decide +kernel
theorem dX2_init_27 : decode cX2_init 27 = .ok (.new 25, 3) := by decide +kernel
theorem dX2_init_30 : decode cX2_init 30 = .ok (.dup, 1) := by decide +kernel
theorem dX2_init_31 : decode cX2_init 31 = .ok (.invokespecial 27, 3) := by decide +kernel
theorem dX2_init_34 : decode cX2_init 34 = .ok (.putfield 28, 3) := by decide +kernel
theorem dX2_init_37 : decode cX2_init 37 = .ok (.aload_n 0, 1) := by decide +kernel
theorem dX2_init_38 : decode cX2_init 38 = .ok (.invokevirtual 32, 3) := by decide +kernel
theorem dX2_init_41 : decode cX2_init 41 = .ok (.return_, 1) := by decide +kernel
set_option maxRecDepth 20000 in
theorem ggX2_clear_X3_clear : GoodIn wsX2_clear wsX3_clear := goodIn_r _ [8, 9, 10, 11, 12, 13, 14, 15, 34, 35, 36, 37, 38, 39, 40] (by decide +kernel) (by decide +kernel)
set_option maxRecDepth 20000 in
theorem gX2_clear_X3_clear : GoodIn wsX2_clear (wsV RX2 35 RX3 yX3_clear wsX3_clear) := goodIn_app (goodIn_of _ (by decide +kernel)) ggX2_clear_X3_clear
set_option maxRecDepth 20000 in
theorem ggX2_clear_X4_clear : GoodIn wsX2_clear wsX4_clear := goodIn_r _ [20, 21, 22, 23, 24, 11, 12, 13, 14, 15, 41, 42, 43, 44, 40] (by decide +kernel) (by decide +kernel)
set_option maxRecDepth 20000 in
theorem gX2_clear_X4_clear : GoodIn wsX2_clear (wsV RX2 36 RX4 yX4_clear wsX4_clear) := goodIn_app (goodIn_of _ (by decide +kernel)) ggX2_clear_X4_clear
set_option maxRecDepth 20000 in
theorem ggX2_clear_X5_clear : GoodIn wsX2_clear wsX5_clear := goodIn_r _ [29, 30, 45, 46, 47, 48, 49, 50, 51, 52] (by decide +kernel) (by decide +kernel)
set_option maxRecDepth 20000 in
theorem gX2_clear_X5_clear : GoodIn wsX2_clear (wsV RX2 37 RX5 yX5_clear wsX5_clear) := goodIn_app (goodIn_of _ (by decide +kernel)) ggX2_clear_X5_clear
theorem dX2_clear_0 : decode cX2_clear 0 = .ok (.aload_n 0, 1) := by decide +kernel
theorem dX2_clear_1 : decode cX2_clear 1 = .ok (.getfield 12, 3) := by decide +kernel
theorem dX2_clear_4 : decode cX2_clear 4 = .ok (.invokevirtual 35, 3) := by decide +kernel
theorem dX2_clear_7 : decode cX2_clear 7 = .ok (.aload_n 0, 1) := by decide +kernel
theorem dX2_clear_8 : decode cX2_clear 8 = .ok (.getfield 21, 3) := by decide +kernel
theorem dX2_clear_11 : decode cX2_clear 11 = .ok (.invokevirtual 36, 3) := by decide +kernel
theorem dX2_clear_14 : decode cX2_clear 14 = .ok (.aload_n 0, 1) := by decide +kernel
theorem dX2_clear_15 : decode cX2_clear 15 = .ok (.getfield 28, 3) := by decide +kernel
theorem dX2_clear_18 : decode cX2_clear 18 = .ok (.invokevirtual 37, 3) := by decide +kernel
theorem dX2_clear_21 : decode cX2_clear 21 = .ok (.return_, 1) := by decide +kernel
set_option maxRecDepth 20000 in
theorem ggX2_apply_X0_wordOf : GoodIn wsX2_apply wsX0_wordOf := goodIn_r _ [8, 9, 10, 11, 12, 13, 14, 15, 150, 151, 152] (by decide +kernel) (by decide +kernel)
set_option maxRecDepth 20000 in
theorem gX2_apply_X0_wordOf : GoodIn wsX2_apply (wsV RX2 38 RX0 yX0_wordOf wsX0_wordOf) := goodIn_app (goodIn_of _ (by decide +kernel)) ggX2_apply_X0_wordOf
set_option maxRecDepth 20000 in
theorem ggX2_apply_X3_addVersion : GoodIn wsX2_apply wsX3_addVersion := goodIn_r _ [20, 21, 22, 23, 24, 25, 11, 12, 13, 14, 15, 26, 27, 19, 28, 29, 30, 31, 32, 153, 154, 155, 156, 157, 158, 152] (by decide +kernel) (by decide +kernel)
set_option maxRecDepth 20000 in
theorem gX2_apply_X3_addVersion : GoodIn wsX2_apply (wsV RX2 44 RX3 yX3_addVersion wsX3_addVersion) := goodIn_app (goodIn_of _ (by decide +kernel)) ggX2_apply_X3_addVersion
set_option maxRecDepth 20000 in
theorem ggX2_apply_X3_addNeed : GoodIn wsX2_apply wsX3_addNeed := goodIn_r _ [36, 24, 37, 38, 26, 27, 19, 28, 25, 11, 12, 13, 14, 15, 29, 30, 31, 32, 39, 40, 41, 153, 154, 155, 156, 157, 158, 152] (by decide +kernel) (by decide +kernel)
set_option maxRecDepth 20000 in
theorem gX2_apply_X3_addNeed : GoodIn wsX2_apply (wsV RX2 47 RX3 yX3_addNeed wsX3_addNeed) := goodIn_app (goodIn_of _ (by decide +kernel)) ggX2_apply_X3_addNeed
set_option maxRecDepth 20000 in
theorem ggX2_apply_X3_markReplaced : GoodIn wsX2_apply wsX3_markReplaced := goodIn_r _ [45, 23, 26, 27, 19, 28, 29, 30, 31, 13, 32, 15, 153, 154, 155, 156, 157, 158, 152] (by decide +kernel) (by decide +kernel)
set_option maxRecDepth 20000 in
theorem gX2_apply_X3_markReplaced : GoodIn wsX2_apply (wsV RX2 51 RX3 yX3_markReplaced wsX3_markReplaced) := goodIn_app (goodIn_of _ (by decide +kernel)) ggX2_apply_X3_markReplaced
set_option maxRecDepth 20000 in
theorem ggX2_apply_X4_today : GoodIn wsX2_apply wsX4_today := goodIn_r _ [50, 51, 159, 160, 161, 162] (by decide +kernel) (by decide +kernel)
set_option maxRecDepth 20000 in
theorem gX2_apply_X4_today : GoodIn wsX2_apply (wsV RX2 55 RX4 yX4_today wsX4_today) := goodIn_app (goodIn_of _ (by decide +kernel)) ggX2_apply_X4_today
set_option maxRecDepth 20000 in
theorem ggX2_apply_X5_loseVersion : GoodIn wsX2_apply wsX5_loseVersion := goodIn_r _ [56, 57, 58, 59, 60, 11, 12, 13, 14, 15, 61, 62, 63, 64, 65, 66, 67, 55, 68, 69, 70, 71, 72, 73, 74, 75, 76, 77, 78, 30, 31, 32, 79, 80, 81, 82, 83, 163, 164, 165, 166, 167, 168, 169, 170, 152] (by decide +kernel) (by decide +kernel)
set_option maxRecDepth 20000 in
theorem gX2_apply_X5_loseVersion : GoodIn wsX2_apply (wsV RX2 59 RX5 yX5_loseVersion wsX5_loseVersion) := goodIn_app (goodIn_of _ (by decide +kernel)) ggX2_apply_X5_loseVersion
set_option maxRecDepth 20000 in
theorem ggX2_apply_X5_add : GoodIn wsX2_apply wsX5_add := goodIn_r _ [87, 57, 88, 89, 90, 78, 30, 31, 13, 32, 15, 79, 80, 81, 55, 82, 59, 58, 83, 74, 75, 76, 77, 73, 163, 164, 165, 166, 167, 168, 169, 170, 152] (by decide +kernel) (by decide +kernel)
set_option maxRecDepth 20000 in
theorem gX2_apply_X5_add : GoodIn wsX2_apply (wsV RX2 63 RX5 yX5_add wsX5_add) := goodIn_app (goodIn_of _ (by decide +kernel)) ggX2_apply_X5_add
set_option maxRecDepth 20000 in
theorem ggX2_apply_X3_costOf : GoodIn wsX2_apply wsX3_costOf := goodIn_r _ [94, 22, 95, 62, 63, 64, 26, 27, 19, 28, 25, 11, 12, 13, 14, 15, 153, 154, 155, 156, 157, 158, 152] (by decide +kernel) (by decide +kernel)
set_option maxRecDepth 20000 in
theorem gX2_apply_X3_costOf : GoodIn wsX2_apply (wsV RX2 66 RX3 yX3_costOf wsX3_costOf) := goodIn_app (goodIn_of _ (by decide +kernel)) ggX2_apply_X3_costOf
set_option maxRecDepth 20000 in
theorem ggX2_apply_X5_settle : GoodIn wsX2_apply wsX5_settle := goodIn_r _ [99, 59, 58, 83, 78, 30, 31, 13, 32, 15, 74, 75, 76, 55, 77, 73, 163, 164, 165, 166, 167, 168, 169, 170, 152] (by decide +kernel) (by decide +kernel)
set_option maxRecDepth 20000 in
theorem gX2_apply_X5_settle : GoodIn wsX2_apply (wsV RX2 70 RX5 yX5_settle wsX5_settle) := goodIn_app (goodIn_of _ (by decide +kernel)) ggX2_apply_X5_settle
set_option maxRecDepth 20000 in
theorem ggX2_apply_X4_changeLimit : GoodIn wsX2_apply wsX4_changeLimit := goodIn_r _ [103, 104, 105, 11, 12, 13, 14, 15, 106, 30, 31, 32, 159, 160, 161, 162, 152] (by decide +kernel) (by decide +kernel)
set_option maxRecDepth 20000 in
theorem gX2_apply_X4_changeLimit : GoodIn wsX2_apply (wsV RX2 73 RX4 yX4_changeLimit wsX4_changeLimit) := goodIn_app (goodIn_of _ (by decide +kernel)) ggX2_apply_X4_changeLimit
set_option maxRecDepth 20000 in
theorem ggX2_apply_X4_sendOnLeave : GoodIn wsX2_apply wsX4_sendOnLeave := goodIn_r _ [110, 111, 112, 51, 106, 30, 31, 13, 32, 15, 105, 11, 12, 14, 159, 160, 161, 162, 152] (by decide +kernel) (by decide +kernel)
set_option maxRecDepth 20000 in
theorem gX2_apply_X4_sendOnLeave : GoodIn wsX2_apply (wsV RX2 76 RX4 yX4_sendOnLeave wsX4_sendOnLeave) := goodIn_app (goodIn_of _ (by decide +kernel)) ggX2_apply_X4_sendOnLeave
set_option maxRecDepth 20000 in
theorem ggX2_apply_X2_takeApproval : GoodIn wsX2_apply wsX2_takeApproval := goodIn_r _ [117, 3, 2, 118, 119, 120, 121, 55, 122, 83, 60, 11, 12, 13, 14, 15, 123, 124, 125, 49, 126, 104, 111, 127, 128, 129, 130, 51, 112, 105, 131, 132, 133, 134, 135, 136, 137, 138, 73, 78, 30, 31, 32, 147, 148, 149, 163, 164, 165, 166, 167, 168, 169, 170, 152, 159, 160, 161, 162] (by decide +kernel) (by decide +kernel)
set_option maxRecDepth 20000 in
theorem gX2_apply_X2_takeApproval : GoodIn wsX2_apply (wsV RX2 79 RX2 yX2_takeApproval wsX2_takeApproval) := goodIn_app (goodIn_of _ (by decide +kernel)) ggX2_apply_X2_takeApproval
set_option maxRecDepth 20000 in
theorem ggX2_apply_X5_markReleased : GoodIn wsX2_apply wsX5_markReleased := goodIn_r _ [142, 59, 78, 30, 31, 13, 32, 15, 163, 164, 165, 166, 167, 168, 169, 170, 152] (by decide +kernel) (by decide +kernel)
set_option maxRecDepth 20000 in
theorem gX2_apply_X5_markReleased : GoodIn wsX2_apply (wsV RX2 82 RX5 yX5_markReleased wsX5_markReleased) := goodIn_app (goodIn_of _ (by decide +kernel)) ggX2_apply_X5_markReleased
set_option maxRecDepth 20000 in
theorem ggX2_apply_X4_addDays : GoodIn wsX2_apply wsX4_addDays := goodIn_r _ [146, 51, 159, 160, 161, 162] (by decide +kernel) (by decide +kernel)
set_option maxRecDepth 20000 in
theorem gX2_apply_X4_addDays : GoodIn wsX2_apply (wsV RX2 85 RX4 yX4_addDays wsX4_addDays) := goodIn_app (goodIn_of _ (by decide +kernel)) ggX2_apply_X4_addDays
theorem dX2_apply_0 : decode cX2_apply 0 = .ok (.iload_n 2, 1) := by decide +kernel
theorem dX2_apply_1 : decode cX2_apply 1 = .ok (.iconst (-1), 1) := by decide +kernel
theorem dX2_apply_2 : decode cX2_apply 2 = .ok (.if_icmp .ne 5, 3) := by decide +kernel
theorem dX2_apply_5 : decode cX2_apply 5 = .ok (.iconst (-1), 1) := by decide +kernel
theorem dX2_apply_6 : decode cX2_apply 6 = .ok (.ireturn, 1) := by decide +kernel
theorem dX2_apply_7 : decode cX2_apply 7 = .ok (.aload_n 1, 1) := by decide +kernel
theorem dX2_apply_8 : decode cX2_apply 8 = .ok (.iload_n 2, 1) := by decide +kernel
theorem dX2_apply_9 : decode cX2_apply 9 = .ok (.iconst 1, 1) := by decide +kernel
theorem dX2_apply_10 : decode cX2_apply 10 = .ok (.invokevirtual 38, 3) := by decide +kernel
theorem dX2_apply_13 : decode cX2_apply 13 = .ok (.istore_n 3, 1) := by decide +kernel
theorem dX2_apply_14 : decode cX2_apply 14 = .ok (.aload_n 1, 1) := by decide +kernel
theorem dX2_apply_15 : decode cX2_apply 15 = .ok (.iload_n 2, 1) := by decide +kernel
theorem dX2_apply_16 : decode cX2_apply 16 = .ok (.iconst 2, 1) := by decide +kernel
theorem dX2_apply_17 : decode cX2_apply 17 = .ok (.invokevirtual 38, 3) := by decide +kernel
theorem dX2_apply_20 : decode cX2_apply 20 = .ok (.istore 4, 2) := by decide +kernel
theorem dX2_apply_22 : decode cX2_apply 22 = .ok (.aload_n 1, 1) := by decide +kernel
theorem dX2_apply_23 : decode cX2_apply 23 = .ok (.iload_n 2, 1) := by decide +kernel
theorem dX2_apply_24 : decode cX2_apply 24 = .ok (.iconst 3, 1) := by decide +kernel
theorem dX2_apply_25 : decode cX2_apply 25 = .ok (.invokevirtual 38, 3) := by decide +kernel
theorem dX2_apply_28 : decode cX2_apply 28 = .ok (.istore 5, 2) := by decide +kernel
theorem dX2_apply_30 : decode cX2_apply 30 = .ok (.aload_n 1, 1) := by decide +kernel
theorem dX2_apply_31 : decode cX2_apply 31 = .ok (.iload_n 2, 1) := by decide +kernel
theorem dX2_apply_32 : decode cX2_apply 32 = .ok (.iconst 0, 1) := by decide +kernel
theorem dX2_apply_33 : decode cX2_apply 33 = .ok (.invokevirtual 38, 3) := by decide +kernel
theorem dX2_apply_36 : decode cX2_apply 36 = .ok (.tableswitch 203 1 10 #[56, 67, 92, 120, 133, 153, 164, 177, 185, 194], 56) := by decide +kernel
theorem dX2_apply_92 : decode cX2_apply 92 = .ok (.aload_n 0, 1) := by decide +kernel
theorem dX2_apply_93 : decode cX2_apply 93 = .ok (.getfield 12, 3) := by decide +kernel
theorem dX2_apply_96 : decode cX2_apply 96 = .ok (.iload_n 3, 1) := by decide +kernel
theorem dX2_apply_97 : decode cX2_apply 97 = .ok (.iload 4, 2) := by decide +kernel
theorem dX2_apply_99 : decode cX2_apply 99 = .ok (.invokevirtual 44, 3) := by decide +kernel
theorem dX2_apply_102 : decode cX2_apply 102 = .ok (.ireturn, 1) := by decide +kernel
theorem dX2_apply_103 : decode cX2_apply 103 = .ok (.aload_n 0, 1) := by decide +kernel
theorem dX2_apply_104 : decode cX2_apply 104 = .ok (.getfield 12, 3) := by decide +kernel
theorem dX2_apply_107 : decode cX2_apply 107 = .ok (.iload_n 3, 1) := by decide +kernel
theorem dX2_apply_108 : decode cX2_apply 108 = .ok (.iload 4, 2) := by decide +kernel
theorem dX2_apply_110 : decode cX2_apply 110 = .ok (.iload 5, 2) := by decide +kernel
theorem dX2_apply_112 : decode cX2_apply 112 = .ok (.aload_n 1, 1) := by decide +kernel
theorem dX2_apply_113 : decode cX2_apply 113 = .ok (.iload_n 2, 1) := by decide +kernel
theorem dX2_apply_114 : decode cX2_apply 114 = .ok (.iconst 4, 1) := by decide +kernel
theorem dX2_apply_115 : decode cX2_apply 115 = .ok (.invokevirtual 38, 3) := by decide +kernel
theorem dX2_apply_118 : decode cX2_apply 118 = .ok (.aload_n 1, 1) := by decide +kernel
theorem dX2_apply_119 : decode cX2_apply 119 = .ok (.iload_n 2, 1) := by decide +kernel
theorem dX2_apply_120 : decode cX2_apply 120 = .ok (.iconst 5, 1) := by decide +kernel
theorem dX2_apply_121 : decode cX2_apply 121 = .ok (.invokevirtual 38, 3) := by decide +kernel
theorem dX2_apply_124 : decode cX2_apply 124 = .ok (.invokevirtual 47, 3) := by decide +kernel
theorem dX2_apply_127 : decode cX2_apply 127 = .ok (.ireturn, 1) := by decide +kernel
theorem dX2_apply_128 : decode cX2_apply 128 = .ok (.aload_n 0, 1) := by decide +kernel
theorem dX2_apply_129 : decode cX2_apply 129 = .ok (.getfield 12, 3) := by decide +kernel
theorem dX2_apply_132 : decode cX2_apply 132 = .ok (.iload_n 3, 1) := by decide +kernel
theorem dX2_apply_133 : decode cX2_apply 133 = .ok (.iload 4, 2) := by decide +kernel
theorem dX2_apply_135 : decode cX2_apply 135 = .ok (.invokevirtual 51, 3) := by decide +kernel
theorem dX2_apply_138 : decode cX2_apply 138 = .ok (.aload_n 0, 1) := by decide +kernel
theorem dX2_apply_139 : decode cX2_apply 139 = .ok (.getfield 28, 3) := by decide +kernel
theorem dX2_apply_142 : decode cX2_apply 142 = .ok (.iload_n 3, 1) := by decide +kernel
theorem dX2_apply_143 : decode cX2_apply 143 = .ok (.iload 4, 2) := by decide +kernel
theorem dX2_apply_145 : decode cX2_apply 145 = .ok (.aload_n 0, 1) := by decide +kernel
theorem dX2_apply_146 : decode cX2_apply 146 = .ok (.getfield 21, 3) := by decide +kernel
theorem dX2_apply_149 : decode cX2_apply 149 = .ok (.invokevirtual 55, 3) := by decide +kernel
theorem dX2_apply_152 : decode cX2_apply 152 = .ok (.invokevirtual 59, 3) := by decide +kernel
theorem dX2_apply_155 : decode cX2_apply 155 = .ok (.ireturn, 1) := by decide +kernel
theorem dX2_apply_156 : decode cX2_apply 156 = .ok (.aload_n 0, 1) := by decide +kernel
theorem dX2_apply_157 : decode cX2_apply 157 = .ok (.getfield 28, 3) := by decide +kernel
theorem dX2_apply_160 : decode cX2_apply 160 = .ok (.iload_n 3, 1) := by decide +kernel
theorem dX2_apply_161 : decode cX2_apply 161 = .ok (.iload 4, 2) := by decide +kernel
theorem dX2_apply_163 : decode cX2_apply 163 = .ok (.iload 5, 2) := by decide +kernel
theorem dX2_apply_165 : decode cX2_apply 165 = .ok (.invokevirtual 63, 3) := by decide +kernel
theorem dX2_apply_168 : decode cX2_apply 168 = .ok (.ireturn, 1) := by decide +kernel
theorem dX2_apply_169 : decode cX2_apply 169 = .ok (.aload_n 0, 1) := by decide +kernel
theorem dX2_apply_170 : decode cX2_apply 170 = .ok (.getfield 28, 3) := by decide +kernel
theorem dX2_apply_173 : decode cX2_apply 173 = .ok (.iload_n 3, 1) := by decide +kernel
theorem dX2_apply_174 : decode cX2_apply 174 = .ok (.iload 4, 2) := by decide +kernel
theorem dX2_apply_176 : decode cX2_apply 176 = .ok (.aload_n 0, 1) := by decide +kernel
theorem dX2_apply_177 : decode cX2_apply 177 = .ok (.getfield 12, 3) := by decide +kernel
theorem dX2_apply_180 : decode cX2_apply 180 = .ok (.iload 4, 2) := by decide +kernel
theorem dX2_apply_182 : decode cX2_apply 182 = .ok (.invokevirtual 66, 3) := by decide +kernel
theorem dX2_apply_185 : decode cX2_apply 185 = .ok (.invokevirtual 70, 3) := by decide +kernel
theorem dX2_apply_188 : decode cX2_apply 188 = .ok (.ireturn, 1) := by decide +kernel
theorem dX2_apply_189 : decode cX2_apply 189 = .ok (.aload_n 0, 1) := by decide +kernel
theorem dX2_apply_190 : decode cX2_apply 190 = .ok (.getfield 21, 3) := by decide +kernel
theorem dX2_apply_193 : decode cX2_apply 193 = .ok (.iload_n 3, 1) := by decide +kernel
theorem dX2_apply_194 : decode cX2_apply 194 = .ok (.iload 4, 2) := by decide +kernel
theorem dX2_apply_196 : decode cX2_apply 196 = .ok (.invokevirtual 73, 3) := by decide +kernel
theorem dX2_apply_199 : decode cX2_apply 199 = .ok (.ireturn, 1) := by decide +kernel
theorem dX2_apply_200 : decode cX2_apply 200 = .ok (.aload_n 0, 1) := by decide +kernel
theorem dX2_apply_201 : decode cX2_apply 201 = .ok (.getfield 21, 3) := by decide +kernel
theorem dX2_apply_204 : decode cX2_apply 204 = .ok (.iload_n 3, 1) := by decide +kernel
theorem dX2_apply_205 : decode cX2_apply 205 = .ok (.iload 4, 2) := by decide +kernel
theorem dX2_apply_207 : decode cX2_apply 207 = .ok (.iload 5, 2) := by decide +kernel
theorem dX2_apply_209 : decode cX2_apply 209 = .ok (.invokevirtual 76, 3) := by decide +kernel
theorem dX2_apply_212 : decode cX2_apply 212 = .ok (.ireturn, 1) := by decide +kernel
theorem dX2_apply_213 : decode cX2_apply 213 = .ok (.aload_n 0, 1) := by decide +kernel
theorem dX2_apply_214 : decode cX2_apply 214 = .ok (.iload_n 3, 1) := by decide +kernel
theorem dX2_apply_215 : decode cX2_apply 215 = .ok (.iload 4, 2) := by decide +kernel
theorem dX2_apply_217 : decode cX2_apply 217 = .ok (.invokevirtual 79, 3) := by decide +kernel
theorem dX2_apply_220 : decode cX2_apply 220 = .ok (.ireturn, 1) := by decide +kernel
theorem dX2_apply_221 : decode cX2_apply 221 = .ok (.aload_n 0, 1) := by decide +kernel
theorem dX2_apply_222 : decode cX2_apply 222 = .ok (.getfield 28, 3) := by decide +kernel
theorem dX2_apply_225 : decode cX2_apply 225 = .ok (.iload_n 3, 1) := by decide +kernel
theorem dX2_apply_226 : decode cX2_apply 226 = .ok (.invokevirtual 82, 3) := by decide +kernel
theorem dX2_apply_229 : decode cX2_apply 229 = .ok (.ireturn, 1) := by decide +kernel
theorem dX2_apply_230 : decode cX2_apply 230 = .ok (.aload_n 0, 1) := by decide +kernel
theorem dX2_apply_231 : decode cX2_apply 231 = .ok (.getfield 21, 3) := by decide +kernel
theorem dX2_apply_234 : decode cX2_apply 234 = .ok (.iload_n 3, 1) := by decide +kernel
theorem dX2_apply_235 : decode cX2_apply 235 = .ok (.invokevirtual 85, 3) := by decide +kernel
theorem dX2_apply_238 : decode cX2_apply 238 = .ok (.ireturn, 1) := by decide +kernel
theorem dX2_apply_239 : decode cX2_apply 239 = .ok (.iconst (-1), 1) := by decide +kernel
theorem dX2_apply_240 : decode cX2_apply 240 = .ok (.ireturn, 1) := by decide +kernel
set_option maxRecDepth 20000 in
theorem ggX2_principalFor_X5_stateOf : GoodIn wsX2_principalFor wsX5_stateOf := goodIn_r _ [7, 8, 9, 10, 11, 12, 13, 14, 51, 52, 53, 54, 55, 56, 57, 58, 59] (by decide +kernel) (by decide +kernel)
set_option maxRecDepth 20000 in
theorem gX2_principalFor_X5_stateOf : GoodIn wsX2_principalFor (wsV RX2 88 RX5 yX5_stateOf wsX5_stateOf) := goodIn_app (goodIn_of _ (by decide +kernel)) ggX2_principalFor_X5_stateOf
set_option maxRecDepth 20000 in
theorem ggX2_principalFor_X5_personOf : GoodIn wsX2_principalFor wsX5_personOf := goodIn_r _ [18, 19, 9, 10, 11, 12, 13, 14, 51, 52, 53, 54, 55, 56, 57, 58, 59] (by decide +kernel) (by decide +kernel)
set_option maxRecDepth 20000 in
theorem gX2_principalFor_X5_personOf : GoodIn wsX2_principalFor (wsV RX2 91 RX5 yX5_personOf wsX5_personOf) := goodIn_app (goodIn_of _ (by decide +kernel)) ggX2_principalFor_X5_personOf
set_option maxRecDepth 20000 in
theorem ggX2_principalFor_X4_today : GoodIn wsX2_principalFor wsX4_today := goodIn_r _ [24, 25, 60, 61, 62, 63] (by decide +kernel) (by decide +kernel)
set_option maxRecDepth 20000 in
theorem gX2_principalFor_X4_today : GoodIn wsX2_principalFor (wsV RX2 55 RX4 yX4_today wsX4_today) := goodIn_app (goodIn_of _ (by decide +kernel)) ggX2_principalFor_X4_today
set_option maxRecDepth 20000 in
theorem ggX2_principalFor_X5_hasApproval : GoodIn wsX2_principalFor wsX5_hasApproval := goodIn_r _ [29, 30, 9, 10, 11, 12, 13, 14, 51, 52, 53, 54, 55, 56, 57, 58, 59] (by decide +kernel) (by decide +kernel)
set_option maxRecDepth 20000 in
theorem gX2_principalFor_X5_hasApproval : GoodIn wsX2_principalFor (wsV RX2 94 RX5 yX5_hasApproval wsX5_hasApproval) := goodIn_app (goodIn_of _ (by decide +kernel)) ggX2_principalFor_X5_hasApproval
set_option maxRecDepth 20000 in
theorem ggX2_principalFor_X5_costOf : GoodIn wsX2_principalFor wsX5_costOf := goodIn_r _ [34, 35, 9, 10, 11, 12, 13, 14, 51, 52, 53, 54, 55, 56, 57, 58, 59] (by decide +kernel) (by decide +kernel)
set_option maxRecDepth 20000 in
theorem gX2_principalFor_X5_costOf : GoodIn wsX2_principalFor (wsV RX2 98 RX5 yX5_costOf wsX5_costOf) := goodIn_app (goodIn_of _ (by decide +kernel)) ggX2_principalFor_X5_costOf
set_option maxRecDepth 20000 in
theorem ggX2_principalFor_X4_principalOf : GoodIn wsX2_principalFor wsX4_principalOf := goodIn_r _ [39, 40, 41, 42, 43, 44, 23, 45, 25, 46, 47, 10, 11, 12, 13, 14, 60, 61, 62, 63, 59] (by decide +kernel) (by decide +kernel)
set_option maxRecDepth 20000 in
theorem gX2_principalFor_X4_principalOf : GoodIn wsX2_principalFor (wsV RX2 99 RX4 yX4_principalOf wsX4_principalOf) := goodIn_app (goodIn_of _ (by decide +kernel)) ggX2_principalFor_X4_principalOf
theorem dX2_principalFor_0 : decode cX2_principalFor 0 = .ok (.aload_n 0, 1) := by decide +kernel
theorem dX2_principalFor_1 : decode cX2_principalFor 1 = .ok (.getfield 28, 3) := by decide +kernel
theorem dX2_principalFor_4 : decode cX2_principalFor 4 = .ok (.iload_n 1, 1) := by decide +kernel
theorem dX2_principalFor_5 : decode cX2_principalFor 5 = .ok (.invokevirtual 88, 3) := by decide +kernel
theorem dX2_principalFor_8 : decode cX2_principalFor 8 = .ok (.iconst 1, 1) := by decide +kernel
theorem dX2_principalFor_9 : decode cX2_principalFor 9 = .ok (.if_icmp .ne 38, 3) := by decide +kernel
theorem dX2_principalFor_12 : decode cX2_principalFor 12 = .ok (.iload_n 2, 1) := by decide +kernel
theorem dX2_principalFor_13 : decode cX2_principalFor 13 = .ok (.aload_n 0, 1) := by decide +kernel
theorem dX2_principalFor_14 : decode cX2_principalFor 14 = .ok (.getfield 28, 3) := by decide +kernel
theorem dX2_principalFor_17 : decode cX2_principalFor 17 = .ok (.iload_n 1, 1) := by decide +kernel
theorem dX2_principalFor_18 : decode cX2_principalFor 18 = .ok (.invokevirtual 91, 3) := by decide +kernel
theorem dX2_principalFor_21 : decode cX2_principalFor 21 = .ok (.if_icmp .eq 26, 3) := by decide +kernel
theorem dX2_principalFor_24 : decode cX2_principalFor 24 = .ok (.aload_n 0, 1) := by decide +kernel
theorem dX2_principalFor_25 : decode cX2_principalFor 25 = .ok (.getfield 28, 3) := by decide +kernel
theorem dX2_principalFor_28 : decode cX2_principalFor 28 = .ok (.iload_n 1, 1) := by decide +kernel
theorem dX2_principalFor_29 : decode cX2_principalFor 29 = .ok (.iload_n 2, 1) := by decide +kernel
theorem dX2_principalFor_30 : decode cX2_principalFor 30 = .ok (.aload_n 0, 1) := by decide +kernel
theorem dX2_principalFor_31 : decode cX2_principalFor 31 = .ok (.getfield 21, 3) := by decide +kernel
theorem dX2_principalFor_34 : decode cX2_principalFor 34 = .ok (.invokevirtual 55, 3) := by decide +kernel
theorem dX2_principalFor_37 : decode cX2_principalFor 37 = .ok (.invokevirtual 94, 3) := by decide +kernel
theorem dX2_principalFor_40 : decode cX2_principalFor 40 = .ok (.ifCond .ne 7, 3) := by decide +kernel
theorem dX2_principalFor_43 : decode cX2_principalFor 43 = .ok (.iconst 1, 1) := by decide +kernel
theorem dX2_principalFor_44 : decode cX2_principalFor 44 = .ok (.goto 4, 3) := by decide +kernel
theorem dX2_principalFor_47 : decode cX2_principalFor 47 = .ok (.iconst 0, 1) := by decide +kernel
theorem dX2_principalFor_48 : decode cX2_principalFor 48 = .ok (.istore_n 3, 1) := by decide +kernel
theorem dX2_principalFor_49 : decode cX2_principalFor 49 = .ok (.iload_n 3, 1) := by decide +kernel
theorem dX2_principalFor_50 : decode cX2_principalFor 50 = .ok (.ifCond .eq 22, 3) := by decide +kernel
theorem dX2_principalFor_53 : decode cX2_principalFor 53 = .ok (.aload_n 0, 1) := by decide +kernel
theorem dX2_principalFor_54 : decode cX2_principalFor 54 = .ok (.getfield 21, 3) := by decide +kernel
theorem dX2_principalFor_57 : decode cX2_principalFor 57 = .ok (.iload_n 2, 1) := by decide +kernel
theorem dX2_principalFor_58 : decode cX2_principalFor 58 = .ok (.aload_n 0, 1) := by decide +kernel
theorem dX2_principalFor_59 : decode cX2_principalFor 59 = .ok (.getfield 28, 3) := by decide +kernel
theorem dX2_principalFor_62 : decode cX2_principalFor 62 = .ok (.iload_n 1, 1) := by decide +kernel
theorem dX2_principalFor_63 : decode cX2_principalFor 63 = .ok (.invokevirtual 98, 3) := by decide +kernel
theorem dX2_principalFor_66 : decode cX2_principalFor 66 = .ok (.invokevirtual 99, 3) := by decide +kernel
theorem dX2_principalFor_69 : decode cX2_principalFor 69 = .ok (.goto 4, 3) := by decide +kernel
theorem dX2_principalFor_72 : decode cX2_principalFor 72 = .ok (.iconst (-1), 1) := by decide +kernel
theorem dX2_principalFor_73 : decode cX2_principalFor 73 = .ok (.ireturn, 1) := by decide +kernel
set_option maxRecDepth 20000 in
theorem ggX2_approvalsOf_X4_today : GoodIn wsX2_approvalsOf wsX4_today := goodIn_r _ [7, 8, 28, 29, 30, 31] (by decide +kernel) (by decide +kernel)
set_option maxRecDepth 20000 in
theorem gX2_approvalsOf_X4_today : GoodIn wsX2_approvalsOf (wsV RX2 55 RX4 yX4_today wsX4_today) := goodIn_app (goodIn_of _ (by decide +kernel)) ggX2_approvalsOf_X4_today
set_option maxRecDepth 20000 in
theorem ggX2_approvalsOf_X5_approvalsOf : GoodIn wsX2_approvalsOf wsX5_approvalsOf := goodIn_r _ [13, 14, 15, 16, 12, 17, 18, 19, 20, 21, 22, 23, 24, 32, 33, 34, 35, 36, 37, 38, 39, 40] (by decide +kernel) (by decide +kernel)
set_option maxRecDepth 20000 in
theorem gX2_approvalsOf_X5_approvalsOf : GoodIn wsX2_approvalsOf (wsV RX2 102 RX5 yX5_approvalsOf wsX5_approvalsOf) := goodIn_app (goodIn_of _ (by decide +kernel)) ggX2_approvalsOf_X5_approvalsOf
theorem dX2_approvalsOf_0 : decode cX2_approvalsOf 0 = .ok (.aload_n 0, 1) := by decide +kernel
theorem dX2_approvalsOf_1 : decode cX2_approvalsOf 1 = .ok (.getfield 28, 3) := by decide +kernel
theorem dX2_approvalsOf_4 : decode cX2_approvalsOf 4 = .ok (.iload_n 1, 1) := by decide +kernel
theorem dX2_approvalsOf_5 : decode cX2_approvalsOf 5 = .ok (.aload_n 0, 1) := by decide +kernel
theorem dX2_approvalsOf_6 : decode cX2_approvalsOf 6 = .ok (.getfield 21, 3) := by decide +kernel
theorem dX2_approvalsOf_9 : decode cX2_approvalsOf 9 = .ok (.invokevirtual 55, 3) := by decide +kernel
theorem dX2_approvalsOf_12 : decode cX2_approvalsOf 12 = .ok (.invokevirtual 102, 3) := by decide +kernel
theorem dX2_approvalsOf_15 : decode cX2_approvalsOf 15 = .ok (.ireturn, 1) := by decide +kernel
set_option maxRecDepth 20000 in
theorem ggX2_isCovered_X5_costOf : GoodIn wsX2_isCovered wsX5_costOf := goodIn_r _ [6, 7, 8, 9, 10, 11, 12, 13, 38, 39, 40, 41, 42, 43, 44, 45, 46] (by decide +kernel) (by decide +kernel)
set_option maxRecDepth 20000 in
theorem gX2_isCovered_X5_costOf : GoodIn wsX2_isCovered (wsV RX2 98 RX5 yX5_costOf wsX5_costOf) := goodIn_app (goodIn_of _ (by decide +kernel)) ggX2_isCovered_X5_costOf
set_option maxRecDepth 20000 in
theorem ggX2_isCovered_X2_approvalsOf : GoodIn wsX2_isCovered wsX2_approvalsOf := goodIn_r _ [18, 1, 19, 20, 21, 22, 23, 24, 25, 26, 27, 28, 5, 29, 30, 31, 32, 33, 34, 8, 9, 10, 11, 12, 13, 35, 36, 37, 47, 48, 49, 50, 38, 39, 40, 41, 42, 43, 44, 45, 46] (by decide +kernel) (by decide +kernel)
set_option maxRecDepth 20000 in
theorem gX2_isCovered_X2_approvalsOf : GoodIn wsX2_isCovered (wsV RX2 105 RX2 yX2_approvalsOf wsX2_approvalsOf) := goodIn_app (goodIn_of _ (by decide +kernel)) ggX2_isCovered_X2_approvalsOf
theorem dX2_isCovered_0 : decode cX2_isCovered 0 = .ok (.aload_n 0, 1) := by decide +kernel
theorem dX2_isCovered_1 : decode cX2_isCovered 1 = .ok (.getfield 28, 3) := by decide +kernel
theorem dX2_isCovered_4 : decode cX2_isCovered 4 = .ok (.iload_n 1, 1) := by decide +kernel
theorem dX2_isCovered_5 : decode cX2_isCovered 5 = .ok (.invokevirtual 98, 3) := by decide +kernel
theorem dX2_isCovered_8 : decode cX2_isCovered 8 = .ok (.sipush 500, 3) := by decide +kernel
theorem dX2_isCovered_11 : decode cX2_isCovered 11 = .ok (.if_icmp .le 7, 3) := by decide +kernel
theorem dX2_isCovered_14 : decode cX2_isCovered 14 = .ok (.iconst 2, 1) := by decide +kernel
theorem dX2_isCovered_15 : decode cX2_isCovered 15 = .ok (.goto 4, 3) := by decide +kernel
theorem dX2_isCovered_18 : decode cX2_isCovered 18 = .ok (.iconst 1, 1) := by decide +kernel
theorem dX2_isCovered_19 : decode cX2_isCovered 19 = .ok (.istore_n 2, 1) := by decide +kernel
theorem dX2_isCovered_20 : decode cX2_isCovered 20 = .ok (.aload_n 0, 1) := by decide +kernel
theorem dX2_isCovered_21 : decode cX2_isCovered 21 = .ok (.iload_n 1, 1) := by decide +kernel
theorem dX2_isCovered_22 : decode cX2_isCovered 22 = .ok (.invokevirtual 105, 3) := by decide +kernel
theorem dX2_isCovered_25 : decode cX2_isCovered 25 = .ok (.iload_n 2, 1) := by decide +kernel
theorem dX2_isCovered_26 : decode cX2_isCovered 26 = .ok (.if_icmp .lt 7, 3) := by decide +kernel
theorem dX2_isCovered_29 : decode cX2_isCovered 29 = .ok (.iconst 1, 1) := by decide +kernel
theorem dX2_isCovered_30 : decode cX2_isCovered 30 = .ok (.goto 4, 3) := by decide +kernel
theorem dX2_isCovered_33 : decode cX2_isCovered 33 = .ok (.iconst 0, 1) := by decide +kernel
theorem dX2_isCovered_34 : decode cX2_isCovered 34 = .ok (.ireturn, 1) := by decide +kernel
set_option maxRecDepth 20000 in
theorem ggX2_takeApproval_X5_costOf : GoodIn wsX2_takeApproval wsX5_costOf := goodIn_r _ [8, 9, 10, 11, 12, 13, 14, 15, 46, 47, 48, 49, 50, 51, 52, 53, 54] (by decide +kernel) (by decide +kernel)
set_option maxRecDepth 20000 in
theorem gX2_takeApproval_X5_costOf : GoodIn wsX2_takeApproval (wsV RX2 98 RX5 yX5_costOf wsX5_costOf) := goodIn_app (goodIn_of _ (by decide +kernel)) ggX2_takeApproval_X5_costOf
set_option maxRecDepth 20000 in
theorem ggX2_takeApproval_X4_principalOf : GoodIn wsX2_takeApproval wsX4_principalOf := goodIn_r _ [20, 21, 22, 23, 24, 25, 19, 26, 27, 28, 29, 11, 12, 13, 14, 15, 55, 56, 57, 58, 54] (by decide +kernel) (by decide +kernel)
set_option maxRecDepth 20000 in
theorem gX2_takeApproval_X4_principalOf : GoodIn wsX2_takeApproval (wsV RX2 99 RX4 yX4_principalOf wsX4_principalOf) := goodIn_app (goodIn_of _ (by decide +kernel)) ggX2_takeApproval_X4_principalOf
set_option maxRecDepth 20000 in
theorem ggX2_takeApproval_X4_backOf : GoodIn wsX2_takeApproval wsX4_backOf := goodIn_r _ [33, 28, 29, 11, 12, 13, 14, 15, 55, 56, 57, 58, 54] (by decide +kernel) (by decide +kernel)
set_option maxRecDepth 20000 in
theorem gX2_takeApproval_X4_backOf : GoodIn wsX2_takeApproval (wsV RX2 108 RX4 yX4_backOf wsX4_backOf) := goodIn_app (goodIn_of _ (by decide +kernel)) ggX2_takeApproval_X4_backOf
set_option maxRecDepth 20000 in
theorem ggX2_takeApproval_X5_addApproval : GoodIn wsX2_takeApproval wsX5_addApproval := goodIn_r _ [37, 38, 39, 40, 41, 13, 42, 15, 46, 47, 48, 49, 50, 51, 52, 53, 54] (by decide +kernel) (by decide +kernel)
set_option maxRecDepth 20000 in
theorem gX2_takeApproval_X5_addApproval : GoodIn wsX2_takeApproval (wsV RX2 111 RX5 yX5_addApproval wsX5_addApproval) := goodIn_app (goodIn_of _ (by decide +kernel)) ggX2_takeApproval_X5_addApproval
theorem dX2_takeApproval_0 : decode cX2_takeApproval 0 = .ok (.aload_n 0, 1) := by decide +kernel
theorem dX2_takeApproval_1 : decode cX2_takeApproval 1 = .ok (.getfield 21, 3) := by decide +kernel
theorem dX2_takeApproval_4 : decode cX2_takeApproval 4 = .ok (.iload_n 2, 1) := by decide +kernel
theorem dX2_takeApproval_5 : decode cX2_takeApproval 5 = .ok (.aload_n 0, 1) := by decide +kernel
theorem dX2_takeApproval_6 : decode cX2_takeApproval 6 = .ok (.getfield 28, 3) := by decide +kernel
theorem dX2_takeApproval_9 : decode cX2_takeApproval 9 = .ok (.iload_n 1, 1) := by decide +kernel
theorem dX2_takeApproval_10 : decode cX2_takeApproval 10 = .ok (.invokevirtual 98, 3) := by decide +kernel
theorem dX2_takeApproval_13 : decode cX2_takeApproval 13 = .ok (.invokevirtual 99, 3) := by decide +kernel
theorem dX2_takeApproval_16 : decode cX2_takeApproval 16 = .ok (.istore_n 3, 1) := by decide +kernel
theorem dX2_takeApproval_17 : decode cX2_takeApproval 17 = .ok (.iload_n 3, 1) := by decide +kernel
theorem dX2_takeApproval_18 : decode cX2_takeApproval 18 = .ok (.iload_n 2, 1) := by decide +kernel
theorem dX2_takeApproval_19 : decode cX2_takeApproval 19 = .ok (.if_icmp .ne 8, 3) := by decide +kernel
theorem dX2_takeApproval_22 : decode cX2_takeApproval 22 = .ok (.ldc 107, 2) := by decide +kernel
theorem dX2_takeApproval_24 : decode cX2_takeApproval 24 = .ok (.goto 11, 3) := by decide +kernel
theorem dX2_takeApproval_27 : decode cX2_takeApproval 27 = .ok (.aload_n 0, 1) := by decide +kernel
theorem dX2_takeApproval_28 : decode cX2_takeApproval 28 = .ok (.getfield 21, 3) := by decide +kernel
theorem dX2_takeApproval_31 : decode cX2_takeApproval 31 = .ok (.iload_n 3, 1) := by decide +kernel
theorem dX2_takeApproval_32 : decode cX2_takeApproval 32 = .ok (.invokevirtual 108, 3) := by decide +kernel
theorem dX2_takeApproval_35 : decode cX2_takeApproval 35 = .ok (.istore 4, 2) := by decide +kernel
theorem dX2_takeApproval_37 : decode cX2_takeApproval 37 = .ok (.aload_n 0, 1) := by decide +kernel
theorem dX2_takeApproval_38 : decode cX2_takeApproval 38 = .ok (.getfield 28, 3) := by decide +kernel
theorem dX2_takeApproval_41 : decode cX2_takeApproval 41 = .ok (.iload_n 1, 1) := by decide +kernel
theorem dX2_takeApproval_42 : decode cX2_takeApproval 42 = .ok (.iload_n 2, 1) := by decide +kernel
theorem dX2_takeApproval_43 : decode cX2_takeApproval 43 = .ok (.iload 4, 2) := by decide +kernel
theorem dX2_takeApproval_45 : decode cX2_takeApproval 45 = .ok (.invokevirtual 111, 3) := by decide +kernel
theorem dX2_takeApproval_48 : decode cX2_takeApproval 48 = .ok (.iload_n 3, 1) := by decide +kernel
theorem dX2_takeApproval_49 : decode cX2_takeApproval 49 = .ok (.ireturn, 1) := by decide +kernel
end
section
set_option maxRecDepth 20000 in
theorem ggX7_init_X6_init : GoodIn wsX7_init wsX6_init := goodIn_r _ [11, 12, 2, 3, 13, 14, 15] (by decide +kernel) (by decide +kernel)
set_option maxRecDepth 20000 in
theorem gX7_init_X6_init : GoodIn wsX7_init (wsX6_init) := ggX7_init_X6_init
theorem dX7_init_0 : decode cX7_init 0 = .ok (.aload_n 0, 1) := by decide +kernel
theorem dX7_init_1 : decode cX7_init 1 = .ok (.invokespecial 3, 3) := by decide +kernel
theorem dX7_init_4 : decode cX7_init 4 = .ok (.aload_n 0, 1) := by decide +kernel
theorem dX7_init_5 : decode cX7_init 5 = .ok (.new 9, 3) := by decide +kernel
theorem dX7_init_8 : decode cX7_init 8 = .ok (.dup, 1) := by decide +kernel
theorem dX7_init_9 : decode cX7_init 9 = .ok (.bipush 8, 2) := by decide +kernel
theorem dX7_init_11 : decode cX7_init 11 = .ok (.invokespecial 11, 3) := by decide +kernel
theorem dX7_init_14 : decode cX7_init 14 = .ok (.putfield 14, 3) := by decide +kernel
theorem dX7_init_17 : decode cX7_init 17 = .ok (.aload_n 0, 1) := by decide +kernel
theorem dX7_init_18 : decode cX7_init 18 = .ok (.new 9, 3) := by decide +kernel
theorem dX7_init_21 : decode cX7_init 21 = .ok (.dup, 1) := by decide +kernel
theorem dX7_init_22 : decode cX7_init 22 = .ok (.bipush 72, 2) := by decide +kernel
theorem dX7_init_24 : decode cX7_init 24 = .ok (.invokespecial 11, 3) := by decide +kernel
theorem dX7_init_27 : decode cX7_init 27 = .ok (.putfield 20, 3) := by decide +kernel
theorem dX7_init_30 : decode cX7_init 30 = .ok (.return_, 1) := by decide +kernel
set_option maxRecDepth 20000 in
theorem ggX7_find_X3_current : GoodIn wsX7_find wsX3_current := goodIn_r _ [9, 10, 11, 12, 13, 14, 15, 16, 17, 18, 19, 8, 20, 21, 22, 23, 24, 25, 26, 27, 70, 71, 72, 73, 74, 75, 76] (by decide +kernel) (by decide +kernel)
set_option maxRecDepth 20000 in
theorem gX7_find_X3_current : GoodIn wsX7_find (wsV RX7 23 RX3 yX3_current wsX3_current) := goodIn_app (goodIn_of _ (by decide +kernel)) ggX7_find_X3_current
set_option maxRecDepth 20000 in
theorem ggX7_find_X6_put : GoodIn wsX7_find wsX6_put := goodIn_r _ [31, 16, 76] (by decide +kernel) (by decide +kernel)
set_option maxRecDepth 20000 in
theorem gX7_find_X6_put : GoodIn wsX7_find (wsV RX7 29 RX6 yX6_put wsX6_put) := goodIn_app (goodIn_of _ (by decide +kernel)) ggX7_find_X6_put
set_option maxRecDepth 20000 in
theorem ggX7_find_X6_at : GoodIn wsX7_find wsX6_at := goodIn_r _ [15, 16, 76] (by decide +kernel) (by decide +kernel)
set_option maxRecDepth 20000 in
theorem gX7_find_X6_at : GoodIn wsX7_find (wsV RX7 33 RX6 yX6_at wsX6_at) := goodIn_app (goodIn_of _ (by decide +kernel)) ggX7_find_X6_at
set_option maxRecDepth 20000 in
theorem ggX7_find_X3_versionSet : GoodIn wsX7_find wsX3_versionSet := goodIn_r _ [27] (by decide +kernel) (by decide +kernel)
set_option maxRecDepth 20000 in
theorem gX7_find_X3_versionSet : GoodIn wsX7_find (va_wsS RX7 36 yX3_versionSet wsX3_versionSet) := goodIn_app (goodIn_of _ (by decide +kernel)) ggX7_find_X3_versionSet
set_option maxRecDepth 20000 in
theorem ggX7_find_X7_fill : GoodIn wsX7_find wsX7_fill := goodIn_r _ [38, 3, 2, 1, 4, 32, 12, 13, 14, 15, 16, 33, 26, 8, 27, 39, 40, 41, 37, 42, 28, 29, 30, 31, 43, 44, 45, 46, 47, 22, 23, 24, 11, 48, 49, 50, 51, 52, 53, 54, 55, 56, 57, 58, 59, 60, 61, 34, 35, 36, 62, 63, 64, 65, 66, 67, 68, 69, 76, 70, 71, 72, 73, 74, 75] (by decide +kernel) (by decide +kernel)
set_option maxRecDepth 20000 in
theorem gX7_find_X7_fill : GoodIn wsX7_find (wsV RX7 49 RX7 yX7_fill wsX7_fill) := goodIn_app (goodIn_of _ (by decide +kernel)) ggX7_find_X7_fill
theorem dX7_find_0 : decode cX7_find 0 = .ok (.iconst 0, 1) := by decide +kernel
theorem dX7_find_1 : decode cX7_find 1 = .ok (.istore 4, 2) := by decide +kernel
theorem dX7_find_3 : decode cX7_find 3 = .ok (.iload 4, 2) := by decide +kernel
theorem dX7_find_5 : decode cX7_find 5 = .ok (.bipush 8, 2) := by decide +kernel
theorem dX7_find_7 : decode cX7_find 7 = .ok (.if_icmp .ge 24, 3) := by decide +kernel
theorem dX7_find_10 : decode cX7_find 10 = .ok (.aload_n 0, 1) := by decide +kernel
theorem dX7_find_11 : decode cX7_find 11 = .ok (.getfield 20, 3) := by decide +kernel
theorem dX7_find_14 : decode cX7_find 14 = .ok (.iload 4, 2) := by decide +kernel
theorem dX7_find_16 : decode cX7_find 16 = .ok (.aload_n 1, 1) := by decide +kernel
theorem dX7_find_17 : decode cX7_find 17 = .ok (.iload 4, 2) := by decide +kernel
theorem dX7_find_19 : decode cX7_find 19 = .ok (.invokevirtual 23, 3) := by decide +kernel
theorem dX7_find_22 : decode cX7_find 22 = .ok (.invokevirtual 29, 3) := by decide +kernel
theorem dX7_find_25 : decode cX7_find 25 = .ok (.iinc 4 1, 3) := by decide +kernel
theorem dX7_find_28 : decode cX7_find 28 = .ok (.goto (-25), 3) := by decide +kernel
theorem dX7_find_31 : decode cX7_find 31 = .ok (.aload_n 0, 1) := by decide +kernel
theorem dX7_find_32 : decode cX7_find 32 = .ok (.getfield 20, 3) := by decide +kernel
theorem dX7_find_35 : decode cX7_find 35 = .ok (.iload_n 2, 1) := by decide +kernel
theorem dX7_find_36 : decode cX7_find 36 = .ok (.aload_n 0, 1) := by decide +kernel
theorem dX7_find_37 : decode cX7_find 37 = .ok (.getfield 20, 3) := by decide +kernel
theorem dX7_find_40 : decode cX7_find 40 = .ok (.iload_n 2, 1) := by decide +kernel
theorem dX7_find_41 : decode cX7_find 41 = .ok (.invokevirtual 33, 3) := by decide +kernel
theorem dX7_find_44 : decode cX7_find 44 = .ok (.iload_n 3, 1) := by decide +kernel
theorem dX7_find_45 : decode cX7_find 45 = .ok (.iconst 3, 1) := by decide +kernel
theorem dX7_find_46 : decode cX7_find 46 = .ok (.invokestatic 36, 3) := by decide +kernel
theorem dX7_find_49 : decode cX7_find 49 = .ok (.iand, 1) := by decide +kernel
theorem dX7_find_50 : decode cX7_find 50 = .ok (.invokevirtual 29, 3) := by decide +kernel
theorem dX7_find_53 : decode cX7_find 53 = .ok (.aload_n 0, 1) := by decide +kernel
theorem dX7_find_54 : decode cX7_find 54 = .ok (.getfield 14, 3) := by decide +kernel
theorem dX7_find_57 : decode cX7_find 57 = .ok (.iconst 0, 1) := by decide +kernel
theorem dX7_find_58 : decode cX7_find 58 = .ok (.iload_n 2, 1) := by decide +kernel
theorem dX7_find_59 : decode cX7_find 59 = .ok (.invokevirtual 29, 3) := by decide +kernel
theorem dX7_find_62 : decode cX7_find 62 = .ok (.aload_n 0, 1) := by decide +kernel
theorem dX7_find_63 : decode cX7_find 63 = .ok (.iconst 1, 1) := by decide +kernel
theorem dX7_find_64 : decode cX7_find 64 = .ok (.putfield 40, 3) := by decide +kernel
theorem dX7_find_67 : decode cX7_find 67 = .ok (.aload_n 0, 1) := by decide +kernel
theorem dX7_find_68 : decode cX7_find 68 = .ok (.iconst 0, 1) := by decide +kernel
theorem dX7_find_69 : decode cX7_find 69 = .ok (.putfield 46, 3) := by decide +kernel
theorem dX7_find_72 : decode cX7_find 72 = .ok (.aload_n 0, 1) := by decide +kernel
theorem dX7_find_73 : decode cX7_find 73 = .ok (.aload_n 1, 1) := by decide +kernel
theorem dX7_find_74 : decode cX7_find 74 = .ok (.iconst 0, 1) := by decide +kernel
theorem dX7_find_75 : decode cX7_find 75 = .ok (.invokevirtual 49, 3) := by decide +kernel
theorem dX7_find_78 : decode cX7_find 78 = .ok (.pop, 1) := by decide +kernel
theorem dX7_find_79 : decode cX7_find 79 = .ok (.aload_n 0, 1) := by decide +kernel
theorem dX7_find_80 : decode cX7_find 80 = .ok (.getfield 46, 3) := by decide +kernel
theorem dX7_find_83 : decode cX7_find 83 = .ok (.ireturn, 1) := by decide +kernel
set_option maxRecDepth 20000 in
theorem ggX7_fill_X6_at : GoodIn wsX7_fill wsX6_at := goodIn_r _ [9, 10, 58] (by decide +kernel) (by decide +kernel)
set_option maxRecDepth 20000 in
theorem gX7_fill_X6_at : GoodIn wsX7_fill (wsV RX7 33 RX6 yX6_at wsX6_at) := goodIn_app (goodIn_of _ (by decide +kernel)) ggX7_fill_X6_at
set_option maxRecDepth 20000 in
theorem ggX7_fill_X3_versionSet : GoodIn wsX7_fill wsX3_versionSet := goodIn_r _ [14] (by decide +kernel) (by decide +kernel)
set_option maxRecDepth 20000 in
theorem gX7_fill_X3_versionSet : GoodIn wsX7_fill (va_wsS RX7 36 yX3_versionSet wsX3_versionSet) := goodIn_app (goodIn_of _ (by decide +kernel)) ggX7_fill_X3_versionSet
set_option maxRecDepth 20000 in
theorem ggX7_fill_X7_take : GoodIn wsX7_fill wsX7_take := goodIn_r _ [19, 2, 3, 5, 6, 7, 8, 9, 10, 20, 21, 22, 23, 11, 12, 13, 14, 24, 25, 26, 27, 28, 29, 30, 31, 32, 33, 34, 35, 36, 37, 38, 39, 40, 41, 42, 43, 44, 45, 18, 46, 1, 54, 55, 56, 57, 58, 59, 60, 61, 62, 63, 64] (by decide +kernel) (by decide +kernel)
set_option maxRecDepth 20000 in
theorem gX7_fill_X7_take : GoodIn wsX7_fill (wsV RX7 53 RX7 yX7_take wsX7_take) := goodIn_app (goodIn_of _ (by decide +kernel)) ggX7_fill_X7_take
set_option maxRecDepth 20000 in
theorem ggX7_fill_X7_fill : GoodIn wsX7_fill wsX7_fill := goodIn_r _ [0, 1, 2, 3, 4, 5, 6, 7, 8, 9, 10, 11, 12, 13, 14, 15, 16, 17, 18, 19, 20, 21, 22, 23, 24, 25, 26, 27, 28, 29, 30, 31, 32, 33, 34, 35, 36, 37, 38, 39, 40, 41, 42, 43, 44, 45, 46, 47, 48, 49, 50, 51, 52, 53, 54, 55, 56, 57, 58, 59, 60, 61, 62, 63, 64] (by decide +kernel) (by decide +kernel)
set_option maxRecDepth 20000 in
theorem gX7_fill_X7_fill : GoodIn wsX7_fill (wsV RX7 49 RX7 yX7_fill wsX7_fill) := goodIn_app (goodIn_of _ (by decide +kernel)) ggX7_fill_X7_fill
set_option maxRecDepth 20000 in
theorem ggX7_fill_X1_with : GoodIn wsX7_fill wsX1_with := goodIn_r _ [53] (by decide +kernel) (by decide +kernel)
set_option maxRecDepth 20000 in
theorem gX7_fill_X1_with : GoodIn wsX7_fill (va_wsS RX7 57 yX1_with wsX1_with) := goodIn_app (goodIn_of _ (by decide +kernel)) ggX7_fill_X1_with
theorem dX7_fill_0 : decode cX7_fill 0 = .ok (.iload_n 2, 1) := by decide +kernel
theorem dX7_fill_1 : decode cX7_fill 1 = .ok (.aload_n 0, 1) := by decide +kernel
theorem dX7_fill_2 : decode cX7_fill 2 = .ok (.getfield 40, 3) := by decide +kernel
theorem dX7_fill_5 : decode cX7_fill 5 = .ok (.if_icmp .ge 9, 3) := by decide +kernel
theorem dX7_fill_8 : decode cX7_fill 8 = .ok (.iload_n 2, 1) := by decide +kernel
theorem dX7_fill_9 : decode cX7_fill 9 = .ok (.bipush 8, 2) := by decide +kernel
theorem dX7_fill_11 : decode cX7_fill 11 = .ok (.if_icmp .lt 5, 3) := by decide +kernel
theorem dX7_fill_14 : decode cX7_fill 14 = .ok (.iconst 1, 1) := by decide +kernel
theorem dX7_fill_15 : decode cX7_fill 15 = .ok (.ireturn, 1) := by decide +kernel
theorem dX7_fill_16 : decode cX7_fill 16 = .ok (.aload_n 0, 1) := by decide +kernel
theorem dX7_fill_17 : decode cX7_fill 17 = .ok (.getfield 14, 3) := by decide +kernel
theorem dX7_fill_20 : decode cX7_fill 20 = .ok (.iload_n 2, 1) := by decide +kernel
theorem dX7_fill_21 : decode cX7_fill 21 = .ok (.invokevirtual 33, 3) := by decide +kernel
theorem dX7_fill_24 : decode cX7_fill 24 = .ok (.istore_n 3, 1) := by decide +kernel
theorem dX7_fill_25 : decode cX7_fill 25 = .ok (.aload_n 0, 1) := by decide +kernel
theorem dX7_fill_26 : decode cX7_fill 26 = .ok (.getfield 20, 3) := by decide +kernel
theorem dX7_fill_29 : decode cX7_fill 29 = .ok (.iload_n 2, 1) := by decide +kernel
theorem dX7_fill_30 : decode cX7_fill 30 = .ok (.bipush 8, 2) := by decide +kernel
theorem dX7_fill_32 : decode cX7_fill 32 = .ok (.imul, 1) := by decide +kernel
theorem dX7_fill_33 : decode cX7_fill 33 = .ok (.iload_n 3, 1) := by decide +kernel
theorem dX7_fill_34 : decode cX7_fill 34 = .ok (.iadd, 1) := by decide +kernel
theorem dX7_fill_35 : decode cX7_fill 35 = .ok (.invokevirtual 33, 3) := by decide +kernel
theorem dX7_fill_38 : decode cX7_fill 38 = .ok (.istore 4, 2) := by decide +kernel
theorem dX7_fill_40 : decode cX7_fill 40 = .ok (.aload_n 0, 1) := by decide +kernel
theorem dX7_fill_41 : decode cX7_fill 41 = .ok (.getfield 40, 3) := by decide +kernel
theorem dX7_fill_44 : decode cX7_fill 44 = .ok (.istore 5, 2) := by decide +kernel
theorem dX7_fill_46 : decode cX7_fill 46 = .ok (.iconst 3, 1) := by decide +kernel
theorem dX7_fill_47 : decode cX7_fill 47 = .ok (.istore 6, 2) := by decide +kernel
theorem dX7_fill_49 : decode cX7_fill 49 = .ok (.iload 6, 2) := by decide +kernel
theorem dX7_fill_51 : decode cX7_fill 51 = .ok (.iconst 1, 1) := by decide +kernel
theorem dX7_fill_52 : decode cX7_fill 52 = .ok (.if_icmp .lt 78, 3) := by decide +kernel
theorem dX7_fill_55 : decode cX7_fill 55 = .ok (.iload 4, 2) := by decide +kernel
theorem dX7_fill_57 : decode cX7_fill 57 = .ok (.iload 6, 2) := by decide +kernel
theorem dX7_fill_59 : decode cX7_fill 59 = .ok (.iload 6, 2) := by decide +kernel
theorem dX7_fill_61 : decode cX7_fill 61 = .ok (.invokestatic 36, 3) := by decide +kernel
theorem dX7_fill_64 : decode cX7_fill 64 = .ok (.iand, 1) := by decide +kernel
theorem dX7_fill_65 : decode cX7_fill 65 = .ok (.ifCond .eq 7, 3) := by decide +kernel
theorem dX7_fill_68 : decode cX7_fill 68 = .ok (.iconst 1, 1) := by decide +kernel
theorem dX7_fill_69 : decode cX7_fill 69 = .ok (.goto 4, 3) := by decide +kernel
theorem dX7_fill_72 : decode cX7_fill 72 = .ok (.iconst 0, 1) := by decide +kernel
theorem dX7_fill_73 : decode cX7_fill 73 = .ok (.istore 7, 2) := by decide +kernel
theorem dX7_fill_75 : decode cX7_fill 75 = .ok (.iload 7, 2) := by decide +kernel
theorem dX7_fill_77 : decode cX7_fill 77 = .ok (.ifCond .eq 41, 3) := by decide +kernel
theorem dX7_fill_80 : decode cX7_fill 80 = .ok (.aload_n 0, 1) := by decide +kernel
theorem dX7_fill_81 : decode cX7_fill 81 = .ok (.aload_n 1, 1) := by decide +kernel
theorem dX7_fill_82 : decode cX7_fill 82 = .ok (.iload_n 2, 1) := by decide +kernel
theorem dX7_fill_83 : decode cX7_fill 83 = .ok (.iload 6, 2) := by decide +kernel
theorem dX7_fill_85 : decode cX7_fill 85 = .ok (.invokevirtual 53, 3) := by decide +kernel
theorem dX7_fill_88 : decode cX7_fill 88 = .ok (.ifCond .eq 30, 3) := by decide +kernel
theorem dX7_fill_91 : decode cX7_fill 91 = .ok (.aload_n 0, 1) := by decide +kernel
theorem dX7_fill_92 : decode cX7_fill 92 = .ok (.aload_n 1, 1) := by decide +kernel
theorem dX7_fill_93 : decode cX7_fill 93 = .ok (.iload_n 2, 1) := by decide +kernel
theorem dX7_fill_94 : decode cX7_fill 94 = .ok (.iconst 1, 1) := by decide +kernel
theorem dX7_fill_95 : decode cX7_fill 95 = .ok (.iadd, 1) := by decide +kernel
theorem dX7_fill_96 : decode cX7_fill 96 = .ok (.invokevirtual 49, 3) := by decide +kernel
theorem dX7_fill_99 : decode cX7_fill 99 = .ok (.ifCond .eq 19, 3) := by decide +kernel
theorem dX7_fill_102 : decode cX7_fill 102 = .ok (.aload_n 0, 1) := by decide +kernel
theorem dX7_fill_103 : decode cX7_fill 103 = .ok (.aload_n 0, 1) := by decide +kernel
theorem dX7_fill_104 : decode cX7_fill 104 = .ok (.getfield 46, 3) := by decide +kernel
theorem dX7_fill_107 : decode cX7_fill 107 = .ok (.iload_n 3, 1) := by decide +kernel
theorem dX7_fill_108 : decode cX7_fill 108 = .ok (.iload 6, 2) := by decide +kernel
theorem dX7_fill_110 : decode cX7_fill 110 = .ok (.invokestatic 57, 3) := by decide +kernel
theorem dX7_fill_113 : decode cX7_fill 113 = .ok (.putfield 46, 3) := by decide +kernel
theorem dX7_fill_116 : decode cX7_fill 116 = .ok (.iconst 1, 1) := by decide +kernel
theorem dX7_fill_117 : decode cX7_fill 117 = .ok (.ireturn, 1) := by decide +kernel
theorem dX7_fill_118 : decode cX7_fill 118 = .ok (.aload_n 0, 1) := by decide +kernel
theorem dX7_fill_119 : decode cX7_fill 119 = .ok (.iload 5, 2) := by decide +kernel
theorem dX7_fill_121 : decode cX7_fill 121 = .ok (.putfield 40, 3) := by decide +kernel
theorem dX7_fill_124 : decode cX7_fill 124 = .ok (.iinc 6 (-1), 3) := by decide +kernel
theorem dX7_fill_127 : decode cX7_fill 127 = .ok (.goto (-78), 3) := by decide +kernel
theorem dX7_fill_130 : decode cX7_fill 130 = .ok (.iconst 0, 1) := by decide +kernel
theorem dX7_fill_131 : decode cX7_fill 131 = .ok (.ireturn, 1) := by decide +kernel
set_option maxRecDepth 20000 in
theorem ggX7_take_X6_at : GoodIn wsX7_take wsX6_at := goodIn_r _ [7, 8, 46] (by decide +kernel) (by decide +kernel)
set_option maxRecDepth 20000 in
theorem gX7_take_X6_at : GoodIn wsX7_take (wsV RX7 33 RX6 yX6_at wsX6_at) := goodIn_app (goodIn_of _ (by decide +kernel)) ggX7_take_X6_at
set_option maxRecDepth 20000 in
theorem ggX7_take_X6_put : GoodIn wsX7_take wsX6_put := goodIn_r _ [12, 8, 46] (by decide +kernel) (by decide +kernel)
set_option maxRecDepth 20000 in
theorem gX7_take_X6_put : GoodIn wsX7_take (wsV RX7 29 RX6 yX6_put wsX6_put) := goodIn_app (goodIn_of _ (by decide +kernel)) ggX7_take_X6_put
set_option maxRecDepth 20000 in
theorem ggX7_take_X3_versionSet : GoodIn wsX7_take wsX3_versionSet := goodIn_r _ [16] (by decide +kernel) (by decide +kernel)
set_option maxRecDepth 20000 in
theorem gX7_take_X3_versionSet : GoodIn wsX7_take (va_wsS RX7 36 yX3_versionSet wsX3_versionSet) := goodIn_app (goodIn_of _ (by decide +kernel)) ggX7_take_X3_versionSet
set_option maxRecDepth 20000 in
theorem ggX7_take_X3_needsOf : GoodIn wsX7_take wsX3_needsOf := goodIn_r _ [20, 21, 22, 23, 15, 24, 25, 4, 5, 6, 7, 8, 47, 48, 49, 50, 51, 52, 46] (by decide +kernel) (by decide +kernel)
set_option maxRecDepth 20000 in
theorem gX7_take_X3_needsOf : GoodIn wsX7_take (wsV RX7 61 RX3 yX3_needsOf wsX3_needsOf) := goodIn_app (goodIn_of _ (by decide +kernel)) ggX7_take_X3_needsOf
set_option maxRecDepth 20000 in
theorem ggX7_take_X3_neededPart : GoodIn wsX7_take wsX3_neededPart := goodIn_r _ [29, 30, 22, 23, 15, 24, 25, 4, 5, 6, 7, 8, 47, 48, 49, 50, 51, 52, 46] (by decide +kernel) (by decide +kernel)
set_option maxRecDepth 20000 in
theorem gX7_take_X3_neededPart : GoodIn wsX7_take (wsV RX7 64 RX3 yX3_neededPart wsX3_neededPart) := goodIn_app (goodIn_of _ (by decide +kernel)) ggX7_take_X3_neededPart
set_option maxRecDepth 20000 in
theorem ggX7_take_X3_neededVersions : GoodIn wsX7_take wsX3_neededVersions := goodIn_r _ [34, 35, 22, 23, 15, 24, 25, 4, 5, 6, 7, 8, 47, 48, 49, 50, 51, 52, 46] (by decide +kernel) (by decide +kernel)
set_option maxRecDepth 20000 in
theorem gX7_take_X3_neededVersions : GoodIn wsX7_take (wsV RX7 67 RX3 yX3_neededVersions wsX3_neededVersions) := goodIn_app (goodIn_of _ (by decide +kernel)) ggX7_take_X3_neededVersions
set_option maxRecDepth 20000 in
theorem ggX7_take_X7_await : GoodIn wsX7_take wsX7_await := goodIn_r _ [40, 41, 1, 3, 4, 5, 6, 7, 8, 9, 10, 11, 12, 42, 43, 44, 45, 46] (by decide +kernel) (by decide +kernel)
set_option maxRecDepth 20000 in
theorem gX7_take_X7_await : GoodIn wsX7_take (wsV RX7 70 RX7 yX7_await wsX7_await) := goodIn_app (goodIn_of _ (by decide +kernel)) ggX7_take_X7_await
theorem dX7_take_0 : decode cX7_take 0 = .ok (.aload_n 0, 1) := by decide +kernel
theorem dX7_take_1 : decode cX7_take 1 = .ok (.getfield 14, 3) := by decide +kernel
theorem dX7_take_4 : decode cX7_take 4 = .ok (.iload_n 2, 1) := by decide +kernel
theorem dX7_take_5 : decode cX7_take 5 = .ok (.invokevirtual 33, 3) := by decide +kernel
theorem dX7_take_8 : decode cX7_take 8 = .ok (.istore 4, 2) := by decide +kernel
theorem dX7_take_10 : decode cX7_take 10 = .ok (.iload_n 2, 1) := by decide +kernel
theorem dX7_take_11 : decode cX7_take 11 = .ok (.iconst 1, 1) := by decide +kernel
theorem dX7_take_12 : decode cX7_take 12 = .ok (.iadd, 1) := by decide +kernel
theorem dX7_take_13 : decode cX7_take 13 = .ok (.bipush 8, 2) := by decide +kernel
theorem dX7_take_15 : decode cX7_take 15 = .ok (.imul, 1) := by decide +kernel
theorem dX7_take_16 : decode cX7_take 16 = .ok (.istore 5, 2) := by decide +kernel
theorem dX7_take_18 : decode cX7_take 18 = .ok (.iconst 0, 1) := by decide +kernel
theorem dX7_take_19 : decode cX7_take 19 = .ok (.istore 6, 2) := by decide +kernel
theorem dX7_take_21 : decode cX7_take 21 = .ok (.iload 6, 2) := by decide +kernel
theorem dX7_take_23 : decode cX7_take 23 = .ok (.bipush 8, 2) := by decide +kernel
theorem dX7_take_25 : decode cX7_take 25 = .ok (.if_icmp .ge 35, 3) := by decide +kernel
theorem dX7_take_28 : decode cX7_take 28 = .ok (.aload_n 0, 1) := by decide +kernel
theorem dX7_take_29 : decode cX7_take 29 = .ok (.getfield 20, 3) := by decide +kernel
theorem dX7_take_32 : decode cX7_take 32 = .ok (.iload 5, 2) := by decide +kernel
theorem dX7_take_34 : decode cX7_take 34 = .ok (.iload 6, 2) := by decide +kernel
theorem dX7_take_36 : decode cX7_take 36 = .ok (.iadd, 1) := by decide +kernel
theorem dX7_take_37 : decode cX7_take 37 = .ok (.aload_n 0, 1) := by decide +kernel
theorem dX7_take_38 : decode cX7_take 38 = .ok (.getfield 20, 3) := by decide +kernel
theorem dX7_take_41 : decode cX7_take 41 = .ok (.iload_n 2, 1) := by decide +kernel
theorem dX7_take_42 : decode cX7_take 42 = .ok (.bipush 8, 2) := by decide +kernel
theorem dX7_take_44 : decode cX7_take 44 = .ok (.imul, 1) := by decide +kernel
theorem dX7_take_45 : decode cX7_take 45 = .ok (.iload 6, 2) := by decide +kernel
theorem dX7_take_47 : decode cX7_take 47 = .ok (.iadd, 1) := by decide +kernel
theorem dX7_take_48 : decode cX7_take 48 = .ok (.invokevirtual 33, 3) := by decide +kernel
theorem dX7_take_51 : decode cX7_take 51 = .ok (.invokevirtual 29, 3) := by decide +kernel
theorem dX7_take_54 : decode cX7_take 54 = .ok (.iinc 6 1, 3) := by decide +kernel
theorem dX7_take_57 : decode cX7_take 57 = .ok (.goto (-36), 3) := by decide +kernel
theorem dX7_take_60 : decode cX7_take 60 = .ok (.aload_n 0, 1) := by decide +kernel
theorem dX7_take_61 : decode cX7_take 61 = .ok (.getfield 20, 3) := by decide +kernel
theorem dX7_take_64 : decode cX7_take 64 = .ok (.iload 5, 2) := by decide +kernel
theorem dX7_take_66 : decode cX7_take 66 = .ok (.iload 4, 2) := by decide +kernel
theorem dX7_take_68 : decode cX7_take 68 = .ok (.iadd, 1) := by decide +kernel
theorem dX7_take_69 : decode cX7_take 69 = .ok (.iload_n 3, 1) := by decide +kernel
theorem dX7_take_70 : decode cX7_take 70 = .ok (.iload_n 3, 1) := by decide +kernel
theorem dX7_take_71 : decode cX7_take 71 = .ok (.invokestatic 36, 3) := by decide +kernel
theorem dX7_take_74 : decode cX7_take 74 = .ok (.invokevirtual 29, 3) := by decide +kernel
theorem dX7_take_77 : decode cX7_take 77 = .ok (.aload_n 1, 1) := by decide +kernel
theorem dX7_take_78 : decode cX7_take 78 = .ok (.iload 4, 2) := by decide +kernel
theorem dX7_take_80 : decode cX7_take 80 = .ok (.iload_n 3, 1) := by decide +kernel
theorem dX7_take_81 : decode cX7_take 81 = .ok (.invokevirtual 61, 3) := by decide +kernel
theorem dX7_take_84 : decode cX7_take 84 = .ok (.istore 6, 2) := by decide +kernel
theorem dX7_take_86 : decode cX7_take 86 = .ok (.iconst 0, 1) := by decide +kernel
theorem dX7_take_87 : decode cX7_take 87 = .ok (.istore 7, 2) := by decide +kernel
theorem dX7_take_89 : decode cX7_take 89 = .ok (.iload 7, 2) := by decide +kernel
theorem dX7_take_91 : decode cX7_take 91 = .ok (.iload 6, 2) := by decide +kernel
theorem dX7_take_93 : decode cX7_take 93 = .ok (.if_icmp .ge 71, 3) := by decide +kernel
theorem dX7_take_96 : decode cX7_take 96 = .ok (.aload_n 1, 1) := by decide +kernel
theorem dX7_take_97 : decode cX7_take 97 = .ok (.iload 4, 2) := by decide +kernel
theorem dX7_take_99 : decode cX7_take 99 = .ok (.iload_n 3, 1) := by decide +kernel
theorem dX7_take_100 : decode cX7_take 100 = .ok (.iload 7, 2) := by decide +kernel
theorem dX7_take_102 : decode cX7_take 102 = .ok (.invokevirtual 64, 3) := by decide +kernel
theorem dX7_take_105 : decode cX7_take 105 = .ok (.istore 8, 2) := by decide +kernel
theorem dX7_take_107 : decode cX7_take 107 = .ok (.aload_n 0, 1) := by decide +kernel
theorem dX7_take_108 : decode cX7_take 108 = .ok (.getfield 20, 3) := by decide +kernel
theorem dX7_take_111 : decode cX7_take 111 = .ok (.iload 5, 2) := by decide +kernel
theorem dX7_take_113 : decode cX7_take 113 = .ok (.iload 8, 2) := by decide +kernel
theorem dX7_take_115 : decode cX7_take 115 = .ok (.iadd, 1) := by decide +kernel
theorem dX7_take_116 : decode cX7_take 116 = .ok (.invokevirtual 33, 3) := by decide +kernel
theorem dX7_take_119 : decode cX7_take 119 = .ok (.aload_n 1, 1) := by decide +kernel
theorem dX7_take_120 : decode cX7_take 120 = .ok (.iload 4, 2) := by decide +kernel
theorem dX7_take_122 : decode cX7_take 122 = .ok (.iload_n 3, 1) := by decide +kernel
theorem dX7_take_123 : decode cX7_take 123 = .ok (.iload 7, 2) := by decide +kernel
theorem dX7_take_125 : decode cX7_take 125 = .ok (.invokevirtual 67, 3) := by decide +kernel
theorem dX7_take_128 : decode cX7_take 128 = .ok (.iand, 1) := by decide +kernel
theorem dX7_take_129 : decode cX7_take 129 = .ok (.istore 9, 2) := by decide +kernel
theorem dX7_take_131 : decode cX7_take 131 = .ok (.iload 9, 2) := by decide +kernel
theorem dX7_take_133 : decode cX7_take 133 = .ok (.ifCond .ne 5, 3) := by decide +kernel
theorem dX7_take_136 : decode cX7_take 136 = .ok (.iconst 0, 1) := by decide +kernel
theorem dX7_take_137 : decode cX7_take 137 = .ok (.ireturn, 1) := by decide +kernel
theorem dX7_take_138 : decode cX7_take 138 = .ok (.aload_n 0, 1) := by decide +kernel
theorem dX7_take_139 : decode cX7_take 139 = .ok (.getfield 20, 3) := by decide +kernel
theorem dX7_take_142 : decode cX7_take 142 = .ok (.iload 5, 2) := by decide +kernel
theorem dX7_take_144 : decode cX7_take 144 = .ok (.iload 8, 2) := by decide +kernel
theorem dX7_take_146 : decode cX7_take 146 = .ok (.iadd, 1) := by decide +kernel
theorem dX7_take_147 : decode cX7_take 147 = .ok (.iload 9, 2) := by decide +kernel
theorem dX7_take_149 : decode cX7_take 149 = .ok (.invokevirtual 29, 3) := by decide +kernel
theorem dX7_take_152 : decode cX7_take 152 = .ok (.aload_n 0, 1) := by decide +kernel
theorem dX7_take_153 : decode cX7_take 153 = .ok (.iload 8, 2) := by decide +kernel
theorem dX7_take_155 : decode cX7_take 155 = .ok (.invokevirtual 70, 3) := by decide +kernel
theorem dX7_take_158 : decode cX7_take 158 = .ok (.iinc 7 1, 3) := by decide +kernel
theorem dX7_take_161 : decode cX7_take 161 = .ok (.goto (-72), 3) := by decide +kernel
theorem dX7_take_164 : decode cX7_take 164 = .ok (.iconst 1, 1) := by decide +kernel
theorem dX7_take_165 : decode cX7_take 165 = .ok (.ireturn, 1) := by decide +kernel
set_option maxRecDepth 20000 in
theorem ggX7_await_X6_at : GoodIn wsX7_await wsX6_at := goodIn_r _ [7, 8, 17] (by decide +kernel) (by decide +kernel)
set_option maxRecDepth 20000 in
theorem gX7_await_X6_at : GoodIn wsX7_await (wsV RX7 33 RX6 yX6_at wsX6_at) := goodIn_app (goodIn_of _ (by decide +kernel)) ggX7_await_X6_at
set_option maxRecDepth 20000 in
theorem ggX7_await_X6_put : GoodIn wsX7_await wsX6_put := goodIn_r _ [12, 8, 17] (by decide +kernel) (by decide +kernel)
set_option maxRecDepth 20000 in
theorem gX7_await_X6_put : GoodIn wsX7_await (wsV RX7 29 RX6 yX6_put wsX6_put) := goodIn_app (goodIn_of _ (by decide +kernel)) ggX7_await_X6_put
theorem dX7_await_0 : decode cX7_await 0 = .ok (.iconst 0, 1) := by decide +kernel
theorem dX7_await_1 : decode cX7_await 1 = .ok (.istore_n 2, 1) := by decide +kernel
theorem dX7_await_2 : decode cX7_await 2 = .ok (.iload_n 2, 1) := by decide +kernel
theorem dX7_await_3 : decode cX7_await 3 = .ok (.aload_n 0, 1) := by decide +kernel
theorem dX7_await_4 : decode cX7_await 4 = .ok (.getfield 40, 3) := by decide +kernel
theorem dX7_await_7 : decode cX7_await 7 = .ok (.if_icmp .ge 22, 3) := by decide +kernel
theorem dX7_await_10 : decode cX7_await 10 = .ok (.aload_n 0, 1) := by decide +kernel
theorem dX7_await_11 : decode cX7_await 11 = .ok (.getfield 14, 3) := by decide +kernel
theorem dX7_await_14 : decode cX7_await 14 = .ok (.iload_n 2, 1) := by decide +kernel
theorem dX7_await_15 : decode cX7_await 15 = .ok (.invokevirtual 33, 3) := by decide +kernel
theorem dX7_await_18 : decode cX7_await 18 = .ok (.iload_n 1, 1) := by decide +kernel
theorem dX7_await_19 : decode cX7_await 19 = .ok (.if_icmp .ne 4, 3) := by decide +kernel
theorem dX7_await_22 : decode cX7_await 22 = .ok (.return_, 1) := by decide +kernel
theorem dX7_await_23 : decode cX7_await 23 = .ok (.iinc 2 1, 3) := by decide +kernel
theorem dX7_await_26 : decode cX7_await 26 = .ok (.goto (-24), 3) := by decide +kernel
theorem dX7_await_29 : decode cX7_await 29 = .ok (.aload_n 0, 1) := by decide +kernel
theorem dX7_await_30 : decode cX7_await 30 = .ok (.getfield 14, 3) := by decide +kernel
theorem dX7_await_33 : decode cX7_await 33 = .ok (.aload_n 0, 1) := by decide +kernel
theorem dX7_await_34 : decode cX7_await 34 = .ok (.getfield 40, 3) := by decide +kernel
theorem dX7_await_37 : decode cX7_await 37 = .ok (.iload_n 1, 1) := by decide +kernel
theorem dX7_await_38 : decode cX7_await 38 = .ok (.invokevirtual 29, 3) := by decide +kernel
theorem dX7_await_41 : decode cX7_await 41 = .ok (.aload_n 0, 1) := by decide +kernel
theorem dX7_await_42 : decode cX7_await 42 = .ok (.dup, 1) := by decide +kernel
theorem dX7_await_43 : decode cX7_await 43 = .ok (.getfield 40, 3) := by decide +kernel
theorem dX7_await_46 : decode cX7_await 46 = .ok (.iconst 1, 1) := by decide +kernel
theorem dX7_await_47 : decode cX7_await 47 = .ok (.iadd, 1) := by decide +kernel
theorem dX7_await_48 : decode cX7_await 48 = .ok (.putfield 40, 3) := by decide +kernel
theorem dX7_await_51 : decode cX7_await 51 = .ok (.return_, 1) := by decide +kernel
set_option maxRecDepth 20000 in
theorem ggX8_init_X0_init : GoodIn wsX8_init wsX0_init := goodIn_r _ [18, 19, 2, 3, 20, 21, 22, 23, 24, 25, 26, 27, 28, 29, 120, 107, 108] (by decide +kernel) (by decide +kernel)
set_option maxRecDepth 20000 in
theorem gX8_init_X0_init_n9 : GoodIn wsX8_init (wsX0_init) := ggX8_init_X0_init
set_option maxRecDepth 20000 in
theorem ggX8_init_X2_init : GoodIn wsX8_init wsX2_init := goodIn_r _ [32, 33, 2, 3, 34, 35, 36, 37, 38, 39, 40, 41, 42, 43, 44, 45, 46, 47, 48, 49, 21, 22, 50, 51, 52, 53, 54, 55, 56, 25, 26, 27, 28, 29, 57, 58, 59, 60, 61, 62, 63, 64, 65, 66, 67, 68, 69, 70, 71, 72, 73, 74, 75, 76, 77, 78, 79, 10, 80, 81, 82, 83, 84, 85, 86, 87, 88, 89, 90, 91, 92, 93, 94, 95, 96, 97, 98, 99, 121, 122, 123, 124, 125, 126, 113, 114, 115, 127, 128, 129, 130, 131, 132, 133, 134, 135, 136, 137, 138, 120] (by decide +kernel) (by decide +kernel)
set_option maxRecDepth 20000 in
theorem gX8_init_X2_init : GoodIn wsX8_init (wsX2_init) := ggX8_init_X2_init
set_option maxRecDepth 20000 in
theorem ggX8_init_X7_init : GoodIn wsX8_init wsX7_init := goodIn_r _ [101, 102, 2, 3, 103, 21, 22, 104, 105, 106, 25, 26, 27, 28, 29, 120, 116, 117, 118, 119] (by decide +kernel) (by decide +kernel)
set_option maxRecDepth 20000 in
theorem gX8_init_X7_init_n28 : GoodIn wsX8_init (wsX7_init) := ggX8_init_X7_init
theorem dX8_init_0 : decode cX8_init 0 = .ok (.aload_n 0, 1) := by decide +kernel
theorem dX8_init_1 : decode cX8_init 1 = .ok (.invokespecial 1, 3) := by decide +kernel
theorem dX8_init_4 : decode cX8_init 4 = .ok (.aload_n 0, 1) := by decide +kernel
theorem dX8_init_5 : decode cX8_init 5 = .ok (.new 7, 3) := by decide +kernel
theorem dX8_init_8 : decode cX8_init 8 = .ok (.dup, 1) := by decide +kernel
theorem dX8_init_9 : decode cX8_init 9 = .ok (.invokespecial 9, 3) := by decide +kernel
theorem dX8_init_12 : decode cX8_init 12 = .ok (.putfield 10, 3) := by decide +kernel
theorem dX8_init_15 : decode cX8_init 15 = .ok (.aload_n 0, 1) := by decide +kernel
theorem dX8_init_16 : decode cX8_init 16 = .ok (.new 16, 3) := by decide +kernel
theorem dX8_init_19 : decode cX8_init 19 = .ok (.dup, 1) := by decide +kernel
theorem dX8_init_20 : decode cX8_init 20 = .ok (.invokespecial 18, 3) := by decide +kernel
theorem dX8_init_23 : decode cX8_init 23 = .ok (.putfield 19, 3) := by decide +kernel
theorem dX8_init_26 : decode cX8_init 26 = .ok (.aload_n 0, 1) := by decide +kernel
theorem dX8_init_27 : decode cX8_init 27 = .ok (.new 16, 3) := by decide +kernel
theorem dX8_init_30 : decode cX8_init 30 = .ok (.dup, 1) := by decide +kernel
theorem dX8_init_31 : decode cX8_init 31 = .ok (.invokespecial 18, 3) := by decide +kernel
theorem dX8_init_34 : decode cX8_init 34 = .ok (.putfield 23, 3) := by decide +kernel
theorem dX8_init_37 : decode cX8_init 37 = .ok (.aload_n 0, 1) := by decide +kernel
theorem dX8_init_38 : decode cX8_init 38 = .ok (.new 26, 3) := by decide +kernel
theorem dX8_init_41 : decode cX8_init 41 = .ok (.dup, 1) := by decide +kernel
theorem dX8_init_42 : decode cX8_init 42 = .ok (.invokespecial 28, 3) := by decide +kernel
theorem dX8_init_45 : decode cX8_init 45 = .ok (.putfield 29, 3) := by decide +kernel
theorem dX8_init_48 : decode cX8_init 48 = .ok (.return_, 1) := by decide +kernel
set_option maxRecDepth 20000 in
theorem ggX8_version_X8_checkPart : GoodIn wsX8_version wsX8_checkPart := goodIn_ca (goodIn_r _ [10, 11, 12] (by decide +kernel) (by decide +kernel)) (goodIn_sub (fun _ h => List.mem_cons_of_mem _ (List.mem_append_right _ h)) (by decide +kernel))
set_option maxRecDepth 20000 in
theorem gX8_version_X8_checkPart : GoodIn wsX8_version (va_wsS RX8 33 yX8_checkPart wsX8_checkPart) := goodIn_app (goodIn_of _ (by decide +kernel)) ggX8_version_X8_checkPart
set_option maxRecDepth 20000 in
theorem ggX8_version_X3_countOf : GoodIn wsX8_version wsX3_countOf := goodIn_r _ [17, 18, 19, 20, 21, 22, 23, 24, 185, 186, 187, 188, 189, 190, 191] (by decide +kernel) (by decide +kernel)
set_option maxRecDepth 20000 in
theorem gX8_version_X3_countOf : GoodIn wsX8_version (wsV RX8 48 RX3 yX3_countOf wsX3_countOf) := goodIn_app (goodIn_of _ (by decide +kernel)) ggX8_version_X3_countOf
set_option maxRecDepth 20000 in
theorem ggX8_version_X8_tell : GoodIn wsX8_version wsX8_tell := goodIn_r _ [28, 5, 29, 30, 31, 32, 33, 34, 35, 36, 37, 38, 39, 22, 40, 24, 41, 42, 43, 44, 45, 46, 47, 48, 49, 50, 51, 52, 53, 20, 21, 23, 54, 55, 56, 16, 57, 18, 58, 59, 60, 19, 61, 62, 63, 64, 65, 66, 67, 68, 69, 70, 71, 72, 73, 74, 75, 76, 77, 78, 79, 80, 81, 82, 83, 84, 85, 86, 87, 88, 89, 90, 91, 92, 93, 94, 95, 96, 97, 98, 99, 100, 101, 102, 103, 104, 105, 106, 107, 108, 109, 110, 111, 112, 113, 114, 115, 116, 117, 118, 119, 120, 121, 122, 123, 124, 125, 126, 127, 128, 129, 130, 131, 132, 133, 134, 135, 136, 137, 138, 139, 140, 141, 142, 143, 144, 145, 146, 147, 148, 149, 150, 151, 152, 153, 154, 155, 156, 157, 158, 159, 160, 161, 162, 163, 164, 165, 166, 167, 168, 169, 170, 171, 172, 173, 174, 175, 176, 177, 178, 179, 180, 181, 192, 193, 191, 182, 183, 184, 185, 186, 187, 188, 189, 190, 194, 195, 196, 197, 198, 199, 200, 201, 202, 203, 204, 205] (by decide +kernel) (by decide +kernel)
set_option maxRecDepth 20000 in
theorem gX8_version_X8_tell : GoodIn wsX8_version (wsV RX8 59 RX8 yX8_tell wsX8_tell) := goodIn_app (goodIn_of _ (by decide +kernel)) ggX8_version_X8_tell
theorem dX8_version_0 : decode cX8_version 0 = .ok (.iload_n 1, 1) := by decide +kernel
theorem dX8_version_1 : decode cX8_version 1 = .ok (.invokestatic 33, 3) := by decide +kernel
theorem dX8_version_4 : decode cX8_version 4 = .ok (.iload_n 2, 1) := by decide +kernel
theorem dX8_version_5 : decode cX8_version 5 = .ok (.ifCond .lt 10, 3) := by decide +kernel
theorem dX8_version_8 : decode cX8_version 8 = .ok (.iload_n 2, 1) := by decide +kernel
theorem dX8_version_9 : decode cX8_version 9 = .ok (.sipush 1000, 3) := by decide +kernel
theorem dX8_version_12 : decode cX8_version 12 = .ok (.if_icmp .le 13, 3) := by decide +kernel
theorem dX8_version_15 : decode cX8_version 15 = .ok (.new 37, 3) := by decide +kernel
theorem dX8_version_18 : decode cX8_version 18 = .ok (.dup, 1) := by decide +kernel
theorem dX8_version_19 : decode cX8_version 19 = .ok (.ldc 39, 2) := by decide +kernel
theorem dX8_version_21 : decode cX8_version 21 = .ok (.invokespecial 41, 3) := by decide +kernel
theorem dX8_version_24 : decode cX8_version 24 = .ok (.athrow, 1) := by decide +kernel
theorem dX8_version_25 : decode cX8_version 25 = .ok (.aload_n 0, 1) := by decide +kernel
theorem dX8_version_26 : decode cX8_version 26 = .ok (.getfield 19, 3) := by decide +kernel
theorem dX8_version_29 : decode cX8_version 29 = .ok (.getfield 44, 3) := by decide +kernel
theorem dX8_version_32 : decode cX8_version 32 = .ok (.iload_n 1, 1) := by decide +kernel
theorem dX8_version_33 : decode cX8_version 33 = .ok (.invokevirtual 48, 3) := by decide +kernel
theorem dX8_version_36 : decode cX8_version 36 = .ok (.iconst 3, 1) := by decide +kernel
theorem dX8_version_37 : decode cX8_version 37 = .ok (.if_icmp .lt 13, 3) := by decide +kernel
theorem dX8_version_40 : decode cX8_version 40 = .ok (.new 54, 3) := by decide +kernel
theorem dX8_version_43 : decode cX8_version 43 = .ok (.dup, 1) := by decide +kernel
theorem dX8_version_44 : decode cX8_version 44 = .ok (.ldc 56, 2) := by decide +kernel
theorem dX8_version_46 : decode cX8_version 46 = .ok (.invokespecial 58, 3) := by decide +kernel
theorem dX8_version_49 : decode cX8_version 49 = .ok (.athrow, 1) := by decide +kernel
theorem dX8_version_50 : decode cX8_version 50 = .ok (.aload_n 0, 1) := by decide +kernel
theorem dX8_version_51 : decode cX8_version 51 = .ok (.iconst 1, 1) := by decide +kernel
theorem dX8_version_52 : decode cX8_version 52 = .ok (.iload_n 1, 1) := by decide +kernel
theorem dX8_version_53 : decode cX8_version 53 = .ok (.iload_n 2, 1) := by decide +kernel
theorem dX8_version_54 : decode cX8_version 54 = .ok (.iconst 0, 1) := by decide +kernel
theorem dX8_version_55 : decode cX8_version 55 = .ok (.invokevirtual 59, 3) := by decide +kernel
theorem dX8_version_58 : decode cX8_version 58 = .ok (.ireturn, 1) := by decide +kernel
set_option maxRecDepth 20000 in
theorem ggX8_need_X8_checkPart : GoodIn wsX8_need wsX8_checkPart := goodIn_ca (goodIn_r _ [11, 12, 13] (by decide +kernel) (by decide +kernel)) (goodIn_sub (fun _ h => List.mem_cons_of_mem _ (List.mem_append_right _ h)) (by decide +kernel))
set_option maxRecDepth 20000 in
theorem gX8_need_X8_checkPart : GoodIn wsX8_need (va_wsS RX8 33 yX8_checkPart wsX8_checkPart) := goodIn_app (goodIn_of _ (by decide +kernel)) ggX8_need_X8_checkPart
set_option maxRecDepth 20000 in
theorem ggX8_need_X8_checkVersion : GoodIn wsX8_need wsX8_checkVersion := goodIn_ca (goodIn_r _ [17, 12, 13, 5, 6, 18, 19, 20, 21, 22, 23, 24, 25, 26, 27, 28, 29, 185, 186, 187, 188, 189, 190, 191, 192, 193, 194, 195, 196, 197, 198] (by decide +kernel) (by decide +kernel)) (goodIn_sub (fun _ h => List.mem_cons_of_mem _ (List.mem_append_right _ h)) (by decide +kernel))
set_option maxRecDepth 20000 in
theorem gX8_need_X8_checkVersion : GoodIn wsX8_need (wsV RX8 63 RX8 yX8_checkVersion wsX8_checkVersion) := goodIn_app (goodIn_of _ (by decide +kernel)) ggX8_need_X8_checkVersion
set_option maxRecDepth 20000 in
theorem ggX8_need_X8_checkLeast : GoodIn wsX8_need wsX8_checkLeast := goodIn_ca (goodIn_r _ [32, 1, 2] (by decide +kernel) (by decide +kernel)) (goodIn_sub (fun _ h => List.mem_cons_of_mem _ (List.mem_append_left _ (List.mem_append_left _ (List.mem_append_right _ h)))) (by decide +kernel))
set_option maxRecDepth 20000 in
theorem gX8_need_X8_checkLeast : GoodIn wsX8_need (va_wsS RX8 69 yX8_checkLeast wsX8_checkLeast) := goodIn_app (goodIn_of _ (by decide +kernel)) ggX8_need_X8_checkLeast
set_option maxRecDepth 20000 in
theorem ggX8_need_X3_needsOf : GoodIn wsX8_need wsX3_needsOf := goodIn_r _ [36, 37, 38, 39, 21, 40, 24, 25, 26, 27, 28, 29, 192, 193, 194, 195, 196, 197, 198] (by decide +kernel) (by decide +kernel)
set_option maxRecDepth 20000 in
theorem gX8_need_X3_needsOf : GoodIn wsX8_need (wsV RX8 74 RX3 yX3_needsOf wsX3_needsOf) := goodIn_app (goodIn_of _ (by decide +kernel)) ggX8_need_X3_needsOf
set_option maxRecDepth 20000 in
theorem ggX8_need_X0_write : GoodIn wsX8_need wsX0_write := goodIn_r _ [45, 46, 47, 48, 49, 50, 27, 51, 29, 199, 200, 198] (by decide +kernel) (by decide +kernel)
set_option maxRecDepth 20000 in
theorem gX8_need_X0_write : GoodIn wsX8_need (wsV RX8 80 RX0 yX0_write wsX0_write) := goodIn_app (goodIn_of _ (by decide +kernel)) ggX8_need_X0_write
set_option maxRecDepth 20000 in
theorem ggX8_need_X2_apply : GoodIn wsX8_need wsX2_apply := goodIn_r _ [56, 57, 58, 59, 60, 61, 62, 44, 63, 47, 64, 25, 26, 27, 28, 29, 65, 66, 67, 21, 68, 23, 69, 70, 37, 24, 38, 39, 40, 71, 49, 50, 51, 72, 73, 74, 75, 76, 77, 78, 79, 80, 81, 82, 83, 84, 85, 86, 87, 88, 89, 90, 91, 92, 93, 94, 95, 96, 97, 98, 99, 100, 101, 102, 103, 104, 105, 106, 107, 108, 109, 110, 111, 112, 113, 114, 115, 116, 117, 118, 119, 120, 121, 122, 123, 124, 125, 126, 127, 128, 129, 130, 131, 132, 133, 134, 135, 136, 137, 138, 139, 140, 141, 142, 143, 144, 145, 146, 147, 148, 149, 150, 151, 152, 153, 154, 55, 155, 156, 157, 158, 159, 160, 161, 162, 163, 164, 165, 166, 167, 168, 169, 170, 171, 172, 173, 174, 175, 176, 177, 178, 179, 180, 181, 182, 183, 184, 189, 190, 191, 199, 200, 198, 192, 193, 194, 195, 196, 197, 201, 202, 203, 204, 205, 206, 207, 208, 209, 210, 211, 212] (by decide +kernel) (by decide +kernel)
set_option maxRecDepth 20000 in
theorem gX8_need_X2_apply : GoodIn wsX8_need (wsV RX8 84 RX2 yX2_apply wsX2_apply) := goodIn_app (goodIn_of _ (by decide +kernel)) ggX8_need_X2_apply
theorem dX8_need_0 : decode cX8_need 0 = .ok (.iload_n 1, 1) := by decide +kernel
theorem dX8_need_1 : decode cX8_need 1 = .ok (.invokestatic 33, 3) := by decide +kernel
theorem dX8_need_4 : decode cX8_need 4 = .ok (.iload_n 3, 1) := by decide +kernel
theorem dX8_need_5 : decode cX8_need 5 = .ok (.invokestatic 33, 3) := by decide +kernel
theorem dX8_need_8 : decode cX8_need 8 = .ok (.aload_n 0, 1) := by decide +kernel
theorem dX8_need_9 : decode cX8_need 9 = .ok (.iload_n 1, 1) := by decide +kernel
theorem dX8_need_10 : decode cX8_need 10 = .ok (.iload_n 2, 1) := by decide +kernel
theorem dX8_need_11 : decode cX8_need 11 = .ok (.invokevirtual 63, 3) := by decide +kernel
theorem dX8_need_14 : decode cX8_need 14 = .ok (.iload_n 1, 1) := by decide +kernel
theorem dX8_need_15 : decode cX8_need 15 = .ok (.iload_n 3, 1) := by decide +kernel
theorem dX8_need_16 : decode cX8_need 16 = .ok (.if_icmp .ne 13, 3) := by decide +kernel
theorem dX8_need_19 : decode cX8_need 19 = .ok (.new 37, 3) := by decide +kernel
theorem dX8_need_22 : decode cX8_need 22 = .ok (.dup, 1) := by decide +kernel
theorem dX8_need_23 : decode cX8_need 23 = .ok (.ldc 67, 2) := by decide +kernel
theorem dX8_need_25 : decode cX8_need 25 = .ok (.invokespecial 41, 3) := by decide +kernel
theorem dX8_need_28 : decode cX8_need 28 = .ok (.athrow, 1) := by decide +kernel
theorem dX8_need_29 : decode cX8_need 29 = .ok (.iload 4, 2) := by decide +kernel
theorem dX8_need_31 : decode cX8_need 31 = .ok (.invokestatic 69, 3) := by decide +kernel
theorem dX8_need_34 : decode cX8_need 34 = .ok (.iload 5, 2) := by decide +kernel
theorem dX8_need_36 : decode cX8_need 36 = .ok (.iload 4, 2) := by decide +kernel
theorem dX8_need_38 : decode cX8_need 38 = .ok (.if_icmp .lt 9, 3) := by decide +kernel
theorem dX8_need_41 : decode cX8_need 41 = .ok (.iload 5, 2) := by decide +kernel
theorem dX8_need_43 : decode cX8_need 43 = .ok (.iconst 3, 1) := by decide +kernel
theorem dX8_need_44 : decode cX8_need 44 = .ok (.if_icmp .le 13, 3) := by decide +kernel
theorem dX8_need_47 : decode cX8_need 47 = .ok (.new 37, 3) := by decide +kernel
theorem dX8_need_50 : decode cX8_need 50 = .ok (.dup, 1) := by decide +kernel
theorem dX8_need_51 : decode cX8_need 51 = .ok (.ldc 72, 2) := by decide +kernel
theorem dX8_need_53 : decode cX8_need 53 = .ok (.invokespecial 41, 3) := by decide +kernel
theorem dX8_need_56 : decode cX8_need 56 = .ok (.athrow, 1) := by decide +kernel
theorem dX8_need_57 : decode cX8_need 57 = .ok (.aload_n 0, 1) := by decide +kernel
theorem dX8_need_58 : decode cX8_need 58 = .ok (.getfield 19, 3) := by decide +kernel
theorem dX8_need_61 : decode cX8_need 61 = .ok (.getfield 44, 3) := by decide +kernel
theorem dX8_need_64 : decode cX8_need 64 = .ok (.iload_n 1, 1) := by decide +kernel
theorem dX8_need_65 : decode cX8_need 65 = .ok (.iload_n 2, 1) := by decide +kernel
theorem dX8_need_66 : decode cX8_need 66 = .ok (.invokevirtual 74, 3) := by decide +kernel
theorem dX8_need_69 : decode cX8_need 69 = .ok (.iconst 4, 1) := by decide +kernel
theorem dX8_need_70 : decode cX8_need 70 = .ok (.if_icmp .lt 13, 3) := by decide +kernel
theorem dX8_need_73 : decode cX8_need 73 = .ok (.new 54, 3) := by decide +kernel
theorem dX8_need_76 : decode cX8_need 76 = .ok (.dup, 1) := by decide +kernel
theorem dX8_need_77 : decode cX8_need 77 = .ok (.ldc 78, 2) := by decide +kernel
theorem dX8_need_79 : decode cX8_need 79 = .ok (.invokespecial 58, 3) := by decide +kernel
theorem dX8_need_82 : decode cX8_need 82 = .ok (.athrow, 1) := by decide +kernel
theorem dX8_need_83 : decode cX8_need 83 = .ok (.aload_n 0, 1) := by decide +kernel
theorem dX8_need_84 : decode cX8_need 84 = .ok (.getfield 19, 3) := by decide +kernel
theorem dX8_need_87 : decode cX8_need 87 = .ok (.aload_n 0, 1) := by decide +kernel
theorem dX8_need_88 : decode cX8_need 88 = .ok (.getfield 10, 3) := by decide +kernel
theorem dX8_need_91 : decode cX8_need 91 = .ok (.aload_n 0, 1) := by decide +kernel
theorem dX8_need_92 : decode cX8_need 92 = .ok (.getfield 10, 3) := by decide +kernel
theorem dX8_need_95 : decode cX8_need 95 = .ok (.iconst 2, 1) := by decide +kernel
theorem dX8_need_96 : decode cX8_need 96 = .ok (.iload_n 1, 1) := by decide +kernel
theorem dX8_need_97 : decode cX8_need 97 = .ok (.iload_n 2, 1) := by decide +kernel
theorem dX8_need_98 : decode cX8_need 98 = .ok (.iload_n 3, 1) := by decide +kernel
theorem dX8_need_99 : decode cX8_need 99 = .ok (.iload 4, 2) := by decide +kernel
theorem dX8_need_101 : decode cX8_need 101 = .ok (.iload 5, 2) := by decide +kernel
theorem dX8_need_103 : decode cX8_need 103 = .ok (.invokevirtual 80, 3) := by decide +kernel
theorem dX8_need_106 : decode cX8_need 106 = .ok (.invokevirtual 84, 3) := by decide +kernel
theorem dX8_need_109 : decode cX8_need 109 = .ok (.ireturn, 1) := by decide +kernel
set_option maxRecDepth 20000 in
theorem ggX8_replace_X8_checkPart : GoodIn wsX8_replace wsX8_checkPart := goodIn_ca (goodIn_r _ [8, 9, 10] (by decide +kernel) (by decide +kernel)) (goodIn_sub (fun _ h => List.mem_cons_of_mem _ (List.mem_append_right _ h)) (by decide +kernel))
set_option maxRecDepth 20000 in
theorem gX8_replace_X8_checkPart : GoodIn wsX8_replace (va_wsS RX8 33 yX8_checkPart wsX8_checkPart) := goodIn_app (goodIn_of _ (by decide +kernel)) ggX8_replace_X8_checkPart
set_option maxRecDepth 20000 in
theorem ggX8_replace_X8_checkVersion : GoodIn wsX8_replace wsX8_checkVersion := goodIn_ca (goodIn_r _ [14, 9, 10, 3, 4, 15, 16, 17, 18, 19, 20, 21, 22, 23, 24, 25, 26, 184, 185, 186, 187, 188, 189, 190, 191, 192, 193, 194, 195, 196, 197] (by decide +kernel) (by decide +kernel)) (goodIn_sub (fun _ h => List.mem_cons_of_mem _ (List.mem_append_right _ h)) (by decide +kernel))
set_option maxRecDepth 20000 in
theorem gX8_replace_X8_checkVersion : GoodIn wsX8_replace (wsV RX8 63 RX8 yX8_checkVersion wsX8_checkVersion) := goodIn_app (goodIn_of _ (by decide +kernel)) ggX8_replace_X8_checkVersion
set_option maxRecDepth 20000 in
theorem ggX8_replace_X3_isReplaced : GoodIn wsX8_replace wsX3_isReplaced := goodIn_r _ [30, 31, 32, 33, 18, 34, 21, 22, 23, 24, 25, 26, 191, 192, 193, 194, 195, 196, 197] (by decide +kernel) (by decide +kernel)
set_option maxRecDepth 20000 in
theorem gX8_replace_X3_isReplaced : GoodIn wsX8_replace (wsV RX8 88 RX3 yX3_isReplaced wsX3_isReplaced) := goodIn_app (goodIn_of _ (by decide +kernel)) ggX8_replace_X3_isReplaced
set_option maxRecDepth 20000 in
theorem ggX8_replace_X8_tell : GoodIn wsX8_replace wsX8_tell := goodIn_r _ [38, 3, 39, 40, 41, 42, 43, 44, 45, 46, 47, 48, 49, 24, 50, 26, 51, 52, 53, 54, 55, 56, 57, 58, 59, 60, 61, 62, 63, 22, 23, 25, 64, 65, 66, 18, 67, 20, 68, 31, 69, 21, 32, 33, 34, 70, 71, 72, 73, 74, 75, 76, 77, 78, 79, 80, 81, 82, 83, 84, 85, 86, 87, 88, 89, 90, 91, 92, 93, 94, 95, 96, 97, 98, 99, 100, 101, 102, 103, 104, 105, 106, 107, 108, 109, 110, 111, 112, 113, 114, 115, 116, 117, 118, 119, 120, 121, 122, 123, 124, 125, 126, 127, 128, 129, 130, 131, 132, 133, 134, 135, 136, 137, 138, 139, 140, 141, 142, 143, 144, 145, 146, 147, 148, 149, 150, 151, 152, 153, 154, 155, 156, 157, 158, 159, 160, 161, 162, 163, 164, 165, 166, 167, 168, 169, 170, 171, 172, 173, 174, 175, 176, 177, 178, 179, 180, 181, 182, 183, 184, 185, 186, 187, 198, 199, 197, 188, 189, 190, 191, 192, 193, 194, 195, 196, 200, 201, 202, 203, 204, 205, 206, 207, 208, 209, 210, 211] (by decide +kernel) (by decide +kernel)
set_option maxRecDepth 20000 in
theorem gX8_replace_X8_tell : GoodIn wsX8_replace (wsV RX8 59 RX8 yX8_tell wsX8_tell) := goodIn_app (goodIn_of _ (by decide +kernel)) ggX8_replace_X8_tell
theorem dX8_replace_0 : decode cX8_replace 0 = .ok (.iload_n 1, 1) := by decide +kernel
theorem dX8_replace_1 : decode cX8_replace 1 = .ok (.invokestatic 33, 3) := by decide +kernel
theorem dX8_replace_4 : decode cX8_replace 4 = .ok (.aload_n 0, 1) := by decide +kernel
theorem dX8_replace_5 : decode cX8_replace 5 = .ok (.iload_n 1, 1) := by decide +kernel
theorem dX8_replace_6 : decode cX8_replace 6 = .ok (.iload_n 2, 1) := by decide +kernel
theorem dX8_replace_7 : decode cX8_replace 7 = .ok (.invokevirtual 63, 3) := by decide +kernel
theorem dX8_replace_10 : decode cX8_replace 10 = .ok (.aload_n 0, 1) := by decide +kernel
theorem dX8_replace_11 : decode cX8_replace 11 = .ok (.getfield 19, 3) := by decide +kernel
theorem dX8_replace_14 : decode cX8_replace 14 = .ok (.getfield 44, 3) := by decide +kernel
theorem dX8_replace_17 : decode cX8_replace 17 = .ok (.iload_n 1, 1) := by decide +kernel
theorem dX8_replace_18 : decode cX8_replace 18 = .ok (.iload_n 2, 1) := by decide +kernel
theorem dX8_replace_19 : decode cX8_replace 19 = .ok (.invokevirtual 88, 3) := by decide +kernel
theorem dX8_replace_22 : decode cX8_replace 22 = .ok (.ifCond .eq 13, 3) := by decide +kernel
theorem dX8_replace_25 : decode cX8_replace 25 = .ok (.new 54, 3) := by decide +kernel
theorem dX8_replace_28 : decode cX8_replace 28 = .ok (.dup, 1) := by decide +kernel
theorem dX8_replace_29 : decode cX8_replace 29 = .ok (.ldc 92, 2) := by decide +kernel
theorem dX8_replace_31 : decode cX8_replace 31 = .ok (.invokespecial 58, 3) := by decide +kernel
theorem dX8_replace_34 : decode cX8_replace 34 = .ok (.athrow, 1) := by decide +kernel
theorem dX8_replace_35 : decode cX8_replace 35 = .ok (.aload_n 0, 1) := by decide +kernel
theorem dX8_replace_36 : decode cX8_replace 36 = .ok (.iconst 3, 1) := by decide +kernel
theorem dX8_replace_37 : decode cX8_replace 37 = .ok (.iload_n 1, 1) := by decide +kernel
theorem dX8_replace_38 : decode cX8_replace 38 = .ok (.iload_n 2, 1) := by decide +kernel
theorem dX8_replace_39 : decode cX8_replace 39 = .ok (.iconst 0, 1) := by decide +kernel
theorem dX8_replace_40 : decode cX8_replace 40 = .ok (.invokevirtual 59, 3) := by decide +kernel
theorem dX8_replace_43 : decode cX8_replace 43 = .ok (.ireturn, 1) := by decide +kernel
set_option maxRecDepth 20000 in
theorem ggX8_request_X8_checkPerson : GoodIn wsX8_request wsX8_checkPerson := goodIn_ca (goodIn_r _ [8, 9, 10] (by decide +kernel) (by decide +kernel)) (goodIn_sub (fun _ h => List.mem_cons_of_mem _ (List.mem_append_left _ (List.mem_append_right _ h))) (by decide +kernel))
set_option maxRecDepth 20000 in
theorem gX8_request_X8_checkPerson : GoodIn wsX8_request (va_wsS RX8 94 yX8_checkPerson wsX8_checkPerson) := goodIn_app (goodIn_of _ (by decide +kernel)) ggX8_request_X8_checkPerson
set_option maxRecDepth 20000 in
theorem ggX8_request_X8_checkPart : GoodIn wsX8_request wsX8_checkPart := goodIn_ca (goodIn_r _ [13, 9, 10] (by decide +kernel) (by decide +kernel)) (goodIn_sub (fun _ h => List.mem_cons_of_mem _ (List.mem_append_left _ (List.mem_append_right _ h))) (by decide +kernel))
set_option maxRecDepth 20000 in
theorem gX8_request_X8_checkPart : GoodIn wsX8_request (va_wsS RX8 33 yX8_checkPart wsX8_checkPart) := goodIn_app (goodIn_of _ (by decide +kernel)) ggX8_request_X8_checkPart
set_option maxRecDepth 20000 in
theorem ggX8_request_X8_checkLeast : GoodIn wsX8_request wsX8_checkLeast := goodIn_ca (goodIn_r _ [16, 17, 18] (by decide +kernel) (by decide +kernel)) (goodIn_sub (fun _ h => List.mem_cons_of_mem _ (List.mem_append_right _ h)) (by decide +kernel))
set_option maxRecDepth 20000 in
theorem gX8_request_X8_checkLeast : GoodIn wsX8_request (va_wsS RX8 69 yX8_checkLeast wsX8_checkLeast) := goodIn_app (goodIn_of _ (by decide +kernel)) ggX8_request_X8_checkLeast
set_option maxRecDepth 20000 in
theorem ggX8_request_X5_count : GoodIn wsX8_request wsX5_count := goodIn_r _ [23, 24, 191, 192, 193, 194, 195, 196, 197, 198] (by decide +kernel) (by decide +kernel)
set_option maxRecDepth 20000 in
theorem gX8_request_X5_count : GoodIn wsX8_request (wsV RX8 101 RX5 yX5_count wsX5_count) := goodIn_app (goodIn_of _ (by decide +kernel)) ggX8_request_X5_count
set_option maxRecDepth 20000 in
theorem ggX8_request_X8_tell : GoodIn wsX8_request wsX8_tell := goodIn_r _ [28, 3, 29, 30, 31, 32, 33, 34, 35, 36, 37, 38, 39, 40, 41, 42, 43, 44, 45, 46, 47, 48, 49, 50, 51, 52, 53, 54, 55, 56, 57, 58, 59, 60, 61, 62, 63, 64, 65, 66, 67, 68, 69, 70, 71, 72, 73, 74, 75, 76, 77, 78, 79, 80, 81, 82, 83, 84, 85, 86, 87, 88, 89, 90, 91, 92, 93, 94, 22, 95, 24, 96, 97, 98, 99, 100, 101, 102, 103, 104, 105, 106, 107, 108, 109, 110, 111, 112, 113, 114, 115, 116, 117, 118, 119, 120, 121, 122, 123, 124, 125, 126, 127, 128, 129, 130, 131, 132, 133, 134, 135, 136, 137, 138, 139, 140, 141, 142, 143, 144, 145, 146, 147, 148, 149, 150, 151, 152, 153, 154, 155, 156, 157, 158, 159, 160, 161, 162, 163, 164, 165, 166, 167, 168, 169, 170, 171, 172, 173, 174, 175, 176, 177, 178, 179, 180, 181, 182, 183, 184, 185, 186, 187, 199, 200, 201, 188, 189, 190, 202, 203, 204, 205, 206, 207, 208, 209, 210, 211, 191, 192, 193, 194, 195, 196, 197, 198] (by decide +kernel) (by decide +kernel)
set_option maxRecDepth 20000 in
theorem gX8_request_X8_tell : GoodIn wsX8_request (wsV RX8 59 RX8 yX8_tell wsX8_tell) := goodIn_app (goodIn_of _ (by decide +kernel)) ggX8_request_X8_tell
theorem dX8_request_0 : decode cX8_request 0 = .ok (.iload_n 1, 1) := by decide +kernel
theorem dX8_request_1 : decode cX8_request 1 = .ok (.invokestatic 94, 3) := by decide +kernel
theorem dX8_request_4 : decode cX8_request 4 = .ok (.iload_n 2, 1) := by decide +kernel
theorem dX8_request_5 : decode cX8_request 5 = .ok (.invokestatic 33, 3) := by decide +kernel
theorem dX8_request_8 : decode cX8_request 8 = .ok (.iload_n 3, 1) := by decide +kernel
theorem dX8_request_9 : decode cX8_request 9 = .ok (.invokestatic 69, 3) := by decide +kernel
theorem dX8_request_12 : decode cX8_request 12 = .ok (.aload_n 0, 1) := by decide +kernel
theorem dX8_request_13 : decode cX8_request 13 = .ok (.getfield 19, 3) := by decide +kernel
theorem dX8_request_16 : decode cX8_request 16 = .ok (.getfield 97, 3) := by decide +kernel
theorem dX8_request_19 : decode cX8_request 19 = .ok (.invokevirtual 101, 3) := by decide +kernel
theorem dX8_request_22 : decode cX8_request 22 = .ok (.bipush 30, 2) := by decide +kernel
theorem dX8_request_24 : decode cX8_request 24 = .ok (.if_icmp .lt 13, 3) := by decide +kernel
theorem dX8_request_27 : decode cX8_request 27 = .ok (.new 54, 3) := by decide +kernel
theorem dX8_request_30 : decode cX8_request 30 = .ok (.dup, 1) := by decide +kernel
theorem dX8_request_31 : decode cX8_request 31 = .ok (.ldc 107, 2) := by decide +kernel
theorem dX8_request_33 : decode cX8_request 33 = .ok (.invokespecial 58, 3) := by decide +kernel
theorem dX8_request_36 : decode cX8_request 36 = .ok (.athrow, 1) := by decide +kernel
theorem dX8_request_37 : decode cX8_request 37 = .ok (.aload_n 0, 1) := by decide +kernel
theorem dX8_request_38 : decode cX8_request 38 = .ok (.iconst 4, 1) := by decide +kernel
theorem dX8_request_39 : decode cX8_request 39 = .ok (.iload_n 1, 1) := by decide +kernel
theorem dX8_request_40 : decode cX8_request 40 = .ok (.iload_n 2, 1) := by decide +kernel
theorem dX8_request_41 : decode cX8_request 41 = .ok (.iload_n 3, 1) := by decide +kernel
theorem dX8_request_42 : decode cX8_request 42 = .ok (.invokevirtual 59, 3) := by decide +kernel
theorem dX8_request_45 : decode cX8_request 45 = .ok (.ireturn, 1) := by decide +kernel
set_option maxRecDepth 20000 in
theorem ggX8_resolve_X8_checkRequest : GoodIn wsX8_resolve wsX8_checkRequest := goodIn_ca (goodIn_r _ [11, 12, 13, 3, 4, 14, 15, 16, 17, 18, 19, 238, 239, 240, 241, 242, 243, 244, 245, 246, 247, 248, 249, 250, 251, 252] (by decide +kernel) (by decide +kernel)) (goodIn_sub (fun _ h => List.mem_cons_of_mem _ (List.mem_append_right _ h)) (by decide +kernel))
set_option maxRecDepth 20000 in
theorem gX8_resolve_X8_checkRequest : GoodIn wsX8_resolve (wsV RX8 109 RX8 yX8_checkRequest wsX8_checkRequest) := goodIn_app (goodIn_of _ (by decide +kernel)) ggX8_resolve_X8_checkRequest
set_option maxRecDepth 20000 in
theorem ggX8_resolve_X5_stateOf : GoodIn wsX8_resolve wsX5_stateOf := goodIn_r _ [23, 24, 25, 26, 27, 28, 29, 30, 245, 246, 247, 248, 249, 250, 251, 252, 253] (by decide +kernel) (by decide +kernel)
set_option maxRecDepth 20000 in
theorem gX8_resolve_X5_stateOf : GoodIn wsX8_resolve (wsV RX8 112 RX5 yX5_stateOf wsX5_stateOf) := goodIn_app (goodIn_of _ (by decide +kernel)) ggX8_resolve_X5_stateOf
set_option maxRecDepth 20000 in
theorem ggX8_resolve_X5_partOf : GoodIn wsX8_resolve wsX5_partOf := goodIn_r _ [34, 35, 25, 26, 27, 28, 29, 30, 245, 246, 247, 248, 249, 250, 251, 252, 253] (by decide +kernel) (by decide +kernel)
set_option maxRecDepth 20000 in
theorem gX8_resolve_X5_partOf : GoodIn wsX8_resolve (wsV RX8 117 RX5 yX5_partOf wsX5_partOf) := goodIn_app (goodIn_of _ (by decide +kernel)) ggX8_resolve_X5_partOf
set_option maxRecDepth 20000 in
theorem ggX8_resolve_X5_leastOf : GoodIn wsX8_resolve wsX5_leastOf := goodIn_r _ [39, 40, 25, 26, 27, 28, 29, 30, 245, 246, 247, 248, 249, 250, 251, 252, 253] (by decide +kernel) (by decide +kernel)
set_option maxRecDepth 20000 in
theorem gX8_resolve_X5_leastOf : GoodIn wsX8_resolve (wsV RX8 120 RX5 yX5_leastOf wsX5_leastOf) := goodIn_app (goodIn_of _ (by decide +kernel)) ggX8_resolve_X5_leastOf
set_option maxRecDepth 20000 in
theorem ggX8_resolve_X7_find : GoodIn wsX8_resolve wsX7_find := goodIn_r _ [45, 46, 47, 48, 49, 50, 51, 52, 53, 54, 55, 56, 26, 27, 28, 29, 30, 57, 58, 59, 60, 61, 62, 63, 64, 65, 66, 67, 68, 69, 70, 71, 72, 73, 74, 75, 76, 44, 77, 78, 79, 80, 81, 82, 83, 84, 85, 86, 87, 88, 89, 90, 91, 92, 93, 94, 95, 96, 97, 98, 99, 100, 101, 102, 103, 104, 254, 255, 256, 257, 258, 259, 260, 261, 262, 263, 253] (by decide +kernel) (by decide +kernel)
set_option maxRecDepth 20000 in
theorem gX8_resolve_X7_find : GoodIn wsX8_resolve (wsV RX8 123 RX7 yX7_find wsX7_find) := goodIn_app (goodIn_of _ (by decide +kernel)) ggX8_resolve_X7_find
set_option maxRecDepth 20000 in
theorem ggX8_resolve_X8_tell : GoodIn wsX8_resolve wsX8_tell := goodIn_r _ [108, 3, 109, 110, 111, 112, 113, 114, 115, 116, 117, 69, 70, 28, 71, 30, 118, 119, 120, 121, 122, 123, 124, 125, 126, 127, 128, 129, 130, 26, 27, 29, 131, 132, 133, 53, 134, 55, 135, 61, 86, 56, 62, 63, 64, 136, 137, 138, 139, 140, 91, 96, 65, 66, 67, 141, 142, 143, 144, 145, 146, 147, 148, 149, 150, 151, 152, 153, 17, 154, 19, 155, 24, 25, 156, 157, 103, 158, 159, 160, 161, 162, 163, 164, 165, 166, 167, 168, 169, 170, 171, 172, 173, 174, 175, 176, 177, 178, 179, 180, 181, 182, 35, 40, 183, 184, 185, 186, 187, 188, 189, 190, 191, 192, 193, 194, 195, 196, 197, 198, 199, 200, 201, 202, 203, 204, 205, 206, 207, 208, 209, 210, 211, 212, 213, 214, 215, 216, 217, 218, 219, 220, 221, 222, 223, 224, 225, 226, 227, 228, 229, 230, 231, 232, 233, 234, 235, 236, 237, 238, 239, 240, 241, 264, 265, 253, 242, 243, 244, 258, 259, 260, 261, 262, 263, 266, 267, 268, 269, 245, 246, 247, 248, 249, 250, 251, 252] (by decide +kernel) (by decide +kernel)
set_option maxRecDepth 20000 in
theorem gX8_resolve_X8_tell : GoodIn wsX8_resolve (wsV RX8 59 RX8 yX8_tell wsX8_tell) := goodIn_app (goodIn_of _ (by decide +kernel)) ggX8_resolve_X8_tell
theorem dX8_resolve_0 : decode cX8_resolve 0 = .ok (.aload_n 0, 1) := by decide +kernel
theorem dX8_resolve_1 : decode cX8_resolve 1 = .ok (.iload_n 1, 1) := by decide +kernel
theorem dX8_resolve_2 : decode cX8_resolve 2 = .ok (.invokevirtual 109, 3) := by decide +kernel
theorem dX8_resolve_5 : decode cX8_resolve 5 = .ok (.aload_n 0, 1) := by decide +kernel
theorem dX8_resolve_6 : decode cX8_resolve 6 = .ok (.getfield 19, 3) := by decide +kernel
theorem dX8_resolve_9 : decode cX8_resolve 9 = .ok (.getfield 97, 3) := by decide +kernel
theorem dX8_resolve_12 : decode cX8_resolve 12 = .ok (.iload_n 1, 1) := by decide +kernel
theorem dX8_resolve_13 : decode cX8_resolve 13 = .ok (.invokevirtual 112, 3) := by decide +kernel
theorem dX8_resolve_16 : decode cX8_resolve 16 = .ok (.iconst 2, 1) := by decide +kernel
theorem dX8_resolve_17 : decode cX8_resolve 17 = .ok (.if_icmp .ne 13, 3) := by decide +kernel
theorem dX8_resolve_20 : decode cX8_resolve 20 = .ok (.new 54, 3) := by decide +kernel
theorem dX8_resolve_23 : decode cX8_resolve 23 = .ok (.dup, 1) := by decide +kernel
theorem dX8_resolve_24 : decode cX8_resolve 24 = .ok (.ldc 115, 2) := by decide +kernel
theorem dX8_resolve_26 : decode cX8_resolve 26 = .ok (.invokespecial 58, 3) := by decide +kernel
theorem dX8_resolve_29 : decode cX8_resolve 29 = .ok (.athrow, 1) := by decide +kernel
theorem dX8_resolve_30 : decode cX8_resolve 30 = .ok (.aload_n 0, 1) := by decide +kernel
theorem dX8_resolve_31 : decode cX8_resolve 31 = .ok (.getfield 29, 3) := by decide +kernel
theorem dX8_resolve_34 : decode cX8_resolve 34 = .ok (.aload_n 0, 1) := by decide +kernel
theorem dX8_resolve_35 : decode cX8_resolve 35 = .ok (.getfield 19, 3) := by decide +kernel
theorem dX8_resolve_38 : decode cX8_resolve 38 = .ok (.getfield 44, 3) := by decide +kernel
theorem dX8_resolve_41 : decode cX8_resolve 41 = .ok (.aload_n 0, 1) := by decide +kernel
theorem dX8_resolve_42 : decode cX8_resolve 42 = .ok (.getfield 19, 3) := by decide +kernel
theorem dX8_resolve_45 : decode cX8_resolve 45 = .ok (.getfield 97, 3) := by decide +kernel
theorem dX8_resolve_48 : decode cX8_resolve 48 = .ok (.iload_n 1, 1) := by decide +kernel
theorem dX8_resolve_49 : decode cX8_resolve 49 = .ok (.invokevirtual 117, 3) := by decide +kernel
theorem dX8_resolve_52 : decode cX8_resolve 52 = .ok (.aload_n 0, 1) := by decide +kernel
theorem dX8_resolve_53 : decode cX8_resolve 53 = .ok (.getfield 19, 3) := by decide +kernel
theorem dX8_resolve_56 : decode cX8_resolve 56 = .ok (.getfield 97, 3) := by decide +kernel
theorem dX8_resolve_59 : decode cX8_resolve 59 = .ok (.iload_n 1, 1) := by decide +kernel
theorem dX8_resolve_60 : decode cX8_resolve 60 = .ok (.invokevirtual 120, 3) := by decide +kernel
theorem dX8_resolve_63 : decode cX8_resolve 63 = .ok (.invokevirtual 123, 3) := by decide +kernel
theorem dX8_resolve_66 : decode cX8_resolve 66 = .ok (.istore_n 2, 1) := by decide +kernel
theorem dX8_resolve_67 : decode cX8_resolve 67 = .ok (.iload_n 2, 1) := by decide +kernel
theorem dX8_resolve_68 : decode cX8_resolve 68 = .ok (.ifCond .ne 5, 3) := by decide +kernel
theorem dX8_resolve_71 : decode cX8_resolve 71 = .ok (.iconst (-1), 1) := by decide +kernel
theorem dX8_resolve_72 : decode cX8_resolve 72 = .ok (.ireturn, 1) := by decide +kernel
theorem dX8_resolve_73 : decode cX8_resolve 73 = .ok (.aload_n 0, 1) := by decide +kernel
theorem dX8_resolve_74 : decode cX8_resolve 74 = .ok (.iconst 5, 1) := by decide +kernel
theorem dX8_resolve_75 : decode cX8_resolve 75 = .ok (.iload_n 1, 1) := by decide +kernel
theorem dX8_resolve_76 : decode cX8_resolve 76 = .ok (.iload_n 2, 1) := by decide +kernel
theorem dX8_resolve_77 : decode cX8_resolve 77 = .ok (.iconst 0, 1) := by decide +kernel
theorem dX8_resolve_78 : decode cX8_resolve 78 = .ok (.invokevirtual 59, 3) := by decide +kernel
theorem dX8_resolve_81 : decode cX8_resolve 81 = .ok (.ireturn, 1) := by decide +kernel
set_option maxRecDepth 20000 in
theorem ggX8_chosen_X8_checkRequest : GoodIn wsX8_chosen wsX8_checkRequest := goodIn_ca (goodIn_r _ [7, 8, 9, 1, 2, 10, 11, 12, 13, 14, 15, 34, 35, 36, 37, 38, 39, 40, 41, 42, 43, 44, 45, 46, 47, 48] (by decide +kernel) (by decide +kernel)) (goodIn_sub (fun _ h => List.mem_cons_of_mem _ (List.mem_append_right _ h)) (by decide +kernel))
set_option maxRecDepth 20000 in
theorem gX8_chosen_X8_checkRequest : GoodIn wsX8_chosen (wsV RX8 109 RX8 yX8_checkRequest wsX8_checkRequest) := goodIn_app (goodIn_of _ (by decide +kernel)) ggX8_chosen_X8_checkRequest
set_option maxRecDepth 20000 in
theorem ggX8_chosen_X8_checkPart : GoodIn wsX8_chosen wsX8_checkPart := goodIn_ca (goodIn_r _ [18, 8, 9] (by decide +kernel) (by decide +kernel)) (goodIn_sub (fun _ h => List.mem_cons_of_mem _ (List.mem_append_right _ h)) (by decide +kernel))
set_option maxRecDepth 20000 in
theorem gX8_chosen_X8_checkPart : GoodIn wsX8_chosen (va_wsS RX8 33 yX8_checkPart wsX8_checkPart) := goodIn_app (goodIn_of _ (by decide +kernel)) ggX8_chosen_X8_checkPart
set_option maxRecDepth 20000 in
theorem ggX8_chosen_X5_choiceOf : GoodIn wsX8_chosen wsX5_choiceOf := goodIn_r _ [22, 23, 24, 25, 26, 27, 28, 29, 41, 42, 43, 44, 45, 46, 47, 48, 49] (by decide +kernel) (by decide +kernel)
set_option maxRecDepth 20000 in
theorem gX8_chosen_X5_choiceOf : GoodIn wsX8_chosen (wsV RX8 127 RX5 yX5_choiceOf wsX5_choiceOf) := goodIn_app (goodIn_of _ (by decide +kernel)) ggX8_chosen_X5_choiceOf
set_option maxRecDepth 20000 in
theorem ggX8_chosen_X1_versionOf : GoodIn wsX8_chosen wsX1_versionOf := goodIn_r _ [33] (by decide +kernel) (by decide +kernel)
set_option maxRecDepth 20000 in
theorem gX8_chosen_X1_versionOf : GoodIn wsX8_chosen (va_wsS RX8 130 yX1_versionOf wsX1_versionOf) := goodIn_app (goodIn_of _ (by decide +kernel)) ggX8_chosen_X1_versionOf
theorem dX8_chosen_0 : decode cX8_chosen 0 = .ok (.aload_n 0, 1) := by decide +kernel
theorem dX8_chosen_1 : decode cX8_chosen 1 = .ok (.iload_n 1, 1) := by decide +kernel
theorem dX8_chosen_2 : decode cX8_chosen 2 = .ok (.invokevirtual 109, 3) := by decide +kernel
theorem dX8_chosen_5 : decode cX8_chosen 5 = .ok (.iload_n 2, 1) := by decide +kernel
theorem dX8_chosen_6 : decode cX8_chosen 6 = .ok (.invokestatic 33, 3) := by decide +kernel
theorem dX8_chosen_9 : decode cX8_chosen 9 = .ok (.aload_n 0, 1) := by decide +kernel
theorem dX8_chosen_10 : decode cX8_chosen 10 = .ok (.getfield 19, 3) := by decide +kernel
theorem dX8_chosen_13 : decode cX8_chosen 13 = .ok (.getfield 97, 3) := by decide +kernel
theorem dX8_chosen_16 : decode cX8_chosen 16 = .ok (.iload_n 1, 1) := by decide +kernel
theorem dX8_chosen_17 : decode cX8_chosen 17 = .ok (.invokevirtual 127, 3) := by decide +kernel
theorem dX8_chosen_20 : decode cX8_chosen 20 = .ok (.iload_n 2, 1) := by decide +kernel
theorem dX8_chosen_21 : decode cX8_chosen 21 = .ok (.invokestatic 130, 3) := by decide +kernel
theorem dX8_chosen_24 : decode cX8_chosen 24 = .ok (.istore_n 3, 1) := by decide +kernel
theorem dX8_chosen_25 : decode cX8_chosen 25 = .ok (.iload_n 3, 1) := by decide +kernel
theorem dX8_chosen_26 : decode cX8_chosen 26 = .ok (.ifCond .ne 7, 3) := by decide +kernel
theorem dX8_chosen_29 : decode cX8_chosen 29 = .ok (.iconst (-1), 1) := by decide +kernel
theorem dX8_chosen_30 : decode cX8_chosen 30 = .ok (.goto 4, 3) := by decide +kernel
theorem dX8_chosen_33 : decode cX8_chosen 33 = .ok (.iload_n 3, 1) := by decide +kernel
theorem dX8_chosen_34 : decode cX8_chosen 34 = .ok (.ireturn, 1) := by decide +kernel
set_option maxRecDepth 20000 in
theorem ggX8_limit_X8_checkPerson : GoodIn wsX8_limit wsX8_checkPerson := goodIn_ca (goodIn_r _ [6, 7, 8] (by decide +kernel) (by decide +kernel)) (goodIn_sub (fun _ h => List.mem_cons_of_mem _ (List.mem_append_right _ h)) (by decide +kernel))
set_option maxRecDepth 20000 in
theorem gX8_limit_X8_checkPerson : GoodIn wsX8_limit (va_wsS RX8 94 yX8_checkPerson wsX8_checkPerson) := goodIn_app (goodIn_of _ (by decide +kernel)) ggX8_limit_X8_checkPerson
set_option maxRecDepth 20000 in
theorem ggX8_limit_X8_tell : GoodIn wsX8_limit wsX8_tell := goodIn_r _ [12, 13, 14, 15, 16, 17, 18, 19, 20, 21, 22, 23, 24, 25, 26, 27, 28, 29, 30, 31, 32, 33, 34, 35, 36, 37, 38, 39, 40, 41, 42, 43, 44, 45, 46, 47, 48, 49, 50, 51, 52, 53, 54, 55, 56, 57, 58, 59, 60, 61, 62, 63, 64, 65, 66, 67, 68, 69, 70, 71, 72, 73, 74, 75, 76, 77, 78, 79, 80, 81, 82, 83, 84, 85, 86, 87, 88, 89, 90, 91, 92, 93, 94, 95, 96, 97, 98, 99, 100, 101, 102, 103, 104, 105, 106, 107, 108, 109, 110, 111, 112, 113, 114, 115, 116, 117, 118, 119, 120, 121, 122, 123, 124, 125, 126, 127, 128, 129, 130, 131, 132, 133, 134, 135, 136, 137, 138, 139, 140, 141, 142, 143, 144, 145, 146, 147, 148, 149, 150, 151, 152, 153, 154, 155, 156, 157, 158, 159, 160, 161, 162, 163, 164, 165, 166, 167, 168, 169, 170, 171, 172, 173, 174, 175, 176, 177, 178, 179, 180, 181, 182, 183, 184, 185, 186, 187, 188, 189, 190, 191, 192, 193, 194, 195, 196, 197, 198] (by decide +kernel) (by decide +kernel)
set_option maxRecDepth 20000 in
theorem gX8_limit_X8_tell : GoodIn wsX8_limit (wsV RX8 59 RX8 yX8_tell wsX8_tell) := goodIn_app (goodIn_of _ (by decide +kernel)) ggX8_limit_X8_tell
theorem dX8_limit_0 : decode cX8_limit 0 = .ok (.iload_n 1, 1) := by decide +kernel
theorem dX8_limit_1 : decode cX8_limit 1 = .ok (.invokestatic 94, 3) := by decide +kernel
theorem dX8_limit_4 : decode cX8_limit 4 = .ok (.iload_n 2, 1) := by decide +kernel
theorem dX8_limit_5 : decode cX8_limit 5 = .ok (.ifCond .lt 10, 3) := by decide +kernel
theorem dX8_limit_8 : decode cX8_limit 8 = .ok (.iload_n 2, 1) := by decide +kernel
theorem dX8_limit_9 : decode cX8_limit 9 = .ok (.sipush 10000, 3) := by decide +kernel
theorem dX8_limit_12 : decode cX8_limit 12 = .ok (.if_icmp .le 13, 3) := by decide +kernel
theorem dX8_limit_15 : decode cX8_limit 15 = .ok (.new 37, 3) := by decide +kernel
theorem dX8_limit_18 : decode cX8_limit 18 = .ok (.dup, 1) := by decide +kernel
theorem dX8_limit_19 : decode cX8_limit 19 = .ok (.ldc 135, 2) := by decide +kernel
theorem dX8_limit_21 : decode cX8_limit 21 = .ok (.invokespecial 41, 3) := by decide +kernel
theorem dX8_limit_24 : decode cX8_limit 24 = .ok (.athrow, 1) := by decide +kernel
theorem dX8_limit_25 : decode cX8_limit 25 = .ok (.aload_n 0, 1) := by decide +kernel
theorem dX8_limit_26 : decode cX8_limit 26 = .ok (.bipush 6, 2) := by decide +kernel
theorem dX8_limit_28 : decode cX8_limit 28 = .ok (.iload_n 1, 1) := by decide +kernel
theorem dX8_limit_29 : decode cX8_limit 29 = .ok (.iload_n 2, 1) := by decide +kernel
theorem dX8_limit_30 : decode cX8_limit 30 = .ok (.iconst 0, 1) := by decide +kernel
theorem dX8_limit_31 : decode cX8_limit 31 = .ok (.invokevirtual 59, 3) := by decide +kernel
theorem dX8_limit_34 : decode cX8_limit 34 = .ok (.ireturn, 1) := by decide +kernel
set_option maxRecDepth 20000 in
theorem ggX8_leave_X8_checkPerson : GoodIn wsX8_leave wsX8_checkPerson := goodIn_ca (goodIn_r _ [6, 7, 8] (by decide +kernel) (by decide +kernel)) (goodIn_sub (fun _ h => List.mem_cons_of_mem _ (List.mem_append_right _ h)) (by decide +kernel))
set_option maxRecDepth 20000 in
theorem gX8_leave_X8_checkPerson : GoodIn wsX8_leave (va_wsS RX8 94 yX8_checkPerson wsX8_checkPerson) := goodIn_app (goodIn_of _ (by decide +kernel)) ggX8_leave_X8_checkPerson
set_option maxRecDepth 20000 in
theorem ggX8_leave_X8_checkDays : GoodIn wsX8_leave wsX8_checkDays := goodIn_ca (goodIn_r _ [11, 1, 2] (by decide +kernel) (by decide +kernel)) (goodIn_sub (fun _ h => List.mem_cons_of_mem _ (List.mem_append_left _ (List.mem_append_right _ h))) (by decide +kernel))
set_option maxRecDepth 20000 in
theorem gX8_leave_X8_checkDays : GoodIn wsX8_leave (va_wsS RX8 139 yX8_checkDays wsX8_checkDays) := goodIn_app (goodIn_of _ (by decide +kernel)) ggX8_leave_X8_checkDays
set_option maxRecDepth 20000 in
theorem ggX8_leave_X8_tell : GoodIn wsX8_leave wsX8_tell := goodIn_r _ [15, 16, 17, 18, 19, 20, 21, 22, 23, 24, 25, 26, 27, 28, 29, 30, 31, 32, 33, 34, 35, 36, 37, 38, 39, 40, 41, 42, 43, 44, 45, 46, 47, 48, 49, 50, 51, 52, 53, 54, 55, 56, 57, 58, 59, 60, 61, 62, 63, 64, 65, 66, 67, 68, 69, 70, 71, 72, 73, 74, 75, 76, 77, 78, 79, 80, 81, 82, 83, 84, 85, 86, 87, 88, 89, 90, 91, 92, 93, 94, 95, 96, 97, 98, 99, 100, 101, 102, 103, 104, 105, 106, 107, 108, 109, 110, 111, 112, 113, 114, 115, 116, 117, 118, 119, 120, 121, 122, 123, 124, 125, 126, 127, 128, 129, 130, 131, 132, 133, 134, 135, 136, 137, 138, 139, 140, 141, 142, 143, 144, 145, 146, 147, 148, 149, 150, 151, 152, 153, 154, 155, 156, 157, 158, 159, 160, 161, 162, 163, 164, 165, 166, 167, 168, 169, 170, 171, 172, 173, 174, 175, 176, 177, 178, 179, 180, 181, 182, 183, 184, 185, 186, 187, 188, 189, 190, 191, 192, 193, 194, 195, 196, 197, 198, 199, 200, 201] (by decide +kernel) (by decide +kernel)
set_option maxRecDepth 20000 in
theorem gX8_leave_X8_tell : GoodIn wsX8_leave (wsV RX8 59 RX8 yX8_tell wsX8_tell) := goodIn_app (goodIn_of _ (by decide +kernel)) ggX8_leave_X8_tell
theorem dX8_leave_0 : decode cX8_leave 0 = .ok (.iload_n 1, 1) := by decide +kernel
theorem dX8_leave_1 : decode cX8_leave 1 = .ok (.invokestatic 94, 3) := by decide +kernel
theorem dX8_leave_4 : decode cX8_leave 4 = .ok (.iload_n 2, 1) := by decide +kernel
theorem dX8_leave_5 : decode cX8_leave 5 = .ok (.invokestatic 94, 3) := by decide +kernel
theorem dX8_leave_8 : decode cX8_leave 8 = .ok (.iload_n 1, 1) := by decide +kernel
theorem dX8_leave_9 : decode cX8_leave 9 = .ok (.iload_n 2, 1) := by decide +kernel
theorem dX8_leave_10 : decode cX8_leave 10 = .ok (.if_icmp .ne 13, 3) := by decide +kernel
theorem dX8_leave_13 : decode cX8_leave 13 = .ok (.new 37, 3) := by decide +kernel
theorem dX8_leave_16 : decode cX8_leave 16 = .ok (.dup, 1) := by decide +kernel
theorem dX8_leave_17 : decode cX8_leave 17 = .ok (.ldc 137, 2) := by decide +kernel
theorem dX8_leave_19 : decode cX8_leave 19 = .ok (.invokespecial 41, 3) := by decide +kernel
theorem dX8_leave_22 : decode cX8_leave 22 = .ok (.athrow, 1) := by decide +kernel
theorem dX8_leave_23 : decode cX8_leave 23 = .ok (.iload_n 3, 1) := by decide +kernel
theorem dX8_leave_24 : decode cX8_leave 24 = .ok (.invokestatic 139, 3) := by decide +kernel
theorem dX8_leave_27 : decode cX8_leave 27 = .ok (.aload_n 0, 1) := by decide +kernel
theorem dX8_leave_28 : decode cX8_leave 28 = .ok (.bipush 7, 2) := by decide +kernel
theorem dX8_leave_30 : decode cX8_leave 30 = .ok (.iload_n 1, 1) := by decide +kernel
theorem dX8_leave_31 : decode cX8_leave 31 = .ok (.iload_n 2, 1) := by decide +kernel
theorem dX8_leave_32 : decode cX8_leave 32 = .ok (.iload_n 3, 1) := by decide +kernel
theorem dX8_leave_33 : decode cX8_leave 33 = .ok (.invokevirtual 59, 3) := by decide +kernel
theorem dX8_leave_36 : decode cX8_leave 36 = .ok (.ireturn, 1) := by decide +kernel
set_option maxRecDepth 20000 in
theorem ggX8_approve_X8_checkRequest : GoodIn wsX8_approve wsX8_checkRequest := goodIn_ca (goodIn_r _ [8, 9, 10, 3, 11, 12, 13, 14, 15, 16, 17, 193, 194, 195, 196, 197, 198, 199, 200, 201, 202, 203, 204, 205, 206, 207] (by decide +kernel) (by decide +kernel)) (goodIn_sub (fun _ h => List.mem_cons_of_mem _ (List.mem_append_right _ h)) (by decide +kernel))
set_option maxRecDepth 20000 in
theorem gX8_approve_X8_checkRequest : GoodIn wsX8_approve (wsV RX8 109 RX8 yX8_checkRequest wsX8_checkRequest) := goodIn_app (goodIn_of _ (by decide +kernel)) ggX8_approve_X8_checkRequest
set_option maxRecDepth 20000 in
theorem ggX8_approve_X8_checkPerson : GoodIn wsX8_approve wsX8_checkPerson := goodIn_ca (goodIn_r _ [20, 9, 10] (by decide +kernel) (by decide +kernel)) (goodIn_sub (fun _ h => List.mem_cons_of_mem _ (List.mem_append_right _ h)) (by decide +kernel))
set_option maxRecDepth 20000 in
theorem gX8_approve_X8_checkPerson : GoodIn wsX8_approve (va_wsS RX8 94 yX8_checkPerson wsX8_checkPerson) := goodIn_app (goodIn_of _ (by decide +kernel)) ggX8_approve_X8_checkPerson
set_option maxRecDepth 20000 in
theorem ggX8_approve_X2_principalFor : GoodIn wsX8_approve wsX2_principalFor := goodIn_r _ [25, 26, 27, 28, 29, 30, 15, 31, 32, 33, 34, 35, 36, 37, 38, 39, 40, 41, 42, 43, 44, 45, 46, 47, 48, 49, 50, 51, 52, 53, 54, 55, 56, 57, 58, 59, 60, 61, 62, 63, 64, 65, 66, 67, 68, 69, 70, 71, 197, 198, 199, 200, 201, 202, 203, 204, 205, 206, 207, 208, 209, 210, 211, 212] (by decide +kernel) (by decide +kernel)
set_option maxRecDepth 20000 in
theorem gX8_approve_X2_principalFor : GoodIn wsX8_approve (wsV RX8 142 RX2 yX2_principalFor wsX2_principalFor) := goodIn_app (goodIn_of _ (by decide +kernel)) ggX8_approve_X2_principalFor
set_option maxRecDepth 20000 in
theorem ggX8_approve_X8_tell : GoodIn wsX8_approve wsX8_tell := goodIn_r _ [75, 3, 76, 77, 78, 79, 80, 81, 82, 83, 84, 85, 86, 36, 87, 38, 88, 89, 90, 24, 91, 92, 26, 27, 93, 94, 95, 96, 97, 34, 35, 37, 98, 99, 100, 101, 102, 103, 104, 105, 106, 107, 108, 109, 110, 111, 112, 113, 114, 115, 116, 117, 118, 119, 120, 121, 122, 123, 124, 44, 45, 46, 47, 48, 49, 125, 126, 127, 15, 128, 17, 129, 32, 33, 130, 131, 132, 133, 134, 135, 136, 137, 138, 51, 52, 53, 54, 139, 140, 141, 142, 143, 144, 145, 146, 147, 59, 148, 149, 150, 151, 43, 152, 153, 154, 155, 156, 157, 158, 159, 160, 161, 162, 163, 164, 165, 166, 64, 71, 167, 168, 169, 170, 171, 65, 70, 172, 173, 174, 175, 176, 55, 56, 57, 58, 60, 61, 62, 63, 66, 67, 68, 69, 177, 178, 179, 180, 181, 182, 183, 184, 185, 186, 187, 188, 189, 190, 191, 192, 193, 194, 195, 196, 213, 214, 208, 197, 198, 199, 215, 216, 217, 218, 219, 220, 209, 210, 211, 212, 200, 201, 202, 203, 204, 205, 206, 207] (by decide +kernel) (by decide +kernel)
set_option maxRecDepth 20000 in
theorem gX8_approve_X8_tell : GoodIn wsX8_approve (wsV RX8 59 RX8 yX8_tell wsX8_tell) := goodIn_app (goodIn_of _ (by decide +kernel)) ggX8_approve_X8_tell
theorem dX8_approve_0 : decode cX8_approve 0 = .ok (.aload_n 0, 1) := by decide +kernel
theorem dX8_approve_1 : decode cX8_approve 1 = .ok (.iload_n 1, 1) := by decide +kernel
theorem dX8_approve_2 : decode cX8_approve 2 = .ok (.invokevirtual 109, 3) := by decide +kernel
theorem dX8_approve_5 : decode cX8_approve 5 = .ok (.iload_n 2, 1) := by decide +kernel
theorem dX8_approve_6 : decode cX8_approve 6 = .ok (.invokestatic 94, 3) := by decide +kernel
theorem dX8_approve_9 : decode cX8_approve 9 = .ok (.aload_n 0, 1) := by decide +kernel
theorem dX8_approve_10 : decode cX8_approve 10 = .ok (.getfield 19, 3) := by decide +kernel
theorem dX8_approve_13 : decode cX8_approve 13 = .ok (.iload_n 1, 1) := by decide +kernel
theorem dX8_approve_14 : decode cX8_approve 14 = .ok (.iload_n 2, 1) := by decide +kernel
theorem dX8_approve_15 : decode cX8_approve 15 = .ok (.invokevirtual 142, 3) := by decide +kernel
theorem dX8_approve_18 : decode cX8_approve 18 = .ok (.iconst (-1), 1) := by decide +kernel
theorem dX8_approve_19 : decode cX8_approve 19 = .ok (.if_icmp .ne 13, 3) := by decide +kernel
theorem dX8_approve_22 : decode cX8_approve 22 = .ok (.new 54, 3) := by decide +kernel
theorem dX8_approve_25 : decode cX8_approve 25 = .ok (.dup, 1) := by decide +kernel
theorem dX8_approve_26 : decode cX8_approve 26 = .ok (.ldc 145, 2) := by decide +kernel
theorem dX8_approve_28 : decode cX8_approve 28 = .ok (.invokespecial 58, 3) := by decide +kernel
theorem dX8_approve_31 : decode cX8_approve 31 = .ok (.athrow, 1) := by decide +kernel
theorem dX8_approve_32 : decode cX8_approve 32 = .ok (.aload_n 0, 1) := by decide +kernel
theorem dX8_approve_33 : decode cX8_approve 33 = .ok (.bipush 8, 2) := by decide +kernel
theorem dX8_approve_35 : decode cX8_approve 35 = .ok (.iload_n 1, 1) := by decide +kernel
theorem dX8_approve_36 : decode cX8_approve 36 = .ok (.iload_n 2, 1) := by decide +kernel
theorem dX8_approve_37 : decode cX8_approve 37 = .ok (.iconst 0, 1) := by decide +kernel
theorem dX8_approve_38 : decode cX8_approve 38 = .ok (.invokevirtual 59, 3) := by decide +kernel
theorem dX8_approve_41 : decode cX8_approve 41 = .ok (.ireturn, 1) := by decide +kernel
set_option maxRecDepth 20000 in
theorem ggX8_release_X8_checkRequest : GoodIn wsX8_release wsX8_checkRequest := goodIn_ca (goodIn_r _ [9, 10, 11, 3, 4, 12, 13, 14, 15, 16, 17, 190, 191, 192, 193, 194, 195, 196, 197, 198, 199, 200, 201, 202, 203, 204] (by decide +kernel) (by decide +kernel)) (goodIn_sub (fun _ h => List.mem_cons_of_mem _ (List.mem_append_right _ h)) (by decide +kernel))
set_option maxRecDepth 20000 in
theorem gX8_release_X8_checkRequest : GoodIn wsX8_release (wsV RX8 109 RX8 yX8_checkRequest wsX8_checkRequest) := goodIn_app (goodIn_of _ (by decide +kernel)) ggX8_release_X8_checkRequest
set_option maxRecDepth 20000 in
theorem ggX8_release_X5_stateOf : GoodIn wsX8_release wsX5_stateOf := goodIn_r _ [21, 22, 23, 24, 25, 26, 27, 28, 197, 198, 199, 200, 201, 202, 203, 204, 205] (by decide +kernel) (by decide +kernel)
set_option maxRecDepth 20000 in
theorem gX8_release_X5_stateOf : GoodIn wsX8_release (wsV RX8 112 RX5 yX5_stateOf wsX5_stateOf) := goodIn_app (goodIn_of _ (by decide +kernel)) ggX8_release_X5_stateOf
set_option maxRecDepth 20000 in
theorem ggX8_release_X2_isCovered : GoodIn wsX8_release wsX2_isCovered := goodIn_r _ [33, 34, 35, 36, 37, 15, 38, 39, 23, 24, 25, 26, 27, 28, 40, 41, 42, 32, 43, 44, 45, 46, 47, 48, 49, 50, 51, 52, 53, 54, 55, 56, 57, 58, 59, 194, 195, 196, 197, 198, 199, 200, 201, 202, 203, 204, 205, 206, 207, 208, 209] (by decide +kernel) (by decide +kernel)
set_option maxRecDepth 20000 in
theorem gX8_release_X2_isCovered : GoodIn wsX8_release (wsV RX8 147 RX2 yX2_isCovered wsX2_isCovered) := goodIn_app (goodIn_of _ (by decide +kernel)) ggX8_release_X2_isCovered
set_option maxRecDepth 20000 in
theorem ggX8_release_X8_tell : GoodIn wsX8_release wsX8_tell := goodIn_r _ [63, 3, 64, 65, 66, 67, 68, 69, 70, 71, 72, 73, 74, 26, 75, 28, 76, 77, 78, 32, 79, 80, 34, 44, 81, 82, 83, 84, 85, 24, 25, 27, 86, 87, 88, 89, 90, 91, 92, 93, 94, 95, 96, 97, 98, 99, 100, 101, 102, 103, 104, 105, 106, 107, 108, 109, 110, 111, 112, 45, 46, 47, 48, 49, 50, 113, 114, 115, 15, 116, 17, 117, 22, 23, 118, 119, 120, 121, 122, 52, 53, 54, 55, 56, 57, 58, 59, 123, 124, 125, 126, 127, 128, 129, 130, 131, 39, 132, 133, 134, 135, 136, 137, 138, 139, 140, 141, 142, 143, 144, 145, 146, 147, 148, 149, 150, 151, 152, 153, 154, 155, 156, 157, 158, 159, 160, 161, 162, 163, 164, 165, 35, 36, 37, 38, 166, 167, 168, 169, 170, 171, 172, 173, 174, 175, 176, 177, 178, 179, 180, 181, 182, 183, 184, 185, 186, 187, 188, 189, 190, 191, 192, 193, 210, 211, 205, 194, 195, 196, 212, 213, 214, 215, 216, 217, 206, 207, 208, 209, 197, 198, 199, 200, 201, 202, 203, 204] (by decide +kernel) (by decide +kernel)
set_option maxRecDepth 20000 in
theorem gX8_release_X8_tell : GoodIn wsX8_release (wsV RX8 59 RX8 yX8_tell wsX8_tell) := goodIn_app (goodIn_of _ (by decide +kernel)) ggX8_release_X8_tell
theorem dX8_release_0 : decode cX8_release 0 = .ok (.aload_n 0, 1) := by decide +kernel
theorem dX8_release_1 : decode cX8_release 1 = .ok (.iload_n 1, 1) := by decide +kernel
theorem dX8_release_2 : decode cX8_release 2 = .ok (.invokevirtual 109, 3) := by decide +kernel
theorem dX8_release_5 : decode cX8_release 5 = .ok (.aload_n 0, 1) := by decide +kernel
theorem dX8_release_6 : decode cX8_release 6 = .ok (.getfield 19, 3) := by decide +kernel
theorem dX8_release_9 : decode cX8_release 9 = .ok (.getfield 97, 3) := by decide +kernel
theorem dX8_release_12 : decode cX8_release 12 = .ok (.iload_n 1, 1) := by decide +kernel
theorem dX8_release_13 : decode cX8_release 13 = .ok (.invokevirtual 112, 3) := by decide +kernel
theorem dX8_release_16 : decode cX8_release 16 = .ok (.iconst 1, 1) := by decide +kernel
theorem dX8_release_17 : decode cX8_release 17 = .ok (.if_icmp .ne 14, 3) := by decide +kernel
theorem dX8_release_20 : decode cX8_release 20 = .ok (.aload_n 0, 1) := by decide +kernel
theorem dX8_release_21 : decode cX8_release 21 = .ok (.getfield 19, 3) := by decide +kernel
theorem dX8_release_24 : decode cX8_release 24 = .ok (.iload_n 1, 1) := by decide +kernel
theorem dX8_release_25 : decode cX8_release 25 = .ok (.invokevirtual 147, 3) := by decide +kernel
theorem dX8_release_28 : decode cX8_release 28 = .ok (.ifCond .ne 13, 3) := by decide +kernel
theorem dX8_release_31 : decode cX8_release 31 = .ok (.new 54, 3) := by decide +kernel
theorem dX8_release_34 : decode cX8_release 34 = .ok (.dup, 1) := by decide +kernel
theorem dX8_release_35 : decode cX8_release 35 = .ok (.ldc 151, 2) := by decide +kernel
theorem dX8_release_37 : decode cX8_release 37 = .ok (.invokespecial 58, 3) := by decide +kernel
theorem dX8_release_40 : decode cX8_release 40 = .ok (.athrow, 1) := by decide +kernel
theorem dX8_release_41 : decode cX8_release 41 = .ok (.aload_n 0, 1) := by decide +kernel
theorem dX8_release_42 : decode cX8_release 42 = .ok (.bipush 9, 2) := by decide +kernel
theorem dX8_release_44 : decode cX8_release 44 = .ok (.iload_n 1, 1) := by decide +kernel
theorem dX8_release_45 : decode cX8_release 45 = .ok (.iconst 0, 1) := by decide +kernel
theorem dX8_release_46 : decode cX8_release 46 = .ok (.iconst 0, 1) := by decide +kernel
theorem dX8_release_47 : decode cX8_release 47 = .ok (.invokevirtual 59, 3) := by decide +kernel
theorem dX8_release_50 : decode cX8_release 50 = .ok (.pop, 1) := by decide +kernel
theorem dX8_release_51 : decode cX8_release 51 = .ok (.return_, 1) := by decide +kernel
set_option maxRecDepth 20000 in
theorem ggX8_pass_X8_checkDays : GoodIn wsX8_pass wsX8_checkDays := goodIn_ca (goodIn_r _ [4, 5, 6] (by decide +kernel) (by decide +kernel)) (goodIn_sub (fun _ h => List.mem_cons_of_mem _ (List.mem_append_right _ h)) (by decide +kernel))
set_option maxRecDepth 20000 in
theorem gX8_pass_X8_checkDays : GoodIn wsX8_pass (va_wsS RX8 139 yX8_checkDays wsX8_checkDays) := goodIn_app (goodIn_of _ (by decide +kernel)) ggX8_pass_X8_checkDays
set_option maxRecDepth 20000 in
theorem ggX8_pass_X8_tell : GoodIn wsX8_pass wsX8_tell := goodIn_r _ [10, 11, 12, 13, 14, 15, 16, 17, 18, 19, 20, 21, 22, 23, 24, 25, 26, 27, 28, 29, 30, 31, 32, 33, 34, 35, 36, 37, 38, 39, 40, 41, 42, 43, 44, 45, 46, 47, 48, 49, 50, 51, 52, 53, 54, 55, 56, 57, 58, 59, 60, 61, 62, 63, 64, 65, 66, 67, 68, 69, 70, 71, 72, 73, 74, 75, 76, 77, 78, 79, 80, 81, 82, 83, 84, 85, 86, 87, 88, 89, 90, 91, 92, 93, 94, 95, 96, 97, 98, 99, 100, 101, 102, 103, 104, 105, 106, 107, 108, 109, 110, 111, 112, 113, 114, 115, 116, 117, 118, 119, 120, 121, 122, 123, 124, 125, 126, 127, 128, 129, 130, 131, 132, 133, 134, 135, 136, 137, 138, 139, 140, 141, 142, 143, 144, 145, 146, 147, 148, 149, 150, 151, 152, 153, 154, 155, 156, 157, 158, 159, 160, 161, 162, 163, 164, 165, 166, 167, 168, 169, 170, 171, 172, 173, 174, 175, 176, 177, 178, 179, 180, 181, 182, 183, 184, 185, 186, 187, 188, 189, 190, 191, 192, 193, 194, 195, 196] (by decide +kernel) (by decide +kernel)
set_option maxRecDepth 20000 in
theorem gX8_pass_X8_tell : GoodIn wsX8_pass (wsV RX8 59 RX8 yX8_tell wsX8_tell) := goodIn_app (goodIn_of _ (by decide +kernel)) ggX8_pass_X8_tell
theorem dX8_pass_0 : decode cX8_pass 0 = .ok (.iload_n 1, 1) := by decide +kernel
theorem dX8_pass_1 : decode cX8_pass 1 = .ok (.invokestatic 139, 3) := by decide +kernel
theorem dX8_pass_4 : decode cX8_pass 4 = .ok (.aload_n 0, 1) := by decide +kernel
theorem dX8_pass_5 : decode cX8_pass 5 = .ok (.bipush 10, 2) := by decide +kernel
theorem dX8_pass_7 : decode cX8_pass 7 = .ok (.iload_n 1, 1) := by decide +kernel
theorem dX8_pass_8 : decode cX8_pass 8 = .ok (.iconst 0, 1) := by decide +kernel
theorem dX8_pass_9 : decode cX8_pass 9 = .ok (.iconst 0, 1) := by decide +kernel
theorem dX8_pass_10 : decode cX8_pass 10 = .ok (.invokevirtual 59, 3) := by decide +kernel
theorem dX8_pass_13 : decode cX8_pass 13 = .ok (.ireturn, 1) := by decide +kernel
set_option maxRecDepth 20000 in
theorem ggX8_ofRequest_X8_checkRequest : GoodIn wsX8_ofRequest wsX8_checkRequest := goodIn_ca (goodIn_r _ [9, 10, 11, 3, 4, 12, 13, 14, 15, 16, 17, 62, 63, 64, 65, 66, 67, 68, 69, 70, 71, 72, 73, 74, 75, 76] (by decide +kernel) (by decide +kernel)) (goodIn_sub (fun _ h => List.mem_cons_of_mem _ (List.mem_append_right _ h)) (by decide +kernel))
set_option maxRecDepth 20000 in
theorem gX8_ofRequest_X8_checkRequest : GoodIn wsX8_ofRequest (wsV RX8 109 RX8 yX8_checkRequest wsX8_checkRequest) := goodIn_app (goodIn_of _ (by decide +kernel)) ggX8_ofRequest_X8_checkRequest
set_option maxRecDepth 20000 in
theorem ggX8_ofRequest_X5_stateOf : GoodIn wsX8_ofRequest wsX5_stateOf := goodIn_r _ [21, 22, 23, 24, 25, 26, 27, 28, 69, 70, 71, 72, 73, 74, 75, 76, 77] (by decide +kernel) (by decide +kernel)
set_option maxRecDepth 20000 in
theorem gX8_ofRequest_X5_stateOf : GoodIn wsX8_ofRequest (wsV RX8 112 RX5 yX5_stateOf wsX5_stateOf) := goodIn_app (goodIn_of _ (by decide +kernel)) ggX8_ofRequest_X5_stateOf
set_option maxRecDepth 20000 in
theorem ggX8_ofRequest_X5_costOf : GoodIn wsX8_ofRequest wsX5_costOf := goodIn_r _ [32, 33, 23, 24, 25, 26, 27, 28, 69, 70, 71, 72, 73, 74, 75, 76, 77] (by decide +kernel) (by decide +kernel)
set_option maxRecDepth 20000 in
theorem gX8_ofRequest_X5_costOf : GoodIn wsX8_ofRequest (wsV RX8 153 RX5 yX5_costOf wsX5_costOf) := goodIn_app (goodIn_of _ (by decide +kernel)) ggX8_ofRequest_X5_costOf
set_option maxRecDepth 20000 in
theorem ggX8_ofRequest_X2_approvalsOf : GoodIn wsX8_ofRequest wsX2_approvalsOf := goodIn_r _ [38, 39, 40, 41, 42, 43, 44, 45, 46, 47, 48, 49, 15, 50, 51, 52, 53, 54, 55, 23, 24, 25, 26, 27, 28, 66, 67, 68, 78, 79, 80, 81, 69, 70, 71, 72, 73, 74, 75, 76, 77] (by decide +kernel) (by decide +kernel)
set_option maxRecDepth 20000 in
theorem gX8_ofRequest_X2_approvalsOf : GoodIn wsX8_ofRequest (wsV RX8 156 RX2 yX2_approvalsOf wsX2_approvalsOf) := goodIn_app (goodIn_of _ (by decide +kernel)) ggX8_ofRequest_X2_approvalsOf
set_option maxRecDepth 20000 in
theorem ggX8_ofRequest_X2_isCovered : GoodIn wsX8_ofRequest wsX2_isCovered := goodIn_r _ [59, 39, 60, 30, 31, 15, 32, 33, 23, 24, 25, 26, 27, 28, 61, 35, 36, 37, 38, 40, 41, 42, 43, 44, 45, 46, 47, 48, 49, 50, 51, 52, 53, 54, 55, 66, 67, 68, 69, 70, 71, 72, 73, 74, 75, 76, 77, 78, 79, 80, 81] (by decide +kernel) (by decide +kernel)
set_option maxRecDepth 20000 in
theorem gX8_ofRequest_X2_isCovered : GoodIn wsX8_ofRequest (wsV RX8 147 RX2 yX2_isCovered wsX2_isCovered) := goodIn_app (goodIn_of _ (by decide +kernel)) ggX8_ofRequest_X2_isCovered
theorem dX8_ofRequest_0 : decode cX8_ofRequest 0 = .ok (.aload_n 0, 1) := by decide +kernel
theorem dX8_ofRequest_1 : decode cX8_ofRequest 1 = .ok (.iload_n 1, 1) := by decide +kernel
theorem dX8_ofRequest_2 : decode cX8_ofRequest 2 = .ok (.invokevirtual 109, 3) := by decide +kernel
theorem dX8_ofRequest_5 : decode cX8_ofRequest 5 = .ok (.iload_n 2, 1) := by decide +kernel
theorem dX8_ofRequest_6 : decode cX8_ofRequest 6 = .ok (.tableswitch 98 0 3 #[30, 42, 72, 81], 30) := by decide +kernel
theorem dX8_ofRequest_36 : decode cX8_ofRequest 36 = .ok (.aload_n 0, 1) := by decide +kernel
theorem dX8_ofRequest_37 : decode cX8_ofRequest 37 = .ok (.getfield 19, 3) := by decide +kernel
theorem dX8_ofRequest_40 : decode cX8_ofRequest 40 = .ok (.getfield 97, 3) := by decide +kernel
theorem dX8_ofRequest_43 : decode cX8_ofRequest 43 = .ok (.iload_n 1, 1) := by decide +kernel
theorem dX8_ofRequest_44 : decode cX8_ofRequest 44 = .ok (.invokevirtual 112, 3) := by decide +kernel
theorem dX8_ofRequest_47 : decode cX8_ofRequest 47 = .ok (.ireturn, 1) := by decide +kernel
theorem dX8_ofRequest_48 : decode cX8_ofRequest 48 = .ok (.aload_n 0, 1) := by decide +kernel
theorem dX8_ofRequest_49 : decode cX8_ofRequest 49 = .ok (.getfield 19, 3) := by decide +kernel
theorem dX8_ofRequest_52 : decode cX8_ofRequest 52 = .ok (.getfield 97, 3) := by decide +kernel
theorem dX8_ofRequest_55 : decode cX8_ofRequest 55 = .ok (.iload_n 1, 1) := by decide +kernel
theorem dX8_ofRequest_56 : decode cX8_ofRequest 56 = .ok (.invokevirtual 112, 3) := by decide +kernel
theorem dX8_ofRequest_59 : decode cX8_ofRequest 59 = .ok (.ifCond .ne 7, 3) := by decide +kernel
theorem dX8_ofRequest_62 : decode cX8_ofRequest 62 = .ok (.iconst (-1), 1) := by decide +kernel
theorem dX8_ofRequest_63 : decode cX8_ofRequest 63 = .ok (.goto 14, 3) := by decide +kernel
theorem dX8_ofRequest_66 : decode cX8_ofRequest 66 = .ok (.aload_n 0, 1) := by decide +kernel
theorem dX8_ofRequest_67 : decode cX8_ofRequest 67 = .ok (.getfield 19, 3) := by decide +kernel
theorem dX8_ofRequest_70 : decode cX8_ofRequest 70 = .ok (.getfield 97, 3) := by decide +kernel
theorem dX8_ofRequest_73 : decode cX8_ofRequest 73 = .ok (.iload_n 1, 1) := by decide +kernel
theorem dX8_ofRequest_74 : decode cX8_ofRequest 74 = .ok (.invokevirtual 153, 3) := by decide +kernel
theorem dX8_ofRequest_77 : decode cX8_ofRequest 77 = .ok (.ireturn, 1) := by decide +kernel
theorem dX8_ofRequest_78 : decode cX8_ofRequest 78 = .ok (.aload_n 0, 1) := by decide +kernel
theorem dX8_ofRequest_79 : decode cX8_ofRequest 79 = .ok (.getfield 19, 3) := by decide +kernel
theorem dX8_ofRequest_82 : decode cX8_ofRequest 82 = .ok (.iload_n 1, 1) := by decide +kernel
theorem dX8_ofRequest_83 : decode cX8_ofRequest 83 = .ok (.invokevirtual 156, 3) := by decide +kernel
theorem dX8_ofRequest_86 : decode cX8_ofRequest 86 = .ok (.ireturn, 1) := by decide +kernel
theorem dX8_ofRequest_87 : decode cX8_ofRequest 87 = .ok (.aload_n 0, 1) := by decide +kernel
theorem dX8_ofRequest_88 : decode cX8_ofRequest 88 = .ok (.getfield 19, 3) := by decide +kernel
theorem dX8_ofRequest_91 : decode cX8_ofRequest 91 = .ok (.iload_n 1, 1) := by decide +kernel
theorem dX8_ofRequest_92 : decode cX8_ofRequest 92 = .ok (.invokevirtual 147, 3) := by decide +kernel
theorem dX8_ofRequest_95 : decode cX8_ofRequest 95 = .ok (.ifCond .eq 7, 3) := by decide +kernel
theorem dX8_ofRequest_98 : decode cX8_ofRequest 98 = .ok (.iconst 1, 1) := by decide +kernel
theorem dX8_ofRequest_99 : decode cX8_ofRequest 99 = .ok (.goto 4, 3) := by decide +kernel
theorem dX8_ofRequest_102 : decode cX8_ofRequest 102 = .ok (.iconst 0, 1) := by decide +kernel
theorem dX8_ofRequest_103 : decode cX8_ofRequest 103 = .ok (.ireturn, 1) := by decide +kernel
theorem dX8_ofRequest_104 : decode cX8_ofRequest 104 = .ok (.new 37, 3) := by decide +kernel
theorem dX8_ofRequest_107 : decode cX8_ofRequest 107 = .ok (.dup, 1) := by decide +kernel
theorem dX8_ofRequest_108 : decode cX8_ofRequest 108 = .ok (.ldc 159, 2) := by decide +kernel
theorem dX8_ofRequest_110 : decode cX8_ofRequest 110 = .ok (.invokespecial 41, 3) := by decide +kernel
theorem dX8_ofRequest_113 : decode cX8_ofRequest 113 = .ok (.athrow, 1) := by decide +kernel
set_option maxRecDepth 20000 in
theorem ggX8_isCoveredAnew_X8_checkRequest : GoodIn wsX8_isCoveredAnew wsX8_checkRequest := goodIn_ca (goodIn_r _ [7, 8, 9, 10, 11, 12, 13, 14, 15, 16, 17, 201, 202, 203, 204, 205, 206, 207, 208, 209, 210, 211, 212, 213, 214, 215] (by decide +kernel) (by decide +kernel)) (goodIn_sub (fun _ h => List.mem_cons_of_mem _ (List.mem_append_right _ h)) (by decide +kernel))
set_option maxRecDepth 20000 in
theorem gX8_isCoveredAnew_X8_checkRequest : GoodIn wsX8_isCoveredAnew (wsV RX8 109 RX8 yX8_checkRequest wsX8_checkRequest) := goodIn_app (goodIn_of _ (by decide +kernel)) ggX8_isCoveredAnew_X8_checkRequest
set_option maxRecDepth 20000 in
theorem ggX8_isCoveredAnew_X0_count : GoodIn wsX8_isCoveredAnew wsX0_count := goodIn_r _ [22, 23, 216, 217] (by decide +kernel) (by decide +kernel)
set_option maxRecDepth 20000 in
theorem gX8_isCoveredAnew_X0_count : GoodIn wsX8_isCoveredAnew (wsV RX8 161 RX0 yX0_count wsX0_count) := goodIn_app (goodIn_of _ (by decide +kernel)) ggX8_isCoveredAnew_X0_count
set_option maxRecDepth 20000 in
theorem ggX8_isCoveredAnew_X2_clear : GoodIn wsX8_isCoveredAnew wsX2_clear := goodIn_r _ [28, 29, 30, 31, 32, 33, 34, 35, 36, 37, 38, 39, 40, 41, 42, 43, 44, 45, 46, 47, 48, 49, 50, 51, 52, 53, 54, 55, 15, 56, 17, 205, 206, 207, 218, 219, 220, 221, 222, 223, 224, 225, 226, 227, 228, 208, 209, 210, 211, 212, 213, 214, 215] (by decide +kernel) (by decide +kernel)
set_option maxRecDepth 20000 in
theorem gX8_isCoveredAnew_X2_clear : GoodIn wsX8_isCoveredAnew (wsV RX8 162 RX2 yX2_clear wsX2_clear) := goodIn_app (goodIn_of _ (by decide +kernel)) ggX8_isCoveredAnew_X2_clear
set_option maxRecDepth 20000 in
theorem ggX8_isCoveredAnew_X2_apply : GoodIn wsX8_isCoveredAnew wsX2_apply := goodIn_r _ [60, 29, 31, 30, 61, 62, 63, 21, 64, 65, 66, 67, 68, 41, 69, 43, 70, 71, 72, 35, 73, 37, 74, 75, 76, 77, 78, 79, 80, 81, 82, 83, 84, 85, 86, 87, 88, 89, 90, 91, 92, 93, 94, 95, 96, 97, 98, 99, 100, 47, 101, 51, 102, 103, 104, 15, 105, 17, 106, 107, 108, 109, 110, 111, 112, 113, 114, 115, 116, 117, 118, 119, 120, 121, 122, 123, 124, 125, 126, 127, 128, 129, 130, 131, 132, 133, 134, 135, 136, 137, 138, 139, 140, 141, 142, 143, 144, 145, 146, 147, 148, 149, 150, 151, 49, 152, 153, 154, 155, 156, 157, 158, 50, 159, 160, 161, 27, 162, 163, 164, 165, 166, 167, 168, 169, 170, 171, 172, 173, 174, 175, 176, 177, 178, 179, 180, 181, 182, 183, 184, 185, 186, 187, 188, 189, 190, 191, 205, 206, 207, 216, 217, 224, 218, 219, 220, 221, 222, 223, 225, 226, 227, 228, 208, 209, 210, 211, 212, 213, 214, 215] (by decide +kernel) (by decide +kernel)
set_option maxRecDepth 20000 in
theorem gX8_isCoveredAnew_X2_apply : GoodIn wsX8_isCoveredAnew (wsV RX8 84 RX2 yX2_apply wsX2_apply) := goodIn_app (goodIn_of _ (by decide +kernel)) ggX8_isCoveredAnew_X2_apply
set_option maxRecDepth 20000 in
theorem ggX8_isCoveredAnew_X2_isCovered : GoodIn wsX8_isCoveredAnew wsX2_isCovered := goodIn_r _ [195, 31, 164, 165, 166, 15, 167, 131, 108, 67, 68, 41, 69, 43, 196, 197, 198, 27, 199, 30, 98, 99, 100, 47, 101, 51, 200, 114, 115, 116, 117, 118, 119, 120, 121, 205, 206, 207, 208, 209, 210, 211, 212, 213, 214, 215, 224, 225, 226, 227, 228] (by decide +kernel) (by decide +kernel)
set_option maxRecDepth 20000 in
theorem gX8_isCoveredAnew_X2_isCovered : GoodIn wsX8_isCoveredAnew (wsV RX8 147 RX2 yX2_isCovered wsX2_isCovered) := goodIn_app (goodIn_of _ (by decide +kernel)) ggX8_isCoveredAnew_X2_isCovered
theorem dX8_isCoveredAnew_0 : decode cX8_isCoveredAnew 0 = .ok (.aload_n 0, 1) := by decide +kernel
theorem dX8_isCoveredAnew_1 : decode cX8_isCoveredAnew 1 = .ok (.iload_n 1, 1) := by decide +kernel
theorem dX8_isCoveredAnew_2 : decode cX8_isCoveredAnew 2 = .ok (.invokevirtual 109, 3) := by decide +kernel
theorem dX8_isCoveredAnew_5 : decode cX8_isCoveredAnew 5 = .ok (.aload_n 0, 1) := by decide +kernel
theorem dX8_isCoveredAnew_6 : decode cX8_isCoveredAnew 6 = .ok (.getfield 10, 3) := by decide +kernel
theorem dX8_isCoveredAnew_9 : decode cX8_isCoveredAnew 9 = .ok (.invokevirtual 161, 3) := by decide +kernel
theorem dX8_isCoveredAnew_12 : decode cX8_isCoveredAnew 12 = .ok (.istore_n 2, 1) := by decide +kernel
theorem dX8_isCoveredAnew_13 : decode cX8_isCoveredAnew 13 = .ok (.aload_n 0, 1) := by decide +kernel
theorem dX8_isCoveredAnew_14 : decode cX8_isCoveredAnew 14 = .ok (.getfield 23, 3) := by decide +kernel
theorem dX8_isCoveredAnew_17 : decode cX8_isCoveredAnew 17 = .ok (.invokevirtual 162, 3) := by decide +kernel
theorem dX8_isCoveredAnew_20 : decode cX8_isCoveredAnew 20 = .ok (.iconst 0, 1) := by decide +kernel
theorem dX8_isCoveredAnew_21 : decode cX8_isCoveredAnew 21 = .ok (.istore_n 3, 1) := by decide +kernel
theorem dX8_isCoveredAnew_22 : decode cX8_isCoveredAnew 22 = .ok (.iload_n 3, 1) := by decide +kernel
theorem dX8_isCoveredAnew_23 : decode cX8_isCoveredAnew 23 = .ok (.iload_n 2, 1) := by decide +kernel
theorem dX8_isCoveredAnew_24 : decode cX8_isCoveredAnew 24 = .ok (.if_icmp .ge 22, 3) := by decide +kernel
theorem dX8_isCoveredAnew_27 : decode cX8_isCoveredAnew 27 = .ok (.aload_n 0, 1) := by decide +kernel
theorem dX8_isCoveredAnew_28 : decode cX8_isCoveredAnew 28 = .ok (.getfield 23, 3) := by decide +kernel
theorem dX8_isCoveredAnew_31 : decode cX8_isCoveredAnew 31 = .ok (.aload_n 0, 1) := by decide +kernel
theorem dX8_isCoveredAnew_32 : decode cX8_isCoveredAnew 32 = .ok (.getfield 10, 3) := by decide +kernel
theorem dX8_isCoveredAnew_35 : decode cX8_isCoveredAnew 35 = .ok (.iload_n 3, 1) := by decide +kernel
theorem dX8_isCoveredAnew_36 : decode cX8_isCoveredAnew 36 = .ok (.invokevirtual 84, 3) := by decide +kernel
theorem dX8_isCoveredAnew_39 : decode cX8_isCoveredAnew 39 = .ok (.pop, 1) := by decide +kernel
theorem dX8_isCoveredAnew_40 : decode cX8_isCoveredAnew 40 = .ok (.iinc 3 1, 3) := by decide +kernel
theorem dX8_isCoveredAnew_43 : decode cX8_isCoveredAnew 43 = .ok (.goto (-21), 3) := by decide +kernel
theorem dX8_isCoveredAnew_46 : decode cX8_isCoveredAnew 46 = .ok (.aload_n 0, 1) := by decide +kernel
theorem dX8_isCoveredAnew_47 : decode cX8_isCoveredAnew 47 = .ok (.getfield 23, 3) := by decide +kernel
theorem dX8_isCoveredAnew_50 : decode cX8_isCoveredAnew 50 = .ok (.iload_n 1, 1) := by decide +kernel
theorem dX8_isCoveredAnew_51 : decode cX8_isCoveredAnew 51 = .ok (.invokevirtual 147, 3) := by decide +kernel
theorem dX8_isCoveredAnew_54 : decode cX8_isCoveredAnew 54 = .ok (.ireturn, 1) := by decide +kernel
set_option maxRecDepth 20000 in
theorem ggX8_strain_X8_checkRequest : GoodIn wsX8_strain wsX8_checkRequest := goodIn_ca (goodIn_r _ [9, 10, 11, 1, 2, 12, 13, 14, 15, 16, 17, 52, 53, 54, 55, 56, 57, 58, 59, 60, 61, 62, 63, 64, 65, 66] (by decide +kernel) (by decide +kernel)) (goodIn_sub (fun _ h => List.mem_cons_of_mem _ (List.mem_append_right _ h)) (by decide +kernel))
set_option maxRecDepth 20000 in
theorem gX8_strain_X8_checkRequest : GoodIn wsX8_strain (wsV RX8 109 RX8 yX8_checkRequest wsX8_checkRequest) := goodIn_app (goodIn_of _ (by decide +kernel)) ggX8_strain_X8_checkRequest
set_option maxRecDepth 20000 in
theorem ggX8_strain_X5_stateOf : GoodIn wsX8_strain wsX5_stateOf := goodIn_r _ [21, 22, 23, 24, 25, 26, 27, 28, 59, 60, 61, 62, 63, 64, 65, 66, 67] (by decide +kernel) (by decide +kernel)
set_option maxRecDepth 20000 in
theorem gX8_strain_X5_stateOf : GoodIn wsX8_strain (wsV RX8 112 RX5 yX5_stateOf wsX5_stateOf) := goodIn_app (goodIn_of _ (by decide +kernel)) ggX8_strain_X5_stateOf
set_option maxRecDepth 20000 in
theorem ggX8_strain_X5_costOf : GoodIn wsX8_strain wsX5_costOf := goodIn_r _ [32, 33, 23, 24, 25, 26, 27, 28, 59, 60, 61, 62, 63, 64, 65, 66, 67] (by decide +kernel) (by decide +kernel)
set_option maxRecDepth 20000 in
theorem gX8_strain_X5_costOf : GoodIn wsX8_strain (wsV RX8 153 RX5 yX5_costOf wsX5_costOf) := goodIn_app (goodIn_of _ (by decide +kernel)) ggX8_strain_X5_costOf
set_option maxRecDepth 20000 in
theorem ggX8_strain_X5_personOf : GoodIn wsX8_strain wsX5_personOf := goodIn_r _ [37, 38, 23, 24, 25, 26, 27, 28, 59, 60, 61, 62, 63, 64, 65, 66, 67] (by decide +kernel) (by decide +kernel)
set_option maxRecDepth 20000 in
theorem gX8_strain_X5_personOf : GoodIn wsX8_strain (wsV RX8 170 RX5 yX5_personOf wsX5_personOf) := goodIn_app (goodIn_of _ (by decide +kernel)) ggX8_strain_X5_personOf
set_option maxRecDepth 20000 in
theorem ggX8_strain_X4_greatestLimit : GoodIn wsX8_strain wsX4_greatestLimit := goodIn_r _ [43, 44, 45, 24, 25, 26, 27, 28, 46, 47, 48, 42, 49, 50, 51, 68, 69, 70, 71, 67] (by decide +kernel) (by decide +kernel)
set_option maxRecDepth 20000 in
theorem gX8_strain_X4_greatestLimit : GoodIn wsX8_strain (wsV RX8 173 RX4 yX4_greatestLimit wsX4_greatestLimit) := goodIn_app (goodIn_of _ (by decide +kernel)) ggX8_strain_X4_greatestLimit
theorem dX8_strain_0 : decode cX8_strain 0 = .ok (.aload_n 0, 1) := by decide +kernel
theorem dX8_strain_1 : decode cX8_strain 1 = .ok (.iload_n 1, 1) := by decide +kernel
theorem dX8_strain_2 : decode cX8_strain 2 = .ok (.invokevirtual 109, 3) := by decide +kernel
theorem dX8_strain_5 : decode cX8_strain 5 = .ok (.aload_n 0, 1) := by decide +kernel
theorem dX8_strain_6 : decode cX8_strain 6 = .ok (.getfield 19, 3) := by decide +kernel
theorem dX8_strain_9 : decode cX8_strain 9 = .ok (.getfield 97, 3) := by decide +kernel
theorem dX8_strain_12 : decode cX8_strain 12 = .ok (.iload_n 1, 1) := by decide +kernel
theorem dX8_strain_13 : decode cX8_strain 13 = .ok (.invokevirtual 112, 3) := by decide +kernel
theorem dX8_strain_16 : decode cX8_strain 16 = .ok (.ifCond .ne 6, 3) := by decide +kernel
theorem dX8_strain_19 : decode cX8_strain 19 = .ok (.ldc 165, 2) := by decide +kernel
theorem dX8_strain_21 : decode cX8_strain 21 = .ok (.freturn, 1) := by decide +kernel
theorem dX8_strain_22 : decode cX8_strain 22 = .ok (.aload_n 0, 1) := by decide +kernel
theorem dX8_strain_23 : decode cX8_strain 23 = .ok (.getfield 19, 3) := by decide +kernel
theorem dX8_strain_26 : decode cX8_strain 26 = .ok (.getfield 97, 3) := by decide +kernel
theorem dX8_strain_29 : decode cX8_strain 29 = .ok (.iload_n 1, 1) := by decide +kernel
theorem dX8_strain_30 : decode cX8_strain 30 = .ok (.invokevirtual 153, 3) := by decide +kernel
theorem dX8_strain_33 : decode cX8_strain 33 = .ok (.istore_n 2, 1) := by decide +kernel
theorem dX8_strain_34 : decode cX8_strain 34 = .ok (.aload_n 0, 1) := by decide +kernel
theorem dX8_strain_35 : decode cX8_strain 35 = .ok (.getfield 19, 3) := by decide +kernel
theorem dX8_strain_38 : decode cX8_strain 38 = .ok (.getfield 166, 3) := by decide +kernel
theorem dX8_strain_41 : decode cX8_strain 41 = .ok (.aload_n 0, 1) := by decide +kernel
theorem dX8_strain_42 : decode cX8_strain 42 = .ok (.getfield 19, 3) := by decide +kernel
theorem dX8_strain_45 : decode cX8_strain 45 = .ok (.getfield 97, 3) := by decide +kernel
theorem dX8_strain_48 : decode cX8_strain 48 = .ok (.iload_n 1, 1) := by decide +kernel
theorem dX8_strain_49 : decode cX8_strain 49 = .ok (.invokevirtual 170, 3) := by decide +kernel
theorem dX8_strain_52 : decode cX8_strain 52 = .ok (.iload_n 2, 1) := by decide +kernel
theorem dX8_strain_53 : decode cX8_strain 53 = .ok (.invokevirtual 173, 3) := by decide +kernel
theorem dX8_strain_56 : decode cX8_strain 56 = .ok (.istore_n 3, 1) := by decide +kernel
theorem dX8_strain_57 : decode cX8_strain 57 = .ok (.iload_n 3, 1) := by decide +kernel
theorem dX8_strain_58 : decode cX8_strain 58 = .ok (.iconst (-1), 1) := by decide +kernel
theorem dX8_strain_59 : decode cX8_strain 59 = .ok (.if_icmp .ne 6, 3) := by decide +kernel
theorem dX8_strain_62 : decode cX8_strain 62 = .ok (.ldc 165, 2) := by decide +kernel
theorem dX8_strain_64 : decode cX8_strain 64 = .ok (.freturn, 1) := by decide +kernel
theorem dX8_strain_65 : decode cX8_strain 65 = .ok (.iload_n 3, 1) := by decide +kernel
theorem dX8_strain_66 : decode cX8_strain 66 = .ok (.ifCond .ne 7, 3) := by decide +kernel
theorem dX8_strain_69 : decode cX8_strain 69 = .ok (.fconst 0, 1) := by decide +kernel
theorem dX8_strain_70 : decode cX8_strain 70 = .ok (.goto 8, 3) := by decide +kernel
theorem dX8_strain_73 : decode cX8_strain 73 = .ok (.iload_n 2, 1) := by decide +kernel
theorem dX8_strain_74 : decode cX8_strain 74 = .ok (.i2f, 1) := by decide +kernel
theorem dX8_strain_75 : decode cX8_strain 75 = .ok (.iload_n 3, 1) := by decide +kernel
theorem dX8_strain_76 : decode cX8_strain 76 = .ok (.i2f, 1) := by decide +kernel
theorem dX8_strain_77 : decode cX8_strain 77 = .ok (.fdiv, 1) := by decide +kernel
theorem dX8_strain_78 : decode cX8_strain 78 = .ok (.freturn, 1) := by decide +kernel
set_option maxRecDepth 20000 in
theorem ggX8_entries_X0_count : GoodIn wsX8_entries wsX0_count := goodIn_r _ [6, 7, 12, 13] (by decide +kernel) (by decide +kernel)
set_option maxRecDepth 20000 in
theorem gX8_entries_X0_count : GoodIn wsX8_entries (wsV RX8 161 RX0 yX0_count wsX0_count) := goodIn_app (goodIn_of _ (by decide +kernel)) ggX8_entries_X0_count
theorem dX8_entries_0 : decode cX8_entries 0 = .ok (.aload_n 0, 1) := by decide +kernel
theorem dX8_entries_1 : decode cX8_entries 1 = .ok (.getfield 10, 3) := by decide +kernel
theorem dX8_entries_4 : decode cX8_entries 4 = .ok (.invokevirtual 161, 3) := by decide +kernel
theorem dX8_entries_7 : decode cX8_entries 7 = .ok (.ireturn, 1) := by decide +kernel
set_option maxRecDepth 20000 in
theorem ggX8_tell_X0_write : GoodIn wsX8_tell wsX0_write := goodIn_r _ [7, 8, 9, 10, 11, 12, 13, 14, 15, 163, 164, 165] (by decide +kernel) (by decide +kernel)
set_option maxRecDepth 20000 in
theorem gX8_tell_X0_write : GoodIn wsX8_tell (wsV RX8 80 RX0 yX0_write wsX0_write) := goodIn_app (goodIn_of _ (by decide +kernel)) ggX8_tell_X0_write
set_option maxRecDepth 20000 in
theorem ggX8_tell_X2_apply : GoodIn wsX8_tell wsX2_apply := goodIn_r _ [20, 21, 22, 23, 24, 25, 26, 6, 27, 9, 28, 29, 30, 13, 31, 15, 32, 33, 34, 35, 36, 37, 38, 39, 40, 41, 42, 43, 44, 45, 11, 12, 14, 46, 47, 48, 49, 50, 51, 52, 53, 54, 55, 56, 57, 58, 59, 60, 61, 62, 63, 64, 65, 66, 67, 68, 69, 70, 71, 72, 73, 74, 75, 76, 77, 78, 79, 80, 81, 82, 83, 84, 85, 86, 87, 88, 89, 90, 91, 92, 93, 94, 95, 96, 97, 98, 99, 100, 101, 102, 103, 104, 105, 106, 107, 108, 109, 110, 111, 112, 113, 114, 115, 116, 117, 118, 119, 120, 121, 122, 123, 124, 125, 126, 127, 128, 19, 129, 130, 131, 132, 133, 134, 135, 136, 137, 138, 139, 140, 141, 142, 143, 144, 145, 146, 147, 148, 149, 150, 151, 152, 153, 154, 155, 156, 157, 158, 166, 167, 168, 163, 164, 165, 169, 170, 171, 172, 173, 174, 175, 176, 177, 178, 179, 180, 181, 182, 183, 184, 185, 186] (by decide +kernel) (by decide +kernel)
set_option maxRecDepth 20000 in
theorem gX8_tell_X2_apply : GoodIn wsX8_tell (wsV RX8 84 RX2 yX2_apply wsX2_apply) := goodIn_app (goodIn_of _ (by decide +kernel)) ggX8_tell_X2_apply
theorem dX8_tell_0 : decode cX8_tell 0 = .ok (.aload_n 0, 1) := by decide +kernel
theorem dX8_tell_1 : decode cX8_tell 1 = .ok (.getfield 19, 3) := by decide +kernel
theorem dX8_tell_4 : decode cX8_tell 4 = .ok (.aload_n 0, 1) := by decide +kernel
theorem dX8_tell_5 : decode cX8_tell 5 = .ok (.getfield 10, 3) := by decide +kernel
theorem dX8_tell_8 : decode cX8_tell 8 = .ok (.aload_n 0, 1) := by decide +kernel
theorem dX8_tell_9 : decode cX8_tell 9 = .ok (.getfield 10, 3) := by decide +kernel
theorem dX8_tell_12 : decode cX8_tell 12 = .ok (.iload_n 1, 1) := by decide +kernel
theorem dX8_tell_13 : decode cX8_tell 13 = .ok (.iload_n 2, 1) := by decide +kernel
theorem dX8_tell_14 : decode cX8_tell 14 = .ok (.iload_n 3, 1) := by decide +kernel
theorem dX8_tell_15 : decode cX8_tell 15 = .ok (.iload 4, 2) := by decide +kernel
theorem dX8_tell_17 : decode cX8_tell 17 = .ok (.iconst 0, 1) := by decide +kernel
theorem dX8_tell_18 : decode cX8_tell 18 = .ok (.iconst 0, 1) := by decide +kernel
theorem dX8_tell_19 : decode cX8_tell 19 = .ok (.invokevirtual 80, 3) := by decide +kernel
theorem dX8_tell_22 : decode cX8_tell 22 = .ok (.invokevirtual 84, 3) := by decide +kernel
theorem dX8_tell_25 : decode cX8_tell 25 = .ok (.ireturn, 1) := by decide +kernel
theorem dX8_checkPart_0 : decode cX8_checkPart 0 = .ok (.iload_n 0, 1) := by decide +kernel
theorem dX8_checkPart_1 : decode cX8_checkPart 1 = .ok (.ifCond .lt 9, 3) := by decide +kernel
theorem dX8_checkPart_4 : decode cX8_checkPart 4 = .ok (.iload_n 0, 1) := by decide +kernel
theorem dX8_checkPart_5 : decode cX8_checkPart 5 = .ok (.bipush 8, 2) := by decide +kernel
theorem dX8_checkPart_7 : decode cX8_checkPart 7 = .ok (.if_icmp .lt 13, 3) := by decide +kernel
theorem dX8_checkPart_10 : decode cX8_checkPart 10 = .ok (.new 178, 3) := by decide +kernel
theorem dX8_checkPart_13 : decode cX8_checkPart 13 = .ok (.dup, 1) := by decide +kernel
theorem dX8_checkPart_14 : decode cX8_checkPart 14 = .ok (.ldc 180, 2) := by decide +kernel
theorem dX8_checkPart_16 : decode cX8_checkPart 16 = .ok (.invokespecial 182, 3) := by decide +kernel
theorem dX8_checkPart_19 : decode cX8_checkPart 19 = .ok (.athrow, 1) := by decide +kernel
theorem dX8_checkPart_20 : decode cX8_checkPart 20 = .ok (.return_, 1) := by decide +kernel
set_option maxRecDepth 20000 in
theorem ggX8_checkVersion_X3_countOf : GoodIn wsX8_checkVersion wsX3_countOf := goodIn_r _ [9, 10, 11, 12, 13, 14, 15, 16, 24, 25, 26, 27, 28, 29, 30] (by decide +kernel) (by decide +kernel)
set_option maxRecDepth 20000 in
theorem gX8_checkVersion_X3_countOf : GoodIn wsX8_checkVersion (wsV RX8 48 RX3 yX3_countOf wsX3_countOf) := goodIn_app (goodIn_of _ (by decide +kernel)) ggX8_checkVersion_X3_countOf
theorem dX8_checkVersion_0 : decode cX8_checkVersion 0 = .ok (.iload_n 2, 1) := by decide +kernel
theorem dX8_checkVersion_1 : decode cX8_checkVersion 1 = .ok (.iconst 1, 1) := by decide +kernel
theorem dX8_checkVersion_2 : decode cX8_checkVersion 2 = .ok (.if_icmp .lt 18, 3) := by decide +kernel
theorem dX8_checkVersion_5 : decode cX8_checkVersion 5 = .ok (.iload_n 2, 1) := by decide +kernel
theorem dX8_checkVersion_6 : decode cX8_checkVersion 6 = .ok (.aload_n 0, 1) := by decide +kernel
theorem dX8_checkVersion_7 : decode cX8_checkVersion 7 = .ok (.getfield 19, 3) := by decide +kernel
theorem dX8_checkVersion_10 : decode cX8_checkVersion 10 = .ok (.getfield 44, 3) := by decide +kernel
theorem dX8_checkVersion_13 : decode cX8_checkVersion 13 = .ok (.iload_n 1, 1) := by decide +kernel
theorem dX8_checkVersion_14 : decode cX8_checkVersion 14 = .ok (.invokevirtual 48, 3) := by decide +kernel
theorem dX8_checkVersion_17 : decode cX8_checkVersion 17 = .ok (.if_icmp .le 13, 3) := by decide +kernel
theorem dX8_checkVersion_20 : decode cX8_checkVersion 20 = .ok (.new 178, 3) := by decide +kernel
theorem dX8_checkVersion_23 : decode cX8_checkVersion 23 = .ok (.dup, 1) := by decide +kernel
theorem dX8_checkVersion_24 : decode cX8_checkVersion 24 = .ok (.ldc 183, 2) := by decide +kernel
theorem dX8_checkVersion_26 : decode cX8_checkVersion 26 = .ok (.invokespecial 182, 3) := by decide +kernel
theorem dX8_checkVersion_29 : decode cX8_checkVersion 29 = .ok (.athrow, 1) := by decide +kernel
theorem dX8_checkVersion_30 : decode cX8_checkVersion 30 = .ok (.return_, 1) := by decide +kernel
theorem dX8_checkPerson_0 : decode cX8_checkPerson 0 = .ok (.iload_n 0, 1) := by decide +kernel
theorem dX8_checkPerson_1 : decode cX8_checkPerson 1 = .ok (.ifCond .lt 9, 3) := by decide +kernel
theorem dX8_checkPerson_4 : decode cX8_checkPerson 4 = .ok (.iload_n 0, 1) := by decide +kernel
theorem dX8_checkPerson_5 : decode cX8_checkPerson 5 = .ok (.bipush 8, 2) := by decide +kernel
theorem dX8_checkPerson_7 : decode cX8_checkPerson 7 = .ok (.if_icmp .lt 13, 3) := by decide +kernel
theorem dX8_checkPerson_10 : decode cX8_checkPerson 10 = .ok (.new 178, 3) := by decide +kernel
theorem dX8_checkPerson_13 : decode cX8_checkPerson 13 = .ok (.dup, 1) := by decide +kernel
theorem dX8_checkPerson_14 : decode cX8_checkPerson 14 = .ok (.ldc 185, 2) := by decide +kernel
theorem dX8_checkPerson_16 : decode cX8_checkPerson 16 = .ok (.invokespecial 182, 3) := by decide +kernel
theorem dX8_checkPerson_19 : decode cX8_checkPerson 19 = .ok (.athrow, 1) := by decide +kernel
theorem dX8_checkPerson_20 : decode cX8_checkPerson 20 = .ok (.return_, 1) := by decide +kernel
set_option maxRecDepth 20000 in
theorem ggX8_checkRequest_X5_count : GoodIn wsX8_checkRequest wsX5_count := goodIn_r _ [9, 10, 18, 19, 20, 21, 22, 23, 24, 25] (by decide +kernel) (by decide +kernel)
set_option maxRecDepth 20000 in
theorem gX8_checkRequest_X5_count : GoodIn wsX8_checkRequest (wsV RX8 101 RX5 yX5_count wsX5_count) := goodIn_app (goodIn_of _ (by decide +kernel)) ggX8_checkRequest_X5_count
theorem dX8_checkRequest_0 : decode cX8_checkRequest 0 = .ok (.iload_n 1, 1) := by decide +kernel
theorem dX8_checkRequest_1 : decode cX8_checkRequest 1 = .ok (.ifCond .lt 17, 3) := by decide +kernel
theorem dX8_checkRequest_4 : decode cX8_checkRequest 4 = .ok (.iload_n 1, 1) := by decide +kernel
theorem dX8_checkRequest_5 : decode cX8_checkRequest 5 = .ok (.aload_n 0, 1) := by decide +kernel
theorem dX8_checkRequest_6 : decode cX8_checkRequest 6 = .ok (.getfield 19, 3) := by decide +kernel
theorem dX8_checkRequest_9 : decode cX8_checkRequest 9 = .ok (.getfield 97, 3) := by decide +kernel
theorem dX8_checkRequest_12 : decode cX8_checkRequest 12 = .ok (.invokevirtual 101, 3) := by decide +kernel
theorem dX8_checkRequest_15 : decode cX8_checkRequest 15 = .ok (.if_icmp .lt 13, 3) := by decide +kernel
theorem dX8_checkRequest_18 : decode cX8_checkRequest 18 = .ok (.new 178, 3) := by decide +kernel
theorem dX8_checkRequest_21 : decode cX8_checkRequest 21 = .ok (.dup, 1) := by decide +kernel
theorem dX8_checkRequest_22 : decode cX8_checkRequest 22 = .ok (.ldc 187, 2) := by decide +kernel
theorem dX8_checkRequest_24 : decode cX8_checkRequest 24 = .ok (.invokespecial 182, 3) := by decide +kernel
theorem dX8_checkRequest_27 : decode cX8_checkRequest 27 = .ok (.athrow, 1) := by decide +kernel
theorem dX8_checkRequest_28 : decode cX8_checkRequest 28 = .ok (.return_, 1) := by decide +kernel
theorem dX8_checkLeast_0 : decode cX8_checkLeast 0 = .ok (.iload_n 0, 1) := by decide +kernel
theorem dX8_checkLeast_1 : decode cX8_checkLeast 1 = .ok (.iconst 1, 1) := by decide +kernel
theorem dX8_checkLeast_2 : decode cX8_checkLeast 2 = .ok (.if_icmp .lt 8, 3) := by decide +kernel
theorem dX8_checkLeast_5 : decode cX8_checkLeast 5 = .ok (.iload_n 0, 1) := by decide +kernel
theorem dX8_checkLeast_6 : decode cX8_checkLeast 6 = .ok (.iconst 3, 1) := by decide +kernel
theorem dX8_checkLeast_7 : decode cX8_checkLeast 7 = .ok (.if_icmp .le 13, 3) := by decide +kernel
theorem dX8_checkLeast_10 : decode cX8_checkLeast 10 = .ok (.new 37, 3) := by decide +kernel
theorem dX8_checkLeast_13 : decode cX8_checkLeast 13 = .ok (.dup, 1) := by decide +kernel
theorem dX8_checkLeast_14 : decode cX8_checkLeast 14 = .ok (.ldc 189, 2) := by decide +kernel
theorem dX8_checkLeast_16 : decode cX8_checkLeast 16 = .ok (.invokespecial 41, 3) := by decide +kernel
theorem dX8_checkLeast_19 : decode cX8_checkLeast 19 = .ok (.athrow, 1) := by decide +kernel
theorem dX8_checkLeast_20 : decode cX8_checkLeast 20 = .ok (.return_, 1) := by decide +kernel
theorem dX8_checkDays_0 : decode cX8_checkDays 0 = .ok (.iload_n 0, 1) := by decide +kernel
theorem dX8_checkDays_1 : decode cX8_checkDays 1 = .ok (.iconst 1, 1) := by decide +kernel
theorem dX8_checkDays_2 : decode cX8_checkDays 2 = .ok (.if_icmp .lt 9, 3) := by decide +kernel
theorem dX8_checkDays_5 : decode cX8_checkDays 5 = .ok (.iload_n 0, 1) := by decide +kernel
theorem dX8_checkDays_6 : decode cX8_checkDays 6 = .ok (.bipush 60, 2) := by decide +kernel
theorem dX8_checkDays_8 : decode cX8_checkDays 8 = .ok (.if_icmp .le 13, 3) := by decide +kernel
theorem dX8_checkDays_11 : decode cX8_checkDays 11 = .ok (.new 37, 3) := by decide +kernel
theorem dX8_checkDays_14 : decode cX8_checkDays 14 = .ok (.dup, 1) := by decide +kernel
theorem dX8_checkDays_15 : decode cX8_checkDays 15 = .ok (.ldc 191, 2) := by decide +kernel
theorem dX8_checkDays_17 : decode cX8_checkDays 17 = .ok (.invokespecial 41, 3) := by decide +kernel
theorem dX8_checkDays_20 : decode cX8_checkDays 20 = .ok (.athrow, 1) := by decide +kernel
theorem dX8_checkDays_21 : decode cX8_checkDays 21 = .ok (.return_, 1) := by decide +kernel
end
section
/-! What is taken of the library's floats and tables. -/
theorem fok_32 {r : UInt32} (h : Jvm.FP.Core.fIsNaN r = false) : vf_n32 r := by
  have h1 : ¬ 2139095040 < r.toNat % 2 ^ 31 := fun q => by rw [(Jvm.FP.Core.isNaN_bits32 r).mpr q] at h; cases h
  unfold vf_n32
  rw [UInt32.le_iff_toNat_le, UInt32.toNat_and, show (0x7fffffff : UInt32).toNat = 2 ^ 31 - 1 from rfl, Nat.and_two_pow_sub_one_eq_mod]
  show r.toNat % 2 ^ 31 ≤ 2139095040
  omega
theorem fok_64 {r : UInt64} (h : Jvm.FP.Core.dIsNaN r = false) : vf_n64 r := by
  have h1 : ¬ 9218868437227405312 < r.toNat % 2 ^ 63 := fun q => by rw [(Jvm.FP.Core.isNaN_bits r).mpr q] at h; cases h
  unfold vf_n64
  rw [UInt64.le_iff_toNat_le, UInt64.toNat_and, show (0x7fffffffffffffff : UInt64).toNat = 2 ^ 63 - 1 from rfl, Nat.and_two_pow_sub_one_eq_mod]
  show r.toNat % 2 ^ 63 ≤ 9218868437227405312
  omega
theorem fdv_nan (c : Int32) {g : Int32} (hg : ¬ g = 0) : Jvm.FP.Core.fIsNaN (FP.fdiv (FP.i2f c) (FP.i2f g)) = false :=
  Jvm.FP.Core.fdiv_out (Jvm.FP.Core.FFin.notNaN (Jvm.FP.Core.i2f_fin c)) (Jvm.FP.Core.i2f_fin g) (fun h => Jvm.FP.Core.i2f_ne_zero hg ((Jvm.FP.Core.zero_bits232 _).mp h))
theorem fdv_ok (c : Int32) {g : Int32} (hg : ¬ g = 0) : vf_n32 (FP.fdiv (FP.i2f c) (FP.i2f g)) := fok_32 (fdv_nan c hg)
theorem f2d_c {r : UInt32} (h : Jvm.FP.Core.fIsNaN r = false) : FP.f2d r = Jvm.FP.Core.f2d r := by unfold FP.f2d; rw [h]; rfl
theorem f2d_ok {r : UInt32} (h : Jvm.FP.Core.fIsNaN r = false) : vf_n64 (FP.f2d r) := by rw [f2d_c h]; exact fok_64 (Jvm.FP.Core.f2d_out h)
theorem f2d_cmp {r : UInt32} (h : Jvm.FP.Core.fIsNaN r = false) : FP.dcmp (FP.f2d r) (FP.f2d r) = some .eq := by rw [f2d_c h]; exact Jvm.FP.Core.dcmp_refl (Jvm.FP.Core.f2d_out h)
def strF (s c g : Int32) : UInt32 := if s = 0 then 3212836864 else if g = -1 then 3212836864 else if g = 0 then FP.fconst0 else FP.fdiv (FP.i2f c) (FP.i2f g)
theorem strF_nan (s c g : Int32) : Jvm.FP.Core.fIsNaN (strF s c g) = false := by
  unfold strF
  split
  · decide +kernel
  · split
    · decide +kernel
    · split
      · decide +kernel
      · exact fdv_nan c (by assumption)
theorem arr_at {args : Array Value} {s : State} {ty : FieldType} (h : (Cond.arrayClass ty).before args s = true) (hp : ∀ C : String, ty ≠ .object C) : ∃ cA : ClassId, ArrOfT s cA ty ∧ va_RA s cA ty := by
  obtain ⟨cA, kA, comp, h1, h2, h3⟩ := Cond.arrayClass_spec (args := args) (first := s) (o := none) (s := s) (idx := []) h
  refine ⟨cA, fun n z => ⟨fun k h => (by cases h), kA, h2, comp, h3⟩, ?_⟩
  cases ty <;> first | exact h1 | exact absurd rfl (hp _)
end
