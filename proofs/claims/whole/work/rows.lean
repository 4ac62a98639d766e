section
-- ===== PART A: goes FIRST, ahead of the names: the tables' words, and 'selects' of the private methods out of them =====
/-- a private method of a class that the tables say can be made, by its rows of tables_1 -/
def lw_okq (q : MethodName × Nat) : Prop := (q.1.cls ≠ "java/lang/invoke/MethodHandle" ∧ q.1.cls ≠ "java/lang/invoke/VarHandle") ∧ Cond.instantiable q.1.cls q.2 ∈ tables_1 ∧ Cond.privateMethod q.1 ∈ tables_1 ∧ Cond.instanceMethod q.1 ∈ tables_1
theorem lw_p0 : lw_okq (⟨"java/lang/Throwable", "fillInStackTrace", "(I)Ljava/lang/Throwable;"⟩, 6) := ⟨⟨by decide +kernel, by decide +kernel⟩, List.mem_of_getElem? (i := 264) (by decide +kernel), List.mem_of_getElem? (i := 262) (by decide +kernel), List.mem_of_getElem? (i := 263) (by decide +kernel)⟩
theorem lw_p1 : lw_okq (⟨"Approvalyard", "tell", "(IIII)I"⟩, 4) := ⟨⟨by decide +kernel, by decide +kernel⟩, List.mem_of_getElem? (i := 18) (by decide +kernel), List.mem_of_getElem? (i := 334) (by decide +kernel), List.mem_of_getElem? (i := 335) (by decide +kernel)⟩
theorem lw_p2 : lw_okq (⟨"Approvalyard$Requests", "endApprovals", "(I)V"⟩, 8) := ⟨⟨by decide +kernel, by decide +kernel⟩, List.mem_of_getElem? (i := 104) (by decide +kernel), List.mem_of_getElem? (i := 394) (by decide +kernel), List.mem_of_getElem? (i := 395) (by decide +kernel)⟩
theorem lw_p3 : lw_okq (⟨"Approvalyard$Requests", "reopen", "(I)V"⟩, 8) := ⟨⟨by decide +kernel, by decide +kernel⟩, List.mem_of_getElem? (i := 104) (by decide +kernel), List.mem_of_getElem? (i := 399) (by decide +kernel), List.mem_of_getElem? (i := 400) (by decide +kernel)⟩
theorem lw_p4 : lw_okq (⟨"Approvalyard$Desk", "takeApproval", "(II)I"⟩, 3) := ⟨⟨by decide +kernel, by decide +kernel⟩, List.mem_of_getElem? (i := 50) (by decide +kernel), List.mem_of_getElem? (i := 426) (by decide +kernel), List.mem_of_getElem? (i := 427) (by decide +kernel)⟩
theorem lw_p5 : lw_okq (⟨"Approvalyard", "checkVersion", "(II)V"⟩, 4) := ⟨⟨by decide +kernel, by decide +kernel⟩, List.mem_of_getElem? (i := 18) (by decide +kernel), List.mem_of_getElem? (i := 466) (by decide +kernel), List.mem_of_getElem? (i := 467) (by decide +kernel)⟩
theorem lw_p6 : lw_okq (⟨"Approvalyard", "checkRequest", "(I)V"⟩, 4) := ⟨⟨by decide +kernel, by decide +kernel⟩, List.mem_of_getElem? (i := 18) (by decide +kernel), List.mem_of_getElem? (i := 517) (by decide +kernel), List.mem_of_getElem? (i := 518) (by decide +kernel)⟩
theorem lw_p7 : lw_okq (⟨"Approvalyard$Search", "fill", "(LApprovalyard$Parts;I)Z"⟩, 4) := ⟨⟨by decide +kernel, by decide +kernel⟩, List.mem_of_getElem? (i := 171) (by decide +kernel), List.mem_of_getElem? (i := 547) (by decide +kernel), List.mem_of_getElem? (i := 548) (by decide +kernel)⟩
theorem lw_p8 : lw_okq (⟨"Approvalyard$Search", "take", "(LApprovalyard$Parts;II)Z"⟩, 4) := ⟨⟨by decide +kernel, by decide +kernel⟩, List.mem_of_getElem? (i := 171) (by decide +kernel), List.mem_of_getElem? (i := 551) (by decide +kernel), List.mem_of_getElem? (i := 552) (by decide +kernel)⟩
theorem lw_p9 : lw_okq (⟨"Approvalyard$Search", "await", "(I)V"⟩, 4) := ⟨⟨by decide +kernel, by decide +kernel⟩, List.mem_of_getElem? (i := 171) (by decide +kernel), List.mem_of_getElem? (i := 564) (by decide +kernel), List.mem_of_getElem? (i := 565) (by decide +kernel)⟩
theorem lw_p10 : lw_okq (⟨"ApprovalyardModel", "isEight", "(I)Z"⟩, 24) := ⟨⟨by decide +kernel, by decide +kernel⟩, List.mem_of_getElem? (i := 676) (by decide +kernel), List.mem_of_getElem? (i := 763) (by decide +kernel), List.mem_of_getElem? (i := 764) (by decide +kernel)⟩
theorem lw_p11 : lw_okq (⟨"ApprovalyardModel", "in", "(III)Z"⟩, 24) := ⟨⟨by decide +kernel, by decide +kernel⟩, List.mem_of_getElem? (i := 676) (by decide +kernel), List.mem_of_getElem? (i := 767) (by decide +kernel), List.mem_of_getElem? (i := 768) (by decide +kernel)⟩
theorem lw_p12 : lw_okq (⟨"ApprovalyardModel", "holds", "(I)Z"⟩, 24) := ⟨⟨by decide +kernel, by decide +kernel⟩, List.mem_of_getElem? (i := 676) (by decide +kernel), List.mem_of_getElem? (i := 771) (by decide +kernel), List.mem_of_getElem? (i := 772) (by decide +kernel)⟩
theorem lw_p13 : lw_okq (⟨"ApprovalyardModel", "isVersion", "(II)Z"⟩, 24) := ⟨⟨by decide +kernel, by decide +kernel⟩, List.mem_of_getElem? (i := 676) (by decide +kernel), List.mem_of_getElem? (i := 779) (by decide +kernel), List.mem_of_getElem? (i := 780) (by decide +kernel)⟩
theorem lw_p14 : lw_okq (⟨"ApprovalyardModel", "ends", "(I)I"⟩, 24) := ⟨⟨by decide +kernel, by decide +kernel⟩, List.mem_of_getElem? (i := 676) (by decide +kernel), List.mem_of_getElem? (i := 787) (by decide +kernel), List.mem_of_getElem? (i := 788) (by decide +kernel)⟩
theorem lw_p15 : lw_okq (⟨"ApprovalyardModel", "empty", "(I)V"⟩, 24) := ⟨⟨by decide +kernel, by decide +kernel⟩, List.mem_of_getElem? (i := 676) (by decide +kernel), List.mem_of_getElem? (i := 791) (by decide +kernel), List.mem_of_getElem? (i := 792) (by decide +kernel)⟩
def lw_privs_1 : List (MethodName × Nat) := [(⟨"java/lang/Throwable", "fillInStackTrace", "(I)Ljava/lang/Throwable;"⟩, 6), (⟨"Approvalyard", "tell", "(IIII)I"⟩, 4), (⟨"Approvalyard$Requests", "endApprovals", "(I)V"⟩, 8), (⟨"Approvalyard$Requests", "reopen", "(I)V"⟩, 8), (⟨"Approvalyard$Desk", "takeApproval", "(II)I"⟩, 3), (⟨"Approvalyard", "checkVersion", "(II)V"⟩, 4), (⟨"Approvalyard", "checkRequest", "(I)V"⟩, 4), (⟨"Approvalyard$Search", "fill", "(LApprovalyard$Parts;I)Z"⟩, 4), (⟨"Approvalyard$Search", "take", "(LApprovalyard$Parts;II)Z"⟩, 4), (⟨"Approvalyard$Search", "await", "(I)V"⟩, 4), (⟨"ApprovalyardModel", "isEight", "(I)Z"⟩, 24), (⟨"ApprovalyardModel", "in", "(III)Z"⟩, 24), (⟨"ApprovalyardModel", "holds", "(I)Z"⟩, 24), (⟨"ApprovalyardModel", "isVersion", "(II)Z"⟩, 24), (⟨"ApprovalyardModel", "ends", "(I)I"⟩, 24), (⟨"ApprovalyardModel", "empty", "(I)V"⟩, 24)]
theorem lw_r1 : ∀ q ∈ lw_privs_1, lw_okq q := List.forall_mem_cons.mpr ⟨lw_p0, List.forall_mem_cons.mpr ⟨lw_p1, List.forall_mem_cons.mpr ⟨lw_p2, List.forall_mem_cons.mpr ⟨lw_p3, List.forall_mem_cons.mpr ⟨lw_p4, List.forall_mem_cons.mpr ⟨lw_p5, List.forall_mem_cons.mpr ⟨lw_p6, List.forall_mem_cons.mpr ⟨lw_p7, List.forall_mem_cons.mpr ⟨lw_p8, List.forall_mem_cons.mpr ⟨lw_p9, List.forall_mem_cons.mpr ⟨lw_p10, List.forall_mem_cons.mpr ⟨lw_p11, List.forall_mem_cons.mpr ⟨lw_p12, List.forall_mem_cons.mpr ⟨lw_p13, List.forall_mem_cons.mpr ⟨lw_p14, List.forall_mem_cons.mpr ⟨lw_p15, fun _ h => absurd h List.not_mem_nil⟩⟩⟩⟩⟩⟩⟩⟩⟩⟩⟩⟩⟩⟩⟩⟩
theorem lw_p16 : lw_okq (⟨"ApprovalyardModel", "isRequest", "(I)Z"⟩, 24) := ⟨⟨by decide +kernel, by decide +kernel⟩, List.mem_of_getElem? (i := 676) (by decide +kernel), List.mem_of_getElem? (i := 803) (by decide +kernel), List.mem_of_getElem? (i := 804) (by decide +kernel)⟩
theorem lw_p17 : lw_okq (⟨"ApprovalyardModel", "search", "(I)I"⟩, 24) := ⟨⟨by decide +kernel, by decide +kernel⟩, List.mem_of_getElem? (i := 676) (by decide +kernel), List.mem_of_getElem? (i := 807) (by decide +kernel), List.mem_of_getElem? (i := 808) (by decide +kernel)⟩
theorem lw_p18 : lw_okq (⟨"ApprovalyardModel", "forget", "(I)V"⟩, 24) := ⟨⟨by decide +kernel, by decide +kernel⟩, List.mem_of_getElem? (i := 676) (by decide +kernel), List.mem_of_getElem? (i := 811) (by decide +kernel), List.mem_of_getElem? (i := 812) (by decide +kernel)⟩
theorem lw_p19 : lw_okq (⟨"ApprovalyardModel", "goes", "(II)Z"⟩, 24) := ⟨⟨by decide +kernel, by decide +kernel⟩, List.mem_of_getElem? (i := 676) (by decide +kernel), List.mem_of_getElem? (i := 815) (by decide +kernel), List.mem_of_getElem? (i := 816) (by decide +kernel)⟩
theorem lw_p20 : lw_okq (⟨"ApprovalyardModel", "comes", "(II)I"⟩, 24) := ⟨⟨by decide +kernel, by decide +kernel⟩, List.mem_of_getElem? (i := 676) (by decide +kernel), List.mem_of_getElem? (i := 819) (by decide +kernel), List.mem_of_getElem? (i := 820) (by decide +kernel)⟩
theorem lw_p21 : lw_okq (⟨"ApprovalyardModel", "forWhom", "(II)I"⟩, 24) := ⟨⟨by decide +kernel, by decide +kernel⟩, List.mem_of_getElem? (i := 676) (by decide +kernel), List.mem_of_getElem? (i := 839) (by decide +kernel), List.mem_of_getElem? (i := 840) (by decide +kernel)⟩
theorem lw_p22 : lw_okq (⟨"ApprovalyardModel", "isAway", "(I)Z"⟩, 24) := ⟨⟨by decide +kernel, by decide +kernel⟩, List.mem_of_getElem? (i := 676) (by decide +kernel), List.mem_of_getElem? (i := 843) (by decide +kernel), List.mem_of_getElem? (i := 844) (by decide +kernel)⟩
theorem lw_p23 : lw_okq (⟨"ApprovalyardModel", "covered", "(I)Z"⟩, 24) := ⟨⟨by decide +kernel, by decide +kernel⟩, List.mem_of_getElem? (i := 676) (by decide +kernel), List.mem_of_getElem? (i := 851) (by decide +kernel), List.mem_of_getElem? (i := 852) (by decide +kernel)⟩
theorem lw_p24 : lw_okq (⟨"ApprovalyardModel", "approvals", "(I)I"⟩, 24) := ⟨⟨by decide +kernel, by decide +kernel⟩, List.mem_of_getElem? (i := 676) (by decide +kernel), List.mem_of_getElem? (i := 855) (by decide +kernel), List.mem_of_getElem? (i := 856) (by decide +kernel)⟩
def lw_privs_2 : List (MethodName × Nat) := [(⟨"ApprovalyardModel", "isRequest", "(I)Z"⟩, 24), (⟨"ApprovalyardModel", "search", "(I)I"⟩, 24), (⟨"ApprovalyardModel", "forget", "(I)V"⟩, 24), (⟨"ApprovalyardModel", "goes", "(II)Z"⟩, 24), (⟨"ApprovalyardModel", "comes", "(II)I"⟩, 24), (⟨"ApprovalyardModel", "forWhom", "(II)I"⟩, 24), (⟨"ApprovalyardModel", "isAway", "(I)Z"⟩, 24), (⟨"ApprovalyardModel", "covered", "(I)Z"⟩, 24), (⟨"ApprovalyardModel", "approvals", "(I)I"⟩, 24)]
theorem lw_r2 : ∀ q ∈ lw_privs_2, lw_okq q := List.forall_mem_cons.mpr ⟨lw_p16, List.forall_mem_cons.mpr ⟨lw_p17, List.forall_mem_cons.mpr ⟨lw_p18, List.forall_mem_cons.mpr ⟨lw_p19, List.forall_mem_cons.mpr ⟨lw_p20, List.forall_mem_cons.mpr ⟨lw_p21, List.forall_mem_cons.mpr ⟨lw_p22, List.forall_mem_cons.mpr ⟨lw_p23, List.forall_mem_cons.mpr ⟨lw_p24, fun _ h => absurd h List.not_mem_nil⟩⟩⟩⟩⟩⟩⟩⟩⟩
def lw_privs : List (MethodName × Nat) := lw_privs_1 ++ (lw_privs_2)
def lw_tbl : List Cond := k2_sels lw_privs ++ tables_1
theorem lw_privs_ok : ∀ q ∈ lw_privs, lw_okq q := by
  show ∀ q ∈ lw_privs_1 ++ (lw_privs_2), lw_okq q
  exact List.forall_mem_append.mpr ⟨lw_r1, lw_r2⟩
/-- the streams that the claim lets the run draw from -/
abbrev lw_cs : List Choice := [Jvm.Choice.named "NaN.bits"]
theorem lw_bits : nanBits ∈ lw_cs := by first | decide | exact List.mem_cons_self | simp [lw_cs, nanBits]
end
section
/-! ===== BEGIN words of one list among another's, by their places ===== -/
theorem goodIn_r {big : List Cond} (ws : List Cond) (ps : List Nat) (hp : ws = ps.filterMap (fun i => big[i]?)) (h : ws.all goodWord = true) : GoodIn big ws := by
  intro w hw
  have h1 := List.all_eq_true.mp h w hw
  rw [hp] at hw
  obtain ⟨i, -, hi⟩ := List.mem_filterMap.mp hw
  have hm : w ∈ big := by first | exact List.mem_of_getElem? hi | exact List.getElem?_mem hi
  exact ⟨hm, good_of_word h1⟩
theorem goodIn_app {big a b : List Cond} (ha : GoodIn big a) (hb : GoodIn big b) : GoodIn big (a ++ b) := fun w h => (List.mem_append.mp h).elim (ha w) (hb w)
theorem goodIn_ca {big a b : List Cond} {c : Cond} (ha : GoodIn big (c :: a)) (hb : GoodIn big b) : GoodIn big (c :: (a ++ b)) := fun w h => (List.mem_cons.mp h).elim (fun e => ha w (List.mem_cons.mpr (Or.inl e))) (fun h => (List.mem_append.mp h).elim (fun h => ha w (List.mem_cons.mpr (Or.inr h))) (hb w))
theorem goodIn_sub {big ws : List Cond} (hm : ∀ w ∈ ws, w ∈ big) (h : ws.all goodWord = true) : GoodIn big ws := fun w hw => ⟨hm w hw, good_of_word (List.all_eq_true.mp h w hw)⟩
/-! ===== END ===== -/

/-! ===== BEGIN exceptions that leave a method, and their catching by the caller (launches without stack traces) ===== -/
section VXA
/-! The laws vx_back, vx_callV, vx_callS, vx_callSW, vx_throw0, vx_throwS follow proofs of the library, with one case more: JvmDerived/Free/Laws.lean (Back.of_free), Shelf42/LK1.lean (callV, callS), Shelf/KitTraced.lean (throwNew0V, throwNewS). -/
/-- where a method has thrown q: the class by its name, the cell, what was written, the world -/
def vx_T (XC : String → State → State → Prop) (st : State) (q : Addr) (t : State) (mc ms : Nat) (free : Addr → Prop) : Prop :=
  ∃ (E : String) (ce : Cell) (L : List Loc), XC E st t ∧ t.heap[q]? = some ce ∧ ce.vm = .none ∧ st.vm.findClass E = some ce.cls ∧ st.WarmedH t.vm ∧ st.sameButNew ({ t with vm := st.vm } : State) L mc ms ∧ ∀ z ∈ L, free z.base
def vx_Q (Qc : Array Value → State → Outcome → State → Prop) (XC : String → State → State → Prop) (mc ms : Nat) (free : Addr → Prop) : Array Value → State → Outcome → State → Prop := fun a st o t =>
  (Qc a st o t ∧ ∃ L, FrameEnd st o t L mc ms ∧ ∀ q ∈ L, free q.base) ∨ ∃ q, o = .threw q ∧ vx_T XC st q t mc ms free
/-- a callee that returns or throws -/
def vx_Met (l : Launch) (y : MethodName) (ws : List Cond) (rm : Room) (Pc : Array Value → State → Prop) (Qc : Array Value → State → Outcome → State → Prop) (XC : String → State → State → Prop) (mc ms : Nat) (free : Addr → Prop) : Prop :=
  MetFree l y (headSpec ws rm) Pc (fun _ _ _ _ _ => True) (vx_Q Qc XC mc ms free)
def vx_Post (XC : String → State → State → Prop) (mc ms : Nat) (free : Addr → Prop) : Pt → Array Value → Addr → Pt → Prop := fun A a q B =>
  ∃ (g : JFrame) (mk : MethodId) (t : State) (L : List Loc) (E : String) (ce : Cell), B.U.heap = t.heap ∧ B.U.vm = t.vm ∧ XC E (A.U.calling g mk a) t ∧ t.heap[q]? = some ce ∧ ce.vm = .none ∧ A.U.vm.findClass E = some ce.cls ∧ B.locs = A.locs ++ L ∧ (∀ z ∈ L, free z.base) ∧ B.cells = A.cells + mc ∧ B.slots = A.slots + ms
def vx_Back (l : Launch) (R : Room) (p : Program) (e : Env) (below : List Frame) (s : State) (sargs : Array Value) (y : MethodName) (len W9 : Nat)
    (Pre : Pt → Array Value → Prop) (Post : Pt → Array Value → Option Value → Pt → Prop) (PostX : Pt → Array Value → Addr → Pt → Prop) : Prop :=
  ∀ (m : MethodId) (meth : Method) (c : Code) (A : Pt) (g : JFrame) (ig : Instr) (mk : MethodId) (a : Array Value),
    Stand p l e R s m sargs below meth c A.U A.locs A.cells A.slots → g.method = m → g.locals.size = c.maxLocals → decode c.code g.pc = .ok (ig, len) →
    2 * g.monitorRoom + (g.stack.map fun v => v.category).sum ≤ W9 → A.U.methodNamed? y = some mk → Pre A a →
    (∃ (v : Option Value) (B : Pt), Stand p l e R s m sargs below meth c B.U B.locs B.cells B.slots ∧ Post A a v B ∧
      Steps p.tables e below (doInvoke e (A.U.setTop g) [] mk a).1 (B.U.setTop { g with pc := g.pc + len, stack := v.toList ++ g.stack })) ∨
    (∃ (q : Addr) (B : Pt), Stand p l e R s m sargs below meth c B.U B.locs B.cells B.slots ∧ PostX A a q B ∧
      Steps p.tables e below (doInvoke e (A.U.setTop g) [] mk a).1 ((B.U.setTop g).pushFrame (.throwing q)))
section Payer
variable {l : Launch} {R : Room} {p : Program} {e : Env} {below : List Frame} {s : State} {sargs : Array Value} {y : MethodName} {len W9 : Nat}
theorem vx_back {ws : List Cond} {rm : Room} {Pc : Array Value → State → Prop} {Qc : Array Value → State → Outcome → State → Prop} {XC : String → State → State → Prop} {mc ms : Nat} {free : Addr → Prop} {bytes : ByteArray} {maxL : Nat} {ret : Option FieldType}
    (hM : vx_Met l y ws rm Pc Qc XC mc ms free) (hblind : FrameBlind Pc) (hrc : rm.cells = mc) (hrs : rm.slots = ms)
    (hframes : rm.frames + 1 ≤ R.frames) (hlocals : W9 + (maxL + 11) + rm.locals ≤ R.locals)
    (hws : ∀ w ∈ ws, ∀ a' U, s.WarmedH U.vm → w.before a' U = true) (hcode : Cond.code y bytes maxL ret ∈ ws) (hinit : ∀ a' U, s.WarmedH U.vm → (Cond.initialized y.cls).before a' U = true) :
    vx_Back l R p e below s sargs y len W9 (PreOf R mc ms Pc) (PostOf Qc mc ms free) (vx_Post XC mc ms free) := by
  intro m meth c A g ig mk a X hg hsize hdg hW hn hp
  have h1 : (headSpec ws rm).pre.before a A.U = true := atoms_intro fun w hw => hws w hw _ _ X.warmed
  have h2 : (Cond.code y bytes maxL ret).before a A.U = true := hws _ hcode _ _ X.warmed
  have h3 : (Cond.initialized y.cls).before a A.U = true := hinit _ _ X.warmed
  have h4 : A.cells + (headSpec ws rm).room.cells ≤ R.cells := by rw [show (headSpec ws rm).room.cells = mc from hrc]; exact hp.1
  have h5 : A.slots + (headSpec ws rm).room.slots ≤ R.slots := by rw [show (headSpec ws rm).room.slots = ms from hrs]; exact hp.2.1
  have hPc : Pc a (A.U.calling g mk a) := hblind _ _ _ _ hp.2.2
  obtain ⟨U, Ls, c0, s0⟩ := A
  dsimp only [Pt.U, Pt.locs, Pt.cells, Pt.slots] at h1 h2 h3 h4 h5 X hn hPc ⊢
  obtain ⟨methY, cY, hmY, hcY, -, hlY, -, -, -, -⟩ := Cond.code_spec hn h2
  obtain ⟨kY, hkY, -⟩ := className_of_methodNamed hn
  have hinitY : kY.init = .initialized := Cond.initialized_spec (findClass_of_methodNamed hn) hkY h3
  have h : At U g.method c below := by rw [hg]; exact X.here
  have hlocals9 : W9 + (maxL + 11) + (headSpec ws rm).room.locals ≤ R.locals := hlocals
  have happ : (headSpec ws rm).appliesLoose y e.platform (U.calling g mk a) = true :=
    Spec.appliesLoose_calling (g := g) h hdg hn hkY hinitY
      (X.room_calling (g := g) (R' := (headSpec ws rm).room) hsize hmY hcY hframes (by rw [hlY]; omega) h4 h5) h1
  obtain ⟨mid, hmid⟩ := h.above
  have hfr : (U.setTop g).frames = (.java g :: mid) ++ below := by rw [State.frames_setTop' g h.top, hmid]; rfl
  obtain ⟨o, s₂, hsteps, -, hend, hq⟩ := Steps.callFree hM p X.admits X.cas X.clock (acts := []) hfr happ hPc trivial
  have hq' : vx_Q Qc XC mc ms free a (U.calling g mk a) o s₂ := hq
  rw [State.frames_setTop' g h.top] at hend
  obtain ⟨g₀, hg0⟩ := Option.isSome_iff_exists.mp h.top
  obtain ⟨r, hr⟩ := State.topJava?_eq_some.mp hg0
  have hr' : (({ U with heap := s₂.heap, slotsUsed := s₂.slotsUsed } : State).setVm s₂.vm).frames = .java g₀ :: r := hr
  rcases hq' with ⟨hqc, L, hfe, hL⟩ | ⟨q, rfl, E, ce, L, hx, hce, hcv, hcl, hW₂, hsm, hL⟩
  · obtain ⟨⟨v, rfl⟩, hW₂, e2, q2, q3, q4, q5, q6⟩ := id hfe
    have e3 : s₂ = ({ (U.calling g mk a).setFrames s₂.frames with heap := s₂.heap, slotsUsed := s₂.slotsUsed } : State).setVm s₂.vm := by
      have : s₂ = ({ s₂ with vm := (U.calling g mk a).vm } : State).setVm s₂.vm := rfl
      rw [e2] at this
      exact this
    obtain ⟨c₂, i₂, len₂, hc₂, hd₂, hf₂⟩ := hend
    have hW' : U.WarmedH s₂.vm := hW₂
    have hcc : c₂ = c := by
      have h1 : s₂.code? g.method = U.code? g.method := by
        rw [State.code?_eq, State.code?_eq, hW'.alike.method?]
      exact Option.some.inj (hc₂.symm.trans (h1.trans h.code))
    subst hcc
    have hlen : len₂ = len := by rw [hdg] at hd₂; cases hd₂; rfl
    subst hlen
    have hs₂ : s₂ = (({ U with heap := s₂.heap, slotsUsed := s₂.slotsUsed } : State).setVm s₂.vm).setTop { g with pc := g.pc + len₂, stack := v.toList ++ g.stack } := by
      refine e3.trans ?_
      rw [hf₂, State.calling_eq h.top, State.setFrames_setFrames, State.setTop_of_frames _ hr', hr]
      rfl
    have hsame : U.sameButNew ({ U with heap := s₂.heap, slotsUsed := s₂.slotsUsed } : State) L mc ms := by
      refine ⟨?_, q2, q3, q4, q5, q6⟩
      obtain ⟨t, ht, -⟩ := State.frames_cons hr
      show ({ U with heap := s₂.heap, slotsUsed := s₂.slotsUsed } : State) = { U.setFrames U.frames with heap := s₂.heap, slotsUsed := s₂.slotsUsed }
      rw [State.setFrames_self ht]
    subst hg
    refine Or.inl ⟨v, ⟨(({ U with heap := s₂.heap, slotsUsed := s₂.slotsUsed } : State).setVm s₂.vm), Ls ++ L, c0 + mc, s0 + ms⟩,
      ⟨X.admits, X.cas, X.clock, X.frames, X.room, X.hears, X.method, X.code, (X.here.setHeapUsed s₂.heap s₂.slotsUsed).setVm hW'.alike, X.tail, State.WarmedH.trans X.warmed hW', X.limits, X.bytes, X.same.trans (hsame.setVm s.vm)⟩,
      ⟨g, mk, s₂, L, rfl, rfl, hqc, rfl, hL, rfl, rfl⟩, ?_⟩
    show Steps p.tables e below _ ((({ U with heap := s₂.heap, slotsUsed := s₂.slotsUsed } : State).setVm s₂.vm).setTop { g with pc := g.pc + len₂, stack := v.toList ++ g.stack })
    rw [← hs₂]
    exact hsteps
  · obtain ⟨e2, q2, q3, q4, q5, q6⟩ := id hsm
    have e3 : s₂ = ({ (U.calling g mk a).setFrames s₂.frames with heap := s₂.heap, slotsUsed := s₂.slotsUsed } : State).setVm s₂.vm := by
      have : s₂ = ({ s₂ with vm := (U.calling g mk a).vm } : State).setVm s₂.vm := rfl
      rw [e2] at this
      exact this
    have hf₂ : s₂.frames = .throwing q :: .java g :: U.frames.tail := hend
    have hW' : U.WarmedH s₂.vm := hW₂
    have hs₂ : s₂ = ((({ U with heap := s₂.heap, slotsUsed := s₂.slotsUsed } : State).setVm s₂.vm).setTop g).pushFrame (.throwing q) := by
      refine e3.trans ?_
      rw [hf₂, State.calling_eq h.top, State.setFrames_setFrames, State.pushFrame, State.frames_setTop _ hr', State.setTop_of_frames _ hr', State.setFrames_setFrames, hr]
      rfl
    have hsame : U.sameButNew ({ U with heap := s₂.heap, slotsUsed := s₂.slotsUsed } : State) L mc ms := by
      refine ⟨?_, q2, q3, q4, q5, q6⟩
      obtain ⟨t, ht, -⟩ := State.frames_cons hr
      show ({ U with heap := s₂.heap, slotsUsed := s₂.slotsUsed } : State) = { U.setFrames U.frames with heap := s₂.heap, slotsUsed := s₂.slotsUsed }
      rw [State.setFrames_self ht]
    subst hg
    refine Or.inr ⟨q, ⟨(({ U with heap := s₂.heap, slotsUsed := s₂.slotsUsed } : State).setVm s₂.vm), Ls ++ L, c0 + mc, s0 + ms⟩,
      ⟨X.admits, X.cas, X.clock, X.frames, X.room, X.hears, X.method, X.code, (X.here.setHeapUsed s₂.heap s₂.slotsUsed).setVm hW'.alike, X.tail, State.WarmedH.trans X.warmed hW', X.limits, X.bytes, X.same.trans (hsame.setVm s.vm)⟩,
      ⟨g, mk, s₂, L, E, ce, rfl, rfl, hx, hce, hcv, hcl, rfl, hL, rfl, rfl⟩, ?_⟩
    show Steps p.tables e below _ (((({ U with heap := s₂.heap, slotsUsed := s₂.slotsUsed } : State).setVm s₂.vm).setTop g).pushFrame (.throwing q))
    rw [← hs₂]
    exact hsteps
end Payer
section Calls
variable {p : Program} {l : Launch} {e : Env} {R : Room} {s : State} {m : MethodId} {args : Array Value} {below : List Frame} {meth : Method} {c : Code} {T : State} {locs : List Loc} {cells slots : Nat}
theorem vx_callV (X : Stand p l e R s m args below meth c T locs cells slots) (hexec : p.tables.exec = Jvm.exec) {own C : String} {index : Nat} {y : MethodName} {bytes : ByteArray} {maxL : Nat} {ret : Option FieldType}
    (hown : s.vm.findClass own = some m.cls) (hlink : (Cond.methodLink own index y).before args s = true) (hinst : (Cond.instanceMethod y).before args s = true) (hsel : (Cond.selects C y y).before args s = true)
    (hcode : (Cond.code y bytes maxL ret).before args s = true) (hy : y.cls ≠ "java/lang/invoke/MethodHandle" ∧ y.cls ≠ "java/lang/invoke/VarHandle")
    {W9 : Nat} {Pre : Pt → Array Value → Prop} {Post : Pt → Array Value → Option Value → Pt → Prop} {PostX : Pt → Array Value → Addr → Pt → Prop} (hK : vx_Back l R p e below s args y 3 W9 Pre Post PostX)
    {b : Addr} {cellB : Cell} (hcell : T.heap[b]? = some cellB) (hobj : cellB.vm.isStatics = false) (hcls : s.vm.findClass C = some cellB.cls)
    {g : JFrame} (hg : g.method = m) (hsize : g.locals.size = c.maxLocals) {argsL rest : List Value} (hlen : ∀ sig, parseMethodDescriptor y.desc = some sig → argsL.length = sig.parameters.length)
    (hstack : g.stack = argsL.reverse ++ .ref b :: rest) (hW : 2 * g.monitorRoom + (rest.map fun v => v.category).sum ≤ W9) (hdg : decode c.code g.pc = .ok (.invokevirtual index, 3))
    (hpre : ∀ vm₁, s.WarmedH vm₁ → Pre ⟨T.setVm vm₁, locs, cells, slots⟩ (Value.ref b :: argsL).toArray) :
    (∃ (v : Option Value) (vm₁ : Vm) (B : Pt), s.WarmedH vm₁ ∧ Stand p l e R s m args below meth c B.U B.locs B.cells B.slots ∧ Post ⟨T.setVm vm₁, locs, cells, slots⟩ (Value.ref b :: argsL).toArray v B ∧
      ∀ target, Steps p.tables e below (B.U.setTop { g with pc := g.pc + 3, stack := v.toList ++ rest }) target → Steps p.tables e below (T.setTop g) target) ∨
    (∃ (q : Addr) (vm₁ : Vm) (B : Pt), s.WarmedH vm₁ ∧ Stand p l e R s m args below meth c B.U B.locs B.cells B.slots ∧ PostX ⟨T.setVm vm₁, locs, cells, slots⟩ (Value.ref b :: argsL).toArray q B ∧
      Steps p.tables e below (T.setTop g) ((B.U.setTop { g with stack := rest }).pushFrame (.throwing q))) := by
  obtain ⟨mk, methM, hnamed, hmethM, hstM, habM⟩ := Cond.instanceMethod_spec hinst
  obtain ⟨methM', cM, hmethM', -, -, -, -, -, -, hsigM⟩ := Cond.code_spec hnamed hcode
  cases hmethM.symm.trans hmethM'
  obtain ⟨c2, r2, m2, q1, q2, q3, q4, kP, hkP, hkPi⟩ := Cond.selects_spec hsel
  cases hcls.symm.trans q1
  cases (State.methodFound?_of_named hnamed hy).symm.trans q2
  cases hnamed.symm.trans q3
  have hselP : selectMethod e.platform s.vm cellB.cls mk = .method mk := by rw [Launch.admits_selectMethod X.admits]; exact q4
  obtain ⟨vm₁, X₁, hstep₁⟩ := X.invokevirtual hexec hown hlink hnamed hmethM hstM hkP hkPi hy (a := b) (cell := cellB) hcell
    (fun z h => by rw [h] at hobj; cases hobj) hselP hmethM habM hkP hkPi (g := g) hg (argsL := argsL) (rest := rest) (hlen _ hsigM) hstack hdg
  rcases hK m meth c ⟨T.setVm vm₁, locs, cells, slots⟩ { g with stack := rest } (.invokevirtual index) mk (Value.ref b :: argsL).toArray X₁ hg hsize hdg hW (X₁.named hnamed) (hpre vm₁ X₁.warmed) with ⟨v, B, X', hpost, hsteps⟩ | ⟨q, B, X', hpost, hsteps⟩
  · exact Or.inl ⟨v, vm₁, B, X₁.warmed, X', hpost, fun target h => hstep₁ _ fun acts => by rw [doInvoke_state]; exact hsteps.trans h⟩
  · exact Or.inr ⟨q, vm₁, B, X₁.warmed, X', hpost, hstep₁ _ fun acts => by rw [doInvoke_state]; exact hsteps⟩
theorem vx_callS (X : Stand p l e R s m args below meth c T locs cells slots) (hexec : p.tables.exec = Jvm.exec) {own : String} {index : Nat} {y : MethodName} {bytes : ByteArray} {maxL : Nat} {ret : Option FieldType}
    (hown : s.vm.findClass own = some m.cls) (hlink : (Cond.methodLink own index y).before args s = true) (hstat : (Cond.static y).before args s = true) (hinit : (Cond.initialized y.cls).before args s = true)
    (hcode : (Cond.code y bytes maxL ret).before args s = true) (hy : y.cls ≠ "java/lang/invoke/MethodHandle" ∧ y.cls ≠ "java/lang/invoke/VarHandle")
    {W9 : Nat} {Pre : Pt → Array Value → Prop} {Post : Pt → Array Value → Option Value → Pt → Prop} {PostX : Pt → Array Value → Addr → Pt → Prop} (hK : vx_Back l R p e below s args y 3 W9 Pre Post PostX)
    {g : JFrame} (hg : g.method = m) (hsize : g.locals.size = c.maxLocals) {argsL rest : List Value} (hlen : ∀ sig, parseMethodDescriptor y.desc = some sig → argsL.length = sig.parameters.length)
    (hstack : g.stack = argsL.reverse ++ rest) (hW : 2 * g.monitorRoom + (rest.map fun v => v.category).sum ≤ W9) (hdg : decode c.code g.pc = .ok (.invokestatic index, 3))
    (hpre : ∀ vm₁, s.WarmedH vm₁ → Pre ⟨T.setVm vm₁, locs, cells, slots⟩ argsL.toArray) :
    (∃ (v : Option Value) (vm₁ : Vm) (B : Pt), s.WarmedH vm₁ ∧ Stand p l e R s m args below meth c B.U B.locs B.cells B.slots ∧ Post ⟨T.setVm vm₁, locs, cells, slots⟩ argsL.toArray v B ∧
      ∀ target, Steps p.tables e below (B.U.setTop { g with pc := g.pc + 3, stack := v.toList ++ rest }) target → Steps p.tables e below (T.setTop g) target) ∨
    (∃ (q : Addr) (vm₁ : Vm) (B : Pt), s.WarmedH vm₁ ∧ Stand p l e R s m args below meth c B.U B.locs B.cells B.slots ∧ PostX ⟨T.setVm vm₁, locs, cells, slots⟩ argsL.toArray q B ∧
      Steps p.tables e below (T.setTop g) ((B.U.setTop { g with stack := rest }).pushFrame (.throwing q))) := by
  obtain ⟨mk, hnamed⟩ := Cond.code_named hcode
  obtain ⟨methM, cM, hmethM, -, -, -, -, -, -, hsigM⟩ := Cond.code_spec hnamed hcode
  have hstatic : methM.isStatic = true := Cond.static_spec hnamed hmethM hstat
  obtain ⟨kP, hkP, -⟩ := className_of_methodNamed hnamed
  have hinitP : kP.init = .initialized := Cond.initialized_spec (findClass_of_methodNamed hnamed) hkP hinit
  obtain ⟨vm₁, X₁, hstep₁⟩ := X.invokestatic hexec hown hlink hnamed hmethM hstatic hkP hinitP hy (g := g) hg (argsL := argsL) (rest := rest) (hlen _ hsigM) hstack hdg
  rcases hK m meth c ⟨T.setVm vm₁, locs, cells, slots⟩ { g with stack := rest } (.invokestatic index) mk argsL.toArray X₁ hg hsize hdg hW (X₁.named hnamed) (hpre vm₁ X₁.warmed) with ⟨v, B, X', hpost, hsteps⟩ | ⟨q, B, X', hpost, hsteps⟩
  · exact Or.inl ⟨v, vm₁, B, X₁.warmed, X', hpost, fun target h => hstep₁ _ fun acts => by rw [doInvoke_state]; exact hsteps.trans h⟩
  · exact Or.inr ⟨q, vm₁, B, X₁.warmed, X', hpost, hstep₁ _ fun acts => by rw [doInvoke_state]; exact hsteps⟩
end Calls
theorem vx_cls {s : State} {T : State} {vm₁ : Vm} {E : String} {k : ClassId} (hW : s.WarmedH vm₁) (h : (T.setVm vm₁).vm.findClass E = some k) : s.vm.findClass E = some k := by
  have h1 : vm₁.findClass E = some k := h
  rw [hW.alike.findClass] at h1
  exact h1
/-- the method's frame g, with q thrown over it -/
def vx_W (p : Program) (l : Launch) (e : Env) (R : Room) (s : State) (m : MethodId) (args : Array Value) (below : List Frame) (meth : Method) (c : Code) (H : Heap) (locs : List Loc) (cells slots : Nat) (Q : State → Prop) (g : JFrame) (q : Addr) : Prop :=
  ∀ T : State, T.heap = H → Stand p l e R s m args below meth c T locs cells slots → ∃ t, Steps p.tables e below ((T.setTop g).pushFrame (.throwing q)) t ∧ Q t
def vx_Run (p : Program) (l : Launch) (e : Env) (R : Room) (s : State) (m : MethodId) (args : Array Value) (below : List Frame) (meth : Method) (c : Code) (H : Heap) (locs : List Loc) (cells slots mc ms : Nat) (g : JFrame) (rest : List Value) (Qa : State → Outcome → State → Prop) (XC : String → State → State → Prop) (free : Addr → Prop) : Prop :=
  ∀ T : State, T.heap = H → Stand p l e R s m args below meth c T locs cells slots →
    (∃ (v : Option Value) (st₀ t T' : State) (L : List Loc), st₀.heap = H ∧ Stand p l e R s m args below meth c T' (locs ++ L) (cells + mc) (slots + ms) ∧ (∀ q ∈ L, free q.base) ∧ T'.heap = t.heap ∧ T'.vm = t.vm ∧ Qa st₀ (.returned v) t ∧
      Goes p e below T g T' { g with pc := g.pc + 3, stack := v.toList ++ rest }) ∨
    (∃ (q : Addr) (st₀ t T' : State) (L : List Loc) (E : String) (ce : Cell), st₀.heap = H ∧ Stand p l e R s m args below meth c T' (locs ++ L) (cells + mc) (slots + ms) ∧ (∀ z ∈ L, free z.base) ∧ T'.heap = t.heap ∧ T'.vm = t.vm ∧ XC E st₀ t ∧ t.heap[q]? = some ce ∧ ce.vm = .none ∧ s.vm.findClass E = some ce.cls ∧
      Steps p.tables e below (T.setTop g) ((T'.setTop { g with stack := rest }).pushFrame (.throwing q)))
def vx_X {S : Type} (px : S → Prop) (B : String → S → State → Prop) (A : Nat → Prop) : String → State → State → Prop := fun E st t => ∃ u : S, px u ∧ B E u t ∧ va_F A st t
section Runs
variable {p : Program} {l : Launch} {e : Env} {R : Room} {s : State} {m : MethodId} {args : Array Value} {below : List Frame} {meth : Method} {c : Code} {H : Heap} {locs : List Loc} {cells slots : Nat}
variable {y : MethodName} {bytes cc : ByteArray} {maxL nL mc ms n index : Nat} {ret : Option FieldType} {ws : List Cond} {rm : Room} {Pc : Array Value → State → Prop} {Qc : Array Value → State → Outcome → State → Prop} {XC : String → State → State → Prop} {free : Addr → Prop} {Ts : List Cond} {own C : String} {b : Addr} {As rest : List Value} {g : JFrame}
theorem vx_callBack (cb : CallB R s args own index y bytes maxL ret ws rm mc ms n) (hM : vx_Met l y ws rm Pc Qc XC mc ms free) (hbl : FrameBlind Pc) : vx_Back l R p e below s args y 3 8 (PreOf R mc ms Pc) (PostOf Qc mc ms free) (vx_Post XC mc ms free) := by
  obtain ⟨hrc, hrs, hfr, hlo, hws, hcw, -, hini, -⟩ := cb
  exact vx_back (bytes := bytes) (maxL := maxL) (ret := ret) hM hbl hrc hrs hfr hlo hws hcw (fun a' U hW => word_at hW (Or.inl (by first | rfl | simp [Cond.onTables, Cond.keeps, Cond.steady])) hini)
theorem vx_runV (S : CallFix p m c cc nL s args Ts own) (hM : vx_Met l y ws rm Pc Qc XC mc ms free) (cw : CallW R s args own C index y bytes maxL ret ws rm mc ms n) (hp : PreV s H C b Pc As)
    (hg : g.method = m) (hn : As.length = n) (hsize : g.locals.size = nL) (hstack : g.stack = As.reverse ++ .ref b :: rest) (hW : 2 * g.monitorRoom + (rest.map fun v => v.category).sum ≤ 8) (hdg : decode cc g.pc = .ok (.invokevirtual index, 3)) (hf : cells + mc ≤ R.cells ∧ slots + ms ≤ R.slots) :
    vx_Run p l e R s m args below meth c H locs cells slots mc ms g rest (Qc (Value.ref b :: As).toArray) XC free := by
  have hK : vx_Back l R p e below s args y 3 8 (PreOf R mc ms Pc) (PostOf Qc mc ms free) (vx_Post XC mc ms free) := vx_callBack cw.1 hM hp.1
  obtain ⟨⟨-, -, -, -, -, -, hcode, -, hy, hlen, hl⟩, hin, hse⟩ := cw
  obtain ⟨hx, hb, hml, ho, -⟩ := S
  obtain ⟨-, ⟨cellB, hcB, hoB, hclB⟩, hPc⟩ := hp
  intro T hT X
  rcases vx_callV X hx (C := C) (bytes := bytes) (maxL := maxL) (ret := ret) ho hl hin hse hcode hy hK (by rw [hT]; exact hcB) hoB hclB hg (hsize.trans hml.symm) (argsL := As) (rest := rest) (fun sig h => hn.trans (hlen sig h)) hstack hW (by rw [hb]; exact hdg)
    (fun vm₁ hW₁ => ⟨hf.1, hf.2, hPc (T.setVm vm₁) hT hW₁⟩) with ⟨v, vm₁, ⟨U', l2, c2, s2⟩, hW₁, X', ⟨g', mk, t, L, e1, e2, hq, h1, hL, h2, h3⟩, st⟩ | ⟨q, vm₁, ⟨U', l2, c2, s2⟩, hW₁, X', ⟨g', mk, t, L, E, ce, e1, e2, hq, hce, hcv, hcl, h1, hL, h2, h3⟩, st⟩
  · dsimp only [Pt.U, Pt.locs, Pt.cells, Pt.slots] at X' e1 e2 h1 h2 h3 st
    subst h1; subst h2; subst h3
    exact Or.inl ⟨v, (T.setVm vm₁).calling g' mk (Value.ref b :: As).toArray, t, U', L, hT, X', hL, e1, e2, hq, st⟩
  · dsimp only [Pt.U, Pt.locs, Pt.cells, Pt.slots] at X' e1 e2 h1 h2 h3 st hcl
    subst h1; subst h2; subst h3
    exact Or.inr ⟨q, (T.setVm vm₁).calling g' mk (Value.ref b :: As).toArray, t, U', L, E, ce, hT, X', hL, e1, e2, hq, hce, hcv, vx_cls hW₁ hcl, st⟩
theorem vx_runS (S : CallFix p m c cc nL s args Ts own) (hM : vx_Met l y ws rm Pc Qc XC mc ms free) (cw : CallB R s args own index y bytes maxL ret ws rm mc ms n ∧ (Cond.static y).before args s = true) (hp : PreS s H Pc As)
    (hg : g.method = m) (hn : As.length = n) (hsize : g.locals.size = nL) (hstack : g.stack = As.reverse ++ rest) (hW : 2 * g.monitorRoom + (rest.map fun v => v.category).sum ≤ 8) (hdg : decode cc g.pc = .ok (.invokestatic index, 3)) (hf : cells + mc ≤ R.cells ∧ slots + ms ≤ R.slots) :
    vx_Run p l e R s m args below meth c H locs cells slots mc ms g rest (Qc As.toArray) XC free := by
  have hK : vx_Back l R p e below s args y 3 8 (PreOf R mc ms Pc) (PostOf Qc mc ms free) (vx_Post XC mc ms free) := vx_callBack cw.1 hM hp.1
  obtain ⟨⟨-, -, -, -, -, -, hcode, hini, hy, hlen, hl⟩, hstt⟩ := cw
  obtain ⟨hx, hb, hml, ho, -⟩ := S
  intro T hT X
  rcases vx_callS X hx (bytes := bytes) (maxL := maxL) (ret := ret) ho hl hstt hini hcode hy hK hg (hsize.trans hml.symm) (argsL := As) (rest := rest) (fun sig h => hn.trans (hlen sig h)) hstack hW (by rw [hb]; exact hdg)
    (fun vm₁ hW₁ => ⟨hf.1, hf.2, hp.2 (T.setVm vm₁) hT hW₁⟩) with ⟨v, vm₁, ⟨U', l2, c2, s2⟩, hW₁, X', ⟨g', mk, t, L, e1, e2, hq, h1, hL, h2, h3⟩, st⟩ | ⟨q, vm₁, ⟨U', l2, c2, s2⟩, hW₁, X', ⟨g', mk, t, L, E, ce, e1, e2, hq, hce, hcv, hcl, h1, hL, h2, h3⟩, st⟩
  · dsimp only [Pt.U, Pt.locs, Pt.cells, Pt.slots] at X' e1 e2 h1 h2 h3 st
    subst h1; subst h2; subst h3
    exact Or.inl ⟨v, (T.setVm vm₁).calling g' mk As.toArray, t, U', L, hT, X', hL, e1, e2, hq, st⟩
  · dsimp only [Pt.U, Pt.locs, Pt.cells, Pt.slots] at X' e1 e2 h1 h2 h3 st hcl
    subst h1; subst h2; subst h3
    exact Or.inr ⟨q, (T.setVm vm₁).calling g' mk As.toArray, t, U', L, E, ce, hT, X', hL, e1, e2, hq, hce, hcv, vx_cls hW₁ hcl, st⟩
end Runs
section Rows
variable {p : Program} {l : Launch} {e : Env} {R : Room} {s : State} {m : MethodId} {args : Array Value} {below : List Frame} {meth : Method} {c : Code} {H : Heap} {locs : List Loc} {cells slots : Nat} {Q : State → Prop}
variable {mc ms : Nat} {free : Addr → Prop} {A0 A1 : Nat → Prop} {H0 : Heap} {a : Array Value} {pc : Nat} {ls : Array Slot} {st0 rest : List Value}
theorem vx_keep {st₀ t T' : State} {L : List Loc} (h0 : st₀.heap = H) (e1 : T'.heap = t.heap) (hS : va_S A0 H0 H locs) (hA : ∀ q, q < H.size → A1 q → A0 q) (hf : ∀ q, free q → A0 q) (hL : ∀ q ∈ L, free q.base) (hF : va_F A1 st₀ t) :
    H.size ≤ T'.heap.size ∧ (∀ q : Nat, q < H.size → ¬ A1 q → T'.heap[q]? = H[q]?) ∧ va_S A0 H0 T'.heap (locs ++ L) := by
  obtain ⟨hz, hk⟩ := hF
  rw [h0] at hz hk
  exact ⟨by rw [e1]; exact hz, fun q h1 h2 => by rw [e1]; exact hk q h1 h2,
    ⟨Nat.le_trans hS.1 (by rw [e1]; exact hz), fun q h1 h2 => by rw [e1, hk q (Nat.lt_of_lt_of_le h1 hS.1) (fun z => h2 (hA q (Nat.lt_of_lt_of_le h1 hS.1) z))]; exact hS.2.1 q h1 h2, fun q hq => by
      rcases List.mem_append.mp hq with h | h
      · exact hS.2.2 q h
      · exact hf _ (hL q h)⟩⟩
theorem vx_calli {S SX : Type} {post : Int32 → S → Prop} {px : SX → Prop} {B : S → State → Prop} {BX : String → SX → State → Prop} {AX : Nat → Prop} (hr : vx_Run p l e R s m args below meth c H locs cells slots mc ms (F0 m pc ls st0) rest (va_Qi post B A1 a) (vx_X px BX AX) free) (hS : va_S A0 H0 H locs) (hA : ∀ q, q < H.size → A1 q → A0 q) (hf : ∀ q, free q → A0 q) (hAX : ∀ q, q < H.size → AX q → A0 q)
    (kx : ∀ (E : String) (ce : Cell) (q9 : Addr) (u : SX) (t : State) (H1 : Heap) (locs1 : List Loc), t.heap = H1 → s.vm.Alike t.vm → px u → BX E u t → H.size ≤ H1.size → (∀ q : Nat, q < H.size → ¬ AX q → H1[q]? = H[q]?) → va_S A0 H0 H1 locs1 → H1[q9]? = some ce → ce.vm = .none → s.vm.findClass E = some ce.cls → vx_W p l e R s m args below meth c H1 locs1 (cells + mc) (slots + ms) Q (F0 m pc ls rest) q9)
    (kk : ∀ (r : Int32) (u : S) (t : State) (H1 : Heap) (locs1 : List Loc), t.heap = H1 → s.vm.Alike t.vm → post r u → B u t → H.size ≤ H1.size → (∀ q : Nat, q < H.size → ¬ A1 q → H1[q]? = H[q]?) → va_S A0 H0 H1 locs1 → W p l e R s m args below meth c H1 locs1 (cells + mc) (slots + ms) Q (F0 m (pc + 3) ls (.int r :: rest))) : W p l e R s m args below meth c H locs cells slots Q (F0 m pc ls st0) := by
  intro T hT X
  rcases hr T hT X with ⟨v, st₀, t, T', L, h0, X', hL, e1, e2, ⟨⟨r, u, hv, hp, hb⟩, hF⟩, st⟩ | ⟨q, st₀, t, T', L, E, ce, h0, X', hL, e1, e2, ⟨u, hp, hb, hF⟩, hce, hcv, hcl, st⟩
  · cases hv
    obtain ⟨k1, k2, k3⟩ := vx_keep h0 e1 hS hA hf hL hF
    obtain ⟨t2, a1, b1⟩ := kk r u t T'.heap (locs ++ L) e1.symm (by rw [← e2]; exact X'.warmed.alike) hp hb k1 k2 k3 T' rfl X'
    exact ⟨t2, st t2 a1, b1⟩
  · obtain ⟨k1, k2, k3⟩ := vx_keep h0 e1 hS hAX hf hL hF
    obtain ⟨t2, a1, b1⟩ := kx E ce q u t T'.heap (locs ++ L) e1.symm (by rw [← e2]; exact X'.warmed.alike) hp hb k1 k2 k3 (by rw [e1]; exact hce) hcv hcl T' rfl X'
    exact ⟨t2, st.trans a1, b1⟩
theorem vx_calll {S SX : Type} {post : Int64 → S → Prop} {px : SX → Prop} {B : S → State → Prop} {BX : String → SX → State → Prop} {AX : Nat → Prop} (hr : vx_Run p l e R s m args below meth c H locs cells slots mc ms (F0 m pc ls st0) rest (va_Ql post B A1 a) (vx_X px BX AX) free) (hS : va_S A0 H0 H locs) (hA : ∀ q, q < H.size → A1 q → A0 q) (hf : ∀ q, free q → A0 q) (hAX : ∀ q, q < H.size → AX q → A0 q)
    (kx : ∀ (E : String) (ce : Cell) (q9 : Addr) (u : SX) (t : State) (H1 : Heap) (locs1 : List Loc), t.heap = H1 → s.vm.Alike t.vm → px u → BX E u t → H.size ≤ H1.size → (∀ q : Nat, q < H.size → ¬ AX q → H1[q]? = H[q]?) → va_S A0 H0 H1 locs1 → H1[q9]? = some ce → ce.vm = .none → s.vm.findClass E = some ce.cls → vx_W p l e R s m args below meth c H1 locs1 (cells + mc) (slots + ms) Q (F0 m pc ls rest) q9)
    (kk : ∀ (r : Int64) (u : S) (t : State) (H1 : Heap) (locs1 : List Loc), t.heap = H1 → s.vm.Alike t.vm → post r u → B u t → H.size ≤ H1.size → (∀ q : Nat, q < H.size → ¬ A1 q → H1[q]? = H[q]?) → va_S A0 H0 H1 locs1 → W p l e R s m args below meth c H1 locs1 (cells + mc) (slots + ms) Q (F0 m (pc + 3) ls (.long r :: rest))) : W p l e R s m args below meth c H locs cells slots Q (F0 m pc ls st0) := by
  intro T hT X
  rcases hr T hT X with ⟨v, st₀, t, T', L, h0, X', hL, e1, e2, ⟨⟨r, u, hv, hp, hb⟩, hF⟩, st⟩ | ⟨q, st₀, t, T', L, E, ce, h0, X', hL, e1, e2, ⟨u, hp, hb, hF⟩, hce, hcv, hcl, st⟩
  · cases hv
    obtain ⟨k1, k2, k3⟩ := vx_keep h0 e1 hS hA hf hL hF
    obtain ⟨t2, a1, b1⟩ := kk r u t T'.heap (locs ++ L) e1.symm (by rw [← e2]; exact X'.warmed.alike) hp hb k1 k2 k3 T' rfl X'
    exact ⟨t2, st t2 a1, b1⟩
  · obtain ⟨k1, k2, k3⟩ := vx_keep h0 e1 hS hAX hf hL hF
    obtain ⟨t2, a1, b1⟩ := kx E ce q u t T'.heap (locs ++ L) e1.symm (by rw [← e2]; exact X'.warmed.alike) hp hb k1 k2 k3 (by rw [e1]; exact hce) hcv hcl T' rfl X'
    exact ⟨t2, st.trans a1, b1⟩
theorem vx_callf {S SX : Type} {post : UInt32 → S → Prop} {px : SX → Prop} {B : S → State → Prop} {BX : String → SX → State → Prop} {AX : Nat → Prop} (hr : vx_Run p l e R s m args below meth c H locs cells slots mc ms (F0 m pc ls st0) rest (va_Qf post B A1 a) (vx_X px BX AX) free) (hS : va_S A0 H0 H locs) (hA : ∀ q, q < H.size → A1 q → A0 q) (hf : ∀ q, free q → A0 q) (hAX : ∀ q, q < H.size → AX q → A0 q)
    (kx : ∀ (E : String) (ce : Cell) (q9 : Addr) (u : SX) (t : State) (H1 : Heap) (locs1 : List Loc), t.heap = H1 → s.vm.Alike t.vm → px u → BX E u t → H.size ≤ H1.size → (∀ q : Nat, q < H.size → ¬ AX q → H1[q]? = H[q]?) → va_S A0 H0 H1 locs1 → H1[q9]? = some ce → ce.vm = .none → s.vm.findClass E = some ce.cls → vx_W p l e R s m args below meth c H1 locs1 (cells + mc) (slots + ms) Q (F0 m pc ls rest) q9)
    (kk : ∀ (r : UInt32) (u : S) (t : State) (H1 : Heap) (locs1 : List Loc), t.heap = H1 → s.vm.Alike t.vm → post r u → B u t → H.size ≤ H1.size → (∀ q : Nat, q < H.size → ¬ A1 q → H1[q]? = H[q]?) → va_S A0 H0 H1 locs1 → W p l e R s m args below meth c H1 locs1 (cells + mc) (slots + ms) Q (F0 m (pc + 3) ls (.float r :: rest))) : W p l e R s m args below meth c H locs cells slots Q (F0 m pc ls st0) := by
  intro T hT X
  rcases hr T hT X with ⟨v, st₀, t, T', L, h0, X', hL, e1, e2, ⟨⟨r, u, hv, hp, hb⟩, hF⟩, st⟩ | ⟨q, st₀, t, T', L, E, ce, h0, X', hL, e1, e2, ⟨u, hp, hb, hF⟩, hce, hcv, hcl, st⟩
  · cases hv
    obtain ⟨k1, k2, k3⟩ := vx_keep h0 e1 hS hA hf hL hF
    obtain ⟨t2, a1, b1⟩ := kk r u t T'.heap (locs ++ L) e1.symm (by rw [← e2]; exact X'.warmed.alike) hp hb k1 k2 k3 T' rfl X'
    exact ⟨t2, st t2 a1, b1⟩
  · obtain ⟨k1, k2, k3⟩ := vx_keep h0 e1 hS hAX hf hL hF
    obtain ⟨t2, a1, b1⟩ := kx E ce q u t T'.heap (locs ++ L) e1.symm (by rw [← e2]; exact X'.warmed.alike) hp hb k1 k2 k3 (by rw [e1]; exact hce) hcv hcl T' rfl X'
    exact ⟨t2, st.trans a1, b1⟩
theorem vx_calld {S SX : Type} {post : UInt64 → S → Prop} {px : SX → Prop} {B : S → State → Prop} {BX : String → SX → State → Prop} {AX : Nat → Prop} (hr : vx_Run p l e R s m args below meth c H locs cells slots mc ms (F0 m pc ls st0) rest (va_Qd post B A1 a) (vx_X px BX AX) free) (hS : va_S A0 H0 H locs) (hA : ∀ q, q < H.size → A1 q → A0 q) (hf : ∀ q, free q → A0 q) (hAX : ∀ q, q < H.size → AX q → A0 q)
    (kx : ∀ (E : String) (ce : Cell) (q9 : Addr) (u : SX) (t : State) (H1 : Heap) (locs1 : List Loc), t.heap = H1 → s.vm.Alike t.vm → px u → BX E u t → H.size ≤ H1.size → (∀ q : Nat, q < H.size → ¬ AX q → H1[q]? = H[q]?) → va_S A0 H0 H1 locs1 → H1[q9]? = some ce → ce.vm = .none → s.vm.findClass E = some ce.cls → vx_W p l e R s m args below meth c H1 locs1 (cells + mc) (slots + ms) Q (F0 m pc ls rest) q9)
    (kk : ∀ (r : UInt64) (u : S) (t : State) (H1 : Heap) (locs1 : List Loc), t.heap = H1 → s.vm.Alike t.vm → post r u → B u t → H.size ≤ H1.size → (∀ q : Nat, q < H.size → ¬ A1 q → H1[q]? = H[q]?) → va_S A0 H0 H1 locs1 → W p l e R s m args below meth c H1 locs1 (cells + mc) (slots + ms) Q (F0 m (pc + 3) ls (.double r :: rest))) : W p l e R s m args below meth c H locs cells slots Q (F0 m pc ls st0) := by
  intro T hT X
  rcases hr T hT X with ⟨v, st₀, t, T', L, h0, X', hL, e1, e2, ⟨⟨r, u, hv, hp, hb⟩, hF⟩, st⟩ | ⟨q, st₀, t, T', L, E, ce, h0, X', hL, e1, e2, ⟨u, hp, hb, hF⟩, hce, hcv, hcl, st⟩
  · cases hv
    obtain ⟨k1, k2, k3⟩ := vx_keep h0 e1 hS hA hf hL hF
    obtain ⟨t2, a1, b1⟩ := kk r u t T'.heap (locs ++ L) e1.symm (by rw [← e2]; exact X'.warmed.alike) hp hb k1 k2 k3 T' rfl X'
    exact ⟨t2, st t2 a1, b1⟩
  · obtain ⟨k1, k2, k3⟩ := vx_keep h0 e1 hS hAX hf hL hF
    obtain ⟨t2, a1, b1⟩ := kx E ce q u t T'.heap (locs ++ L) e1.symm (by rw [← e2]; exact X'.warmed.alike) hp hb k1 k2 k3 (by rw [e1]; exact hce) hcv hcl T' rfl X'
    exact ⟨t2, st.trans a1, b1⟩
theorem vx_callv {S SX : Type} {post : S → Prop} {px : SX → Prop} {B : S → State → Prop} {BX : String → SX → State → Prop} {AX : Nat → Prop} (hr : vx_Run p l e R s m args below meth c H locs cells slots mc ms (F0 m pc ls st0) rest (va_Qv post B A1 a) (vx_X px BX AX) free) (hS : va_S A0 H0 H locs) (hA : ∀ q, q < H.size → A1 q → A0 q) (hf : ∀ q, free q → A0 q) (hAX : ∀ q, q < H.size → AX q → A0 q)
    (kx : ∀ (E : String) (ce : Cell) (q9 : Addr) (u : SX) (t : State) (H1 : Heap) (locs1 : List Loc), t.heap = H1 → s.vm.Alike t.vm → px u → BX E u t → H.size ≤ H1.size → (∀ q : Nat, q < H.size → ¬ AX q → H1[q]? = H[q]?) → va_S A0 H0 H1 locs1 → H1[q9]? = some ce → ce.vm = .none → s.vm.findClass E = some ce.cls → vx_W p l e R s m args below meth c H1 locs1 (cells + mc) (slots + ms) Q (F0 m pc ls rest) q9)
    (kk : ∀ (u : S) (t : State) (H1 : Heap) (locs1 : List Loc), t.heap = H1 → s.vm.Alike t.vm → post u → B u t → H.size ≤ H1.size → (∀ q : Nat, q < H.size → ¬ A1 q → H1[q]? = H[q]?) → va_S A0 H0 H1 locs1 → W p l e R s m args below meth c H1 locs1 (cells + mc) (slots + ms) Q (F0 m (pc + 3) ls (rest))) : W p l e R s m args below meth c H locs cells slots Q (F0 m pc ls st0) := by
  intro T hT X
  rcases hr T hT X with ⟨v, st₀, t, T', L, h0, X', hL, e1, e2, ⟨⟨u, hv, hp, hb⟩, hF⟩, st⟩ | ⟨q, st₀, t, T', L, E, ce, h0, X', hL, e1, e2, ⟨u, hp, hb, hF⟩, hce, hcv, hcl, st⟩
  · cases hv
    obtain ⟨k1, k2, k3⟩ := vx_keep h0 e1 hS hA hf hL hF
    obtain ⟨t2, a1, b1⟩ := kk u t T'.heap (locs ++ L) e1.symm (by rw [← e2]; exact X'.warmed.alike) hp hb k1 k2 k3 T' rfl X'
    exact ⟨t2, st t2 a1, b1⟩
  · obtain ⟨k1, k2, k3⟩ := vx_keep h0 e1 hS hAX hf hL hF
    obtain ⟨t2, a1, b1⟩ := kx E ce q u t T'.heap (locs ++ L) e1.symm (by rw [← e2]; exact X'.warmed.alike) hp hb k1 k2 k3 (by rw [e1]; exact hce) hcv hcl T' rfl X'
    exact ⟨t2, st.trans a1, b1⟩
/-- caught by the row x of this method's table; the rows ahead don't take it -/
theorem vx_catch {own name : String} {E : String} {ce : Cell} {q : Addr} (hown : s.vm.findClass own = some m.cls) (pre : List ExceptionTableEntry) (x : ExceptionTableEntry) (suf : List ExceptionTableEntry) (hsplit : c.exceptionTable.toList = pre ++ x :: suf)
    (hpass : ∀ z ∈ pre, covers z pc = false ∨ (z.catchType ≠ 0 ∧ ∃ nm : String, (Cond.classLink own z.catchType nm).before args s = true ∧ va_Nc E nm s)) (hx : covers x pc = true) (h0 : x.catchType ≠ 0)
    (hlink : (Cond.classLink own x.catchType name).before args s = true) (hcast : (Cond.castable E name).before args s = true) (hcell : H[q]? = some ce) (hv : ce.vm = .none) (hcl : s.vm.findClass E = some ce.cls)
    (kk : W p l e R s m args below meth c H locs cells slots Q (F0 m x.handlerPc ls [.ref q])) : vx_W p l e R s m args below meth c H locs cells slots Q (F0 m pc ls rest) q := by
  intro T hT X
  have hpl : e.platform.magicAccessors = ({} : Platform).magicAccessors := by rw [X.admits.platform]
  obtain ⟨c3, c4, hc3, hc4, hasg⟩ := Cond.castable_spec hcast
  cases Option.some.inj (hc3.symm.trans hcl)
  obtain ⟨c5, hc5, hcl5⟩ := Cond.classLink_spec hown hlink e.platform hpl
  cases Option.some.inj (hc4.symm.trans hc5)
  obtain ⟨vm', X', st⟩ := X.thenCaughtThrough q (g := F0 m pc ls rest) rfl (Steps.refl _) (by rw [hT]; exact hcell) (by rw [hv]; rfl) (by obtain ⟨k9, h9, -⟩ := Vm.findClass_spec hcl; exact ⟨k9, h9⟩) pre x suf hsplit
    (fun z hz => by
      rcases hpass z hz with h | ⟨hz0, nm, hl1, hn1⟩
      · exact Or.inl h
      · obtain ⟨c6, hc6, hcl6⟩ := Cond.classLink_spec hown hl1 e.platform hpl
        obtain ⟨a8, b8, h1, h2, h3⟩ := hn1
        cases Option.some.inj (h1.symm.trans hcl)
        cases Option.some.inj (h2.symm.trans hc6)
        exact Or.inr ⟨hz0, _, hcl6, h3⟩) hx (Or.inr ⟨h0, c4, hcl5, hasg⟩)
  obtain ⟨t, a1, b1⟩ := kk (T.setVm vm') hT X'
  exact ⟨t, st.trans a1, b1⟩
end Rows
section Ends
variable {p : Program} {l : Launch} {e : Env} {R : Room} {s : State} {m : MethodId} {args : Array Value} {below : List Frame} {meth : Method} {c : Code} {H : Heap} {locs : List Loc} {cells slots : Nat} {Q : State → Prop}
variable {mc ms : Nat} {free : Addr → Prop} {A0 A1 : Nat → Prop} {H0 : Heap} {a : Array Value} {ls : Array Slot} {st0 rest : List Value}
variable {Qc : Array Value → State → Outcome → State → Prop} {XC : String → State → State → Prop}
/-- what a body that may throw owes at its end -/
def vx_MQ (below : List Frame) (Qc : Array Value → State → Outcome → State → Prop) (XC : String → State → State → Prop) (a : Array Value) (s : State) (mc ms : Nat) (free : Addr → Prop) : State → Prop := fun t =>
  ∃ o, t.status = .running ∧ Ended t below o ∧ vx_Q Qc XC mc ms free a s o t
theorem vx_ret {g : JFrame} {mc ms : Nat} (k : W p l e R s m args below meth c H locs cells slots (MQ below Qc args s mc ms free) g) : W p l e R s m args below meth c H locs cells slots (vx_MQ below Qc XC args s mc ms free) g := by
  intro T hT X
  obtain ⟨t, a1, o, b1, b2, b3, b4⟩ := k T hT X
  exact ⟨t, a1, o, b1, b2, Or.inl ⟨b3, b4⟩⟩
/-- not caught here: it goes on to the caller -/
theorem vx_widen {g : JFrame} {q : Addr} {k n : Nat} (h1 : cells ≤ k) (h2 : slots ≤ n) (kk : vx_W p l e R s m args below meth c H locs k n Q g q) : vx_W p l e R s m args below meth c H locs cells slots Q g q := fun T hT X => kk T hT (stand_widen X h1 h2)
theorem vx_out {pc : Nat} {E : String} {ce : Cell} {q : Addr} {mc ms : Nat} (hout : ∀ x ∈ c.exceptionTable.toList, covers x pc = false) (hlocks : meth.locks = false) (hcell : H[q]? = some ce) (hv : ce.vm = .none) (hcl : s.vm.findClass E = some ce.cls)
    (hx : ∀ t : State, t.heap = H → s.vm.Alike t.vm → XC E s t) (hf : ∀ z ∈ locs, free z.base) (hc : cells ≤ mc) (hs : slots ≤ ms) :
    vx_W p l e R s m args below meth c H locs cells slots (vx_MQ below Qc XC args s mc ms free) (F0 m pc ls rest) q := by
  intro T hT X
  obtain ⟨st1, hrun, hend, hW, hsm⟩ := X.leaveThrown q (g := F0 m pc ls rest) rfl rfl rfl hout hlocks
  have hcell9 : (T.setFrames (.throwing q :: below)).heap[q]? = some ce := by
    show T.heap[q]? = some ce
    rw [hT]; exact hcell
  exact ⟨_, st1, .threw q, hrun, hend, Or.inr ⟨q, rfl, E, ce, locs, hx _ hT hW.alike, hcell9, hv, hcl, hW, hsm.mono hc hs, hf⟩⟩
theorem vx_frame {U : State} {k n : Nat} (h : s.sameButNew ({ U with vm := s.vm } : State) locs k n) : s.heap.size ≤ U.heap.size ∧ ∀ q : Nat, q < s.heap.size → (∀ z ∈ locs, z.base ≠ q) → U.heap[q]? = s.heap[q]? := by
  obtain ⟨-, h2, -, -, -, h6⟩ := h
  refine ⟨h2, fun q hq hz => ?_⟩
  obtain ⟨c9, e1, e2, e3, e4⟩ := h6 q _ (Array.getElem?_eq_getElem hq)
  have hs : c9.slots = (s.heap[q]).slots := Array.ext_getElem? fun i => e4 i fun hm => hz _ hm rfl
  have h9 : c9 = s.heap[q] := by
    rw [hs] at e2
    exact e2
  have e5 : U.heap[q]? = some c9 := e1
  rw [e5, h9, Array.getElem?_eq_getElem hq]
/-- the words of a throw but the four that speak of the heap -/
def vx_no (w : Cond) : Bool := decide (w ≠ .isRef (.static Bundle.tN "UNASSIGNED_STACK" Bundle.steD)) && decide (w ≠ .isRef (.static Bundle.tN "SUPPRESSED_SENTINEL" Bundle.listD)) && decide (w ≠ .laysStatic Bundle.tN "UNASSIGNED_STACK" Bundle.steD) && decide (w ≠ .laysStatic Bundle.tN "SUPPRESSED_SENTINEL" Bundle.listD)
def vx_at0 (own : String) (ic : Nat) (X : String) (names : List String) : List Cond := (Bundle.ownAtoms0 own ic X names).filter vx_no
def vx_atS (own : String) (ic : Nat) (X : String) (names : List String) : List Cond := (Bundle.ownAtoms own ic X names).filter vx_no
/-- a word that the tables alone decide, or a good one -/
def vx_ot (w : Cond) : Bool := w.onTables || goodWord w
theorem vx_ot_at {args a' : Array Value} {s U : State} {w : Cond} (hW : s.WarmedH U.vm) (hvm : s.vm = U.vm) (hg : vx_ot w = true) (h : w.before args s = true) : w.before a' U = true := by
  simp only [vx_ot, Bool.or_eq_true] at hg
  rcases hg with hg | hg
  · exact va_tabs hg hvm h
  · exact word_at hW (good_of_word hg) h
/-- a list's words: the good ones out of the method's own list, the others by premises of their own -/
theorem vx_hat {args : Array Value} {s : State} {L B : List Cond} (h1 : ∀ w ∈ L.filter goodWord, w.before args s = true) (h2 : ∀ w ∈ L.filter (fun w => !goodWord w), w ∈ B) (h3 : ∀ w ∈ B, w.before args s = true) : ∀ w ∈ L, w.before args s = true := by
  intro w hw
  by_cases g : goodWord w = true
  · exact h1 w (List.mem_filter.mpr ⟨hw, g⟩)
  · refine h3 w (h2 w (List.mem_filter.mpr ⟨hw, ?_⟩))
    show (!goodWord w) = true
    cases hgw : goodWord w
    · rfl
    · exact absurd hgw g
theorem vx_c {args : Array Value} {s : State} {w : Cond} {B : List Cond} (h : w.before args s = true) (t : ∀ w ∈ B, w.before args s = true) : ∀ w' ∈ w :: B, w'.before args s = true := fun w' h' => (List.mem_cons.mp h').elim (fun e => by rw [e]; exact h) (t w')
theorem vx_n {args : Array Value} {s : State} : ∀ w ∈ ([] : List Cond), w.before args s = true := fun _ h => nomatch h
theorem vx_own {args : Array Value} {s : State} {L : List Cond} (h1 : ∀ w ∈ L.filter vx_no, w.before args s = true)
    (hU : (Cond.isRef (.static Bundle.tN "UNASSIGNED_STACK" Bundle.steD)).before args s = true) (hN : (Cond.isRef (.static Bundle.tN "SUPPRESSED_SENTINEL" Bundle.listD)).before args s = true)
    (lU : (Cond.laysStatic Bundle.tN "UNASSIGNED_STACK" Bundle.steD).before args s = true) (lN : (Cond.laysStatic Bundle.tN "SUPPRESSED_SENTINEL" Bundle.listD).before args s = true) : ∀ w ∈ L, w.before args s = true := by
  intro w hw
  by_cases e1 : w = .isRef (.static Bundle.tN "UNASSIGNED_STACK" Bundle.steD)
  · rw [e1]; exact hU
  · by_cases e2 : w = .isRef (.static Bundle.tN "SUPPRESSED_SENTINEL" Bundle.listD)
    · rw [e2]; exact hN
    · by_cases e3 : w = .laysStatic Bundle.tN "UNASSIGNED_STACK" Bundle.steD
      · rw [e3]; exact lU
      · by_cases e4 : w = .laysStatic Bundle.tN "SUPPRESSED_SENTINEL" Bundle.listD
        · rw [e4]; exact lN
        · exact h1 w (List.mem_filter.mpr ⟨hw, by unfold vx_no; rw [decide_eq_true e1, decide_eq_true e2, decide_eq_true e3, decide_eq_true e4]; rfl⟩)
/-- where a static field lies, its class's statics cell in H -/
def vx_L (C n d : String) (A : Nat → Prop) (U : State) (H : Heap) : Prop := ∃ (c : ClassId) (k : Class) (i : Nat) (f : Field) (a : Nat) (cell : Cell), U.vm.findClass C = some c ∧ U.fieldFound? C n d = some (c, k, i, f) ∧ f.isStatic = true ∧ k.statics = some a ∧ H[a]? = some cell ∧ cell.vm.isStatics = true ∧ cell.cls = c ∧ f.slot < cell.slots.size ∧ k.staticTypes[f.slot]? = some f.type ∧ ¬ A a
theorem vx_L.moved {C n d : String} {A : Nat → Prop} {u U : State} {H : Heap} (hvm : u.vm.Alike U.vm) (h : vx_L C n d A u H) : vx_L C n d A U H := by
  obtain ⟨c, k, i, f, a, cell, h1, h2, h3, h4, h5, h6, h7, h8, h9, h10⟩ := h
  obtain ⟨k', hi', he⟩ := State.fieldFound?_setVm hvm h2
  exact ⟨c, k', i, f, a, cell, by rw [hvm.findClass]; exact h1, hi', h3, by rw [he]; exact h4, h5, h6, h7, h8, by rw [he]; exact h9, h10⟩
theorem vx_L.kept {C n d : String} {A : Nat → Prop} {U : State} {H H1 : Heap} (h : vx_L C n d A U H) (hq : ∀ a : Nat, a < H.size → ¬ A a → H1[a]? = H[a]?) : vx_L C n d A U H1 := by
  obtain ⟨c, k, i, f, a, cell, h1, h2, h3, h4, h5, h6, h7, h8, h9, h10⟩ := h
  exact ⟨c, k, i, f, a, cell, h1, h2, h3, h4, by rw [hq a (Array.getElem?_eq_some_iff.mp h5).1 h10]; exact h5, h6, h7, h8, h9, h10⟩
theorem vx_L.narrow {C n d : String} {A B : Nat → Prop} {U : State} {H : Heap} (h : vx_L C n d A U H) (hAB : ∀ q, B q → A q) : vx_L C n d B U H := by
  obtain ⟨c, k, i, f, a, cell, h1, h2, h3, h4, h5, h6, h7, h8, h9, h10⟩ := h
  exact ⟨c, k, i, f, a, cell, h1, h2, h3, h4, h5, h6, h7, h8, h9, fun z => h10 (hAB _ z)⟩
theorem vx_L.word {C n d : String} {A : Nat → Prop} {s : State} {args : Array Value} (h : vx_L C n d A s s.heap) : (Cond.laysStatic C n d).before args s = true := by
  obtain ⟨c, k, i, f, a, cell, h1, h2, h3, h4, h5, h6, h7, h8, h9, -⟩ := h
  show (Cond.laysStatic C n d).holds args s none s [] = true
  exact Cond.laysStatic_of h1 h2 h3 h4 h5 h6 h7 h8 h9
/-- .. and what it holds: null or some reference -/
def vx_Zq (C n d : String) (A : Nat → Prop) (U : State) (H : Heap) : Prop := va_Zq C n d A U H ∧ vx_L C n d A U H
theorem vx_Zq.moved {C n d : String} {A : Nat → Prop} {u U : State} {H : Heap} (hvm : u.vm.Alike U.vm) (h : vx_Zq C n d A u H) : vx_Zq C n d A U H := ⟨va_Zq.moved hvm h.1, vx_L.moved hvm h.2⟩
theorem vx_Zq.kept {C n d : String} {A : Nat → Prop} {U : State} {H H1 : Heap} (h : vx_Zq C n d A U H) (hq : ∀ a : Nat, a < H.size → ¬ A a → H1[a]? = H[a]?) : vx_Zq C n d A U H1 := ⟨va_Zq.kept h.1 hq, vx_L.kept h.2 hq⟩
theorem vx_Zq.narrow {C n d : String} {A B : Nat → Prop} {U : State} {H : Heap} (h : vx_Zq C n d A U H) (hAB : ∀ q, B q → A q) : vx_Zq C n d B U H := ⟨va_Zq.narrow h.1 hAB, vx_L.narrow h.2 hAB⟩
theorem vx_Zqof {args : Array Value} {s : State} {C n d : String} {A : Nat → Prop} (hl : (Cond.laysStatic C n d).before args s = true) (hini : (Cond.initialized C).before args s = true) (h : (Cond.isRef (.static C n d)).before args s = true) (hA : ∀ a : Nat, a < s.heap.size → ¬ A a) : vx_Zq C n d A s s.heap := by
  refine ⟨va_Zqof hl hini h hA, ?_⟩
  obtain ⟨c, k, i, f, a, cell, h1, h2, h3, h4, h5, h6, h7, h8, h9⟩ := Cond.laysStatic_spec hl
  exact ⟨c, k, i, f, a, cell, h1, h2, h3, h4, h5, h6, h7, h8, h9, hA a (Array.getElem?_eq_some_iff.mp h5).1⟩
theorem vx_isRef {C n d : String} {v : Value} {A : Nat → Prop} {s : State} {args : Array Value} (h : va_Z C n d v A s s.heap) (hv : v.isRef = true) : (Cond.isRef (.static C n d)).before args s = true := by
  obtain ⟨cf, kf, fi, f, a, cell, h1, h2, h3, h4, h5, h6, h7, -⟩ := h
  have he : (Term.static C n d).eval args s none [] s = some v := by
    simp [Term.eval, State.fieldNamed?, h1, h2, h4, h5, h6, h7]
  simp only [Cond.before, Cond.holds, Cond.value, he]
  cases v <;> simp_all [Value.isRef]
theorem vx_isRefq {C n d : String} {A : Nat → Prop} {s : State} {args : Array Value} (h : va_Zq C n d A s s.heap) : (Cond.isRef (.static C n d)).before args s = true := by
  rcases h with h | ⟨t, h⟩
  · exact vx_isRef h rfl
  · exact vx_isRef h rfl
/-- the same frame, seen from here: as if the method were called anew in this heap -/
theorem vx_rebase {T : State} (X : Stand p l e R s m args below meth c T locs cells slots) {R' : Room} (hf : R'.frames ≤ R.frames) (hl : R'.locals ≤ R.locals) (hc : cells + R'.cells ≤ R.cells) (hs : slots + R'.slots ≤ R.slots) :
    Stand p l e R' ((T.setVm s.vm).setFrames (.invoking m args :: below)) m args below meth c T [] 0 0 := by
  have htop : (T.setVm s.vm).topJava?.isSome := X.here.top
  have hF : ((T.setVm s.vm).setFrames (.invoking m args :: below)).frames = .invoking m args :: below := State.frames_setFrames _ (State.cur_lt_of_top htop)
  obtain ⟨g₀, hg0⟩ := Option.isSome_iff_exists.mp htop
  obtain ⟨r, hr⟩ := State.topJava?_eq_some.mp hg0
  have hl9 : e.platform.stackLimits (T.setVm s.vm).me = e.platform.stackLimits s.me := X.limits
  have hb9 : (T.setVm s.vm).me.stackBytes = s.me.stackBytes := X.bytes
  refine ⟨X.admits, X.cas, X.clock, hF, ?_, X.hears, X.method, X.code, X.here, X.tail, X.warmed, ?_, ?_, ?_⟩
  · have h := X.room
    have hU : ((T.setVm s.vm).setFrames (.invoking m args :: below)).localsInUse = s.localsInUse := by
      rw [State.localsInUse_invoking hF (meth := meth) (c := c) X.method X.code, State.localsInUse_invoking X.frames X.method X.code]
    simp only [State.hasRoom, Bool.and_eq_true, decide_eq_true_eq] at h ⊢
    obtain ⟨⟨⟨⟨h1, h2, h3, h4, h5, h6⟩, h7⟩, h8⟩, h9⟩ := h
    rw [X.frames, List.length_cons] at h2 h3
    have q1 := X.heapSize
    have q2 := X.used
    simp only [hF, hU, List.length_cons, State.stackLimits_setFrames, State.stackBytes_setFrames, hl9, hb9]
    refine ⟨⟨⟨⟨by omega, by omega, by omega, by omega, by omega, h6⟩, ?_⟩, ?_⟩, X.book⟩
    · show T.heap.size + R'.cells ≤ e.platform.maxCells
      omega
    · show T.slotsUsed + R'.slots ≤ e.platform.maxSlots
      omega
  · rw [State.stackLimits_setFrames]; rfl
  · rw [State.stackBytes_setFrames]; rfl
  · refine ⟨?_, Nat.le_refl _, Nat.le_refl _, ?_, ?_, fun a c9 h9 => ⟨c9, h9, rfl, rfl, fun _ _ => rfl⟩⟩
    · obtain ⟨t, ht, -⟩ := State.frames_cons hr
      show T.setVm s.vm = { ((T.setVm s.vm).setFrames (.invoking m args :: below)).setFrames (T.setVm s.vm).frames with heap := T.heap, slotsUsed := T.slotsUsed }
      rw [State.setFrames_setFrames, State.setFrames_self ht]
      rfl
    · show T.slotsUsed = T.slotsUsed + ((T.heap.toList.drop T.heap.size).map (·.slots.size)).sum
      rw [List.drop_eq_nil_of_le (Nat.le_of_eq Array.length_toList)]
      rfl
    · show ((T.heap.toList.drop T.heap.size).map (·.slots.size)).sum ≤ 0
      rw [List.drop_eq_nil_of_le (Nat.le_of_eq Array.length_toList)]
      exact Nat.le_refl _
/-- 'throw new E()': new; dup; invokespecial; athrow -/
theorem vx_throw0 {cc : ByteArray} {pc : Nat} (hexec : p.tables.exec = Jvm.exec) (hb : c.code = cc) (hl : l.stackTraces = false) {own cls : String} {names : List String} {ik ic mc ms : Nat} {A : Nat → Prop}
    (hown : s.vm.findClass own = some m.cls) (hcls : Bundle.fit cls = true) (hnames : ∀ n ∈ names, Bundle.fit n = true)
    (hk : (Cond.classLink own ik cls).before args s = true) (hini : (Cond.initialized cls).before args s = true) (hat : ∀ w ∈ vx_at0 own ic cls names, w.before args s = true)
    (hgood : ∀ w ∈ Cond.classLink own ik cls :: Cond.initialized cls :: vx_at0 own ic cls names, vx_ot w = true)
    (hU : vx_Zq Bundle.tN "UNASSIGNED_STACK" Bundle.steD A s s.heap) (hN : vx_Zq Bundle.tN "SUPPRESSED_SENTINEL" Bundle.listD A s s.heap) (hS : va_S A s.heap H locs) (hsize : ls.size = c.maxLocals)
    (d0 : decode cc pc = .ok (.new ik, 3)) (d3 : decode cc (pc + 3) = .ok (.dup, 1)) (d4 : decode cc (pc + 4) = .ok (.invokespecial ic, 3)) (d7 : decode cc (pc + 7) = .ok (.athrow, 1))
    (hout : ∀ x ∈ c.exceptionTable.toList, covers x (pc + 7) = false)
    (hRframes : names.length + 3 < R.frames) (hRlocals : (rest.map fun v => v.category).sum + (13 * (names.length + 1) + 42) ≤ R.locals) (hRcells : cells + 1 ≤ R.cells) (hRslots : slots + 6 ≤ R.slots) (hlocks : meth.locks = false)
    (hx : ∀ t : State, s.vm.Alike t.vm → H.size ≤ t.heap.size → (∀ q : Nat, q < H.size → t.heap[q]? = H[q]?) → XC cls s t)
    (hf : ∀ z ∈ locs, free z.base) (hc : cells + 1 ≤ mc) (hs : slots + 6 ≤ ms) :
    W p l e R s m args below meth c H locs cells slots (vx_MQ below Qc XC args s mc ms free) (F0 m pc ls rest) := by
  intro T hT X
  have htr : e.platform.stackTraces = false := (show e.platform.stackTraces = l.stackTraces by rw [X.admits.platform]).trans hl
  have Y := vx_rebase X (R' := { frames := R.frames, locals := R.locals, cells := 1, slots := 6 }) (Nat.le_refl _) (Nat.le_refl _) hRcells hRslots
  obtain ⟨s', hA⟩ : ∃ z, z = (T.setVm s.vm).setFrames (.invoking m args :: below) := ⟨_, rfl⟩
  rw [← hA] at Y
  have hvm : s'.vm = s.vm := by rw [hA]; rfl
  have hhp : s'.heap = H := by rw [hA]; exact hT
  have hW0 : s.WarmedH s'.vm := by rw [hvm]; exact State.WarmedH.refl s
  have hat' : ∀ w ∈ vx_at0 own ic cls names, w.before args s' = true := fun w hw => vx_ot_at hW0 hvm.symm (hgood w (List.mem_cons_of_mem _ (List.mem_cons_of_mem _ hw))) (hat w hw)
  have hk' : (Cond.classLink own ik cls).before args s' = true := vx_ot_at hW0 hvm.symm (hgood _ List.mem_cons_self) hk
  have hini' : (Cond.initialized cls).before args s' = true := vx_ot_at hW0 hvm.symm (hgood _ (List.mem_cons_of_mem _ List.mem_cons_self)) hini
  have hU' : vx_Zq Bundle.tN "UNASSIGNED_STACK" Bundle.steD A s' s'.heap := by rw [hhp]; exact vx_Zq.moved hW0.alike (hU.kept hS.2.1)
  have hN' : vx_Zq Bundle.tN "SUPPRESSED_SENTINEL" Bundle.listD A s' s'.heap := by rw [hhp]; exact vx_Zq.moved hW0.alike (hN.kept hS.2.1)
  have h : ∀ w ∈ Bundle.ownAtoms0 own ic cls names, w.before args s' = true := vx_own hat' (vx_isRefq hU'.1) (vx_isRefq hN'.1) hU'.2.word hN'.2.word
  have hown' : s'.vm.findClass own = some m.cls := by rw [hvm]; exact hown
  have hins : (Cond.instantiable cls 6).before args s' = true := h _ (by simp [Bundle.ownAtoms0])
  obtain ⟨vm₁, cX, kX, hfX, hkX, -, -, X₁, st1⟩ := Y.newCold hexec (own := own) (C := cls) (index := ik) (n := 6) hown' hk' hins hini'
    (g := F0 m pc ls rest) rfl (by rw [hb]; exact d0) (Nat.le_refl _) (Nat.le_refl _)
  generalize hT1 : (T.setVm vm₁).pushCell { cls := cX, slots := kX.instanceTypes.map defaultValue, vm := .none } = T1 at X₁ st1
  have hcat : (Value.ref T.heap.size).category = 1 := rfl
  have hcellA : T1.heap[T.heap.size]? = some (freshCell cX kX) := by rw [← hT1]; exact State.heap_pushCell_size _ _
  have d3' : decode c.code (pc + 3) = .ok (.dup, 1) := by rw [hb]; exact d3
  obtain ⟨U, hsteps, hrun, hend, hW, hsame, ce, hce, hO⟩ := X₁.ctorThrow0 hexec htr (own := own) (cls := cls) (names := names) (ic := ic) hown' hcls hnames h (fun x hx => nomatch hx) hfX hkX hcellA (by rw [hhp, hT]; exact Nat.le_refl _)
    (g := { method := m, pc := pc + 4, locals := ls, stack := .ref T.heap.size :: .ref T.heap.size :: rest, locked := none }) rfl hsize rfl rfl (rest := rest) rfl
    (by rw [hb]; exact d4) (by rw [hb]; exact d7) hout hRframes (by simp only [List.map_cons, List.sum_cons, hcat]; omega) hlocks
  obtain ⟨f1, f2⟩ := vx_frame hsame
  rw [hhp] at f1 f2
  have hWs : s.WarmedH U.vm := State.WarmedH.trans hW0 hW
  have hcl : s.vm.findClass cls = some ce.cls := by
    have h9 := hO.cls
    rw [hvm] at h9
    exact h9
  have hall : s.sameButNew ({ U with vm := s.vm } : State) locs mc ms := by
    subst hA
    obtain ⟨e1, e2⟩ := hsame
    rw [State.setFrames_setFrames] at e1
    have h2 : (T.setVm s.vm).sameButNew ({ U with vm := s.vm } : State) [] (0 + 1) (0 + 6) := ⟨e1, e2⟩
    have h3 := X.same.trans h2
    rw [List.append_nil] at h3
    exact h3.mono hc hs
  refine ⟨U, ?_, .threw T.heap.size, hrun, hend, Or.inr ⟨T.heap.size, rfl, cls, ce, locs, hx U hWs.alike f1 (fun q hq => f2 q hq (fun z hz => nomatch hz)), hce, hO.vm, hcl, hWs, hall, hf⟩⟩
  refine st1 _ ?_
  show Steps p.tables e below (T1.setTop { method := m, pc := pc + 3, locals := ls, stack := .ref T.heap.size :: rest, locked := none }) _
  jvm_step X₁.here [X₁.here.top, hexec, d3', Value.category]
  exact hsteps
/-- 'throw new E("text")': new; dup; ldc; invokespecial; athrow -/
theorem vx_throwS {cc : ByteArray} {pc : Nat} (hexec : p.tables.exec = Jvm.exec) (hb : c.code = cc) (hl : l.stackTraces = false) {own cls text : String} {names : List String} {ik is ic mc ms sa : Nat} {A : Nat → Prop}
    (hown : s.vm.findClass own = some m.cls) (hcls : Bundle.fit cls = true) (hnames : ∀ n ∈ names, Bundle.fit n = true)
    (hk : (Cond.classLink own ik cls).before args s = true) (hini : (Cond.initialized cls).before args s = true) (hstr : vk_R own is text sa s) (hat : ∀ w ∈ vx_atS own ic cls names, w.before args s = true)
    (hgood : ∀ w ∈ Cond.classLink own ik cls :: Cond.initialized cls :: vx_atS own ic cls names, vx_ot w = true)
    (hU : vx_Zq Bundle.tN "UNASSIGNED_STACK" Bundle.steD A s s.heap) (hN : vx_Zq Bundle.tN "SUPPRESSED_SENTINEL" Bundle.listD A s s.heap) (hS : va_S A s.heap H locs) (hsize : ls.size = c.maxLocals)
    (d0 : decode cc pc = .ok (.new ik, 3)) (d3 : decode cc (pc + 3) = .ok (.dup, 1)) (d4 : decode cc (pc + 4) = .ok (.ldc is, 2)) (d6 : decode cc (pc + 6) = .ok (.invokespecial ic, 3)) (d9 : decode cc (pc + 9) = .ok (.athrow, 1))
    (hout : ∀ x ∈ c.exceptionTable.toList, covers x (pc + 9) = false)
    (hRframes : names.length + 3 < R.frames) (hRlocals : (rest.map fun v => v.category).sum + (13 * (names.length + 1) + 43) ≤ R.locals) (hRcells : cells + 1 ≤ R.cells) (hRslots : slots + 6 ≤ R.slots) (hlocks : meth.locks = false)
    (hx : ∀ t : State, s.vm.Alike t.vm → H.size ≤ t.heap.size → (∀ q : Nat, q < H.size → t.heap[q]? = H[q]?) → XC cls s t)
    (hf : ∀ z ∈ locs, free z.base) (hc : cells + 1 ≤ mc) (hs : slots + 6 ≤ ms) :
    W p l e R s m args below meth c H locs cells slots (vx_MQ below Qc XC args s mc ms free) (F0 m pc ls rest) := by
  intro T hT X
  have htr : e.platform.stackTraces = false := (show e.platform.stackTraces = l.stackTraces by rw [X.admits.platform]).trans hl
  have Y := vx_rebase X (R' := { frames := R.frames, locals := R.locals, cells := 1, slots := 6 }) (Nat.le_refl _) (Nat.le_refl _) hRcells hRslots
  obtain ⟨s', hA⟩ : ∃ z, z = (T.setVm s.vm).setFrames (.invoking m args :: below) := ⟨_, rfl⟩
  rw [← hA] at Y
  have hvm : s'.vm = s.vm := by rw [hA]; rfl
  have hhp : s'.heap = H := by rw [hA]; exact hT
  have hW0 : s.WarmedH s'.vm := by rw [hvm]; exact State.WarmedH.refl s
  have hat' : ∀ w ∈ vx_atS own ic cls names, w.before args s' = true := fun w hw => vx_ot_at hW0 hvm.symm (hgood w (List.mem_cons_of_mem _ (List.mem_cons_of_mem _ hw))) (hat w hw)
  have hk' : (Cond.classLink own ik cls).before args s' = true := vx_ot_at hW0 hvm.symm (hgood _ List.mem_cons_self) hk
  have hini' : (Cond.initialized cls).before args s' = true := vx_ot_at hW0 hvm.symm (hgood _ (List.mem_cons_of_mem _ List.mem_cons_self)) hini
  have hU' : vx_Zq Bundle.tN "UNASSIGNED_STACK" Bundle.steD A s' s'.heap := by rw [hhp]; exact vx_Zq.moved hW0.alike (hU.kept hS.2.1)
  have hN' : vx_Zq Bundle.tN "SUPPRESSED_SENTINEL" Bundle.listD A s' s'.heap := by rw [hhp]; exact vx_Zq.moved hW0.alike (hN.kept hS.2.1)
  have h : ∀ w ∈ Bundle.ownAtoms own ic cls names, w.before args s' = true := vx_own hat' (vx_isRefq hU'.1) (vx_isRefq hN'.1) hU'.2.word hN'.2.word
  have hown' : s'.vm.findClass own = some m.cls := by rw [hvm]; exact hown
  have hins : (Cond.instantiable cls 6).before args s' = true := h _ (by simp [Bundle.ownAtoms])
  obtain ⟨vm₁, cX, kX, hfX, hkX, -, -, X₁, st1⟩ := Y.newCold hexec (own := own) (C := cls) (index := ik) (n := 6) hown' hk' hins hini'
    (g := F0 m pc ls rest) rfl (by rw [hb]; exact d0) (Nat.le_refl _) (Nat.le_refl _)
  generalize hT1 : (T.setVm vm₁).pushCell { cls := cX, slots := kX.instanceTypes.map defaultValue, vm := .none } = T1 at X₁ st1
  have hcat : (Value.ref T.heap.size).category = 1 := rfl
  have hcellA : T1.heap[T.heap.size]? = some (freshCell cX kX) := by rw [← hT1]; exact State.heap_pushCell_size _ _
  have d3' : decode c.code (pc + 3) = .ok (.dup, 1) := by rw [hb]; exact d3
  have d4' : decode c.code (pc + 4) = .ok (.ldc is, 2) := by rw [hb]; exact d4
  have hstr' : vk_R own is text sa s' := vk_R.warm hW0 hstr
  obtain ⟨U, hsteps, hrun, hend, hW, hsame, ce, hce, hO⟩ := X₁.ctorThrowS hexec htr (own := own) (cls := cls) (names := names) (ic := ic) hown' hcls hnames h (fun x hx => nomatch hx) hfX hkX hcellA (by rw [hhp, hT]; exact Nat.le_refl _) (msg := .ref sa) rfl
    (g := { method := m, pc := pc + 6, locals := ls, stack := .ref sa :: .ref T.heap.size :: .ref T.heap.size :: rest, locked := none }) rfl hsize rfl rfl (rest := rest) rfl
    (by rw [hb]; exact d6) (by rw [hb]; exact d9) hout hRframes (by simp only [List.map_cons, List.sum_cons, hcat]; omega) hlocks
  obtain ⟨f1, f2⟩ := vx_frame hsame
  rw [hhp] at f1 f2
  have hWs : s.WarmedH U.vm := State.WarmedH.trans hW0 hW
  have hcl : s.vm.findClass cls = some ce.cls := by
    have h9 := hO.cls
    rw [hvm] at h9
    exact h9
  have hall : s.sameButNew ({ U with vm := s.vm } : State) locs mc ms := by
    subst hA
    obtain ⟨e1, e2⟩ := hsame
    rw [State.setFrames_setFrames] at e1
    have h2 : (T.setVm s.vm).sameButNew ({ U with vm := s.vm } : State) [] (0 + 1) (0 + 6) := ⟨e1, e2⟩
    have h3 := X.same.trans h2
    rw [List.append_nil] at h3
    exact h3.mono hc hs
  refine ⟨U, ?_, .threw T.heap.size, hrun, hend, Or.inr ⟨T.heap.size, rfl, cls, ce, locs, hx U hWs.alike f1 (fun q hq => f2 q hq (fun z hz => nomatch hz)), hce, hO.vm, hcl, hWs, hall, hf⟩⟩
  refine st1 _ ?_
  show Steps p.tables e below (T1.setTop { method := m, pc := pc + 3, locals := ls, stack := .ref T.heap.size :: rest, locked := none }) _
  jvm_step X₁.here [X₁.here.top, hexec, d3', Value.category]
  exact X₁.ldcString hexec (own := own) (text := text) (index := is) (a := sa) hown' hstr'.1 hstr'.2
    (g := { method := m, pc := pc + 4, locals := ls, stack := .ref T.heap.size :: .ref T.heap.size :: rest, locked := none }) rfl d4' _ hsteps
/-- 'throw new E("text")', the text by a wide index -/
theorem vx_throwSW {cc : ByteArray} {pc : Nat} (hexec : p.tables.exec = Jvm.exec) (hb : c.code = cc) (hl : l.stackTraces = false) {own cls text : String} {names : List String} {ik is ic mc ms sa : Nat} {A : Nat → Prop}
    (hown : s.vm.findClass own = some m.cls) (hcls : Bundle.fit cls = true) (hnames : ∀ n ∈ names, Bundle.fit n = true)
    (hk : (Cond.classLink own ik cls).before args s = true) (hini : (Cond.initialized cls).before args s = true) (hstr : vk_R own is text sa s) (hat : ∀ w ∈ vx_atS own ic cls names, w.before args s = true)
    (hgood : ∀ w ∈ Cond.classLink own ik cls :: Cond.initialized cls :: vx_atS own ic cls names, vx_ot w = true)
    (hU : vx_Zq Bundle.tN "UNASSIGNED_STACK" Bundle.steD A s s.heap) (hN : vx_Zq Bundle.tN "SUPPRESSED_SENTINEL" Bundle.listD A s s.heap) (hS : va_S A s.heap H locs) (hsize : ls.size = c.maxLocals)
    (d0 : decode cc pc = .ok (.new ik, 3)) (d3 : decode cc (pc + 3) = .ok (.dup, 1)) (d4 : decode cc (pc + 4) = .ok (.ldc_w is, 3)) (d7 : decode cc (pc + 7) = .ok (.invokespecial ic, 3)) (d10 : decode cc (pc + 10) = .ok (.athrow, 1))
    (hout : ∀ x ∈ c.exceptionTable.toList, covers x (pc + 10) = false)
    (hRframes : names.length + 3 < R.frames) (hRlocals : (rest.map fun v => v.category).sum + (13 * (names.length + 1) + 43) ≤ R.locals) (hRcells : cells + 1 ≤ R.cells) (hRslots : slots + 6 ≤ R.slots) (hlocks : meth.locks = false)
    (hx : ∀ t : State, s.vm.Alike t.vm → H.size ≤ t.heap.size → (∀ q : Nat, q < H.size → t.heap[q]? = H[q]?) → XC cls s t)
    (hf : ∀ z ∈ locs, free z.base) (hc : cells + 1 ≤ mc) (hs : slots + 6 ≤ ms) :
    W p l e R s m args below meth c H locs cells slots (vx_MQ below Qc XC args s mc ms free) (F0 m pc ls rest) := by
  intro T hT X
  have htr : e.platform.stackTraces = false := (show e.platform.stackTraces = l.stackTraces by rw [X.admits.platform]).trans hl
  have Y := vx_rebase X (R' := { frames := R.frames, locals := R.locals, cells := 1, slots := 6 }) (Nat.le_refl _) (Nat.le_refl _) hRcells hRslots
  obtain ⟨s', hA⟩ : ∃ z, z = (T.setVm s.vm).setFrames (.invoking m args :: below) := ⟨_, rfl⟩
  rw [← hA] at Y
  have hvm : s'.vm = s.vm := by rw [hA]; rfl
  have hhp : s'.heap = H := by rw [hA]; exact hT
  have hW0 : s.WarmedH s'.vm := by rw [hvm]; exact State.WarmedH.refl s
  have hat' : ∀ w ∈ vx_atS own ic cls names, w.before args s' = true := fun w hw => vx_ot_at hW0 hvm.symm (hgood w (List.mem_cons_of_mem _ (List.mem_cons_of_mem _ hw))) (hat w hw)
  have hk' : (Cond.classLink own ik cls).before args s' = true := vx_ot_at hW0 hvm.symm (hgood _ List.mem_cons_self) hk
  have hini' : (Cond.initialized cls).before args s' = true := vx_ot_at hW0 hvm.symm (hgood _ (List.mem_cons_of_mem _ List.mem_cons_self)) hini
  have hU' : vx_Zq Bundle.tN "UNASSIGNED_STACK" Bundle.steD A s' s'.heap := by rw [hhp]; exact vx_Zq.moved hW0.alike (hU.kept hS.2.1)
  have hN' : vx_Zq Bundle.tN "SUPPRESSED_SENTINEL" Bundle.listD A s' s'.heap := by rw [hhp]; exact vx_Zq.moved hW0.alike (hN.kept hS.2.1)
  have h : ∀ w ∈ Bundle.ownAtoms own ic cls names, w.before args s' = true := vx_own hat' (vx_isRefq hU'.1) (vx_isRefq hN'.1) hU'.2.word hN'.2.word
  have hown' : s'.vm.findClass own = some m.cls := by rw [hvm]; exact hown
  have hins : (Cond.instantiable cls 6).before args s' = true := h _ (by simp [Bundle.ownAtoms])
  obtain ⟨vm₁, cX, kX, hfX, hkX, -, -, X₁, st1⟩ := Y.newCold hexec (own := own) (C := cls) (index := ik) (n := 6) hown' hk' hins hini'
    (g := F0 m pc ls rest) rfl (by rw [hb]; exact d0) (Nat.le_refl _) (Nat.le_refl _)
  generalize hT1 : (T.setVm vm₁).pushCell { cls := cX, slots := kX.instanceTypes.map defaultValue, vm := .none } = T1 at X₁ st1
  have hcat : (Value.ref T.heap.size).category = 1 := rfl
  have hcellA : T1.heap[T.heap.size]? = some (freshCell cX kX) := by rw [← hT1]; exact State.heap_pushCell_size _ _
  have d3' : decode c.code (pc + 3) = .ok (.dup, 1) := by rw [hb]; exact d3
  have d4' : decode c.code (pc + 4) = .ok (.ldc_w is, 3) := by rw [hb]; exact d4
  have hstr' : vk_R own is text sa s' := vk_R.warm hW0 hstr
  obtain ⟨U, hsteps, hrun, hend, hW, hsame, ce, hce, hO⟩ := X₁.ctorThrowS hexec htr (own := own) (cls := cls) (names := names) (ic := ic) hown' hcls hnames h (fun x hx => nomatch hx) hfX hkX hcellA (by rw [hhp, hT]; exact Nat.le_refl _) (msg := .ref sa) rfl
    (g := { method := m, pc := pc + 7, locals := ls, stack := .ref sa :: .ref T.heap.size :: .ref T.heap.size :: rest, locked := none }) rfl hsize rfl rfl (rest := rest) rfl
    (by rw [hb]; exact d7) (by rw [hb]; exact d10) hout hRframes (by simp only [List.map_cons, List.sum_cons, hcat]; omega) hlocks
  obtain ⟨f1, f2⟩ := vx_frame hsame
  rw [hhp] at f1 f2
  have hWs : s.WarmedH U.vm := State.WarmedH.trans hW0 hW
  have hcl : s.vm.findClass cls = some ce.cls := by
    have h9 := hO.cls
    rw [hvm] at h9
    exact h9
  have hall : s.sameButNew ({ U with vm := s.vm } : State) locs mc ms := by
    subst hA
    obtain ⟨e1, e2⟩ := hsame
    rw [State.setFrames_setFrames] at e1
    have h2 : (T.setVm s.vm).sameButNew ({ U with vm := s.vm } : State) [] (0 + 1) (0 + 6) := ⟨e1, e2⟩
    have h3 := X.same.trans h2
    rw [List.append_nil] at h3
    exact h3.mono hc hs
  refine ⟨U, ?_, .threw T.heap.size, hrun, hend, Or.inr ⟨T.heap.size, rfl, cls, ce, locs, hx U hWs.alike f1 (fun q hq => f2 q hq (fun z hz => nomatch hz)), hce, hO.vm, hcl, hWs, hall, hf⟩⟩
  refine st1 _ ?_
  show Steps p.tables e below (T1.setTop { method := m, pc := pc + 3, locals := ls, stack := .ref T.heap.size :: rest, locked := none }) _
  jvm_step X₁.here [X₁.here.top, hexec, d3', Value.category]
  exact X₁.ldcStringW hexec (own := own) (text := text) (index := is) (a := sa) hown' hstr'.1 hstr'.2
    (g := { method := m, pc := pc + 4, locals := ls, stack := .ref T.heap.size :: .ref T.heap.size :: rest, locked := none }) rfl d4' _ hsteps
end Ends
section Bodies
variable {l : Launch}
theorem vx_ofW {y : MethodName} {ws ws' : List Cond} {rm : Room} {Pc : Array Value → State → Prop} {Qc : Array Value → State → Outcome → State → Prop} {XC : String → State → State → Prop} {mc ms : Nat} {free : Addr → Prop} {cc : ByteArray} {maxL : Nat} {ret : Option FieldType}
    (hy : plainName y.cls = true) (hw : ws = Cond.code y cc maxL ret :: ws')
    (body : ∀ p e s m args below meth c s₁, BodyLoose p l y (headSpec ws rm) cc maxL ret e s m args below meth c s₁ → c.maxLocals = maxL → (∀ x ∈ c.exceptionTable.toList, False) → Pc args s →
      W p l e (headSpec ws rm).room s m args below meth c s.heap [] 0 0 (vx_MQ below Qc XC args s mc ms free) (entryFrame m args maxL)) : vx_Met l y ws rm Pc Qc XC mc ms free := by
  refine MetFree.of_bodyS (code := cc) (maxLocals := maxL) (ret := ret) hy ?_ ?_
  · intro args s m h hn
    obtain ⟨meth, c, h1, h2, h3, h4, h5, h6, -, -⟩ := Cond.code_spec hn (atoms_spec (ws := ws) h _ (by rw [hw]; exact List.mem_cons_self))
    exact ⟨meth, c, h1, h2, h3, h4, h5, h6⟩
  · intro p e s m args below meth c s₁ B hml hP _
    have hh0 : s₁.heap = s.heap := by rw [B.state]; rfl
    have ht : ∀ x ∈ c.exceptionTable.toList, False := by
      obtain ⟨meth9, c9, h1, h2, -, -, -, -, h7, -⟩ := Cond.code_spec B.named (atoms_spec (ws := ws) B.pre _ (by rw [hw]; exact List.mem_cons_self))
      cases Option.some.inj (h1.symm.trans B.method)
      cases Option.some.inj (h2.symm.trans (Stand.of_body B).code)
      intro x hx
      rw [Array.isEmpty_iff.mp h7] at hx
      cases hx
    obtain ⟨t, a1, o, b1, b2, b3⟩ := body p e s m args below meth c s₁ B hml ht hP s₁ hh0 (Stand.of_body B)
    exact ⟨t, o, a1, b1, b2, b3⟩
/-- the table of a body with handlers -/
theorem vx_table {p : Program} {x y : MethodName} {S : Spec} {cc bytes : ByteArray} {maxL maxL' : Nat} {ret ret' : Option FieldType} {e : Env} {s s₁ : State} {m : MethodId} {args : Array Value} {below : List Frame} {meth : Method} {c : Code} {hh : List (Nat × Nat × Nat × Nat)}
    (B : BodyLoose p l y S cc maxL ret e s m args below meth c s₁) (h : (Cond.codeWith y bytes maxL' ret' hh).before args s = true) : c.exceptionTable.toList = tableOf hh := by
  obtain ⟨m9, meth9, c9, hn9, h1, h2, -, -, h6, -⟩ := Cond.codeWith_spec h
  cases Option.some.inj (hn9.symm.trans B.named)
  cases Option.some.inj (h1.symm.trans B.method)
  cases Option.some.inj (h2.symm.trans (Stand.of_body B).code)
  rw [← h6, table_eq]
end Bodies
end VXA
/-! ===== END ===== -/
/-! ===== BEGIN a static call of a method with an exception table ===== -/
section VXS
variable {p : Program} {l : Launch} {e : Env} {R : Room} {s : State} {m : MethodId} {args : Array Value} {below : List Frame} {meth : Method} {c : Code} {T : State} {H : Heap} {locs : List Loc} {cells slots : Nat}
abbrev vx_CSW (R : Room) (s : State) (args : Array Value) (own : String) (index : Nat) (y : MethodName) (bytes : ByteArray) (maxL : Nat) (ret : Option FieldType) (hh : List (Nat × Nat × Nat × Nat)) (ws : List Cond) (rm : Room) (mc ms n : Nat) : Prop :=
  (rm.cells = mc ∧ rm.slots = ms ∧ rm.frames + 1 ≤ R.frames ∧ 8 + (maxL + 11) + rm.locals ≤ R.locals ∧ (∀ w ∈ ws, ∀ (a' : Array Value) (U : State), s.WarmedH U.vm → w.before a' U = true) ∧ Cond.codeWith y bytes maxL ret hh ∈ ws) ∧
  (Cond.codeWith y bytes maxL ret hh).before args s = true ∧ (Cond.initialized y.cls).before args s = true ∧ (y.cls ≠ "java/lang/invoke/MethodHandle" ∧ y.cls ≠ "java/lang/invoke/VarHandle") ∧
  (∀ sig, parseMethodDescriptor y.desc = some sig → n = sig.parameters.length) ∧ (Cond.methodLink own index y).before args s = true ∧ (Cond.static y).before args s = true
theorem vx_cwSW {own : String} {index maxL mc ms : Nat} {y : MethodName} {bytes : ByteArray} {ret : Option FieldType} {hh : List (Nat × Nat × Nat × Nat)} {Ts ws ws' : List Cond} {rm : Room} (n : Nat) (ht : ∀ w ∈ Ts, w.before args s = true) (hT : GoodIn Ts (va_wsS own index y ws)) (hw : ws = Cond.codeWith y bytes maxL ret hh :: ws') (hrc : rm.cells = mc) (hrs : rm.slots = ms)
    (hd : y.cls ≠ "java/lang/invoke/MethodHandle" ∧ y.cls ≠ "java/lang/invoke/VarHandle" ∧ (parseMethodDescriptor y.desc).map (fun d => d.parameters.length) = some n) (hR : rm.frames + 1 ≤ R.frames ∧ 8 + (maxL + 11) + rm.locals ≤ R.locals) :
    vx_CSW R s args own index y bytes maxL ret hh ws rm mc ms n := by
  have ok : ∀ w ∈ va_wsS own index y ws, w.before args s = true := fun w h => ht w (hT w h).1
  have hG : GoodIn Ts ws := fun w h => hT w (by unfold va_wsS; exact List.mem_append_right _ h)
  have hc : Cond.codeWith y bytes maxL ret hh ∈ ws := by rw [hw]; exact List.mem_cons_self
  refine ⟨⟨hrc, hrs, hR.1, hR.2, pay_in ht hG, hc⟩, ht _ (hG _ hc).1, ok _ (by simp [va_wsS]), ⟨hd.1, hd.2.1⟩, fun sig h => ?_, ok _ (by simp [va_wsS]), ok _ (by simp [va_wsS])⟩
  have h2 := hd.2.2
  rw [h] at h2
  exact (Option.some.inj h2).symm
theorem vx_callSW (X : Stand p l e R s m args below meth c T locs cells slots) (hexec : p.tables.exec = Jvm.exec) {own : String} {index : Nat} {y : MethodName} {bytes : ByteArray} {maxL : Nat} {ret : Option FieldType} {hh : List (Nat × Nat × Nat × Nat)}
    (hown : s.vm.findClass own = some m.cls) (hlink : (Cond.methodLink own index y).before args s = true) (hstat : (Cond.static y).before args s = true) (hinit : (Cond.initialized y.cls).before args s = true)
    (hcode : (Cond.codeWith y bytes maxL ret hh).before args s = true) (hy : y.cls ≠ "java/lang/invoke/MethodHandle" ∧ y.cls ≠ "java/lang/invoke/VarHandle")
    {W9 : Nat} {Pre : Pt → Array Value → Prop} {Post : Pt → Array Value → Option Value → Pt → Prop} (hK : Back l R p e below s args y 3 W9 Pre Post)
    {g : JFrame} (hg : g.method = m) (hsize : g.locals.size = c.maxLocals) {argsL rest : List Value} (hlen : ∀ sig, parseMethodDescriptor y.desc = some sig → argsL.length = sig.parameters.length)
    (hstack : g.stack = argsL.reverse ++ rest) (hW : 2 * g.monitorRoom + (rest.map fun v => v.category).sum ≤ W9) (hdg : decode c.code g.pc = .ok (.invokestatic index, 3))
    (hpre : ∀ vm₁, s.WarmedH vm₁ → Pre ⟨T.setVm vm₁, locs, cells, slots⟩ argsL.toArray) :
    ∃ (v : Option Value) (vm₁ : Vm) (B : Pt), s.WarmedH vm₁ ∧ Stand p l e R s m args below meth c B.U B.locs B.cells B.slots ∧ Post ⟨T.setVm vm₁, locs, cells, slots⟩ argsL.toArray v B ∧
      ∀ target, Steps p.tables e below (B.U.setTop { g with pc := g.pc + 3, stack := v.toList ++ rest }) target → Steps p.tables e below (T.setTop g) target := by
  obtain ⟨mk, methM, cM, hnamed, hmethM, -, -, -, -, -, -, hsigM⟩ := Cond.codeWith_spec hcode
  have hstatic : methM.isStatic = true := Cond.static_spec hnamed hmethM hstat
  obtain ⟨kP, hkP, -⟩ := className_of_methodNamed hnamed
  have hinitP : kP.init = .initialized := Cond.initialized_spec (findClass_of_methodNamed hnamed) hkP hinit
  obtain ⟨vm₁, X₁, hstep₁⟩ := X.invokestatic hexec hown hlink hnamed hmethM hstatic hkP hinitP hy (g := g) hg (argsL := argsL) (rest := rest) (hlen _ hsigM) hstack hdg
  obtain ⟨v, B, X', hpost, hsteps⟩ := hK m meth c ⟨T.setVm vm₁, locs, cells, slots⟩ { g with stack := rest } (.invokestatic index) mk argsL.toArray X₁ hg hsize hdg hW (X₁.named hnamed) (hpre vm₁ X₁.warmed)
  exact ⟨v, vm₁, B, X₁.warmed, X', hpost, fun target h => hstep₁ _ fun acts => by rw [doInvoke_state]; exact hsteps.trans h⟩
theorem vx_runSW {y : MethodName} {bytes cc : ByteArray} {maxL nL mc ms n index : Nat} {ret : Option FieldType} {hh : List (Nat × Nat × Nat × Nat)} {ws : List Cond} {rm : Room} {Pc : Array Value → State → Prop} {Qc : Array Value → State → Outcome → State → Prop} {free : Addr → Prop} {Ts : List Cond} {own : String} {As rest : List Value} {g : JFrame}
    (S : CallFix p m c cc nL s args Ts own) (hM : Met l y ws rm Pc Qc mc ms free) (cw : vx_CSW R s args own index y bytes maxL ret hh ws rm mc ms n) (hp : PreS s H Pc As)
    (hg : g.method = m) (hn : As.length = n) (hsize : g.locals.size = nL) (hstack : g.stack = As.reverse ++ rest) (hW : 2 * g.monitorRoom + (rest.map fun v => v.category).sum ≤ 8) (hdg : decode cc g.pc = .ok (.invokestatic index, 3)) (hf : cells + mc ≤ R.cells ∧ slots + ms ≤ R.slots) :
    va_Run p l e R s m args below meth c H locs cells slots mc ms g rest (Qc As.toArray) (free) := by
  obtain ⟨⟨hrc, hrs, hfr, hlo, hws, hcw⟩, hcode, hini, hy, hlen, hl, hstt⟩ := cw
  have hK : Back l R p e below s args y 3 8 (PreOf R mc ms Pc) (PostOf Qc mc ms free) := va_backW (hh := hh) (bytes := bytes) (maxL := maxL) (ret := ret) hM hp.1 hrc hrs hfr hlo hws hcw (fun a' U hW => word_at hW (Or.inl (by first | rfl | simp [Cond.onTables, Cond.keeps, Cond.steady])) hini)
  obtain ⟨hx, hb, hml, ho, -⟩ := S
  intro T hT X
  obtain ⟨v, vm₁, ⟨U', l2, c2, s2⟩, hW₁, X', ⟨g', mk, t, L, e1, e2, hq, h1, hL, h2, h3⟩, st⟩ := vx_callSW X hx (hh := hh) (bytes := bytes) (maxL := maxL) (ret := ret) ho hl hstt hini hcode hy hK hg (hsize.trans hml.symm) (argsL := As) (rest := rest) (fun sig h => hn.trans (hlen sig h)) hstack hW (by rw [hb]; exact hdg)
    (fun vm₁ hW₁ => ⟨hf.1, hf.2, hp.2 (T.setVm vm₁) hT hW₁⟩)
  dsimp only [Pt.U, Pt.locs, Pt.cells, Pt.slots] at X' e1 e2 h1 h2 h3 st
  subst h1; subst h2; subst h3
  exact ⟨v, (T.setVm vm₁).calling g' mk As.toArray, t, U', L, hT, X', hL, e1, e2, hq, st⟩
/-- not caught here, past rows that name other classes: it goes on to the caller -/
theorem vx_outP {p : Program} {l : Launch} {e : Env} {R : Room} {s : State} {m : MethodId} {args : Array Value} {below : List Frame} {meth : Method} {c : Code} {H : Heap} {locs : List Loc} {cells slots : Nat} {free : Addr → Prop} {ls : Array Slot} {rest : List Value} {Qc : Array Value → State → Outcome → State → Prop} {XC : String → State → State → Prop}
    {pc : Nat} {own E : String} {ce : Cell} {q : Addr} {mc ms : Nat} (hown : s.vm.findClass own = some m.cls) (hlocks : meth.locks = false)
    (hpass : ∀ z ∈ c.exceptionTable.toList, covers z pc = false ∨ (z.catchType ≠ 0 ∧ ∃ nm : String, (Cond.classLink own z.catchType nm).before args s = true ∧ va_Nc E nm s)) (hcell : H[q]? = some ce) (hv : ce.vm = .none) (hcl : s.vm.findClass E = some ce.cls)
    (hx : ∀ t : State, t.heap = H → s.vm.Alike t.vm → XC E s t) (hf : ∀ z ∈ locs, free z.base) (hc : cells ≤ mc) (hs : slots ≤ ms) :
    vx_W p l e R s m args below meth c H locs cells slots (vx_MQ below Qc XC args s mc ms free) (F0 m pc ls rest) q := by
  intro T hT X
  have hpl : e.platform.magicAccessors = ({} : Platform).magicAccessors := by rw [X.admits.platform]
  obtain ⟨vm', hW', X', st⟩ := X.outThrough hlocks q (g := F0 m pc ls rest) rfl rfl rfl (cell := ce) (by rw [hT]; exact hcell) (by rw [hv]; rfl)
    (by obtain ⟨k9, h9, -⟩ := Vm.findClass_spec hcl; exact ⟨k9, h9⟩) (fun z hz => by
      rcases hpass z hz with h | ⟨hz0, nm, hl1, hn1⟩
      · exact Or.inl h
      · obtain ⟨c6, hc6, hcl6⟩ := Cond.classLink_spec hown hl1 e.platform hpl
        obtain ⟨a8, b8, h1, h2, h3⟩ := hn1
        cases Option.some.inj (h1.symm.trans hcl)
        cases Option.some.inj (h2.symm.trans hc6)
        exact Or.inr ⟨hz0, _, hcl6, h3⟩)
  obtain ⟨g₀, hfr⟩ := X'.frames_eq
  have hcell9 : ((T.setVm vm').setFrames (.throwing q :: below)).heap[q]? = some ce := by
    show T.heap[q]? = some ce
    rw [hT]; exact hcell
  have hend : Ended ((T.setVm vm').setFrames (.throwing q :: below)) below (.threw q) := State.frames_setFrames _ (State.cur_lt_of_frames hfr)
  refine ⟨(T.setVm vm').setFrames (.throwing q :: below), ?_, .threw q, X'.here.running, hend, Or.inr ⟨q, rfl, E, ce, locs, hx _ hT (X'.ends _).1.alike, hcell9, hv, hcl, (X'.ends _).1, (X'.ends _).2.mono hc hs, hf⟩⟩
  rw [X.pushThrowing_eq]
  exact st
/-- a thing of a world lies in the heap -/
theorem vx_lt {D : va_G} {cl : List vw_C} {ws : va_W} {H1 : Heap} (h : va_P D cl ws H1) {k : Nat} {q : Nat × va_E} (hk : ws[k]? = some q) : q.1 < H1.size := (h k q hk).lt
end VXS
/-! ===== END ===== -/
/-! ===== BEGIN methods with a table of their own: called by a name, returning or throwing ===== -/
section VXH
/-! vx_backW, vx_callVX, vx_callSX, vx_callVW, vx_runVW, vx_runVX, vx_runSX, vx_ofWH follow the same proofs as their sisters above (Free/Laws.lean, Shelf42/LK1.lean); vx_outP calls Shelf42/NT130.lean (outThrough). -/
section
variable {l : Launch} {R : Room} {p : Program} {e : Env} {below : List Frame} {s : State} {sargs : Array Value} {y : MethodName} {len W9 : Nat}
theorem vx_backW {ws : List Cond} {rm : Room} {Pc : Array Value → State → Prop} {Qc : Array Value → State → Outcome → State → Prop} {XC : String → State → State → Prop} {mc ms : Nat} {free : Addr → Prop} {bytes : ByteArray} {maxL : Nat} {ret : Option FieldType} {hh : List (Nat × Nat × Nat × Nat)}
    (hM : vx_Met l y ws rm Pc Qc XC mc ms free) (hblind : FrameBlind Pc) (hrc : rm.cells = mc) (hrs : rm.slots = ms)
    (hframes : rm.frames + 1 ≤ R.frames) (hlocals : W9 + (maxL + 11) + rm.locals ≤ R.locals)
    (hws : ∀ w ∈ ws, ∀ a' U, s.WarmedH U.vm → w.before a' U = true) (hcode : Cond.codeWith y bytes maxL ret hh ∈ ws) (hinit : ∀ a' U, s.WarmedH U.vm → (Cond.initialized y.cls).before a' U = true) :
    vx_Back l R p e below s sargs y len W9 (PreOf R mc ms Pc) (PostOf Qc mc ms free) (vx_Post XC mc ms free) := by
  intro m meth c A g ig mk a X hg hsize hdg hW hn hp
  have h1 : (headSpec ws rm).pre.before a A.U = true := atoms_intro fun w hw => hws w hw _ _ X.warmed
  have h2 : (Cond.codeWith y bytes maxL ret hh).before a A.U = true := hws _ hcode _ _ X.warmed
  have h3 : (Cond.initialized y.cls).before a A.U = true := hinit _ _ X.warmed
  have h4 : A.cells + (headSpec ws rm).room.cells ≤ R.cells := by rw [show (headSpec ws rm).room.cells = mc from hrc]; exact hp.1
  have h5 : A.slots + (headSpec ws rm).room.slots ≤ R.slots := by rw [show (headSpec ws rm).room.slots = ms from hrs]; exact hp.2.1
  have hPc : Pc a (A.U.calling g mk a) := hblind _ _ _ _ hp.2.2
  obtain ⟨U, Ls, c0, s0⟩ := A
  dsimp only [Pt.U, Pt.locs, Pt.cells, Pt.slots] at h1 h2 h3 h4 h5 X hn hPc ⊢
  obtain ⟨m9, methY, cY, hn9, hmY, hcY, -, hlY, -⟩ := Cond.codeWith_spec h2
  cases Option.some.inj (hn9.symm.trans hn)
  obtain ⟨kY, hkY, -⟩ := className_of_methodNamed hn
  have hinitY : kY.init = .initialized := Cond.initialized_spec (findClass_of_methodNamed hn) hkY h3
  have h : At U g.method c below := by rw [hg]; exact X.here
  have hlocals9 : W9 + (maxL + 11) + (headSpec ws rm).room.locals ≤ R.locals := hlocals
  have happ : (headSpec ws rm).appliesLoose y e.platform (U.calling g mk a) = true :=
    Spec.appliesLoose_calling (g := g) h hdg hn hkY hinitY
      (X.room_calling (g := g) (R' := (headSpec ws rm).room) hsize hmY hcY hframes (by rw [hlY]; omega) h4 h5) h1
  obtain ⟨mid, hmid⟩ := h.above
  have hfr : (U.setTop g).frames = (.java g :: mid) ++ below := by rw [State.frames_setTop' g h.top, hmid]; rfl
  obtain ⟨o, s₂, hsteps, -, hend, hq⟩ := Steps.callFree hM p X.admits X.cas X.clock (acts := []) hfr happ hPc trivial
  have hq' : vx_Q Qc XC mc ms free a (U.calling g mk a) o s₂ := hq
  rw [State.frames_setTop' g h.top] at hend
  obtain ⟨g₀, hg0⟩ := Option.isSome_iff_exists.mp h.top
  obtain ⟨r, hr⟩ := State.topJava?_eq_some.mp hg0
  have hr' : (({ U with heap := s₂.heap, slotsUsed := s₂.slotsUsed } : State).setVm s₂.vm).frames = .java g₀ :: r := hr
  rcases hq' with ⟨hqc, L, hfe, hL⟩ | ⟨q, rfl, E, ce, L, hx, hce, hcv, hcl, hW₂, hsm, hL⟩
  · obtain ⟨⟨v, rfl⟩, hW₂, e2, q2, q3, q4, q5, q6⟩ := id hfe
    have e3 : s₂ = ({ (U.calling g mk a).setFrames s₂.frames with heap := s₂.heap, slotsUsed := s₂.slotsUsed } : State).setVm s₂.vm := by
      have : s₂ = ({ s₂ with vm := (U.calling g mk a).vm } : State).setVm s₂.vm := rfl
      rw [e2] at this
      exact this
    obtain ⟨c₂, i₂, len₂, hc₂, hd₂, hf₂⟩ := hend
    have hW' : U.WarmedH s₂.vm := hW₂
    have hcc : c₂ = c := by
      have h1 : s₂.code? g.method = U.code? g.method := by
        rw [State.code?_eq, State.code?_eq, hW'.alike.method?]
      exact Option.some.inj (hc₂.symm.trans (h1.trans h.code))
    subst hcc
    have hlen : len₂ = len := by rw [hdg] at hd₂; cases hd₂; rfl
    subst hlen
    have hs₂ : s₂ = (({ U with heap := s₂.heap, slotsUsed := s₂.slotsUsed } : State).setVm s₂.vm).setTop { g with pc := g.pc + len₂, stack := v.toList ++ g.stack } := by
      refine e3.trans ?_
      rw [hf₂, State.calling_eq h.top, State.setFrames_setFrames, State.setTop_of_frames _ hr', hr]
      rfl
    have hsame : U.sameButNew ({ U with heap := s₂.heap, slotsUsed := s₂.slotsUsed } : State) L mc ms := by
      refine ⟨?_, q2, q3, q4, q5, q6⟩
      obtain ⟨t, ht, -⟩ := State.frames_cons hr
      show ({ U with heap := s₂.heap, slotsUsed := s₂.slotsUsed } : State) = { U.setFrames U.frames with heap := s₂.heap, slotsUsed := s₂.slotsUsed }
      rw [State.setFrames_self ht]
    subst hg
    refine Or.inl ⟨v, ⟨(({ U with heap := s₂.heap, slotsUsed := s₂.slotsUsed } : State).setVm s₂.vm), Ls ++ L, c0 + mc, s0 + ms⟩,
      ⟨X.admits, X.cas, X.clock, X.frames, X.room, X.hears, X.method, X.code, (X.here.setHeapUsed s₂.heap s₂.slotsUsed).setVm hW'.alike, X.tail, State.WarmedH.trans X.warmed hW', X.limits, X.bytes, X.same.trans (hsame.setVm s.vm)⟩,
      ⟨g, mk, s₂, L, rfl, rfl, hqc, rfl, hL, rfl, rfl⟩, ?_⟩
    show Steps p.tables e below _ ((({ U with heap := s₂.heap, slotsUsed := s₂.slotsUsed } : State).setVm s₂.vm).setTop { g with pc := g.pc + len₂, stack := v.toList ++ g.stack })
    rw [← hs₂]
    exact hsteps
  · obtain ⟨e2, q2, q3, q4, q5, q6⟩ := id hsm
    have e3 : s₂ = ({ (U.calling g mk a).setFrames s₂.frames with heap := s₂.heap, slotsUsed := s₂.slotsUsed } : State).setVm s₂.vm := by
      have : s₂ = ({ s₂ with vm := (U.calling g mk a).vm } : State).setVm s₂.vm := rfl
      rw [e2] at this
      exact this
    have hf₂ : s₂.frames = .throwing q :: .java g :: U.frames.tail := hend
    have hW' : U.WarmedH s₂.vm := hW₂
    have hs₂ : s₂ = ((({ U with heap := s₂.heap, slotsUsed := s₂.slotsUsed } : State).setVm s₂.vm).setTop g).pushFrame (.throwing q) := by
      refine e3.trans ?_
      rw [hf₂, State.calling_eq h.top, State.setFrames_setFrames, State.pushFrame, State.frames_setTop _ hr', State.setTop_of_frames _ hr', State.setFrames_setFrames, hr]
      rfl
    have hsame : U.sameButNew ({ U with heap := s₂.heap, slotsUsed := s₂.slotsUsed } : State) L mc ms := by
      refine ⟨?_, q2, q3, q4, q5, q6⟩
      obtain ⟨t, ht, -⟩ := State.frames_cons hr
      show ({ U with heap := s₂.heap, slotsUsed := s₂.slotsUsed } : State) = { U.setFrames U.frames with heap := s₂.heap, slotsUsed := s₂.slotsUsed }
      rw [State.setFrames_self ht]
    subst hg
    refine Or.inr ⟨q, ⟨(({ U with heap := s₂.heap, slotsUsed := s₂.slotsUsed } : State).setVm s₂.vm), Ls ++ L, c0 + mc, s0 + ms⟩,
      ⟨X.admits, X.cas, X.clock, X.frames, X.room, X.hears, X.method, X.code, (X.here.setHeapUsed s₂.heap s₂.slotsUsed).setVm hW'.alike, X.tail, State.WarmedH.trans X.warmed hW', X.limits, X.bytes, X.same.trans (hsame.setVm s.vm)⟩,
      ⟨g, mk, s₂, L, E, ce, rfl, rfl, hx, hce, hcv, hcl, rfl, hL, rfl, rfl⟩, ?_⟩
    show Steps p.tables e below _ (((({ U with heap := s₂.heap, slotsUsed := s₂.slotsUsed } : State).setVm s₂.vm).setTop g).pushFrame (.throwing q))
    rw [← hs₂]
    exact hsteps
end
variable {p : Program} {l : Launch} {e : Env} {R : Room} {s : State} {m : MethodId} {args : Array Value} {below : List Frame} {meth : Method} {c : Code} {T : State} {H : Heap} {locs : List Loc} {cells slots : Nat}
theorem vx_callVX (X : Stand p l e R s m args below meth c T locs cells slots) (hexec : p.tables.exec = Jvm.exec) {own C : String} {index : Nat} {y : MethodName} {bytes : ByteArray} {maxL : Nat} {ret : Option FieldType} {hh : List (Nat × Nat × Nat × Nat)}
    (hown : s.vm.findClass own = some m.cls) (hlink : (Cond.methodLink own index y).before args s = true) (hinst : (Cond.instanceMethod y).before args s = true) (hsel : (Cond.selects C y y).before args s = true)
    (hcode : (Cond.codeWith y bytes maxL ret hh).before args s = true) (hy : y.cls ≠ "java/lang/invoke/MethodHandle" ∧ y.cls ≠ "java/lang/invoke/VarHandle")
    {W9 : Nat} {Pre : Pt → Array Value → Prop} {Post : Pt → Array Value → Option Value → Pt → Prop} {PostX : Pt → Array Value → Addr → Pt → Prop} (hK : vx_Back l R p e below s args y 3 W9 Pre Post PostX)
    {b : Addr} {cellB : Cell} (hcell : T.heap[b]? = some cellB) (hobj : cellB.vm.isStatics = false) (hcls : s.vm.findClass C = some cellB.cls)
    {g : JFrame} (hg : g.method = m) (hsize : g.locals.size = c.maxLocals) {argsL rest : List Value} (hlen : ∀ sig, parseMethodDescriptor y.desc = some sig → argsL.length = sig.parameters.length)
    (hstack : g.stack = argsL.reverse ++ .ref b :: rest) (hW : 2 * g.monitorRoom + (rest.map fun v => v.category).sum ≤ W9) (hdg : decode c.code g.pc = .ok (.invokevirtual index, 3))
    (hpre : ∀ vm₁, s.WarmedH vm₁ → Pre ⟨T.setVm vm₁, locs, cells, slots⟩ (Value.ref b :: argsL).toArray) :
    (∃ (v : Option Value) (vm₁ : Vm) (B : Pt), s.WarmedH vm₁ ∧ Stand p l e R s m args below meth c B.U B.locs B.cells B.slots ∧ Post ⟨T.setVm vm₁, locs, cells, slots⟩ (Value.ref b :: argsL).toArray v B ∧
      ∀ target, Steps p.tables e below (B.U.setTop { g with pc := g.pc + 3, stack := v.toList ++ rest }) target → Steps p.tables e below (T.setTop g) target) ∨
    (∃ (q : Addr) (vm₁ : Vm) (B : Pt), s.WarmedH vm₁ ∧ Stand p l e R s m args below meth c B.U B.locs B.cells B.slots ∧ PostX ⟨T.setVm vm₁, locs, cells, slots⟩ (Value.ref b :: argsL).toArray q B ∧
      Steps p.tables e below (T.setTop g) ((B.U.setTop { g with stack := rest }).pushFrame (.throwing q))) := by
  obtain ⟨mk, methM, hnamed, hmethM, hstM, habM⟩ := Cond.instanceMethod_spec hinst
  obtain ⟨m8, methM', cM, hn8, hmethM', -, -, -, -, -, -, hsigM⟩ := Cond.codeWith_spec hcode
  cases Option.some.inj (hn8.symm.trans hnamed)
  cases hmethM.symm.trans hmethM'
  obtain ⟨c2, r2, m2, q1, q2, q3, q4, kP, hkP, hkPi⟩ := Cond.selects_spec hsel
  cases hcls.symm.trans q1
  cases (State.methodFound?_of_named hnamed hy).symm.trans q2
  cases hnamed.symm.trans q3
  have hselP : selectMethod e.platform s.vm cellB.cls mk = .method mk := by rw [Launch.admits_selectMethod X.admits]; exact q4
  obtain ⟨vm₁, X₁, hstep₁⟩ := X.invokevirtual hexec hown hlink hnamed hmethM hstM hkP hkPi hy (a := b) (cell := cellB) hcell
    (fun z h => by rw [h] at hobj; cases hobj) hselP hmethM habM hkP hkPi (g := g) hg (argsL := argsL) (rest := rest) (hlen _ hsigM) hstack hdg
  rcases hK m meth c ⟨T.setVm vm₁, locs, cells, slots⟩ { g with stack := rest } (.invokevirtual index) mk (Value.ref b :: argsL).toArray X₁ hg hsize hdg hW (X₁.named hnamed) (hpre vm₁ X₁.warmed) with ⟨v, B, X', hpost, hsteps⟩ | ⟨q, B, X', hpost, hsteps⟩
  · exact Or.inl ⟨v, vm₁, B, X₁.warmed, X', hpost, fun target h => hstep₁ _ fun acts => by rw [doInvoke_state]; exact hsteps.trans h⟩
  · exact Or.inr ⟨q, vm₁, B, X₁.warmed, X', hpost, hstep₁ _ fun acts => by rw [doInvoke_state]; exact hsteps⟩
theorem vx_callSX (X : Stand p l e R s m args below meth c T locs cells slots) (hexec : p.tables.exec = Jvm.exec) {own : String} {index : Nat} {y : MethodName} {bytes : ByteArray} {maxL : Nat} {ret : Option FieldType} {hh : List (Nat × Nat × Nat × Nat)}
    (hown : s.vm.findClass own = some m.cls) (hlink : (Cond.methodLink own index y).before args s = true) (hstat : (Cond.static y).before args s = true) (hinit : (Cond.initialized y.cls).before args s = true)
    (hcode : (Cond.codeWith y bytes maxL ret hh).before args s = true) (hy : y.cls ≠ "java/lang/invoke/MethodHandle" ∧ y.cls ≠ "java/lang/invoke/VarHandle")
    {W9 : Nat} {Pre : Pt → Array Value → Prop} {Post : Pt → Array Value → Option Value → Pt → Prop} {PostX : Pt → Array Value → Addr → Pt → Prop} (hK : vx_Back l R p e below s args y 3 W9 Pre Post PostX)
    {g : JFrame} (hg : g.method = m) (hsize : g.locals.size = c.maxLocals) {argsL rest : List Value} (hlen : ∀ sig, parseMethodDescriptor y.desc = some sig → argsL.length = sig.parameters.length)
    (hstack : g.stack = argsL.reverse ++ rest) (hW : 2 * g.monitorRoom + (rest.map fun v => v.category).sum ≤ W9) (hdg : decode c.code g.pc = .ok (.invokestatic index, 3))
    (hpre : ∀ vm₁, s.WarmedH vm₁ → Pre ⟨T.setVm vm₁, locs, cells, slots⟩ argsL.toArray) :
    (∃ (v : Option Value) (vm₁ : Vm) (B : Pt), s.WarmedH vm₁ ∧ Stand p l e R s m args below meth c B.U B.locs B.cells B.slots ∧ Post ⟨T.setVm vm₁, locs, cells, slots⟩ argsL.toArray v B ∧
      ∀ target, Steps p.tables e below (B.U.setTop { g with pc := g.pc + 3, stack := v.toList ++ rest }) target → Steps p.tables e below (T.setTop g) target) ∨
    (∃ (q : Addr) (vm₁ : Vm) (B : Pt), s.WarmedH vm₁ ∧ Stand p l e R s m args below meth c B.U B.locs B.cells B.slots ∧ PostX ⟨T.setVm vm₁, locs, cells, slots⟩ argsL.toArray q B ∧
      Steps p.tables e below (T.setTop g) ((B.U.setTop { g with stack := rest }).pushFrame (.throwing q))) := by
  obtain ⟨mk, methM, cM, hnamed, hmethM, -, -, -, -, -, -, hsigM⟩ := Cond.codeWith_spec hcode
  have hstatic : methM.isStatic = true := Cond.static_spec hnamed hmethM hstat
  obtain ⟨kP, hkP, -⟩ := className_of_methodNamed hnamed
  have hinitP : kP.init = .initialized := Cond.initialized_spec (findClass_of_methodNamed hnamed) hkP hinit
  obtain ⟨vm₁, X₁, hstep₁⟩ := X.invokestatic hexec hown hlink hnamed hmethM hstatic hkP hinitP hy (g := g) hg (argsL := argsL) (rest := rest) (hlen _ hsigM) hstack hdg
  rcases hK m meth c ⟨T.setVm vm₁, locs, cells, slots⟩ { g with stack := rest } (.invokestatic index) mk argsL.toArray X₁ hg hsize hdg hW (X₁.named hnamed) (hpre vm₁ X₁.warmed) with ⟨v, B, X', hpost, hsteps⟩ | ⟨q, B, X', hpost, hsteps⟩
  · exact Or.inl ⟨v, vm₁, B, X₁.warmed, X', hpost, fun target h => hstep₁ _ fun acts => by rw [doInvoke_state]; exact hsteps.trans h⟩
  · exact Or.inr ⟨q, vm₁, B, X₁.warmed, X', hpost, hstep₁ _ fun acts => by rw [doInvoke_state]; exact hsteps⟩
theorem vx_callVW (X : Stand p l e R s m args below meth c T locs cells slots) (hexec : p.tables.exec = Jvm.exec) {own C : String} {index : Nat} {y : MethodName} {bytes : ByteArray} {maxL : Nat} {ret : Option FieldType} {hh : List (Nat × Nat × Nat × Nat)}
    (hown : s.vm.findClass own = some m.cls) (hlink : (Cond.methodLink own index y).before args s = true) (hinst : (Cond.instanceMethod y).before args s = true) (hsel : (Cond.selects C y y).before args s = true)
    (hcode : (Cond.codeWith y bytes maxL ret hh).before args s = true) (hy : y.cls ≠ "java/lang/invoke/MethodHandle" ∧ y.cls ≠ "java/lang/invoke/VarHandle")
    {W9 : Nat} {Pre : Pt → Array Value → Prop} {Post : Pt → Array Value → Option Value → Pt → Prop} (hK : Back l R p e below s args y 3 W9 Pre Post)
    {b : Addr} {cellB : Cell} (hcell : T.heap[b]? = some cellB) (hobj : cellB.vm.isStatics = false) (hcls : s.vm.findClass C = some cellB.cls)
    {g : JFrame} (hg : g.method = m) (hsize : g.locals.size = c.maxLocals) {argsL rest : List Value} (hlen : ∀ sig, parseMethodDescriptor y.desc = some sig → argsL.length = sig.parameters.length)
    (hstack : g.stack = argsL.reverse ++ .ref b :: rest) (hW : 2 * g.monitorRoom + (rest.map fun v => v.category).sum ≤ W9) (hdg : decode c.code g.pc = .ok (.invokevirtual index, 3))
    (hpre : ∀ vm₁, s.WarmedH vm₁ → Pre ⟨T.setVm vm₁, locs, cells, slots⟩ (Value.ref b :: argsL).toArray) :
    ∃ (v : Option Value) (vm₁ : Vm) (B : Pt), s.WarmedH vm₁ ∧ Stand p l e R s m args below meth c B.U B.locs B.cells B.slots ∧ Post ⟨T.setVm vm₁, locs, cells, slots⟩ (Value.ref b :: argsL).toArray v B ∧
      ∀ target, Steps p.tables e below (B.U.setTop { g with pc := g.pc + 3, stack := v.toList ++ rest }) target → Steps p.tables e below (T.setTop g) target := by
  obtain ⟨mk, methM, hnamed, hmethM, hstM, habM⟩ := Cond.instanceMethod_spec hinst
  obtain ⟨m8, methM', cM, hn8, hmethM', -, -, -, -, -, -, hsigM⟩ := Cond.codeWith_spec hcode
  cases Option.some.inj (hn8.symm.trans hnamed)
  cases hmethM.symm.trans hmethM'
  obtain ⟨c2, r2, m2, q1, q2, q3, q4, kP, hkP, hkPi⟩ := Cond.selects_spec hsel
  cases hcls.symm.trans q1
  cases (State.methodFound?_of_named hnamed hy).symm.trans q2
  cases hnamed.symm.trans q3
  have hselP : selectMethod e.platform s.vm cellB.cls mk = .method mk := by rw [Launch.admits_selectMethod X.admits]; exact q4
  obtain ⟨vm₁, X₁, hstep₁⟩ := X.invokevirtual hexec hown hlink hnamed hmethM hstM hkP hkPi hy (a := b) (cell := cellB) hcell
    (fun z h => by rw [h] at hobj; cases hobj) hselP hmethM habM hkP hkPi (g := g) hg (argsL := argsL) (rest := rest) (hlen _ hsigM) hstack hdg
  obtain ⟨v, B, X', hpost, hsteps⟩ := hK m meth c ⟨T.setVm vm₁, locs, cells, slots⟩ { g with stack := rest } (.invokevirtual index) mk (Value.ref b :: argsL).toArray X₁ hg hsize hdg hW (X₁.named hnamed) (hpre vm₁ X₁.warmed)
  exact ⟨v, vm₁, B, X₁.warmed, X', hpost, fun target h => hstep₁ _ fun acts => by rw [doInvoke_state]; exact hsteps.trans h⟩
abbrev vx_CVW (R : Room) (s : State) (args : Array Value) (own C : String) (index : Nat) (y : MethodName) (bytes : ByteArray) (maxL : Nat) (ret : Option FieldType) (hh : List (Nat × Nat × Nat × Nat)) (ws : List Cond) (rm : Room) (mc ms n : Nat) : Prop :=
  (rm.cells = mc ∧ rm.slots = ms ∧ rm.frames + 1 ≤ R.frames ∧ 8 + (maxL + 11) + rm.locals ≤ R.locals ∧ (∀ w ∈ ws, ∀ (a' : Array Value) (U : State), s.WarmedH U.vm → w.before a' U = true) ∧ Cond.codeWith y bytes maxL ret hh ∈ ws) ∧
  (Cond.codeWith y bytes maxL ret hh).before args s = true ∧ (Cond.initialized y.cls).before args s = true ∧ (y.cls ≠ "java/lang/invoke/MethodHandle" ∧ y.cls ≠ "java/lang/invoke/VarHandle") ∧
  (∀ sig, parseMethodDescriptor y.desc = some sig → n = sig.parameters.length) ∧ (Cond.methodLink own index y).before args s = true ∧ (Cond.instanceMethod y).before args s = true ∧ (Cond.selects C y y).before args s = true
theorem vx_cwVW {own C : String} {index maxL mc ms : Nat} {y : MethodName} {bytes : ByteArray} {ret : Option FieldType} {hh : List (Nat × Nat × Nat × Nat)} {Ts ws ws' : List Cond} {rm : Room} (n : Nat) (ht : ∀ w ∈ Ts, w.before args s = true) (hT : GoodIn Ts (wsV own index C y ws)) (hw : ws = Cond.codeWith y bytes maxL ret hh :: ws') (hrc : rm.cells = mc) (hrs : rm.slots = ms)
    (hd : y.cls = C ∧ y.cls ≠ "java/lang/invoke/MethodHandle" ∧ y.cls ≠ "java/lang/invoke/VarHandle" ∧ (parseMethodDescriptor y.desc).map (fun d => d.parameters.length) = some n) (hR : rm.frames + 1 ≤ R.frames ∧ 8 + (maxL + 11) + rm.locals ≤ R.locals) :
    vx_CVW R s args own C index y bytes maxL ret hh ws rm mc ms n := by
  obtain ⟨hC, hd⟩ := hd
  subst hC
  have ok : ∀ w ∈ wsV own index y.cls y ws, w.before args s = true := fun w h => ht w (hT w h).1
  have hG : GoodIn Ts ws := fun w h => hT w (by unfold wsV; exact List.mem_append_right _ h)
  have hc : Cond.codeWith y bytes maxL ret hh ∈ ws := by rw [hw]; exact List.mem_cons_self
  refine ⟨⟨hrc, hrs, hR.1, hR.2, pay_in ht hG, hc⟩, ht _ (hG _ hc).1, ok _ (by simp [wsV]), ⟨hd.1, hd.2.1⟩, fun sig h => ?_, ok _ (by simp [wsV]), ok _ (by simp [wsV]), ok _ (by simp [wsV])⟩
  have h2 := hd.2.2
  rw [h] at h2
  exact (Option.some.inj h2).symm
theorem vx_runVW {y : MethodName} {bytes cc : ByteArray} {maxL nL mc ms n index : Nat} {ret : Option FieldType} {hh : List (Nat × Nat × Nat × Nat)} {ws : List Cond} {rm : Room} {Pc : Array Value → State → Prop} {Qc : Array Value → State → Outcome → State → Prop} {free : Addr → Prop} {Ts : List Cond} {own C : String} {b : Addr} {As rest : List Value} {g : JFrame}
    (S : CallFix p m c cc nL s args Ts own) (hM : Met l y ws rm Pc Qc mc ms free) (cw : vx_CVW R s args own C index y bytes maxL ret hh ws rm mc ms n) (hp : PreV s H C b Pc As)
    (hg : g.method = m) (hn : As.length = n) (hsize : g.locals.size = nL) (hstack : g.stack = As.reverse ++ .ref b :: rest) (hW : 2 * g.monitorRoom + (rest.map fun v => v.category).sum ≤ 8) (hdg : decode cc g.pc = .ok (.invokevirtual index, 3)) (hf : cells + mc ≤ R.cells ∧ slots + ms ≤ R.slots) :
    va_Run p l e R s m args below meth c H locs cells slots mc ms g rest (Qc (Value.ref b :: As).toArray) free := by
  obtain ⟨⟨hrc, hrs, hfr, hlo, hws, hcw⟩, hcode, hini, hy, hlen, hl, hin, hse⟩ := cw
  have hK : Back l R p e below s args y 3 8 (PreOf R mc ms Pc) (PostOf Qc mc ms free) := va_backW (hh := hh) (bytes := bytes) (maxL := maxL) (ret := ret) hM hp.1 hrc hrs hfr hlo hws hcw (fun a' U hW => word_at hW (Or.inl (by first | rfl | simp [Cond.onTables, Cond.keeps, Cond.steady])) hini)
  obtain ⟨hx, hb, hml, ho, -⟩ := S
  obtain ⟨-, ⟨cellB, hcB, hoB, hclB⟩, hPc⟩ := hp
  intro T hT X
  obtain ⟨v, vm₁, ⟨U', l2, c2, s2⟩, hW₁, X', ⟨g', mk, t, L, e1, e2, hq, h1, hL, h2, h3⟩, st⟩ := vx_callVW X hx (C := C) (hh := hh) (bytes := bytes) (maxL := maxL) (ret := ret) ho hl hin hse hcode hy hK (by rw [hT]; exact hcB) hoB hclB hg (hsize.trans hml.symm) (argsL := As) (rest := rest) (fun sig h => hn.trans (hlen sig h)) hstack hW (by rw [hb]; exact hdg)
    (fun vm₁ hW₁ => ⟨hf.1, hf.2, hPc (T.setVm vm₁) hT hW₁⟩)
  dsimp only [Pt.U, Pt.locs, Pt.cells, Pt.slots] at X' e1 e2 h1 h2 h3 st
  subst h1; subst h2; subst h3
  exact ⟨v, (T.setVm vm₁).calling g' mk (Value.ref b :: As).toArray, t, U', L, hT, X', hL, e1, e2, hq, st⟩
section
variable {y : MethodName} {bytes cc : ByteArray} {maxL nL mc ms n index : Nat} {ret : Option FieldType} {ws : List Cond} {rm : Room} {Pc : Array Value → State → Prop} {Qc : Array Value → State → Outcome → State → Prop} {XC : String → State → State → Prop} {free : Addr → Prop} {Ts : List Cond} {own C : String} {b : Addr} {As rest : List Value} {g : JFrame}
theorem vx_runVX {hh : List (Nat × Nat × Nat × Nat)} (S : CallFix p m c cc nL s args Ts own) (hM : vx_Met l y ws rm Pc Qc XC mc ms free) (cw : vx_CVW R s args own C index y bytes maxL ret hh ws rm mc ms n) (hp : PreV s H C b Pc As)
    (hg : g.method = m) (hn : As.length = n) (hsize : g.locals.size = nL) (hstack : g.stack = As.reverse ++ .ref b :: rest) (hW : 2 * g.monitorRoom + (rest.map fun v => v.category).sum ≤ 8) (hdg : decode cc g.pc = .ok (.invokevirtual index, 3)) (hf : cells + mc ≤ R.cells ∧ slots + ms ≤ R.slots) :
    vx_Run p l e R s m args below meth c H locs cells slots mc ms g rest (Qc (Value.ref b :: As).toArray) XC free := by
  obtain ⟨⟨hrc, hrs, hfr, hlo, hws, hcw⟩, hcode, hini, hy, hlen, hl, hin, hse⟩ := cw
  have hK : vx_Back l R p e below s args y 3 8 (PreOf R mc ms Pc) (PostOf Qc mc ms free) (vx_Post XC mc ms free) := vx_backW (hh := hh) (bytes := bytes) (maxL := maxL) (ret := ret) hM hp.1 hrc hrs hfr hlo hws hcw (fun a' U hW => word_at hW (Or.inl (by first | rfl | simp [Cond.onTables, Cond.keeps, Cond.steady])) hini)
  obtain ⟨hx, hb, hml, ho, -⟩ := S
  obtain ⟨-, ⟨cellB, hcB, hoB, hclB⟩, hPc⟩ := hp
  intro T hT X
  rcases vx_callVX X hx (C := C) (hh := hh) (bytes := bytes) (maxL := maxL) (ret := ret) ho hl hin hse hcode hy hK (by rw [hT]; exact hcB) hoB hclB hg (hsize.trans hml.symm) (argsL := As) (rest := rest) (fun sig h => hn.trans (hlen sig h)) hstack hW (by rw [hb]; exact hdg)
    (fun vm₁ hW₁ => ⟨hf.1, hf.2, hPc (T.setVm vm₁) hT hW₁⟩) with ⟨v, vm₁, ⟨U', l2, c2, s2⟩, hW₁, X', ⟨g', mk, t, L, e1, e2, hq, h1, hL, h2, h3⟩, st⟩ | ⟨q, vm₁, ⟨U', l2, c2, s2⟩, hW₁, X', ⟨g', mk, t, L, E, ce, e1, e2, hq, hce, hcv, hcl, h1, hL, h2, h3⟩, st⟩
  · dsimp only [Pt.U, Pt.locs, Pt.cells, Pt.slots] at X' e1 e2 h1 h2 h3 st
    subst h1; subst h2; subst h3
    exact Or.inl ⟨v, (T.setVm vm₁).calling g' mk (Value.ref b :: As).toArray, t, U', L, hT, X', hL, e1, e2, hq, st⟩
  · dsimp only [Pt.U, Pt.locs, Pt.cells, Pt.slots] at X' e1 e2 h1 h2 h3 st hcl
    subst h1; subst h2; subst h3
    exact Or.inr ⟨q, (T.setVm vm₁).calling g' mk (Value.ref b :: As).toArray, t, U', L, E, ce, hT, X', hL, e1, e2, hq, hce, hcv, vx_cls hW₁ hcl, st⟩
theorem vx_runSX {hh : List (Nat × Nat × Nat × Nat)} (S : CallFix p m c cc nL s args Ts own) (hM : vx_Met l y ws rm Pc Qc XC mc ms free) (cw : vx_CSW R s args own index y bytes maxL ret hh ws rm mc ms n) (hp : PreS s H Pc As)
    (hg : g.method = m) (hn : As.length = n) (hsize : g.locals.size = nL) (hstack : g.stack = As.reverse ++ rest) (hW : 2 * g.monitorRoom + (rest.map fun v => v.category).sum ≤ 8) (hdg : decode cc g.pc = .ok (.invokestatic index, 3)) (hf : cells + mc ≤ R.cells ∧ slots + ms ≤ R.slots) :
    vx_Run p l e R s m args below meth c H locs cells slots mc ms g rest (Qc As.toArray) XC free := by
  obtain ⟨⟨hrc, hrs, hfr, hlo, hws, hcw⟩, hcode, hini, hy, hlen, hl, hstt⟩ := cw
  have hK : vx_Back l R p e below s args y 3 8 (PreOf R mc ms Pc) (PostOf Qc mc ms free) (vx_Post XC mc ms free) := vx_backW (hh := hh) (bytes := bytes) (maxL := maxL) (ret := ret) hM hp.1 hrc hrs hfr hlo hws hcw (fun a' U hW => word_at hW (Or.inl (by first | rfl | simp [Cond.onTables, Cond.keeps, Cond.steady])) hini)
  obtain ⟨hx, hb, hml, ho, -⟩ := S
  intro T hT X
  rcases vx_callSX X hx (hh := hh) (bytes := bytes) (maxL := maxL) (ret := ret) ho hl hstt hini hcode hy hK hg (hsize.trans hml.symm) (argsL := As) (rest := rest) (fun sig h => hn.trans (hlen sig h)) hstack hW (by rw [hb]; exact hdg)
    (fun vm₁ hW₁ => ⟨hf.1, hf.2, hp.2 (T.setVm vm₁) hT hW₁⟩) with ⟨v, vm₁, ⟨U', l2, c2, s2⟩, hW₁, X', ⟨g', mk, t, L, e1, e2, hq, h1, hL, h2, h3⟩, st⟩ | ⟨q, vm₁, ⟨U', l2, c2, s2⟩, hW₁, X', ⟨g', mk, t, L, E, ce, e1, e2, hq, hce, hcv, hcl, h1, hL, h2, h3⟩, st⟩
  · dsimp only [Pt.U, Pt.locs, Pt.cells, Pt.slots] at X' e1 e2 h1 h2 h3 st
    subst h1; subst h2; subst h3
    exact Or.inl ⟨v, (T.setVm vm₁).calling g' mk As.toArray, t, U', L, hT, X', hL, e1, e2, hq, st⟩
  · dsimp only [Pt.U, Pt.locs, Pt.cells, Pt.slots] at X' e1 e2 h1 h2 h3 st hcl
    subst h1; subst h2; subst h3
    exact Or.inr ⟨q, (T.setVm vm₁).calling g' mk As.toArray, t, U', L, E, ce, hT, X', hL, e1, e2, hq, hce, hcv, vx_cls hW₁ hcl, st⟩
end
end VXH
theorem vx_ofWH {l : Launch} {y : MethodName} {ws ws' : List Cond} {rm : Room} {Pc : Array Value → State → Prop} {Qc : Array Value → State → Outcome → State → Prop} {XC : String → State → State → Prop} {mc ms : Nat} {free : Addr → Prop} {cc : ByteArray} {maxL : Nat} {ret : Option FieldType} {hh : List (Nat × Nat × Nat × Nat)}
    (hy : plainName y.cls = true) (hw : ws = Cond.codeWith y cc maxL ret hh :: ws')
    (body : ∀ p e s m args below meth c s₁, BodyLoose p l y (headSpec ws rm) cc maxL ret e s m args below meth c s₁ → c.maxLocals = maxL → Pc args s →
      W p l e (headSpec ws rm).room s m args below meth c s.heap [] 0 0 (vx_MQ below Qc XC args s mc ms free) (entryFrame m args maxL)) : vx_Met l y ws rm Pc Qc XC mc ms free := by
  refine MetFree.of_bodyS (code := cc) (maxLocals := maxL) (ret := ret) hy ?_ ?_
  · intro args s m h hn
    obtain ⟨m9, meth, c, hn9, h1, h2, h3, h4, -, h5, h6, -⟩ := Cond.codeWith_spec (atoms_spec (ws := ws) h _ (by rw [hw]; exact List.mem_cons_self))
    cases hn.symm.trans hn9
    exact ⟨meth, c, h1, h2, h3, h4, h5, h6⟩
  · intro p e s m args below meth c s₁ B hml hP _
    have hh0 : s₁.heap = s.heap := by rw [B.state]; rfl
    obtain ⟨t, a1, o, b1, b2, b3⟩ := body p e s m args below meth c s₁ B hml hP s₁ hh0 (Stand.of_body B)
    exact ⟨t, o, a1, b1, b2, b3⟩
/-! ===== END ===== -/
end
section
/-! ===== BEGIN printed: names, fields, word lists, decode rows ===== -/
def RX0 : String := "Approvalyard$Book"
def TX0 : u_T := fun k => match k with
  | 0 => ("Approvalyard$Book", "words", "LApprovalyard$Row;", true)
  | _ => ("Approvalyard$Book", "number", "I", false)
def tyX0 : Nat → FieldType := fun k => match k with
  | 0 => .object "Approvalyard$Row"
  | _ => .int
abbrev wsX00 : List Cond := u_ws RX0 TX0 2
theorem nmX0 : ∀ a, a < 2 → ∀ b, b < 2 → a ≠ b → (TX0 a).2.1 ≠ (TX0 b).2.1 := by decide +kernel
theorem tyX0_ok : ∀ k, k < 2 → parseFieldDescriptor (TX0 k).2.2.1 = some (tyX0 k) := by decide +kernel
abbrev cX0_init : ByteArray := prog_2_method_1_code
def yX0_init : MethodName := ⟨RX0, "<init>", "()V"⟩
abbrev cX0_count : ByteArray := prog_2_method_2_code
def yX0_count : MethodName := ⟨RX0, "count", "()I"⟩
abbrev cX0_write : ByteArray := prog_2_method_3_code
def yX0_write : MethodName := ⟨RX0, "write", "(IIIIII)I"⟩
abbrev cX0_wordOf : ByteArray := prog_2_method_4_code
def yX0_wordOf : MethodName := ⟨RX0, "wordOf", "(II)I"⟩
def RX1 : String := "Approvalyard$Choice"
def TX1 : u_T := fun k => match k with
  | _ => ("", "", "", false)
def tyX1 : Nat → FieldType := fun k => match k with
  | _ => .int
abbrev wsX10 : List Cond := u_ws RX1 TX1 0
theorem nmX1 : ∀ a, a < 0 → ∀ b, b < 0 → a ≠ b → (TX1 a).2.1 ≠ (TX1 b).2.1 := by decide +kernel
theorem tyX1_ok : ∀ k, k < 0 → parseFieldDescriptor (TX1 k).2.2.1 = some (tyX1 k) := by decide +kernel
abbrev cX1_versionOf : ByteArray := prog_3_method_2_code
def yX1_versionOf : MethodName := ⟨RX1, "versionOf", "(II)I"⟩
abbrev cX1_with : ByteArray := prog_3_method_3_code
def yX1_with : MethodName := ⟨RX1, "with", "(III)I"⟩
def RX2 : String := "Approvalyard$Desk"
def TX2 : u_T := fun k => match k with
  | 0 => ("Approvalyard$Desk", "parts", "LApprovalyard$Parts;", true)
  | 1 => ("Approvalyard$Desk", "people", "LApprovalyard$People;", true)
  | _ => ("Approvalyard$Desk", "requests", "LApprovalyard$Requests;", true)
def tyX2 : Nat → FieldType := fun k => match k with
  | 0 => .object "Approvalyard$Parts"
  | 1 => .object "Approvalyard$People"
  | _ => .object "Approvalyard$Requests"
abbrev wsX20 : List Cond := u_ws RX2 TX2 3
theorem nmX2 : ∀ a, a < 3 → ∀ b, b < 3 → a ≠ b → (TX2 a).2.1 ≠ (TX2 b).2.1 := by decide +kernel
theorem tyX2_ok : ∀ k, k < 3 → parseFieldDescriptor (TX2 k).2.2.1 = some (tyX2 k) := by decide +kernel
abbrev cX2_init : ByteArray := prog_4_method_1_code
def yX2_init : MethodName := ⟨RX2, "<init>", "()V"⟩
abbrev cX2_clear : ByteArray := prog_4_method_2_code
def yX2_clear : MethodName := ⟨RX2, "clear", "()V"⟩
abbrev cX2_apply : ByteArray := prog_4_method_3_code
def yX2_apply : MethodName := ⟨RX2, "apply", "(LApprovalyard$Book;I)I"⟩
abbrev cX2_principalFor : ByteArray := prog_4_method_4_code
def yX2_principalFor : MethodName := ⟨RX2, "principalFor", "(II)I"⟩
abbrev cX2_approvalsOf : ByteArray := prog_4_method_5_code
def yX2_approvalsOf : MethodName := ⟨RX2, "approvalsOf", "(I)I"⟩
abbrev cX2_isCovered : ByteArray := prog_4_method_6_code
def yX2_isCovered : MethodName := ⟨RX2, "isCovered", "(I)Z"⟩
abbrev cX2_takeApproval : ByteArray := prog_4_method_7_code
def yX2_takeApproval : MethodName := ⟨RX2, "takeApproval", "(II)I"⟩
def RX3 : String := "Approvalyard$Parts"
def TX3 : u_T := fun k => match k with
  | 0 => ("Approvalyard$Parts", "counts", "LApprovalyard$Row;", true)
  | 1 => ("Approvalyard$Parts", "costs", "LApprovalyard$Row;", true)
  | 2 => ("Approvalyard$Parts", "replaced", "LApprovalyard$Row;", true)
  | 3 => ("Approvalyard$Parts", "needCounts", "LApprovalyard$Row;", true)
  | 4 => ("Approvalyard$Parts", "needParts", "LApprovalyard$Row;", true)
  | _ => ("Approvalyard$Parts", "needVersions", "LApprovalyard$Row;", true)
def tyX3 : Nat → FieldType := fun k => match k with
  | 0 => .object "Approvalyard$Row"
  | 1 => .object "Approvalyard$Row"
  | 2 => .object "Approvalyard$Row"
  | 3 => .object "Approvalyard$Row"
  | 4 => .object "Approvalyard$Row"
  | _ => .object "Approvalyard$Row"
abbrev wsX30 : List Cond := u_ws RX3 TX3 6
theorem nmX3 : ∀ a, a < 6 → ∀ b, b < 6 → a ≠ b → (TX3 a).2.1 ≠ (TX3 b).2.1 := by decide +kernel
theorem tyX3_ok : ∀ k, k < 6 → parseFieldDescriptor (TX3 k).2.2.1 = some (tyX3 k) := by decide +kernel
abbrev cX3_init : ByteArray := prog_5_method_1_code
def yX3_init : MethodName := ⟨RX3, "<init>", "()V"⟩
abbrev cX3_clear : ByteArray := prog_5_method_2_code
def yX3_clear : MethodName := ⟨RX3, "clear", "()V"⟩
abbrev cX3_countOf : ByteArray := prog_5_method_3_code
def yX3_countOf : MethodName := ⟨RX3, "countOf", "(I)I"⟩
abbrev cX3_addVersion : ByteArray := prog_5_method_4_code
def yX3_addVersion : MethodName := ⟨RX3, "addVersion", "(II)I"⟩
abbrev cX3_needsOf : ByteArray := prog_5_method_5_code
def yX3_needsOf : MethodName := ⟨RX3, "needsOf", "(II)I"⟩
abbrev cX3_addNeed : ByteArray := prog_5_method_6_code
def yX3_addNeed : MethodName := ⟨RX3, "addNeed", "(IIIII)I"⟩
abbrev cX3_neededPart : ByteArray := prog_5_method_7_code
def yX3_neededPart : MethodName := ⟨RX3, "neededPart", "(III)I"⟩
abbrev cX3_neededVersions : ByteArray := prog_5_method_8_code
def yX3_neededVersions : MethodName := ⟨RX3, "neededVersions", "(III)I"⟩
abbrev cX3_markReplaced : ByteArray := prog_5_method_9_code
def yX3_markReplaced : MethodName := ⟨RX3, "markReplaced", "(II)V"⟩
abbrev cX3_isReplaced : ByteArray := prog_5_method_10_code
def yX3_isReplaced : MethodName := ⟨RX3, "isReplaced", "(II)Z"⟩
abbrev cX3_current : ByteArray := prog_5_method_11_code
def yX3_current : MethodName := ⟨RX3, "current", "(I)I"⟩
abbrev cX3_costOf : ByteArray := prog_5_method_12_code
def yX3_costOf : MethodName := ⟨RX3, "costOf", "(I)I"⟩
abbrev cX3_versionSet : ByteArray := prog_5_method_13_code
def yX3_versionSet : MethodName := ⟨RX3, "versionSet", "(II)I"⟩
abbrev cX3_placeOf : ByteArray := prog_5_method_14_code
def yX3_placeOf : MethodName := ⟨RX3, "placeOf", "(II)I"⟩
def RX4 : String := "Approvalyard$People"
def TX4 : u_T := fun k => match k with
  | 0 => ("Approvalyard$People", "limits", "LApprovalyard$Row;", true)
  | 1 => ("Approvalyard$People", "delegates", "LApprovalyard$Row;", true)
  | 2 => ("Approvalyard$People", "backs", "LApprovalyard$Row;", true)
  | _ => ("Approvalyard$People", "day", "I", false)
def tyX4 : Nat → FieldType := fun k => match k with
  | 0 => .object "Approvalyard$Row"
  | 1 => .object "Approvalyard$Row"
  | 2 => .object "Approvalyard$Row"
  | _ => .int
abbrev wsX40 : List Cond := u_ws RX4 TX4 4
theorem nmX4 : ∀ a, a < 4 → ∀ b, b < 4 → a ≠ b → (TX4 a).2.1 ≠ (TX4 b).2.1 := by decide +kernel
theorem tyX4_ok : ∀ k, k < 4 → parseFieldDescriptor (TX4 k).2.2.1 = some (tyX4 k) := by decide +kernel
abbrev cX4_init : ByteArray := prog_6_method_1_code
def yX4_init : MethodName := ⟨RX4, "<init>", "()V"⟩
abbrev cX4_clear : ByteArray := prog_6_method_2_code
def yX4_clear : MethodName := ⟨RX4, "clear", "()V"⟩
abbrev cX4_today : ByteArray := prog_6_method_3_code
def yX4_today : MethodName := ⟨RX4, "today", "()I"⟩
abbrev cX4_addDays : ByteArray := prog_6_method_4_code
def yX4_addDays : MethodName := ⟨RX4, "addDays", "(I)I"⟩
abbrev cX4_changeLimit : ByteArray := prog_6_method_5_code
def yX4_changeLimit : MethodName := ⟨RX4, "changeLimit", "(II)I"⟩
abbrev cX4_sendOnLeave : ByteArray := prog_6_method_6_code
def yX4_sendOnLeave : MethodName := ⟨RX4, "sendOnLeave", "(III)I"⟩
abbrev cX4_backOf : ByteArray := prog_6_method_7_code
def yX4_backOf : MethodName := ⟨RX4, "backOf", "(I)I"⟩
abbrev cX4_isAway : ByteArray := prog_6_method_8_code
def yX4_isAway : MethodName := ⟨RX4, "isAway", "(I)Z"⟩
abbrev cX4_principalOf : ByteArray := prog_6_method_9_code
def yX4_principalOf : MethodName := ⟨RX4, "principalOf", "(II)I"⟩
abbrev cX4_greatestLimit : ByteArray := prog_6_method_10_code
def yX4_greatestLimit : MethodName := ⟨RX4, "greatestLimit", "(II)I"⟩
def RX5 : String := "Approvalyard$Requests"
def TX5 : u_T := fun k => match k with
  | 0 => ("Approvalyard$Requests", "people", "LApprovalyard$Row;", true)
  | 1 => ("Approvalyard$Requests", "parts", "LApprovalyard$Row;", true)
  | 2 => ("Approvalyard$Requests", "leasts", "LApprovalyard$Row;", true)
  | 3 => ("Approvalyard$Requests", "states", "LApprovalyard$Row;", true)
  | 4 => ("Approvalyard$Requests", "choices", "LApprovalyard$Row;", true)
  | 5 => ("Approvalyard$Requests", "costs", "LApprovalyard$Row;", true)
  | 6 => ("Approvalyard$Requests", "ends", "LApprovalyard$Row;", true)
  | _ => ("Approvalyard$Requests", "number", "I", false)
def tyX5 : Nat → FieldType := fun k => match k with
  | 0 => .object "Approvalyard$Row"
  | 1 => .object "Approvalyard$Row"
  | 2 => .object "Approvalyard$Row"
  | 3 => .object "Approvalyard$Row"
  | 4 => .object "Approvalyard$Row"
  | 5 => .object "Approvalyard$Row"
  | 6 => .object "Approvalyard$Row"
  | _ => .int
abbrev wsX50 : List Cond := u_ws RX5 TX5 8
theorem nmX5 : ∀ a, a < 8 → ∀ b, b < 8 → a ≠ b → (TX5 a).2.1 ≠ (TX5 b).2.1 := by decide +kernel
theorem tyX5_ok : ∀ k, k < 8 → parseFieldDescriptor (TX5 k).2.2.1 = some (tyX5 k) := by decide +kernel
abbrev cX5_init : ByteArray := prog_7_method_1_code
def yX5_init : MethodName := ⟨RX5, "<init>", "()V"⟩
abbrev cX5_clear : ByteArray := prog_7_method_2_code
def yX5_clear : MethodName := ⟨RX5, "clear", "()V"⟩
abbrev cX5_count : ByteArray := prog_7_method_3_code
def yX5_count : MethodName := ⟨RX5, "count", "()I"⟩
abbrev cX5_add : ByteArray := prog_7_method_4_code
def yX5_add : MethodName := ⟨RX5, "add", "(III)I"⟩
abbrev cX5_personOf : ByteArray := prog_7_method_5_code
def yX5_personOf : MethodName := ⟨RX5, "personOf", "(I)I"⟩
abbrev cX5_partOf : ByteArray := prog_7_method_6_code
def yX5_partOf : MethodName := ⟨RX5, "partOf", "(I)I"⟩
abbrev cX5_leastOf : ByteArray := prog_7_method_7_code
def yX5_leastOf : MethodName := ⟨RX5, "leastOf", "(I)I"⟩
abbrev cX5_stateOf : ByteArray := prog_7_method_8_code
def yX5_stateOf : MethodName := ⟨RX5, "stateOf", "(I)I"⟩
abbrev cX5_choiceOf : ByteArray := prog_7_method_9_code
def yX5_choiceOf : MethodName := ⟨RX5, "choiceOf", "(I)I"⟩
abbrev cX5_costOf : ByteArray := prog_7_method_10_code
def yX5_costOf : MethodName := ⟨RX5, "costOf", "(I)I"⟩
abbrev cX5_settle : ByteArray := prog_7_method_11_code
def yX5_settle : MethodName := ⟨RX5, "settle", "(III)I"⟩
abbrev cX5_markReleased : ByteArray := prog_7_method_12_code
def yX5_markReleased : MethodName := ⟨RX5, "markReleased", "(I)I"⟩
abbrev cX5_addApproval : ByteArray := prog_7_method_13_code
def yX5_addApproval : MethodName := ⟨RX5, "addApproval", "(III)V"⟩
abbrev cX5_hasApproval : ByteArray := prog_7_method_14_code
def yX5_hasApproval : MethodName := ⟨RX5, "hasApproval", "(III)Z"⟩
abbrev cX5_approvalsOf : ByteArray := prog_7_method_15_code
def yX5_approvalsOf : MethodName := ⟨RX5, "approvalsOf", "(II)I"⟩
abbrev cX5_loseVersion : ByteArray := prog_7_method_16_code
def yX5_loseVersion : MethodName := ⟨RX5, "loseVersion", "(III)I"⟩
abbrev cX5_reopen : ByteArray := prog_7_method_17_code
def yX5_reopen : MethodName := ⟨RX5, "reopen", "(I)V"⟩
abbrev cX5_endApprovals : ByteArray := prog_7_method_18_code
def yX5_endApprovals : MethodName := ⟨RX5, "endApprovals", "(I)V"⟩
def RX6 : String := "Approvalyard$Row"
def TX6 : u_T := fun k => match k with
  | _ => ("Approvalyard$Row", "cells", "[I", true)
def tyX6 : Nat → FieldType := fun k => match k with
  | _ => .array .int
abbrev wsX60 : List Cond := u_ws RX6 TX6 1
theorem nmX6 : ∀ a, a < 1 → ∀ b, b < 1 → a ≠ b → (TX6 a).2.1 ≠ (TX6 b).2.1 := by decide +kernel
theorem tyX6_ok : ∀ k, k < 1 → parseFieldDescriptor (TX6 k).2.2.1 = some (tyX6 k) := by decide +kernel
abbrev cX6_init : ByteArray := prog_8_method_1_code
def yX6_init : MethodName := ⟨RX6, "<init>", "(I)V"⟩
abbrev cX6_at : ByteArray := prog_8_method_2_code
def yX6_at : MethodName := ⟨RX6, "at", "(I)I"⟩
abbrev cX6_put : ByteArray := prog_8_method_3_code
def yX6_put : MethodName := ⟨RX6, "put", "(II)V"⟩
abbrev cX6_fill : ByteArray := prog_8_method_4_code
def yX6_fill : MethodName := ⟨RX6, "fill", "(I)V"⟩
def RX7 : String := "Approvalyard$Search"
def TX7 : u_T := fun k => match k with
  | 0 => ("Approvalyard$Search", "order", "LApprovalyard$Row;", true)
  | 1 => ("Approvalyard$Search", "wanted", "LApprovalyard$Row;", true)
  | 2 => ("Approvalyard$Search", "number", "I", false)
  | _ => ("Approvalyard$Search", "choice", "I", false)
def tyX7 : Nat → FieldType := fun k => match k with
  | 0 => .object "Approvalyard$Row"
  | 1 => .object "Approvalyard$Row"
  | 2 => .int
  | _ => .int
abbrev wsX70 : List Cond := u_ws RX7 TX7 4
theorem nmX7 : ∀ a, a < 4 → ∀ b, b < 4 → a ≠ b → (TX7 a).2.1 ≠ (TX7 b).2.1 := by decide +kernel
theorem tyX7_ok : ∀ k, k < 4 → parseFieldDescriptor (TX7 k).2.2.1 = some (tyX7 k) := by decide +kernel
abbrev cX7_init : ByteArray := prog_9_method_1_code
def yX7_init : MethodName := ⟨RX7, "<init>", "()V"⟩
abbrev cX7_find : ByteArray := prog_9_method_2_code
def yX7_find : MethodName := ⟨RX7, "find", "(LApprovalyard$Parts;II)I"⟩
abbrev cX7_fill : ByteArray := prog_9_method_3_code
def yX7_fill : MethodName := ⟨RX7, "fill", "(LApprovalyard$Parts;I)Z"⟩
abbrev cX7_take : ByteArray := prog_9_method_4_code
def yX7_take : MethodName := ⟨RX7, "take", "(LApprovalyard$Parts;II)Z"⟩
abbrev cX7_await : ByteArray := prog_9_method_5_code
def yX7_await : MethodName := ⟨RX7, "await", "(I)V"⟩
def RX8 : String := "Approvalyard"
def TX8 : u_T := fun k => match k with
  | 0 => ("Approvalyard", "book", "LApprovalyard$Book;", true)
  | 1 => ("Approvalyard", "desk", "LApprovalyard$Desk;", true)
  | 2 => ("Approvalyard", "deskAnew", "LApprovalyard$Desk;", true)
  | _ => ("Approvalyard", "search", "LApprovalyard$Search;", true)
def tyX8 : Nat → FieldType := fun k => match k with
  | 0 => .object "Approvalyard$Book"
  | 1 => .object "Approvalyard$Desk"
  | 2 => .object "Approvalyard$Desk"
  | _ => .object "Approvalyard$Search"
abbrev wsX80 : List Cond := u_ws RX8 TX8 4
theorem nmX8 : ∀ a, a < 4 → ∀ b, b < 4 → a ≠ b → (TX8 a).2.1 ≠ (TX8 b).2.1 := by decide +kernel
theorem tyX8_ok : ∀ k, k < 4 → parseFieldDescriptor (TX8 k).2.2.1 = some (tyX8 k) := by decide +kernel
abbrev cX8_init : ByteArray := prog_1_method_1_code
def yX8_init : MethodName := ⟨RX8, "<init>", "()V"⟩
abbrev cX8_version : ByteArray := prog_1_method_2_code
def yX8_version : MethodName := ⟨RX8, "version", "(II)I"⟩
abbrev cX8_need : ByteArray := prog_1_method_3_code
def yX8_need : MethodName := ⟨RX8, "need", "(IIIII)I"⟩
abbrev cX8_replace : ByteArray := prog_1_method_4_code
def yX8_replace : MethodName := ⟨RX8, "replace", "(II)I"⟩
abbrev cX8_request : ByteArray := prog_1_method_5_code
def yX8_request : MethodName := ⟨RX8, "request", "(III)I"⟩
abbrev cX8_resolve : ByteArray := prog_1_method_6_code
def yX8_resolve : MethodName := ⟨RX8, "resolve", "(I)I"⟩
abbrev cX8_chosen : ByteArray := prog_1_method_7_code
def yX8_chosen : MethodName := ⟨RX8, "chosen", "(II)I"⟩
abbrev cX8_limit : ByteArray := prog_1_method_8_code
def yX8_limit : MethodName := ⟨RX8, "limit", "(II)I"⟩
abbrev cX8_leave : ByteArray := prog_1_method_9_code
def yX8_leave : MethodName := ⟨RX8, "leave", "(III)I"⟩
abbrev cX8_approve : ByteArray := prog_1_method_10_code
def yX8_approve : MethodName := ⟨RX8, "approve", "(II)I"⟩
abbrev cX8_release : ByteArray := prog_1_method_11_code
def yX8_release : MethodName := ⟨RX8, "release", "(I)V"⟩
abbrev cX8_pass : ByteArray := prog_1_method_12_code
def yX8_pass : MethodName := ⟨RX8, "pass", "(I)I"⟩
abbrev cX8_ofRequest : ByteArray := prog_1_method_13_code
def yX8_ofRequest : MethodName := ⟨RX8, "ofRequest", "(II)I"⟩
abbrev cX8_isCoveredAnew : ByteArray := prog_1_method_14_code
def yX8_isCoveredAnew : MethodName := ⟨RX8, "isCoveredAnew", "(I)Z"⟩
abbrev cX8_strain : ByteArray := prog_1_method_15_code
def yX8_strain : MethodName := ⟨RX8, "strain", "(I)F"⟩
abbrev cX8_entries : ByteArray := prog_1_method_16_code
def yX8_entries : MethodName := ⟨RX8, "entries", "()I"⟩
abbrev cX8_tell : ByteArray := prog_1_method_17_code
def yX8_tell : MethodName := ⟨RX8, "tell", "(IIII)I"⟩
abbrev cX8_checkPart : ByteArray := prog_1_method_18_code
def yX8_checkPart : MethodName := ⟨RX8, "checkPart", "(I)V"⟩
abbrev cX8_checkVersion : ByteArray := prog_1_method_19_code
def yX8_checkVersion : MethodName := ⟨RX8, "checkVersion", "(II)V"⟩
abbrev cX8_checkPerson : ByteArray := prog_1_method_20_code
def yX8_checkPerson : MethodName := ⟨RX8, "checkPerson", "(I)V"⟩
abbrev cX8_checkRequest : ByteArray := prog_1_method_21_code
def yX8_checkRequest : MethodName := ⟨RX8, "checkRequest", "(I)V"⟩
abbrev cX8_checkLeast : ByteArray := prog_1_method_22_code
def yX8_checkLeast : MethodName := ⟨RX8, "checkLeast", "(I)V"⟩
abbrev cX8_checkDays : ByteArray := prog_1_method_23_code
def yX8_checkDays : MethodName := ⟨RX8, "checkDays", "(I)V"⟩
def RX9 : String := "ApprovalyardModel"
def TX9 : u_T := fun k => match k with
  | 0 => ("ApprovalyardModel", "vc", "[I", true)
  | 1 => ("ApprovalyardModel", "vr", "[I", true)
  | 2 => ("ApprovalyardModel", "vn", "[I", true)
  | 3 => ("ApprovalyardModel", "needs", "[I", true)
  | 4 => ("ApprovalyardModel", "versions", "[I", true)
  | 5 => ("ApprovalyardModel", "lim", "[I", true)
  | 6 => ("ApprovalyardModel", "back", "[I", true)
  | 7 => ("ApprovalyardModel", "deputy", "[I", true)
  | 8 => ("ApprovalyardModel", "qp", "[I", true)
  | 9 => ("ApprovalyardModel", "qt", "[I", true)
  | 10 => ("ApprovalyardModel", "ql", "[I", true)
  | 11 => ("ApprovalyardModel", "qs", "[I", true)
  | 12 => ("ApprovalyardModel", "qc", "[I", true)
  | 13 => ("ApprovalyardModel", "chosen", "[I", true)
  | 14 => ("ApprovalyardModel", "by", "[I", true)
  | 15 => ("ApprovalyardModel", "until", "[I", true)
  | 16 => ("ApprovalyardModel", "requests", "I", false)
  | 17 => ("ApprovalyardModel", "day", "I", false)
  | 18 => ("ApprovalyardModel", "entries", "I", false)
  | 19 => ("ApprovalyardModel", "row", "[I", true)
  | 20 => ("ApprovalyardModel", "pick", "[I", true)
  | 21 => ("ApprovalyardModel", "size", "[I", true)
  | 22 => ("ApprovalyardModel", "place", "[I", true)
  | _ => ("ApprovalyardModel", "thrown", "I", false)
def tyX9 : Nat → FieldType := fun k => match k with
  | 0 => .array .int
  | 1 => .array .int
  | 2 => .array .int
  | 3 => .array .int
  | 4 => .array .int
  | 5 => .array .int
  | 6 => .array .int
  | 7 => .array .int
  | 8 => .array .int
  | 9 => .array .int
  | 10 => .array .int
  | 11 => .array .int
  | 12 => .array .int
  | 13 => .array .int
  | 14 => .array .int
  | 15 => .array .int
  | 16 => .int
  | 17 => .int
  | 18 => .int
  | 19 => .array .int
  | 20 => .array .int
  | 21 => .array .int
  | 22 => .array .int
  | _ => .int
abbrev wsX90 : List Cond := u_ws RX9 TX9 24
theorem nmX9 : ∀ a, a < 24 → ∀ b, b < 24 → a ≠ b → (TX9 a).2.1 ≠ (TX9 b).2.1 := by decide +kernel
theorem tyX9_ok : ∀ k, k < 24 → parseFieldDescriptor (TX9 k).2.2.1 = some (tyX9 k) := by decide +kernel
abbrev cX9_init : ByteArray := prog_11_method_1_code
def yX9_init : MethodName := ⟨RX9, "<init>", "()V"⟩
abbrev cX9_thrown : ByteArray := prog_11_method_2_code
def yX9_thrown : MethodName := ⟨RX9, "thrown", "()I"⟩
abbrev cX9_holds : ByteArray := prog_11_method_3_code
def yX9_holds : MethodName := ⟨RX9, "holds", "(I)Z"⟩
abbrev cX9_in : ByteArray := prog_11_method_4_code
def yX9_in : MethodName := ⟨RX9, "in", "(III)Z"⟩
abbrev cX9_isEight : ByteArray := prog_11_method_5_code
def yX9_isEight : MethodName := ⟨RX9, "isEight", "(I)Z"⟩
abbrev cX9_isVersion : ByteArray := prog_11_method_6_code
def yX9_isVersion : MethodName := ⟨RX9, "isVersion", "(II)Z"⟩
abbrev cX9_isRequest : ByteArray := prog_11_method_7_code
def yX9_isRequest : MethodName := ⟨RX9, "isRequest", "(I)Z"⟩
abbrev cX9_version : ByteArray := prog_11_method_8_code
def yX9_version : MethodName := ⟨RX9, "version", "(II)I"⟩
abbrev cX9_need : ByteArray := prog_11_method_9_code
def yX9_need : MethodName := ⟨RX9, "need", "(IIIII)I"⟩
abbrev cX9_ends : ByteArray := prog_11_method_10_code
def yX9_ends : MethodName := ⟨RX9, "ends", "(I)I"⟩
abbrev cX9_replace : ByteArray := prog_11_method_11_code
def yX9_replace : MethodName := ⟨RX9, "replace", "(II)I"⟩
abbrev cX9_empty : ByteArray := prog_11_method_12_code
def yX9_empty : MethodName := ⟨RX9, "empty", "(I)V"⟩
abbrev cX9_request : ByteArray := prog_11_method_13_code
def yX9_request : MethodName := ⟨RX9, "request", "(III)I"⟩
abbrev cX9_goes : ByteArray := prog_11_method_14_code
def yX9_goes : MethodName := ⟨RX9, "goes", "(II)Z"⟩
abbrev cX9_comes : ByteArray := prog_11_method_15_code
def yX9_comes : MethodName := ⟨RX9, "comes", "(II)I"⟩
abbrev cX9_forget : ByteArray := prog_11_method_16_code
def yX9_forget : MethodName := ⟨RX9, "forget", "(I)V"⟩
abbrev cX9_search : ByteArray := prog_11_method_17_code
def yX9_search : MethodName := ⟨RX9, "search", "(I)I"⟩
abbrev cX9_resolve : ByteArray := prog_11_method_18_code
def yX9_resolve : MethodName := ⟨RX9, "resolve", "(I)I"⟩
abbrev cX9_chosen : ByteArray := prog_11_method_19_code
def yX9_chosen : MethodName := ⟨RX9, "chosen", "(II)I"⟩
abbrev cX9_limit : ByteArray := prog_11_method_20_code
def yX9_limit : MethodName := ⟨RX9, "limit", "(II)I"⟩
abbrev cX9_leave : ByteArray := prog_11_method_21_code
def yX9_leave : MethodName := ⟨RX9, "leave", "(III)I"⟩
abbrev cX9_isAway : ByteArray := prog_11_method_22_code
def yX9_isAway : MethodName := ⟨RX9, "isAway", "(I)Z"⟩
abbrev cX9_forWhom : ByteArray := prog_11_method_23_code
def yX9_forWhom : MethodName := ⟨RX9, "forWhom", "(II)I"⟩
abbrev cX9_approve : ByteArray := prog_11_method_24_code
def yX9_approve : MethodName := ⟨RX9, "approve", "(II)I"⟩
abbrev cX9_approvals : ByteArray := prog_11_method_25_code
def yX9_approvals : MethodName := ⟨RX9, "approvals", "(I)I"⟩
abbrev cX9_covered : ByteArray := prog_11_method_26_code
def yX9_covered : MethodName := ⟨RX9, "covered", "(I)Z"⟩
abbrev cX9_release : ByteArray := prog_11_method_27_code
def yX9_release : MethodName := ⟨RX9, "release", "(I)V"⟩
abbrev cX9_pass : ByteArray := prog_11_method_28_code
def yX9_pass : MethodName := ⟨RX9, "pass", "(I)I"⟩
abbrev cX9_ofRequest : ByteArray := prog_11_method_29_code
def yX9_ofRequest : MethodName := ⟨RX9, "ofRequest", "(II)I"⟩
abbrev cX9_isCoveredAnew : ByteArray := prog_11_method_30_code
def yX9_isCoveredAnew : MethodName := ⟨RX9, "isCoveredAnew", "(I)Z"⟩
abbrev cX9_strain : ByteArray := prog_11_method_31_code
def yX9_strain : MethodName := ⟨RX9, "strain", "(I)F"⟩
abbrev cX9_entries : ByteArray := prog_11_method_32_code
def yX9_entries : MethodName := ⟨RX9, "entries", "()I"⟩
def RJ0 : String := "java/lang/String"
def TJ0 : u_T := fun k => match k with
  | _ => ("", "", "", false)
def tyJ0 : Nat → FieldType := fun k => match k with
  | _ => .int
abbrev wsJ00 : List Cond := u_ws RJ0 TJ0 0
theorem nmJ0 : ∀ a, a < 0 → ∀ b, b < 0 → a ≠ b → (TJ0 a).2.1 ≠ (TJ0 b).2.1 := by decide +kernel
theorem tyJ0_ok : ∀ k, k < 0 → parseFieldDescriptor (TJ0 k).2.2.1 = some (tyJ0 k) := by decide +kernel
def RL : String := "ApprovalyardLaw"
abbrev cL_version : ByteArray := method_3_code
def yL_version : MethodName := ⟨RL, "version", "(LApprovalyard;II[J)I"⟩
abbrev cL_need : ByteArray := method_4_code
def yL_need : MethodName := ⟨RL, "need", "(LApprovalyard;IIIII[J)I"⟩
abbrev cL_replace : ByteArray := method_5_code
def yL_replace : MethodName := ⟨RL, "replace", "(LApprovalyard;II[J)I"⟩
abbrev cL_request : ByteArray := method_6_code
def yL_request : MethodName := ⟨RL, "request", "(LApprovalyard;III[J)I"⟩
abbrev cL_resolve : ByteArray := method_7_code
def yL_resolve : MethodName := ⟨RL, "resolve", "(LApprovalyard;I[J)I"⟩
abbrev cL_chosen : ByteArray := method_8_code
def yL_chosen : MethodName := ⟨RL, "chosen", "(LApprovalyard;II[J)I"⟩
abbrev cL_limit : ByteArray := method_9_code
def yL_limit : MethodName := ⟨RL, "limit", "(LApprovalyard;II[J)I"⟩
abbrev cL_leave : ByteArray := method_10_code
def yL_leave : MethodName := ⟨RL, "leave", "(LApprovalyard;III[J)I"⟩
abbrev cL_approve : ByteArray := method_11_code
def yL_approve : MethodName := ⟨RL, "approve", "(LApprovalyard;II[J)I"⟩
abbrev cL_release : ByteArray := method_12_code
def yL_release : MethodName := ⟨RL, "release", "(LApprovalyard;I)I"⟩
abbrev cL_pass : ByteArray := method_13_code
def yL_pass : MethodName := ⟨RL, "pass", "(LApprovalyard;I[J)I"⟩
abbrev cL_ofRequest : ByteArray := method_14_code
def yL_ofRequest : MethodName := ⟨RL, "ofRequest", "(LApprovalyard;II[J)I"⟩
abbrev cL_isCoveredAnew : ByteArray := method_15_code
def yL_isCoveredAnew : MethodName := ⟨RL, "isCoveredAnew", "(LApprovalyard;I[J)I"⟩
abbrev cL_strain : ByteArray := method_16_code
def yL_strain : MethodName := ⟨RL, "strain", "(LApprovalyard;I[D)I"⟩
abbrev cL_law : ByteArray := code
def yL_law : MethodName := ⟨RL, "law", "([I)Z"⟩
def wsX6_init : List Cond := .code yX6_init cX6_init 2 none :: ([.methodLink RX6 1 objectInit, .instanceMethod objectInit, .code objectInit ⟨#[0xb1]⟩ 1 none, .arrayClass .int, .fieldLink RX6 7 "Approvalyard$Row" "cells" "[I"] ++ wsX60)
def wsX0_init : List Cond := .code yX0_init cX0_init 1 none :: ([.methodLink RX0 3 objectInit, .instanceMethod objectInit, .code objectInit ⟨#[0xb1]⟩ 1 none, .classLink RX0 9 RX6, .instantiable RX6 1, .initialized RX6, .fieldLink RX0 16 "Approvalyard$Book" "words" "LApprovalyard$Row;", .methodLink RX0 13 yX6_init, .instanceMethod yX6_init, .code yX6_init cX6_init 2 none, .methodLink RX6 1 objectInit, .arrayClass .int, .fieldLink RX6 7 "Approvalyard$Row" "cells" "[I"] ++ wsX60 ++ wsX00)
def wsX0_count : List Cond := .code yX0_count cX0_count 1 (some .int) :: ([.fieldLink RX0 20 "Approvalyard$Book" "number" "I"] ++ wsX00)
def wsX6_put : List Cond := .code yX6_put cX6_put 3 none :: ([.fieldLink RX6 7 "Approvalyard$Row" "cells" "[I"] ++ wsX60)
def wsX0_write : List Cond := .code yX0_write cX0_write 8 (some .int) :: ([.fieldLink RX0 20 "Approvalyard$Book" "number" "I", .fieldLink RX0 16 "Approvalyard$Book" "words" "LApprovalyard$Row;", .methodLink RX0 24 yX6_put, .instanceMethod yX6_put, .selects RX6 yX6_put yX6_put, .initialized RX6, .code yX6_put cX6_put 3 none, .fieldLink RX6 7 "Approvalyard$Row" "cells" "[I"] ++ wsX00 ++ wsX60)
def wsX6_at : List Cond := .code yX6_at cX6_at 2 (some .int) :: ([.fieldLink RX6 7 "Approvalyard$Row" "cells" "[I"] ++ wsX60)
def wsX0_wordOf : List Cond := .code yX0_wordOf cX0_wordOf 3 (some .int) :: ([.fieldLink RX0 16 "Approvalyard$Book" "words" "LApprovalyard$Row;", .methodLink RX0 28 yX6_at, .instanceMethod yX6_at, .selects RX6 yX6_at yX6_at, .initialized RX6, .code yX6_at cX6_at 2 (some .int), .fieldLink RX6 7 "Approvalyard$Row" "cells" "[I"] ++ wsX00 ++ wsX60)
def wsX1_versionOf : List Cond := .code yX1_versionOf cX1_versionOf 2 (some .int) :: ([])
def wsX1_with : List Cond := .code yX1_with cX1_with 3 (some .int) :: ([])
def wsX3_init : List Cond := .code yX3_init cX3_init 1 none :: ([.methodLink RX3 3 objectInit, .instanceMethod objectInit, .code objectInit ⟨#[0xb1]⟩ 1 none, .classLink RX3 9 RX6, .instantiable RX6 1, .initialized RX6, .fieldLink RX3 14 "Approvalyard$Parts" "counts" "LApprovalyard$Row;", .fieldLink RX3 20 "Approvalyard$Parts" "costs" "LApprovalyard$Row;", .fieldLink RX3 23 "Approvalyard$Parts" "replaced" "LApprovalyard$Row;", .fieldLink RX3 26 "Approvalyard$Parts" "needCounts" "LApprovalyard$Row;", .fieldLink RX3 29 "Approvalyard$Parts" "needParts" "LApprovalyard$Row;", .fieldLink RX3 32 "Approvalyard$Parts" "needVersions" "LApprovalyard$Row;", .methodLink RX3 11 yX6_init, .instanceMethod yX6_init, .code yX6_init cX6_init 2 none, .methodLink RX6 1 objectInit, .arrayClass .int, .fieldLink RX6 7 "Approvalyard$Row" "cells" "[I"] ++ wsX60 ++ wsX30)
def wsX4_init : List Cond := .code yX4_init cX4_init 1 none :: ([.methodLink RX4 3 objectInit, .instanceMethod objectInit, .code objectInit ⟨#[0xb1]⟩ 1 none, .classLink RX4 9 RX6, .instantiable RX6 1, .initialized RX6, .fieldLink RX4 14 "Approvalyard$People" "limits" "LApprovalyard$Row;", .fieldLink RX4 20 "Approvalyard$People" "delegates" "LApprovalyard$Row;", .fieldLink RX4 23 "Approvalyard$People" "backs" "LApprovalyard$Row;", .methodLink RX4 11 yX6_init, .instanceMethod yX6_init, .code yX6_init cX6_init 2 none, .methodLink RX6 1 objectInit, .arrayClass .int, .fieldLink RX6 7 "Approvalyard$Row" "cells" "[I"] ++ wsX60 ++ wsX40)
def wsX5_init : List Cond := .code yX5_init cX5_init 1 none :: ([.methodLink RX5 3 objectInit, .instanceMethod objectInit, .code objectInit ⟨#[0xb1]⟩ 1 none, .classLink RX5 9 RX6, .instantiable RX6 1, .initialized RX6, .fieldLink RX5 14 "Approvalyard$Requests" "people" "LApprovalyard$Row;", .fieldLink RX5 20 "Approvalyard$Requests" "parts" "LApprovalyard$Row;", .fieldLink RX5 23 "Approvalyard$Requests" "leasts" "LApprovalyard$Row;", .fieldLink RX5 26 "Approvalyard$Requests" "states" "LApprovalyard$Row;", .fieldLink RX5 29 "Approvalyard$Requests" "choices" "LApprovalyard$Row;", .fieldLink RX5 32 "Approvalyard$Requests" "costs" "LApprovalyard$Row;", .fieldLink RX5 35 "Approvalyard$Requests" "ends" "LApprovalyard$Row;", .methodLink RX5 11 yX6_init, .instanceMethod yX6_init, .code yX6_init cX6_init 2 none, .methodLink RX6 1 objectInit, .arrayClass .int, .fieldLink RX6 7 "Approvalyard$Row" "cells" "[I"] ++ wsX60 ++ wsX50)
def wsX6_fill : List Cond := .code yX6_fill cX6_fill 3 none :: ([.fieldLink RX6 7 "Approvalyard$Row" "cells" "[I"] ++ wsX60)
def wsX3_clear : List Cond := .code yX3_clear cX3_clear 1 none :: ([.fieldLink RX3 14 "Approvalyard$Parts" "counts" "LApprovalyard$Row;", .methodLink RX3 35 yX6_fill, .instanceMethod yX6_fill, .selects RX6 yX6_fill yX6_fill, .initialized RX6, .code yX6_fill cX6_fill 3 none, .fieldLink RX6 7 "Approvalyard$Row" "cells" "[I"] ++ wsX30 ++ wsX60)
def wsX4_clear : List Cond := .code yX4_clear cX4_clear 1 none :: ([.fieldLink RX4 14 "Approvalyard$People" "limits" "LApprovalyard$Row;", .fieldLink RX4 23 "Approvalyard$People" "backs" "LApprovalyard$Row;", .fieldLink RX4 29 "Approvalyard$People" "day" "I", .methodLink RX4 26 yX6_fill, .instanceMethod yX6_fill, .selects RX6 yX6_fill yX6_fill, .initialized RX6, .code yX6_fill cX6_fill 3 none, .fieldLink RX6 7 "Approvalyard$Row" "cells" "[I"] ++ wsX40 ++ wsX60)
def wsX5_clear : List Cond := .code yX5_clear cX5_clear 1 none :: ([.fieldLink RX5 38 "Approvalyard$Requests" "number" "I"] ++ wsX50)
def wsX2_clear_r1 : List Cond := [Cond.fieldLink RX2 12 "Approvalyard$Desk" "parts" "LApprovalyard$Parts;", Cond.fieldLink RX2 21 "Approvalyard$Desk" "people" "LApprovalyard$People;", Cond.fieldLink RX2 28 "Approvalyard$Desk" "requests" "LApprovalyard$Requests;", Cond.methodLink RX2 35 yX3_clear, Cond.instanceMethod yX3_clear, Cond.selects RX3 yX3_clear yX3_clear, Cond.initialized RX3, Cond.code yX3_clear cX3_clear 1 none, Cond.fieldLink RX3 14 "Approvalyard$Parts" "counts" "LApprovalyard$Row;", Cond.methodLink RX3 35 yX6_fill, Cond.instanceMethod yX6_fill, Cond.selects RX6 yX6_fill yX6_fill, Cond.initialized RX6, Cond.code yX6_fill cX6_fill 3 none, Cond.fieldLink RX6 7 "Approvalyard$Row" "cells" "[I", Cond.methodLink RX2 36 yX4_clear, Cond.instanceMethod yX4_clear, Cond.selects RX4 yX4_clear yX4_clear, Cond.initialized RX4, Cond.code yX4_clear cX4_clear 1 none, Cond.fieldLink RX4 14 "Approvalyard$People" "limits" "LApprovalyard$Row;", Cond.fieldLink RX4 23 "Approvalyard$People" "backs" "LApprovalyard$Row;", Cond.fieldLink RX4 29 "Approvalyard$People" "day" "I", Cond.methodLink RX4 26 yX6_fill]
def wsX2_clear_r2 : List Cond := [Cond.methodLink RX2 37 yX5_clear, Cond.instanceMethod yX5_clear, Cond.selects RX5 yX5_clear yX5_clear, Cond.initialized RX5, Cond.code yX5_clear cX5_clear 1 none, Cond.fieldLink RX5 38 "Approvalyard$Requests" "number" "I"]
def wsX2_clear : List Cond := .code yX2_clear cX2_clear 1 none :: ((wsX2_clear_r1 ++ wsX2_clear_r2) ++ wsX20 ++ wsX30 ++ wsX60 ++ wsX40 ++ wsX50)
def wsX2_init_r1 : List Cond := [Cond.methodLink RX2 3 objectInit, Cond.instanceMethod objectInit, Cond.code objectInit ⟨#[0xb1]⟩ 1 none, Cond.classLink RX2 9 RX3, Cond.instantiable RX3 6, Cond.initialized RX3, Cond.fieldLink RX2 12 "Approvalyard$Desk" "parts" "LApprovalyard$Parts;", Cond.classLink RX2 18 RX4, Cond.instantiable RX4 4, Cond.initialized RX4, Cond.fieldLink RX2 21 "Approvalyard$Desk" "people" "LApprovalyard$People;", Cond.classLink RX2 25 RX5, Cond.instantiable RX5 8, Cond.initialized RX5, Cond.fieldLink RX2 28 "Approvalyard$Desk" "requests" "LApprovalyard$Requests;", Cond.instanceMethod yX3_init, Cond.code yX3_init cX3_init 1 none, Cond.methodLink RX3 3 objectInit, Cond.classLink RX3 9 RX6, Cond.instantiable RX6 1, Cond.initialized RX6, Cond.fieldLink RX3 14 "Approvalyard$Parts" "counts" "LApprovalyard$Row;", Cond.fieldLink RX3 20 "Approvalyard$Parts" "costs" "LApprovalyard$Row;", Cond.fieldLink RX3 23 "Approvalyard$Parts" "replaced" "LApprovalyard$Row;"]
def wsX2_init_r2 : List Cond := [Cond.fieldLink RX3 26 "Approvalyard$Parts" "needCounts" "LApprovalyard$Row;", Cond.fieldLink RX3 29 "Approvalyard$Parts" "needParts" "LApprovalyard$Row;", Cond.fieldLink RX3 32 "Approvalyard$Parts" "needVersions" "LApprovalyard$Row;", Cond.methodLink RX3 11 yX6_init, Cond.instanceMethod yX6_init, Cond.code yX6_init cX6_init 2 none, Cond.methodLink RX6 1 objectInit, Cond.arrayClass .int, Cond.fieldLink RX6 7 "Approvalyard$Row" "cells" "[I", Cond.instanceMethod yX4_init, Cond.code yX4_init cX4_init 1 none, Cond.methodLink RX4 3 objectInit, Cond.classLink RX4 9 RX6, Cond.fieldLink RX4 14 "Approvalyard$People" "limits" "LApprovalyard$Row;", Cond.fieldLink RX4 20 "Approvalyard$People" "delegates" "LApprovalyard$Row;", Cond.fieldLink RX4 23 "Approvalyard$People" "backs" "LApprovalyard$Row;", Cond.methodLink RX4 11 yX6_init, Cond.instanceMethod yX5_init, Cond.code yX5_init cX5_init 1 none, Cond.methodLink RX5 3 objectInit, Cond.classLink RX5 9 RX6, Cond.fieldLink RX5 14 "Approvalyard$Requests" "people" "LApprovalyard$Row;", Cond.fieldLink RX5 20 "Approvalyard$Requests" "parts" "LApprovalyard$Row;", Cond.fieldLink RX5 23 "Approvalyard$Requests" "leasts" "LApprovalyard$Row;"]
def wsX2_init_r3 : List Cond := [Cond.fieldLink RX5 26 "Approvalyard$Requests" "states" "LApprovalyard$Row;", Cond.fieldLink RX5 29 "Approvalyard$Requests" "choices" "LApprovalyard$Row;", Cond.fieldLink RX5 32 "Approvalyard$Requests" "costs" "LApprovalyard$Row;", Cond.fieldLink RX5 35 "Approvalyard$Requests" "ends" "LApprovalyard$Row;", Cond.methodLink RX5 11 yX6_init, Cond.methodLink RX2 32 yX2_clear, Cond.instanceMethod yX2_clear, Cond.selects RX2 yX2_clear yX2_clear, Cond.initialized RX2, Cond.code yX2_clear cX2_clear 1 none, Cond.methodLink RX2 35 yX3_clear, Cond.instanceMethod yX3_clear, Cond.selects RX3 yX3_clear yX3_clear, Cond.code yX3_clear cX3_clear 1 none, Cond.methodLink RX3 35 yX6_fill, Cond.instanceMethod yX6_fill, Cond.selects RX6 yX6_fill yX6_fill, Cond.code yX6_fill cX6_fill 3 none, Cond.methodLink RX2 36 yX4_clear, Cond.instanceMethod yX4_clear, Cond.selects RX4 yX4_clear yX4_clear, Cond.code yX4_clear cX4_clear 1 none, Cond.fieldLink RX4 29 "Approvalyard$People" "day" "I", Cond.methodLink RX4 26 yX6_fill]
def wsX2_init_r4 : List Cond := [Cond.methodLink RX2 37 yX5_clear, Cond.instanceMethod yX5_clear, Cond.selects RX5 yX5_clear yX5_clear, Cond.code yX5_clear cX5_clear 1 none, Cond.fieldLink RX5 38 "Approvalyard$Requests" "number" "I"]
def wsX2_init : List Cond := .code yX2_init cX2_init 1 none :: ((wsX2_init_r1 ++ (wsX2_init_r2 ++ (wsX2_init_r3 ++ wsX2_init_r4))) ++ wsX30 ++ wsX20 ++ wsX40 ++ wsX50 ++ wsX60)
def wsX3_placeOf : List Cond := .code yX3_placeOf cX3_placeOf 2 (some .int) :: ([])
def wsX3_addVersion : List Cond := .code yX3_addVersion cX3_addVersion 5 (some .int) :: ([.fieldLink RX3 14 "Approvalyard$Parts" "counts" "LApprovalyard$Row;", .fieldLink RX3 20 "Approvalyard$Parts" "costs" "LApprovalyard$Row;", .fieldLink RX3 23 "Approvalyard$Parts" "replaced" "LApprovalyard$Row;", .fieldLink RX3 26 "Approvalyard$Parts" "needCounts" "LApprovalyard$Row;", .methodLink RX3 38 yX6_at, .instanceMethod yX6_at, .selects RX6 yX6_at yX6_at, .initialized RX6, .code yX6_at cX6_at 2 (some .int), .fieldLink RX6 7 "Approvalyard$Row" "cells" "[I", .methodLink RX3 42 yX3_placeOf, .static yX3_placeOf, .initialized RX3, .code yX3_placeOf cX3_placeOf 2 (some .int), .methodLink RX3 46 yX6_put, .instanceMethod yX6_put, .selects RX6 yX6_put yX6_put, .code yX6_put cX6_put 3 none] ++ wsX30 ++ wsX60)
def wsX3_versionSet : List Cond := .code yX3_versionSet cX3_versionSet 2 (some .int) :: ([])
def wsX3_addNeed : List Cond := .code yX3_addNeed cX3_addNeed 8 (some .int) :: ([.fieldLink RX3 26 "Approvalyard$Parts" "needCounts" "LApprovalyard$Row;", .fieldLink RX3 29 "Approvalyard$Parts" "needParts" "LApprovalyard$Row;", .fieldLink RX3 32 "Approvalyard$Parts" "needVersions" "LApprovalyard$Row;", .methodLink RX3 42 yX3_placeOf, .static yX3_placeOf, .initialized RX3, .code yX3_placeOf cX3_placeOf 2 (some .int), .methodLink RX3 38 yX6_at, .instanceMethod yX6_at, .selects RX6 yX6_at yX6_at, .initialized RX6, .code yX6_at cX6_at 2 (some .int), .fieldLink RX6 7 "Approvalyard$Row" "cells" "[I", .methodLink RX3 46 yX6_put, .instanceMethod yX6_put, .selects RX6 yX6_put yX6_put, .code yX6_put cX6_put 3 none, .methodLink RX3 50 yX3_versionSet, .static yX3_versionSet, .code yX3_versionSet cX3_versionSet 2 (some .int)] ++ wsX30 ++ wsX60)
def wsX3_markReplaced : List Cond := .code yX3_markReplaced cX3_markReplaced 3 none :: ([.fieldLink RX3 23 "Approvalyard$Parts" "replaced" "LApprovalyard$Row;", .methodLink RX3 42 yX3_placeOf, .static yX3_placeOf, .initialized RX3, .code yX3_placeOf cX3_placeOf 2 (some .int), .methodLink RX3 46 yX6_put, .instanceMethod yX6_put, .selects RX6 yX6_put yX6_put, .initialized RX6, .code yX6_put cX6_put 3 none, .fieldLink RX6 7 "Approvalyard$Row" "cells" "[I"] ++ wsX30 ++ wsX60)
def wsX4_today : List Cond := .code yX4_today cX4_today 1 (some .int) :: ([.fieldLink RX4 29 "Approvalyard$People" "day" "I"] ++ wsX40)
def wsX5_hasApproval : List Cond := .code yX5_hasApproval cX5_hasApproval 4 (some .boolean) :: ([.fieldLink RX5 35 "Approvalyard$Requests" "ends" "LApprovalyard$Row;", .methodLink RX5 52 yX6_at, .instanceMethod yX6_at, .selects RX6 yX6_at yX6_at, .initialized RX6, .code yX6_at cX6_at 2 (some .int), .fieldLink RX6 7 "Approvalyard$Row" "cells" "[I"] ++ wsX50 ++ wsX60)
def wsX5_approvalsOf : List Cond := .code yX5_approvalsOf cX5_approvalsOf 5 (some .int) :: ([.methodLink RX5 56 yX5_hasApproval, .instanceMethod yX5_hasApproval, .selects RX5 yX5_hasApproval yX5_hasApproval, .initialized RX5, .code yX5_hasApproval cX5_hasApproval 4 (some .boolean), .fieldLink RX5 35 "Approvalyard$Requests" "ends" "LApprovalyard$Row;", .methodLink RX5 52 yX6_at, .instanceMethod yX6_at, .selects RX6 yX6_at yX6_at, .initialized RX6, .code yX6_at cX6_at 2 (some .int), .fieldLink RX6 7 "Approvalyard$Row" "cells" "[I"] ++ wsX50 ++ wsX60)
def wsX5_endApprovals : List Cond := .code yX5_endApprovals cX5_endApprovals 3 none :: ([.fieldLink RX5 35 "Approvalyard$Requests" "ends" "LApprovalyard$Row;", .methodLink RX5 42 yX6_put, .instanceMethod yX6_put, .selects RX6 yX6_put yX6_put, .initialized RX6, .code yX6_put cX6_put 3 none, .fieldLink RX6 7 "Approvalyard$Row" "cells" "[I"] ++ wsX50 ++ wsX60)
def wsX5_reopen : List Cond := .code yX5_reopen cX5_reopen 2 none :: ([.fieldLink RX5 26 "Approvalyard$Requests" "states" "LApprovalyard$Row;", .fieldLink RX5 29 "Approvalyard$Requests" "choices" "LApprovalyard$Row;", .fieldLink RX5 32 "Approvalyard$Requests" "costs" "LApprovalyard$Row;", .methodLink RX5 42 yX6_put, .instanceMethod yX6_put, .selects RX6 yX6_put yX6_put, .initialized RX6, .code yX6_put cX6_put 3 none, .fieldLink RX6 7 "Approvalyard$Row" "cells" "[I"] ++ wsX50 ++ wsX60)
def wsX5_loseVersion_r1 : List Cond := [Cond.fieldLink RX5 38 "Approvalyard$Requests" "number" "I", Cond.fieldLink RX5 29 "Approvalyard$Requests" "choices" "LApprovalyard$Row;", Cond.fieldLink RX5 26 "Approvalyard$Requests" "states" "LApprovalyard$Row;", Cond.methodLink RX5 52 yX6_at, Cond.instanceMethod yX6_at, Cond.selects RX6 yX6_at yX6_at, Cond.initialized RX6, Cond.code yX6_at cX6_at 2 (some .int), Cond.fieldLink RX6 7 "Approvalyard$Row" "cells" "[I", Cond.methodLink RX5 60 yX1_versionOf, Cond.static yX1_versionOf, Cond.initialized RX1, Cond.code yX1_versionOf cX1_versionOf 2 (some .int), Cond.methodLink RX5 66 yX5_approvalsOf, Cond.instanceMethod yX5_approvalsOf, Cond.selects RX5 yX5_approvalsOf yX5_approvalsOf, Cond.initialized RX5, Cond.code yX5_approvalsOf cX5_approvalsOf 5 (some .int), Cond.methodLink RX5 56 yX5_hasApproval, Cond.instanceMethod yX5_hasApproval, Cond.selects RX5 yX5_hasApproval yX5_hasApproval, Cond.code yX5_hasApproval cX5_hasApproval 4 (some .boolean), Cond.fieldLink RX5 35 "Approvalyard$Requests" "ends" "LApprovalyard$Row;", Cond.methodLink RX5 49 yX5_endApprovals]
def wsX5_loseVersion_r2 : List Cond := [Cond.instanceMethod yX5_endApprovals, Cond.selects RX5 yX5_endApprovals yX5_endApprovals, Cond.code yX5_endApprovals cX5_endApprovals 3 none, Cond.methodLink RX5 42 yX6_put, Cond.instanceMethod yX6_put, Cond.selects RX6 yX6_put yX6_put, Cond.code yX6_put cX6_put 3 none, Cond.methodLink RX5 46 yX5_reopen, Cond.instanceMethod yX5_reopen, Cond.selects RX5 yX5_reopen yX5_reopen, Cond.code yX5_reopen cX5_reopen 2 none, Cond.fieldLink RX5 32 "Approvalyard$Requests" "costs" "LApprovalyard$Row;"]
def wsX5_loseVersion : List Cond := .code yX5_loseVersion cX5_loseVersion 6 (some .int) :: ((wsX5_loseVersion_r1 ++ wsX5_loseVersion_r2) ++ wsX50 ++ wsX60)
def wsX5_add : List Cond := .code yX5_add cX5_add 5 (some .int) :: ([.fieldLink RX5 38 "Approvalyard$Requests" "number" "I", .fieldLink RX5 14 "Approvalyard$Requests" "people" "LApprovalyard$Row;", .fieldLink RX5 20 "Approvalyard$Requests" "parts" "LApprovalyard$Row;", .fieldLink RX5 23 "Approvalyard$Requests" "leasts" "LApprovalyard$Row;", .methodLink RX5 42 yX6_put, .instanceMethod yX6_put, .selects RX6 yX6_put yX6_put, .initialized RX6, .code yX6_put cX6_put 3 none, .fieldLink RX6 7 "Approvalyard$Row" "cells" "[I", .methodLink RX5 46 yX5_reopen, .instanceMethod yX5_reopen, .selects RX5 yX5_reopen yX5_reopen, .initialized RX5, .code yX5_reopen cX5_reopen 2 none, .fieldLink RX5 26 "Approvalyard$Requests" "states" "LApprovalyard$Row;", .fieldLink RX5 29 "Approvalyard$Requests" "choices" "LApprovalyard$Row;", .fieldLink RX5 32 "Approvalyard$Requests" "costs" "LApprovalyard$Row;", .methodLink RX5 49 yX5_endApprovals, .instanceMethod yX5_endApprovals, .selects RX5 yX5_endApprovals yX5_endApprovals, .code yX5_endApprovals cX5_endApprovals 3 none, .fieldLink RX5 35 "Approvalyard$Requests" "ends" "LApprovalyard$Row;"] ++ wsX50 ++ wsX60)
def wsX3_costOf : List Cond := .code yX3_costOf cX3_costOf 5 (some .int) :: ([.fieldLink RX3 20 "Approvalyard$Parts" "costs" "LApprovalyard$Row;", .methodLink RX3 57 yX1_versionOf, .static yX1_versionOf, .initialized RX1, .code yX1_versionOf cX1_versionOf 2 (some .int), .methodLink RX3 42 yX3_placeOf, .static yX3_placeOf, .initialized RX3, .code yX3_placeOf cX3_placeOf 2 (some .int), .methodLink RX3 38 yX6_at, .instanceMethod yX6_at, .selects RX6 yX6_at yX6_at, .initialized RX6, .code yX6_at cX6_at 2 (some .int), .fieldLink RX6 7 "Approvalyard$Row" "cells" "[I"] ++ wsX30 ++ wsX60)
def wsX5_settle : List Cond := .code yX5_settle cX5_settle 4 (some .int) :: ([.fieldLink RX5 26 "Approvalyard$Requests" "states" "LApprovalyard$Row;", .fieldLink RX5 29 "Approvalyard$Requests" "choices" "LApprovalyard$Row;", .fieldLink RX5 32 "Approvalyard$Requests" "costs" "LApprovalyard$Row;", .methodLink RX5 42 yX6_put, .instanceMethod yX6_put, .selects RX6 yX6_put yX6_put, .initialized RX6, .code yX6_put cX6_put 3 none, .fieldLink RX6 7 "Approvalyard$Row" "cells" "[I", .methodLink RX5 49 yX5_endApprovals, .instanceMethod yX5_endApprovals, .selects RX5 yX5_endApprovals yX5_endApprovals, .initialized RX5, .code yX5_endApprovals cX5_endApprovals 3 none, .fieldLink RX5 35 "Approvalyard$Requests" "ends" "LApprovalyard$Row;"] ++ wsX50 ++ wsX60)
def wsX4_changeLimit : List Cond := .code yX4_changeLimit cX4_changeLimit 4 (some .int) :: ([.fieldLink RX4 14 "Approvalyard$People" "limits" "LApprovalyard$Row;", .methodLink RX4 33 yX6_at, .instanceMethod yX6_at, .selects RX6 yX6_at yX6_at, .initialized RX6, .code yX6_at cX6_at 2 (some .int), .fieldLink RX6 7 "Approvalyard$Row" "cells" "[I", .methodLink RX4 37 yX6_put, .instanceMethod yX6_put, .selects RX6 yX6_put yX6_put, .code yX6_put cX6_put 3 none] ++ wsX40 ++ wsX60)
def wsX4_sendOnLeave : List Cond := .code yX4_sendOnLeave cX4_sendOnLeave 4 (some .int) :: ([.fieldLink RX4 20 "Approvalyard$People" "delegates" "LApprovalyard$Row;", .fieldLink RX4 23 "Approvalyard$People" "backs" "LApprovalyard$Row;", .fieldLink RX4 29 "Approvalyard$People" "day" "I", .methodLink RX4 37 yX6_put, .instanceMethod yX6_put, .selects RX6 yX6_put yX6_put, .initialized RX6, .code yX6_put cX6_put 3 none, .fieldLink RX6 7 "Approvalyard$Row" "cells" "[I", .methodLink RX4 33 yX6_at, .instanceMethod yX6_at, .selects RX6 yX6_at yX6_at, .code yX6_at cX6_at 2 (some .int)] ++ wsX40 ++ wsX60)
def wsX5_costOf : List Cond := .code yX5_costOf cX5_costOf 2 (some .int) :: ([.fieldLink RX5 32 "Approvalyard$Requests" "costs" "LApprovalyard$Row;", .methodLink RX5 52 yX6_at, .instanceMethod yX6_at, .selects RX6 yX6_at yX6_at, .initialized RX6, .code yX6_at cX6_at 2 (some .int), .fieldLink RX6 7 "Approvalyard$Row" "cells" "[I"] ++ wsX50 ++ wsX60)
def wsX4_isAway : List Cond := .code yX4_isAway cX4_isAway 2 (some .boolean) :: ([.fieldLink RX4 29 "Approvalyard$People" "day" "I", .fieldLink RX4 23 "Approvalyard$People" "backs" "LApprovalyard$Row;", .methodLink RX4 33 yX6_at, .instanceMethod yX6_at, .selects RX6 yX6_at yX6_at, .initialized RX6, .code yX6_at cX6_at 2 (some .int), .fieldLink RX6 7 "Approvalyard$Row" "cells" "[I"] ++ wsX40 ++ wsX60)
def wsX4_principalOf : List Cond := .code yX4_principalOf cX4_principalOf 4 (some .int) :: ([.fieldLink RX4 14 "Approvalyard$People" "limits" "LApprovalyard$Row;", .fieldLink RX4 20 "Approvalyard$People" "delegates" "LApprovalyard$Row;", .methodLink RX4 41 yX4_isAway, .instanceMethod yX4_isAway, .selects RX4 yX4_isAway yX4_isAway, .initialized RX4, .code yX4_isAway cX4_isAway 2 (some .boolean), .fieldLink RX4 29 "Approvalyard$People" "day" "I", .fieldLink RX4 23 "Approvalyard$People" "backs" "LApprovalyard$Row;", .methodLink RX4 33 yX6_at, .instanceMethod yX6_at, .selects RX6 yX6_at yX6_at, .initialized RX6, .code yX6_at cX6_at 2 (some .int), .fieldLink RX6 7 "Approvalyard$Row" "cells" "[I"] ++ wsX40 ++ wsX60)
def wsX4_backOf : List Cond := .code yX4_backOf cX4_backOf 2 (some .int) :: ([.fieldLink RX4 23 "Approvalyard$People" "backs" "LApprovalyard$Row;", .methodLink RX4 33 yX6_at, .instanceMethod yX6_at, .selects RX6 yX6_at yX6_at, .initialized RX6, .code yX6_at cX6_at 2 (some .int), .fieldLink RX6 7 "Approvalyard$Row" "cells" "[I"] ++ wsX40 ++ wsX60)
def wsX5_addApproval : List Cond := .code yX5_addApproval cX5_addApproval 4 none :: ([.fieldLink RX5 35 "Approvalyard$Requests" "ends" "LApprovalyard$Row;", .methodLink RX5 42 yX6_put, .instanceMethod yX6_put, .selects RX6 yX6_put yX6_put, .initialized RX6, .code yX6_put cX6_put 3 none, .fieldLink RX6 7 "Approvalyard$Row" "cells" "[I"] ++ wsX50 ++ wsX60)
def wsX2_takeApproval_r1 : List Cond := [Cond.fieldLink RX2 21 "Approvalyard$Desk" "people" "LApprovalyard$People;", Cond.fieldLink RX2 28 "Approvalyard$Desk" "requests" "LApprovalyard$Requests;", Cond.constant RX2 107 (2147483647), Cond.methodLink RX2 98 yX5_costOf, Cond.instanceMethod yX5_costOf, Cond.selects RX5 yX5_costOf yX5_costOf, Cond.initialized RX5, Cond.code yX5_costOf cX5_costOf 2 (some .int), Cond.fieldLink RX5 32 "Approvalyard$Requests" "costs" "LApprovalyard$Row;", Cond.methodLink RX5 52 yX6_at, Cond.instanceMethod yX6_at, Cond.selects RX6 yX6_at yX6_at, Cond.initialized RX6, Cond.code yX6_at cX6_at 2 (some .int), Cond.fieldLink RX6 7 "Approvalyard$Row" "cells" "[I", Cond.methodLink RX2 99 yX4_principalOf, Cond.instanceMethod yX4_principalOf, Cond.selects RX4 yX4_principalOf yX4_principalOf, Cond.initialized RX4, Cond.code yX4_principalOf cX4_principalOf 4 (some .int), Cond.fieldLink RX4 14 "Approvalyard$People" "limits" "LApprovalyard$Row;", Cond.fieldLink RX4 20 "Approvalyard$People" "delegates" "LApprovalyard$Row;", Cond.methodLink RX4 41 yX4_isAway, Cond.instanceMethod yX4_isAway]
def wsX2_takeApproval_r2 : List Cond := [Cond.selects RX4 yX4_isAway yX4_isAway, Cond.code yX4_isAway cX4_isAway 2 (some .boolean), Cond.fieldLink RX4 29 "Approvalyard$People" "day" "I", Cond.fieldLink RX4 23 "Approvalyard$People" "backs" "LApprovalyard$Row;", Cond.methodLink RX4 33 yX6_at, Cond.methodLink RX2 108 yX4_backOf, Cond.instanceMethod yX4_backOf, Cond.selects RX4 yX4_backOf yX4_backOf, Cond.code yX4_backOf cX4_backOf 2 (some .int), Cond.methodLink RX2 111 yX5_addApproval, Cond.instanceMethod yX5_addApproval, Cond.selects RX5 yX5_addApproval yX5_addApproval, Cond.code yX5_addApproval cX5_addApproval 4 none, Cond.fieldLink RX5 35 "Approvalyard$Requests" "ends" "LApprovalyard$Row;", Cond.methodLink RX5 42 yX6_put, Cond.instanceMethod yX6_put, Cond.selects RX6 yX6_put yX6_put, Cond.code yX6_put cX6_put 3 none]
def wsX2_takeApproval : List Cond := .code yX2_takeApproval cX2_takeApproval 5 (some .int) :: ((wsX2_takeApproval_r1 ++ wsX2_takeApproval_r2) ++ wsX20 ++ wsX50 ++ wsX60 ++ wsX40)
def wsX5_markReleased : List Cond := .code yX5_markReleased cX5_markReleased 2 (some .int) :: ([.fieldLink RX5 26 "Approvalyard$Requests" "states" "LApprovalyard$Row;", .methodLink RX5 42 yX6_put, .instanceMethod yX6_put, .selects RX6 yX6_put yX6_put, .initialized RX6, .code yX6_put cX6_put 3 none, .fieldLink RX6 7 "Approvalyard$Row" "cells" "[I"] ++ wsX50 ++ wsX60)
def wsX4_addDays : List Cond := .code yX4_addDays cX4_addDays 2 (some .int) :: ([.fieldLink RX4 29 "Approvalyard$People" "day" "I"] ++ wsX40)
def wsX2_apply_r1 : List Cond := [Cond.fieldLink RX2 12 "Approvalyard$Desk" "parts" "LApprovalyard$Parts;", Cond.fieldLink RX2 28 "Approvalyard$Desk" "requests" "LApprovalyard$Requests;", Cond.fieldLink RX2 21 "Approvalyard$Desk" "people" "LApprovalyard$People;", Cond.methodLink RX2 38 yX0_wordOf, Cond.instanceMethod yX0_wordOf, Cond.selects RX0 yX0_wordOf yX0_wordOf, Cond.initialized RX0, Cond.code yX0_wordOf cX0_wordOf 3 (some .int), Cond.fieldLink RX0 16 "Approvalyard$Book" "words" "LApprovalyard$Row;", Cond.methodLink RX0 28 yX6_at, Cond.instanceMethod yX6_at, Cond.selects RX6 yX6_at yX6_at, Cond.initialized RX6, Cond.code yX6_at cX6_at 2 (some .int), Cond.fieldLink RX6 7 "Approvalyard$Row" "cells" "[I", Cond.methodLink RX2 44 yX3_addVersion, Cond.instanceMethod yX3_addVersion, Cond.selects RX3 yX3_addVersion yX3_addVersion, Cond.initialized RX3, Cond.code yX3_addVersion cX3_addVersion 5 (some .int), Cond.fieldLink RX3 14 "Approvalyard$Parts" "counts" "LApprovalyard$Row;", Cond.fieldLink RX3 20 "Approvalyard$Parts" "costs" "LApprovalyard$Row;", Cond.fieldLink RX3 23 "Approvalyard$Parts" "replaced" "LApprovalyard$Row;", Cond.fieldLink RX3 26 "Approvalyard$Parts" "needCounts" "LApprovalyard$Row;"]
def wsX2_apply_r2 : List Cond := [Cond.methodLink RX3 38 yX6_at, Cond.methodLink RX3 42 yX3_placeOf, Cond.static yX3_placeOf, Cond.code yX3_placeOf cX3_placeOf 2 (some .int), Cond.methodLink RX3 46 yX6_put, Cond.instanceMethod yX6_put, Cond.selects RX6 yX6_put yX6_put, Cond.code yX6_put cX6_put 3 none, Cond.methodLink RX2 47 yX3_addNeed, Cond.instanceMethod yX3_addNeed, Cond.selects RX3 yX3_addNeed yX3_addNeed, Cond.code yX3_addNeed cX3_addNeed 8 (some .int), Cond.fieldLink RX3 29 "Approvalyard$Parts" "needParts" "LApprovalyard$Row;", Cond.fieldLink RX3 32 "Approvalyard$Parts" "needVersions" "LApprovalyard$Row;", Cond.methodLink RX3 50 yX3_versionSet, Cond.static yX3_versionSet, Cond.code yX3_versionSet cX3_versionSet 2 (some .int), Cond.methodLink RX2 51 yX3_markReplaced, Cond.instanceMethod yX3_markReplaced, Cond.selects RX3 yX3_markReplaced yX3_markReplaced, Cond.code yX3_markReplaced cX3_markReplaced 3 none, Cond.methodLink RX2 55 yX4_today, Cond.instanceMethod yX4_today, Cond.selects RX4 yX4_today yX4_today]
def wsX2_apply_r3 : List Cond := [Cond.initialized RX4, Cond.code yX4_today cX4_today 1 (some .int), Cond.fieldLink RX4 29 "Approvalyard$People" "day" "I", Cond.methodLink RX2 59 yX5_loseVersion, Cond.instanceMethod yX5_loseVersion, Cond.selects RX5 yX5_loseVersion yX5_loseVersion, Cond.initialized RX5, Cond.code yX5_loseVersion cX5_loseVersion 6 (some .int), Cond.fieldLink RX5 38 "Approvalyard$Requests" "number" "I", Cond.fieldLink RX5 29 "Approvalyard$Requests" "choices" "LApprovalyard$Row;", Cond.fieldLink RX5 26 "Approvalyard$Requests" "states" "LApprovalyard$Row;", Cond.methodLink RX5 52 yX6_at, Cond.methodLink RX5 60 yX1_versionOf, Cond.static yX1_versionOf, Cond.initialized RX1, Cond.code yX1_versionOf cX1_versionOf 2 (some .int), Cond.methodLink RX5 66 yX5_approvalsOf, Cond.instanceMethod yX5_approvalsOf, Cond.selects RX5 yX5_approvalsOf yX5_approvalsOf, Cond.code yX5_approvalsOf cX5_approvalsOf 5 (some .int), Cond.methodLink RX5 56 yX5_hasApproval, Cond.instanceMethod yX5_hasApproval, Cond.selects RX5 yX5_hasApproval yX5_hasApproval, Cond.code yX5_hasApproval cX5_hasApproval 4 (some .boolean)]
def wsX2_apply_r4 : List Cond := [Cond.fieldLink RX5 35 "Approvalyard$Requests" "ends" "LApprovalyard$Row;", Cond.methodLink RX5 49 yX5_endApprovals, Cond.instanceMethod yX5_endApprovals, Cond.selects RX5 yX5_endApprovals yX5_endApprovals, Cond.code yX5_endApprovals cX5_endApprovals 3 none, Cond.methodLink RX5 42 yX6_put, Cond.methodLink RX5 46 yX5_reopen, Cond.instanceMethod yX5_reopen, Cond.selects RX5 yX5_reopen yX5_reopen, Cond.code yX5_reopen cX5_reopen 2 none, Cond.fieldLink RX5 32 "Approvalyard$Requests" "costs" "LApprovalyard$Row;", Cond.methodLink RX2 63 yX5_add, Cond.instanceMethod yX5_add, Cond.selects RX5 yX5_add yX5_add, Cond.code yX5_add cX5_add 5 (some .int), Cond.fieldLink RX5 14 "Approvalyard$Requests" "people" "LApprovalyard$Row;", Cond.fieldLink RX5 20 "Approvalyard$Requests" "parts" "LApprovalyard$Row;", Cond.fieldLink RX5 23 "Approvalyard$Requests" "leasts" "LApprovalyard$Row;", Cond.methodLink RX2 66 yX3_costOf, Cond.instanceMethod yX3_costOf, Cond.selects RX3 yX3_costOf yX3_costOf, Cond.code yX3_costOf cX3_costOf 5 (some .int), Cond.methodLink RX3 57 yX1_versionOf, Cond.methodLink RX2 70 yX5_settle]
def wsX2_apply_r5 : List Cond := [Cond.instanceMethod yX5_settle, Cond.selects RX5 yX5_settle yX5_settle, Cond.code yX5_settle cX5_settle 4 (some .int), Cond.methodLink RX2 73 yX4_changeLimit, Cond.instanceMethod yX4_changeLimit, Cond.selects RX4 yX4_changeLimit yX4_changeLimit, Cond.code yX4_changeLimit cX4_changeLimit 4 (some .int), Cond.fieldLink RX4 14 "Approvalyard$People" "limits" "LApprovalyard$Row;", Cond.methodLink RX4 33 yX6_at, Cond.methodLink RX4 37 yX6_put, Cond.methodLink RX2 76 yX4_sendOnLeave, Cond.instanceMethod yX4_sendOnLeave, Cond.selects RX4 yX4_sendOnLeave yX4_sendOnLeave, Cond.code yX4_sendOnLeave cX4_sendOnLeave 4 (some .int), Cond.fieldLink RX4 20 "Approvalyard$People" "delegates" "LApprovalyard$Row;", Cond.fieldLink RX4 23 "Approvalyard$People" "backs" "LApprovalyard$Row;", Cond.methodLink RX2 79 yX2_takeApproval, Cond.instanceMethod yX2_takeApproval, Cond.selects RX2 yX2_takeApproval yX2_takeApproval, Cond.initialized RX2, Cond.code yX2_takeApproval cX2_takeApproval 5 (some .int), Cond.constant RX2 107 (2147483647), Cond.methodLink RX2 98 yX5_costOf, Cond.instanceMethod yX5_costOf]
def wsX2_apply_r6 : List Cond := [Cond.selects RX5 yX5_costOf yX5_costOf, Cond.code yX5_costOf cX5_costOf 2 (some .int), Cond.methodLink RX2 99 yX4_principalOf, Cond.instanceMethod yX4_principalOf, Cond.selects RX4 yX4_principalOf yX4_principalOf, Cond.code yX4_principalOf cX4_principalOf 4 (some .int), Cond.methodLink RX4 41 yX4_isAway, Cond.instanceMethod yX4_isAway, Cond.selects RX4 yX4_isAway yX4_isAway, Cond.code yX4_isAway cX4_isAway 2 (some .boolean), Cond.methodLink RX2 108 yX4_backOf, Cond.instanceMethod yX4_backOf, Cond.selects RX4 yX4_backOf yX4_backOf, Cond.code yX4_backOf cX4_backOf 2 (some .int), Cond.methodLink RX2 111 yX5_addApproval, Cond.instanceMethod yX5_addApproval, Cond.selects RX5 yX5_addApproval yX5_addApproval, Cond.code yX5_addApproval cX5_addApproval 4 none, Cond.methodLink RX2 82 yX5_markReleased, Cond.instanceMethod yX5_markReleased, Cond.selects RX5 yX5_markReleased yX5_markReleased, Cond.code yX5_markReleased cX5_markReleased 2 (some .int), Cond.methodLink RX2 85 yX4_addDays, Cond.instanceMethod yX4_addDays]
def wsX2_apply_r7 : List Cond := [Cond.selects RX4 yX4_addDays yX4_addDays, Cond.code yX4_addDays cX4_addDays 2 (some .int)]
def wsX2_apply : List Cond := .code yX2_apply cX2_apply 6 (some .int) :: ((wsX2_apply_r1 ++ (wsX2_apply_r2 ++ (wsX2_apply_r3 ++ (wsX2_apply_r4 ++ (wsX2_apply_r5 ++ (wsX2_apply_r6 ++ wsX2_apply_r7)))))) ++ wsX20 ++ wsX00 ++ wsX60 ++ wsX30 ++ wsX40 ++ wsX50)
def wsX5_stateOf : List Cond := .code yX5_stateOf cX5_stateOf 2 (some .int) :: ([.fieldLink RX5 26 "Approvalyard$Requests" "states" "LApprovalyard$Row;", .methodLink RX5 52 yX6_at, .instanceMethod yX6_at, .selects RX6 yX6_at yX6_at, .initialized RX6, .code yX6_at cX6_at 2 (some .int), .fieldLink RX6 7 "Approvalyard$Row" "cells" "[I"] ++ wsX50 ++ wsX60)
def wsX5_personOf : List Cond := .code yX5_personOf cX5_personOf 2 (some .int) :: ([.fieldLink RX5 14 "Approvalyard$Requests" "people" "LApprovalyard$Row;", .methodLink RX5 52 yX6_at, .instanceMethod yX6_at, .selects RX6 yX6_at yX6_at, .initialized RX6, .code yX6_at cX6_at 2 (some .int), .fieldLink RX6 7 "Approvalyard$Row" "cells" "[I"] ++ wsX50 ++ wsX60)
def wsX2_principalFor_r1 : List Cond := [Cond.fieldLink RX2 28 "Approvalyard$Desk" "requests" "LApprovalyard$Requests;", Cond.fieldLink RX2 21 "Approvalyard$Desk" "people" "LApprovalyard$People;", Cond.methodLink RX2 88 yX5_stateOf, Cond.instanceMethod yX5_stateOf, Cond.selects RX5 yX5_stateOf yX5_stateOf, Cond.initialized RX5, Cond.code yX5_stateOf cX5_stateOf 2 (some .int), Cond.fieldLink RX5 26 "Approvalyard$Requests" "states" "LApprovalyard$Row;", Cond.methodLink RX5 52 yX6_at, Cond.instanceMethod yX6_at, Cond.selects RX6 yX6_at yX6_at, Cond.initialized RX6, Cond.code yX6_at cX6_at 2 (some .int), Cond.fieldLink RX6 7 "Approvalyard$Row" "cells" "[I", Cond.methodLink RX2 91 yX5_personOf, Cond.instanceMethod yX5_personOf, Cond.selects RX5 yX5_personOf yX5_personOf, Cond.code yX5_personOf cX5_personOf 2 (some .int), Cond.fieldLink RX5 14 "Approvalyard$Requests" "people" "LApprovalyard$Row;", Cond.methodLink RX2 55 yX4_today, Cond.instanceMethod yX4_today, Cond.selects RX4 yX4_today yX4_today, Cond.initialized RX4, Cond.code yX4_today cX4_today 1 (some .int)]
def wsX2_principalFor_r2 : List Cond := [Cond.fieldLink RX4 29 "Approvalyard$People" "day" "I", Cond.methodLink RX2 94 yX5_hasApproval, Cond.instanceMethod yX5_hasApproval, Cond.selects RX5 yX5_hasApproval yX5_hasApproval, Cond.code yX5_hasApproval cX5_hasApproval 4 (some .boolean), Cond.fieldLink RX5 35 "Approvalyard$Requests" "ends" "LApprovalyard$Row;", Cond.methodLink RX2 98 yX5_costOf, Cond.instanceMethod yX5_costOf, Cond.selects RX5 yX5_costOf yX5_costOf, Cond.code yX5_costOf cX5_costOf 2 (some .int), Cond.fieldLink RX5 32 "Approvalyard$Requests" "costs" "LApprovalyard$Row;", Cond.methodLink RX2 99 yX4_principalOf, Cond.instanceMethod yX4_principalOf, Cond.selects RX4 yX4_principalOf yX4_principalOf, Cond.code yX4_principalOf cX4_principalOf 4 (some .int), Cond.fieldLink RX4 14 "Approvalyard$People" "limits" "LApprovalyard$Row;", Cond.fieldLink RX4 20 "Approvalyard$People" "delegates" "LApprovalyard$Row;", Cond.methodLink RX4 41 yX4_isAway, Cond.instanceMethod yX4_isAway, Cond.selects RX4 yX4_isAway yX4_isAway, Cond.code yX4_isAway cX4_isAway 2 (some .boolean), Cond.fieldLink RX4 23 "Approvalyard$People" "backs" "LApprovalyard$Row;", Cond.methodLink RX4 33 yX6_at]
def wsX2_principalFor : List Cond := .code yX2_principalFor cX2_principalFor 4 (some .int) :: ((wsX2_principalFor_r1 ++ wsX2_principalFor_r2) ++ wsX20 ++ wsX50 ++ wsX60 ++ wsX40)
def wsX2_approvalsOf : List Cond := .code yX2_approvalsOf cX2_approvalsOf 2 (some .int) :: ([.fieldLink RX2 28 "Approvalyard$Desk" "requests" "LApprovalyard$Requests;", .fieldLink RX2 21 "Approvalyard$Desk" "people" "LApprovalyard$People;", .methodLink RX2 55 yX4_today, .instanceMethod yX4_today, .selects RX4 yX4_today yX4_today, .initialized RX4, .code yX4_today cX4_today 1 (some .int), .fieldLink RX4 29 "Approvalyard$People" "day" "I", .methodLink RX2 102 yX5_approvalsOf, .instanceMethod yX5_approvalsOf, .selects RX5 yX5_approvalsOf yX5_approvalsOf, .initialized RX5, .code yX5_approvalsOf cX5_approvalsOf 5 (some .int), .methodLink RX5 56 yX5_hasApproval, .instanceMethod yX5_hasApproval, .selects RX5 yX5_hasApproval yX5_hasApproval, .code yX5_hasApproval cX5_hasApproval 4 (some .boolean), .fieldLink RX5 35 "Approvalyard$Requests" "ends" "LApprovalyard$Row;", .methodLink RX5 52 yX6_at, .instanceMethod yX6_at, .selects RX6 yX6_at yX6_at, .initialized RX6, .code yX6_at cX6_at 2 (some .int), .fieldLink RX6 7 "Approvalyard$Row" "cells" "[I"] ++ wsX20 ++ wsX40 ++ wsX50 ++ wsX60)
def wsX2_isCovered_r1 : List Cond := [Cond.fieldLink RX2 28 "Approvalyard$Desk" "requests" "LApprovalyard$Requests;", Cond.methodLink RX2 98 yX5_costOf, Cond.instanceMethod yX5_costOf, Cond.selects RX5 yX5_costOf yX5_costOf, Cond.initialized RX5, Cond.code yX5_costOf cX5_costOf 2 (some .int), Cond.fieldLink RX5 32 "Approvalyard$Requests" "costs" "LApprovalyard$Row;", Cond.methodLink RX5 52 yX6_at, Cond.instanceMethod yX6_at, Cond.selects RX6 yX6_at yX6_at, Cond.initialized RX6, Cond.code yX6_at cX6_at 2 (some .int), Cond.fieldLink RX6 7 "Approvalyard$Row" "cells" "[I", Cond.methodLink RX2 105 yX2_approvalsOf, Cond.instanceMethod yX2_approvalsOf, Cond.selects RX2 yX2_approvalsOf yX2_approvalsOf, Cond.initialized RX2, Cond.code yX2_approvalsOf cX2_approvalsOf 2 (some .int), Cond.fieldLink RX2 21 "Approvalyard$Desk" "people" "LApprovalyard$People;", Cond.methodLink RX2 55 yX4_today, Cond.instanceMethod yX4_today, Cond.selects RX4 yX4_today yX4_today, Cond.initialized RX4, Cond.code yX4_today cX4_today 1 (some .int)]
def wsX2_isCovered_r2 : List Cond := [Cond.fieldLink RX4 29 "Approvalyard$People" "day" "I", Cond.methodLink RX2 102 yX5_approvalsOf, Cond.instanceMethod yX5_approvalsOf, Cond.selects RX5 yX5_approvalsOf yX5_approvalsOf, Cond.code yX5_approvalsOf cX5_approvalsOf 5 (some .int), Cond.methodLink RX5 56 yX5_hasApproval, Cond.instanceMethod yX5_hasApproval, Cond.selects RX5 yX5_hasApproval yX5_hasApproval, Cond.code yX5_hasApproval cX5_hasApproval 4 (some .boolean), Cond.fieldLink RX5 35 "Approvalyard$Requests" "ends" "LApprovalyard$Row;"]
def wsX2_isCovered : List Cond := .code yX2_isCovered cX2_isCovered 3 (some .boolean) :: ((wsX2_isCovered_r1 ++ wsX2_isCovered_r2) ++ wsX20 ++ wsX50 ++ wsX60 ++ wsX40)
def wsX3_countOf : List Cond := .code yX3_countOf cX3_countOf 2 (some .int) :: ([.fieldLink RX3 14 "Approvalyard$Parts" "counts" "LApprovalyard$Row;", .methodLink RX3 38 yX6_at, .instanceMethod yX6_at, .selects RX6 yX6_at yX6_at, .initialized RX6, .code yX6_at cX6_at 2 (some .int), .fieldLink RX6 7 "Approvalyard$Row" "cells" "[I"] ++ wsX30 ++ wsX60)
def wsX3_needsOf : List Cond := .code yX3_needsOf cX3_needsOf 3 (some .int) :: ([.fieldLink RX3 26 "Approvalyard$Parts" "needCounts" "LApprovalyard$Row;", .methodLink RX3 42 yX3_placeOf, .static yX3_placeOf, .initialized RX3, .code yX3_placeOf cX3_placeOf 2 (some .int), .methodLink RX3 38 yX6_at, .instanceMethod yX6_at, .selects RX6 yX6_at yX6_at, .initialized RX6, .code yX6_at cX6_at 2 (some .int), .fieldLink RX6 7 "Approvalyard$Row" "cells" "[I"] ++ wsX30 ++ wsX60)
def wsX3_neededPart : List Cond := .code yX3_neededPart cX3_neededPart 4 (some .int) :: ([.fieldLink RX3 29 "Approvalyard$Parts" "needParts" "LApprovalyard$Row;", .methodLink RX3 42 yX3_placeOf, .static yX3_placeOf, .initialized RX3, .code yX3_placeOf cX3_placeOf 2 (some .int), .methodLink RX3 38 yX6_at, .instanceMethod yX6_at, .selects RX6 yX6_at yX6_at, .initialized RX6, .code yX6_at cX6_at 2 (some .int), .fieldLink RX6 7 "Approvalyard$Row" "cells" "[I"] ++ wsX30 ++ wsX60)
def wsX3_neededVersions : List Cond := .code yX3_neededVersions cX3_neededVersions 4 (some .int) :: ([.fieldLink RX3 32 "Approvalyard$Parts" "needVersions" "LApprovalyard$Row;", .methodLink RX3 42 yX3_placeOf, .static yX3_placeOf, .initialized RX3, .code yX3_placeOf cX3_placeOf 2 (some .int), .methodLink RX3 38 yX6_at, .instanceMethod yX6_at, .selects RX6 yX6_at yX6_at, .initialized RX6, .code yX6_at cX6_at 2 (some .int), .fieldLink RX6 7 "Approvalyard$Row" "cells" "[I"] ++ wsX30 ++ wsX60)
def wsX3_isReplaced : List Cond := .code yX3_isReplaced cX3_isReplaced 3 (some .boolean) :: ([.fieldLink RX3 23 "Approvalyard$Parts" "replaced" "LApprovalyard$Row;", .methodLink RX3 42 yX3_placeOf, .static yX3_placeOf, .initialized RX3, .code yX3_placeOf cX3_placeOf 2 (some .int), .methodLink RX3 38 yX6_at, .instanceMethod yX6_at, .selects RX6 yX6_at yX6_at, .initialized RX6, .code yX6_at cX6_at 2 (some .int), .fieldLink RX6 7 "Approvalyard$Row" "cells" "[I"] ++ wsX30 ++ wsX60)
def wsX3_current : List Cond := .code yX3_current cX3_current 4 (some .int) :: ([.fieldLink RX3 14 "Approvalyard$Parts" "counts" "LApprovalyard$Row;", .methodLink RX3 38 yX6_at, .instanceMethod yX6_at, .selects RX6 yX6_at yX6_at, .initialized RX6, .code yX6_at cX6_at 2 (some .int), .fieldLink RX6 7 "Approvalyard$Row" "cells" "[I", .methodLink RX3 53 yX3_isReplaced, .instanceMethod yX3_isReplaced, .selects RX3 yX3_isReplaced yX3_isReplaced, .initialized RX3, .code yX3_isReplaced cX3_isReplaced 3 (some .boolean), .fieldLink RX3 23 "Approvalyard$Parts" "replaced" "LApprovalyard$Row;", .methodLink RX3 42 yX3_placeOf, .static yX3_placeOf, .code yX3_placeOf cX3_placeOf 2 (some .int), .methodLink RX3 50 yX3_versionSet, .static yX3_versionSet, .code yX3_versionSet cX3_versionSet 2 (some .int)] ++ wsX30 ++ wsX60)
def wsX4_greatestLimit : List Cond := .code yX4_greatestLimit cX4_greatestLimit 6 (some .int) :: ([.fieldLink RX4 14 "Approvalyard$People" "limits" "LApprovalyard$Row;", .methodLink RX4 33 yX6_at, .instanceMethod yX6_at, .selects RX6 yX6_at yX6_at, .initialized RX6, .code yX6_at cX6_at 2 (some .int), .fieldLink RX6 7 "Approvalyard$Row" "cells" "[I", .methodLink RX4 41 yX4_isAway, .instanceMethod yX4_isAway, .selects RX4 yX4_isAway yX4_isAway, .initialized RX4, .code yX4_isAway cX4_isAway 2 (some .boolean), .fieldLink RX4 29 "Approvalyard$People" "day" "I", .fieldLink RX4 23 "Approvalyard$People" "backs" "LApprovalyard$Row;"] ++ wsX40 ++ wsX60)
def wsX5_count : List Cond := .code yX5_count cX5_count 1 (some .int) :: ([.fieldLink RX5 38 "Approvalyard$Requests" "number" "I"] ++ wsX50)
def wsX5_partOf : List Cond := .code yX5_partOf cX5_partOf 2 (some .int) :: ([.fieldLink RX5 20 "Approvalyard$Requests" "parts" "LApprovalyard$Row;", .methodLink RX5 52 yX6_at, .instanceMethod yX6_at, .selects RX6 yX6_at yX6_at, .initialized RX6, .code yX6_at cX6_at 2 (some .int), .fieldLink RX6 7 "Approvalyard$Row" "cells" "[I"] ++ wsX50 ++ wsX60)
def wsX5_leastOf : List Cond := .code yX5_leastOf cX5_leastOf 2 (some .int) :: ([.fieldLink RX5 23 "Approvalyard$Requests" "leasts" "LApprovalyard$Row;", .methodLink RX5 52 yX6_at, .instanceMethod yX6_at, .selects RX6 yX6_at yX6_at, .initialized RX6, .code yX6_at cX6_at 2 (some .int), .fieldLink RX6 7 "Approvalyard$Row" "cells" "[I"] ++ wsX50 ++ wsX60)
def wsX5_choiceOf : List Cond := .code yX5_choiceOf cX5_choiceOf 2 (some .int) :: ([.fieldLink RX5 29 "Approvalyard$Requests" "choices" "LApprovalyard$Row;", .methodLink RX5 52 yX6_at, .instanceMethod yX6_at, .selects RX6 yX6_at yX6_at, .initialized RX6, .code yX6_at cX6_at 2 (some .int), .fieldLink RX6 7 "Approvalyard$Row" "cells" "[I"] ++ wsX50 ++ wsX60)
def wsX7_init : List Cond := .code yX7_init cX7_init 1 none :: ([.methodLink RX7 3 objectInit, .instanceMethod objectInit, .code objectInit ⟨#[0xb1]⟩ 1 none, .classLink RX7 9 RX6, .instantiable RX6 1, .initialized RX6, .fieldLink RX7 14 "Approvalyard$Search" "order" "LApprovalyard$Row;", .fieldLink RX7 20 "Approvalyard$Search" "wanted" "LApprovalyard$Row;", .methodLink RX7 11 yX6_init, .instanceMethod yX6_init, .code yX6_init cX6_init 2 none, .methodLink RX6 1 objectInit, .arrayClass .int, .fieldLink RX6 7 "Approvalyard$Row" "cells" "[I"] ++ wsX60 ++ wsX70)
def wsX7_await : List Cond := .code yX7_await cX7_await 3 none :: ([.fieldLink RX7 40 "Approvalyard$Search" "number" "I", .fieldLink RX7 14 "Approvalyard$Search" "order" "LApprovalyard$Row;", .methodLink RX7 33 yX6_at, .instanceMethod yX6_at, .selects RX6 yX6_at yX6_at, .initialized RX6, .code yX6_at cX6_at 2 (some .int), .fieldLink RX6 7 "Approvalyard$Row" "cells" "[I", .methodLink RX7 29 yX6_put, .instanceMethod yX6_put, .selects RX6 yX6_put yX6_put, .code yX6_put cX6_put 3 none] ++ wsX70 ++ wsX60)
def wsX7_take_r1 : List Cond := [Cond.fieldLink RX7 14 "Approvalyard$Search" "order" "LApprovalyard$Row;", Cond.fieldLink RX7 20 "Approvalyard$Search" "wanted" "LApprovalyard$Row;", Cond.methodLink RX7 33 yX6_at, Cond.instanceMethod yX6_at, Cond.selects RX6 yX6_at yX6_at, Cond.initialized RX6, Cond.code yX6_at cX6_at 2 (some .int), Cond.fieldLink RX6 7 "Approvalyard$Row" "cells" "[I", Cond.methodLink RX7 29 yX6_put, Cond.instanceMethod yX6_put, Cond.selects RX6 yX6_put yX6_put, Cond.code yX6_put cX6_put 3 none, Cond.methodLink RX7 36 yX3_versionSet, Cond.static yX3_versionSet, Cond.initialized RX3, Cond.code yX3_versionSet cX3_versionSet 2 (some .int), Cond.methodLink RX7 61 yX3_needsOf, Cond.instanceMethod yX3_needsOf, Cond.selects RX3 yX3_needsOf yX3_needsOf, Cond.code yX3_needsOf cX3_needsOf 3 (some .int), Cond.fieldLink RX3 26 "Approvalyard$Parts" "needCounts" "LApprovalyard$Row;", Cond.methodLink RX3 42 yX3_placeOf, Cond.static yX3_placeOf, Cond.code yX3_placeOf cX3_placeOf 2 (some .int)]
def wsX7_take_r2 : List Cond := [Cond.methodLink RX3 38 yX6_at, Cond.methodLink RX7 64 yX3_neededPart, Cond.instanceMethod yX3_neededPart, Cond.selects RX3 yX3_neededPart yX3_neededPart, Cond.code yX3_neededPart cX3_neededPart 4 (some .int), Cond.fieldLink RX3 29 "Approvalyard$Parts" "needParts" "LApprovalyard$Row;", Cond.methodLink RX7 67 yX3_neededVersions, Cond.instanceMethod yX3_neededVersions, Cond.selects RX3 yX3_neededVersions yX3_neededVersions, Cond.code yX3_neededVersions cX3_neededVersions 4 (some .int), Cond.fieldLink RX3 32 "Approvalyard$Parts" "needVersions" "LApprovalyard$Row;", Cond.methodLink RX7 70 yX7_await, Cond.instanceMethod yX7_await, Cond.selects RX7 yX7_await yX7_await, Cond.initialized RX7, Cond.code yX7_await cX7_await 3 none, Cond.fieldLink RX7 40 "Approvalyard$Search" "number" "I"]
def wsX7_take : List Cond := .code yX7_take cX7_take 10 (some .boolean) :: ((wsX7_take_r1 ++ wsX7_take_r2) ++ wsX70 ++ wsX60 ++ wsX30)
def wsX7_fill_r1 : List Cond := [Cond.fieldLink RX7 40 "Approvalyard$Search" "number" "I", Cond.fieldLink RX7 14 "Approvalyard$Search" "order" "LApprovalyard$Row;", Cond.fieldLink RX7 20 "Approvalyard$Search" "wanted" "LApprovalyard$Row;", Cond.fieldLink RX7 46 "Approvalyard$Search" "choice" "I", Cond.methodLink RX7 33 yX6_at, Cond.instanceMethod yX6_at, Cond.selects RX6 yX6_at yX6_at, Cond.initialized RX6, Cond.code yX6_at cX6_at 2 (some .int), Cond.fieldLink RX6 7 "Approvalyard$Row" "cells" "[I", Cond.methodLink RX7 36 yX3_versionSet, Cond.static yX3_versionSet, Cond.initialized RX3, Cond.code yX3_versionSet cX3_versionSet 2 (some .int), Cond.methodLink RX7 53 yX7_take, Cond.instanceMethod yX7_take, Cond.selects RX7 yX7_take yX7_take, Cond.initialized RX7, Cond.code yX7_take cX7_take 10 (some .boolean), Cond.methodLink RX7 29 yX6_put, Cond.instanceMethod yX6_put, Cond.selects RX6 yX6_put yX6_put, Cond.code yX6_put cX6_put 3 none, Cond.methodLink RX7 61 yX3_needsOf]
def wsX7_fill_r2 : List Cond := [Cond.instanceMethod yX3_needsOf, Cond.selects RX3 yX3_needsOf yX3_needsOf, Cond.code yX3_needsOf cX3_needsOf 3 (some .int), Cond.fieldLink RX3 26 "Approvalyard$Parts" "needCounts" "LApprovalyard$Row;", Cond.methodLink RX3 42 yX3_placeOf, Cond.static yX3_placeOf, Cond.code yX3_placeOf cX3_placeOf 2 (some .int), Cond.methodLink RX3 38 yX6_at, Cond.methodLink RX7 64 yX3_neededPart, Cond.instanceMethod yX3_neededPart, Cond.selects RX3 yX3_neededPart yX3_neededPart, Cond.code yX3_neededPart cX3_neededPart 4 (some .int), Cond.fieldLink RX3 29 "Approvalyard$Parts" "needParts" "LApprovalyard$Row;", Cond.methodLink RX7 67 yX3_neededVersions, Cond.instanceMethod yX3_neededVersions, Cond.selects RX3 yX3_neededVersions yX3_neededVersions, Cond.code yX3_neededVersions cX3_neededVersions 4 (some .int), Cond.fieldLink RX3 32 "Approvalyard$Parts" "needVersions" "LApprovalyard$Row;", Cond.methodLink RX7 70 yX7_await, Cond.instanceMethod yX7_await, Cond.selects RX7 yX7_await yX7_await, Cond.code yX7_await cX7_await 3 none, Cond.methodLink RX7 49 yX7_fill, Cond.instanceMethod yX7_fill]
def wsX7_fill_r3 : List Cond := [Cond.selects RX7 yX7_fill yX7_fill, Cond.methodLink RX7 57 yX1_with, Cond.static yX1_with, Cond.initialized RX1, Cond.code yX1_with cX1_with 3 (some .int)]
def wsX7_fill : List Cond := .code yX7_fill cX7_fill 8 (some .boolean) :: ((wsX7_fill_r1 ++ (wsX7_fill_r2 ++ wsX7_fill_r3)) ++ wsX70 ++ wsX60 ++ wsX30)
def wsX7_find_r1 : List Cond := [Cond.fieldLink RX7 20 "Approvalyard$Search" "wanted" "LApprovalyard$Row;", Cond.fieldLink RX7 14 "Approvalyard$Search" "order" "LApprovalyard$Row;", Cond.fieldLink RX7 40 "Approvalyard$Search" "number" "I", Cond.fieldLink RX7 46 "Approvalyard$Search" "choice" "I", Cond.methodLink RX7 23 yX3_current, Cond.instanceMethod yX3_current, Cond.selects RX3 yX3_current yX3_current, Cond.initialized RX3, Cond.code yX3_current cX3_current 4 (some .int), Cond.fieldLink RX3 14 "Approvalyard$Parts" "counts" "LApprovalyard$Row;", Cond.methodLink RX3 38 yX6_at, Cond.instanceMethod yX6_at, Cond.selects RX6 yX6_at yX6_at, Cond.initialized RX6, Cond.code yX6_at cX6_at 2 (some .int), Cond.fieldLink RX6 7 "Approvalyard$Row" "cells" "[I", Cond.methodLink RX3 53 yX3_isReplaced, Cond.instanceMethod yX3_isReplaced, Cond.selects RX3 yX3_isReplaced yX3_isReplaced, Cond.code yX3_isReplaced cX3_isReplaced 3 (some .boolean), Cond.fieldLink RX3 23 "Approvalyard$Parts" "replaced" "LApprovalyard$Row;", Cond.methodLink RX3 42 yX3_placeOf, Cond.static yX3_placeOf, Cond.code yX3_placeOf cX3_placeOf 2 (some .int)]
def wsX7_find_r2 : List Cond := [Cond.methodLink RX3 50 yX3_versionSet, Cond.static yX3_versionSet, Cond.code yX3_versionSet cX3_versionSet 2 (some .int), Cond.methodLink RX7 29 yX6_put, Cond.instanceMethod yX6_put, Cond.selects RX6 yX6_put yX6_put, Cond.code yX6_put cX6_put 3 none, Cond.methodLink RX7 33 yX6_at, Cond.methodLink RX7 36 yX3_versionSet, Cond.methodLink RX7 49 yX7_fill, Cond.instanceMethod yX7_fill, Cond.selects RX7 yX7_fill yX7_fill, Cond.initialized RX7, Cond.code yX7_fill cX7_fill 8 (some .boolean), Cond.methodLink RX7 53 yX7_take, Cond.instanceMethod yX7_take, Cond.selects RX7 yX7_take yX7_take, Cond.code yX7_take cX7_take 10 (some .boolean), Cond.methodLink RX7 61 yX3_needsOf, Cond.instanceMethod yX3_needsOf, Cond.selects RX3 yX3_needsOf yX3_needsOf, Cond.code yX3_needsOf cX3_needsOf 3 (some .int), Cond.fieldLink RX3 26 "Approvalyard$Parts" "needCounts" "LApprovalyard$Row;", Cond.methodLink RX7 64 yX3_neededPart]
def wsX7_find_r3 : List Cond := [Cond.instanceMethod yX3_neededPart, Cond.selects RX3 yX3_neededPart yX3_neededPart, Cond.code yX3_neededPart cX3_neededPart 4 (some .int), Cond.fieldLink RX3 29 "Approvalyard$Parts" "needParts" "LApprovalyard$Row;", Cond.methodLink RX7 67 yX3_neededVersions, Cond.instanceMethod yX3_neededVersions, Cond.selects RX3 yX3_neededVersions yX3_neededVersions, Cond.code yX3_neededVersions cX3_neededVersions 4 (some .int), Cond.fieldLink RX3 32 "Approvalyard$Parts" "needVersions" "LApprovalyard$Row;", Cond.methodLink RX7 70 yX7_await, Cond.instanceMethod yX7_await, Cond.selects RX7 yX7_await yX7_await, Cond.code yX7_await cX7_await 3 none, Cond.methodLink RX7 57 yX1_with, Cond.static yX1_with, Cond.initialized RX1, Cond.code yX1_with cX1_with 3 (some .int)]
def wsX7_find : List Cond := .code yX7_find cX7_find 5 (some .int) :: ((wsX7_find_r1 ++ (wsX7_find_r2 ++ wsX7_find_r3)) ++ wsX70 ++ wsX30 ++ wsX60)
def wsX8_init_r1 : List Cond := [Cond.methodLink RX8 1 objectInit, Cond.instanceMethod objectInit, Cond.code objectInit ⟨#[0xb1]⟩ 1 none, Cond.classLink RX8 7 RX0, Cond.instantiable RX0 2, Cond.initialized RX0, Cond.fieldLink RX8 10 "Approvalyard" "book" "LApprovalyard$Book;", Cond.classLink RX8 16 RX2, Cond.instantiable RX2 3, Cond.initialized RX2, Cond.fieldLink RX8 19 "Approvalyard" "desk" "LApprovalyard$Desk;", Cond.fieldLink RX8 23 "Approvalyard" "deskAnew" "LApprovalyard$Desk;", Cond.classLink RX8 26 RX7, Cond.instantiable RX7 4, Cond.initialized RX7, Cond.fieldLink RX8 29 "Approvalyard" "search" "LApprovalyard$Search;", Cond.instanceMethod yX0_init, Cond.code yX0_init cX0_init 1 none, Cond.methodLink RX0 3 objectInit, Cond.classLink RX0 9 RX6, Cond.instantiable RX6 1, Cond.initialized RX6, Cond.fieldLink RX0 16 "Approvalyard$Book" "words" "LApprovalyard$Row;", Cond.methodLink RX0 13 yX6_init]
def wsX8_init_r2 : List Cond := [Cond.instanceMethod yX6_init, Cond.code yX6_init cX6_init 2 none, Cond.methodLink RX6 1 objectInit, Cond.arrayClass .int, Cond.fieldLink RX6 7 "Approvalyard$Row" "cells" "[I", Cond.methodLink RX8 18 yX2_init, Cond.instanceMethod yX2_init, Cond.code yX2_init cX2_init 1 none, Cond.methodLink RX2 3 objectInit, Cond.classLink RX2 9 RX3, Cond.instantiable RX3 6, Cond.initialized RX3, Cond.fieldLink RX2 12 "Approvalyard$Desk" "parts" "LApprovalyard$Parts;", Cond.classLink RX2 18 RX4, Cond.instantiable RX4 4, Cond.initialized RX4, Cond.fieldLink RX2 21 "Approvalyard$Desk" "people" "LApprovalyard$People;", Cond.classLink RX2 25 RX5, Cond.instantiable RX5 8, Cond.initialized RX5, Cond.fieldLink RX2 28 "Approvalyard$Desk" "requests" "LApprovalyard$Requests;", Cond.instanceMethod yX3_init, Cond.code yX3_init cX3_init 1 none, Cond.methodLink RX3 3 objectInit]
def wsX8_init_r3 : List Cond := [Cond.classLink RX3 9 RX6, Cond.fieldLink RX3 14 "Approvalyard$Parts" "counts" "LApprovalyard$Row;", Cond.fieldLink RX3 20 "Approvalyard$Parts" "costs" "LApprovalyard$Row;", Cond.fieldLink RX3 23 "Approvalyard$Parts" "replaced" "LApprovalyard$Row;", Cond.fieldLink RX3 26 "Approvalyard$Parts" "needCounts" "LApprovalyard$Row;", Cond.fieldLink RX3 29 "Approvalyard$Parts" "needParts" "LApprovalyard$Row;", Cond.fieldLink RX3 32 "Approvalyard$Parts" "needVersions" "LApprovalyard$Row;", Cond.methodLink RX3 11 yX6_init, Cond.instanceMethod yX4_init, Cond.code yX4_init cX4_init 1 none, Cond.methodLink RX4 3 objectInit, Cond.classLink RX4 9 RX6, Cond.fieldLink RX4 14 "Approvalyard$People" "limits" "LApprovalyard$Row;", Cond.fieldLink RX4 20 "Approvalyard$People" "delegates" "LApprovalyard$Row;", Cond.fieldLink RX4 23 "Approvalyard$People" "backs" "LApprovalyard$Row;", Cond.methodLink RX4 11 yX6_init, Cond.instanceMethod yX5_init, Cond.code yX5_init cX5_init 1 none, Cond.methodLink RX5 3 objectInit, Cond.classLink RX5 9 RX6, Cond.fieldLink RX5 14 "Approvalyard$Requests" "people" "LApprovalyard$Row;", Cond.fieldLink RX5 20 "Approvalyard$Requests" "parts" "LApprovalyard$Row;", Cond.fieldLink RX5 23 "Approvalyard$Requests" "leasts" "LApprovalyard$Row;", Cond.fieldLink RX5 26 "Approvalyard$Requests" "states" "LApprovalyard$Row;"]
def wsX8_init_r4 : List Cond := [Cond.fieldLink RX5 29 "Approvalyard$Requests" "choices" "LApprovalyard$Row;", Cond.fieldLink RX5 32 "Approvalyard$Requests" "costs" "LApprovalyard$Row;", Cond.fieldLink RX5 35 "Approvalyard$Requests" "ends" "LApprovalyard$Row;", Cond.methodLink RX5 11 yX6_init, Cond.methodLink RX2 32 yX2_clear, Cond.instanceMethod yX2_clear, Cond.selects RX2 yX2_clear yX2_clear, Cond.code yX2_clear cX2_clear 1 none, Cond.methodLink RX2 35 yX3_clear, Cond.instanceMethod yX3_clear, Cond.selects RX3 yX3_clear yX3_clear, Cond.code yX3_clear cX3_clear 1 none, Cond.methodLink RX3 35 yX6_fill, Cond.instanceMethod yX6_fill, Cond.selects RX6 yX6_fill yX6_fill, Cond.code yX6_fill cX6_fill 3 none, Cond.methodLink RX2 36 yX4_clear, Cond.instanceMethod yX4_clear, Cond.selects RX4 yX4_clear yX4_clear, Cond.code yX4_clear cX4_clear 1 none, Cond.fieldLink RX4 29 "Approvalyard$People" "day" "I", Cond.methodLink RX4 26 yX6_fill, Cond.methodLink RX2 37 yX5_clear, Cond.instanceMethod yX5_clear]
def wsX8_init_r5 : List Cond := [Cond.selects RX5 yX5_clear yX5_clear, Cond.code yX5_clear cX5_clear 1 none, Cond.fieldLink RX5 38 "Approvalyard$Requests" "number" "I", Cond.instanceMethod yX7_init, Cond.code yX7_init cX7_init 1 none, Cond.methodLink RX7 3 objectInit, Cond.classLink RX7 9 RX6, Cond.fieldLink RX7 14 "Approvalyard$Search" "order" "LApprovalyard$Row;", Cond.fieldLink RX7 20 "Approvalyard$Search" "wanted" "LApprovalyard$Row;", Cond.methodLink RX7 11 yX6_init]
def wsX8_init : List Cond := .code yX8_init cX8_init 1 none :: ((wsX8_init_r1 ++ (wsX8_init_r2 ++ (wsX8_init_r3 ++ (wsX8_init_r4 ++ wsX8_init_r5)))) ++ wsX00 ++ wsX80 ++ wsX20 ++ wsX70 ++ wsX60 ++ wsX30 ++ wsX40 ++ wsX50)
def wsX8_checkPart : List Cond := .code yX8_checkPart cX8_checkPart 1 none :: ([.classLink RX8 178 "java/lang/IndexOutOfBoundsException", .initialized "java/lang/IndexOutOfBoundsException"] ++ (vx_atS RX8 182 "java/lang/IndexOutOfBoundsException" ["java/lang/RuntimeException", "java/lang/Exception"]).filter goodWord)
def wsX8_tell_r1 : List Cond := [Cond.fieldLink RX8 19 "Approvalyard" "desk" "LApprovalyard$Desk;", Cond.fieldLink RX8 10 "Approvalyard" "book" "LApprovalyard$Book;", Cond.methodLink RX8 80 yX0_write, Cond.instanceMethod yX0_write, Cond.selects RX0 yX0_write yX0_write, Cond.initialized RX0, Cond.code yX0_write cX0_write 8 (some .int), Cond.fieldLink RX0 20 "Approvalyard$Book" "number" "I", Cond.fieldLink RX0 16 "Approvalyard$Book" "words" "LApprovalyard$Row;", Cond.methodLink RX0 24 yX6_put, Cond.instanceMethod yX6_put, Cond.selects RX6 yX6_put yX6_put, Cond.initialized RX6, Cond.code yX6_put cX6_put 3 none, Cond.fieldLink RX6 7 "Approvalyard$Row" "cells" "[I", Cond.methodLink RX8 84 yX2_apply, Cond.instanceMethod yX2_apply, Cond.selects RX2 yX2_apply yX2_apply, Cond.initialized RX2, Cond.code yX2_apply cX2_apply 6 (some .int), Cond.fieldLink RX2 12 "Approvalyard$Desk" "parts" "LApprovalyard$Parts;", Cond.fieldLink RX2 28 "Approvalyard$Desk" "requests" "LApprovalyard$Requests;", Cond.fieldLink RX2 21 "Approvalyard$Desk" "people" "LApprovalyard$People;", Cond.methodLink RX2 38 yX0_wordOf]
def wsX8_tell_r2 : List Cond := [Cond.instanceMethod yX0_wordOf, Cond.selects RX0 yX0_wordOf yX0_wordOf, Cond.code yX0_wordOf cX0_wordOf 3 (some .int), Cond.methodLink RX0 28 yX6_at, Cond.instanceMethod yX6_at, Cond.selects RX6 yX6_at yX6_at, Cond.code yX6_at cX6_at 2 (some .int), Cond.methodLink RX2 44 yX3_addVersion, Cond.instanceMethod yX3_addVersion, Cond.selects RX3 yX3_addVersion yX3_addVersion, Cond.initialized RX3, Cond.code yX3_addVersion cX3_addVersion 5 (some .int), Cond.fieldLink RX3 14 "Approvalyard$Parts" "counts" "LApprovalyard$Row;", Cond.fieldLink RX3 20 "Approvalyard$Parts" "costs" "LApprovalyard$Row;", Cond.fieldLink RX3 23 "Approvalyard$Parts" "replaced" "LApprovalyard$Row;", Cond.fieldLink RX3 26 "Approvalyard$Parts" "needCounts" "LApprovalyard$Row;", Cond.methodLink RX3 38 yX6_at, Cond.methodLink RX3 42 yX3_placeOf, Cond.static yX3_placeOf, Cond.code yX3_placeOf cX3_placeOf 2 (some .int), Cond.methodLink RX3 46 yX6_put, Cond.methodLink RX2 47 yX3_addNeed, Cond.instanceMethod yX3_addNeed, Cond.selects RX3 yX3_addNeed yX3_addNeed]
def wsX8_tell_r3 : List Cond := [Cond.code yX3_addNeed cX3_addNeed 8 (some .int), Cond.fieldLink RX3 29 "Approvalyard$Parts" "needParts" "LApprovalyard$Row;", Cond.fieldLink RX3 32 "Approvalyard$Parts" "needVersions" "LApprovalyard$Row;", Cond.methodLink RX3 50 yX3_versionSet, Cond.static yX3_versionSet, Cond.code yX3_versionSet cX3_versionSet 2 (some .int), Cond.methodLink RX2 51 yX3_markReplaced, Cond.instanceMethod yX3_markReplaced, Cond.selects RX3 yX3_markReplaced yX3_markReplaced, Cond.code yX3_markReplaced cX3_markReplaced 3 none, Cond.methodLink RX2 55 yX4_today, Cond.instanceMethod yX4_today, Cond.selects RX4 yX4_today yX4_today, Cond.initialized RX4, Cond.code yX4_today cX4_today 1 (some .int), Cond.fieldLink RX4 29 "Approvalyard$People" "day" "I", Cond.methodLink RX2 59 yX5_loseVersion, Cond.instanceMethod yX5_loseVersion, Cond.selects RX5 yX5_loseVersion yX5_loseVersion, Cond.initialized RX5, Cond.code yX5_loseVersion cX5_loseVersion 6 (some .int), Cond.fieldLink RX5 38 "Approvalyard$Requests" "number" "I", Cond.fieldLink RX5 29 "Approvalyard$Requests" "choices" "LApprovalyard$Row;", Cond.fieldLink RX5 26 "Approvalyard$Requests" "states" "LApprovalyard$Row;"]
def wsX8_tell_r4 : List Cond := [Cond.methodLink RX5 52 yX6_at, Cond.methodLink RX5 60 yX1_versionOf, Cond.static yX1_versionOf, Cond.initialized RX1, Cond.code yX1_versionOf cX1_versionOf 2 (some .int), Cond.methodLink RX5 66 yX5_approvalsOf, Cond.instanceMethod yX5_approvalsOf, Cond.selects RX5 yX5_approvalsOf yX5_approvalsOf, Cond.code yX5_approvalsOf cX5_approvalsOf 5 (some .int), Cond.methodLink RX5 56 yX5_hasApproval, Cond.instanceMethod yX5_hasApproval, Cond.selects RX5 yX5_hasApproval yX5_hasApproval, Cond.code yX5_hasApproval cX5_hasApproval 4 (some .boolean), Cond.fieldLink RX5 35 "Approvalyard$Requests" "ends" "LApprovalyard$Row;", Cond.methodLink RX5 49 yX5_endApprovals, Cond.instanceMethod yX5_endApprovals, Cond.selects RX5 yX5_endApprovals yX5_endApprovals, Cond.code yX5_endApprovals cX5_endApprovals 3 none, Cond.methodLink RX5 42 yX6_put, Cond.methodLink RX5 46 yX5_reopen, Cond.instanceMethod yX5_reopen, Cond.selects RX5 yX5_reopen yX5_reopen, Cond.code yX5_reopen cX5_reopen 2 none, Cond.fieldLink RX5 32 "Approvalyard$Requests" "costs" "LApprovalyard$Row;"]
def wsX8_tell_r5 : List Cond := [Cond.methodLink RX2 63 yX5_add, Cond.instanceMethod yX5_add, Cond.selects RX5 yX5_add yX5_add, Cond.code yX5_add cX5_add 5 (some .int), Cond.fieldLink RX5 14 "Approvalyard$Requests" "people" "LApprovalyard$Row;", Cond.fieldLink RX5 20 "Approvalyard$Requests" "parts" "LApprovalyard$Row;", Cond.fieldLink RX5 23 "Approvalyard$Requests" "leasts" "LApprovalyard$Row;", Cond.methodLink RX2 66 yX3_costOf, Cond.instanceMethod yX3_costOf, Cond.selects RX3 yX3_costOf yX3_costOf, Cond.code yX3_costOf cX3_costOf 5 (some .int), Cond.methodLink RX3 57 yX1_versionOf, Cond.methodLink RX2 70 yX5_settle, Cond.instanceMethod yX5_settle, Cond.selects RX5 yX5_settle yX5_settle, Cond.code yX5_settle cX5_settle 4 (some .int), Cond.methodLink RX2 73 yX4_changeLimit, Cond.instanceMethod yX4_changeLimit, Cond.selects RX4 yX4_changeLimit yX4_changeLimit, Cond.code yX4_changeLimit cX4_changeLimit 4 (some .int), Cond.fieldLink RX4 14 "Approvalyard$People" "limits" "LApprovalyard$Row;", Cond.methodLink RX4 33 yX6_at, Cond.methodLink RX4 37 yX6_put, Cond.methodLink RX2 76 yX4_sendOnLeave]
def wsX8_tell_r6 : List Cond := [Cond.instanceMethod yX4_sendOnLeave, Cond.selects RX4 yX4_sendOnLeave yX4_sendOnLeave, Cond.code yX4_sendOnLeave cX4_sendOnLeave 4 (some .int), Cond.fieldLink RX4 20 "Approvalyard$People" "delegates" "LApprovalyard$Row;", Cond.fieldLink RX4 23 "Approvalyard$People" "backs" "LApprovalyard$Row;", Cond.methodLink RX2 79 yX2_takeApproval, Cond.instanceMethod yX2_takeApproval, Cond.selects RX2 yX2_takeApproval yX2_takeApproval, Cond.code yX2_takeApproval cX2_takeApproval 5 (some .int), Cond.constant RX2 107 (2147483647), Cond.methodLink RX2 98 yX5_costOf, Cond.instanceMethod yX5_costOf, Cond.selects RX5 yX5_costOf yX5_costOf, Cond.code yX5_costOf cX5_costOf 2 (some .int), Cond.methodLink RX2 99 yX4_principalOf, Cond.instanceMethod yX4_principalOf, Cond.selects RX4 yX4_principalOf yX4_principalOf, Cond.code yX4_principalOf cX4_principalOf 4 (some .int), Cond.methodLink RX4 41 yX4_isAway, Cond.instanceMethod yX4_isAway, Cond.selects RX4 yX4_isAway yX4_isAway, Cond.code yX4_isAway cX4_isAway 2 (some .boolean), Cond.methodLink RX2 108 yX4_backOf, Cond.instanceMethod yX4_backOf]
def wsX8_tell_r7 : List Cond := [Cond.selects RX4 yX4_backOf yX4_backOf, Cond.code yX4_backOf cX4_backOf 2 (some .int), Cond.methodLink RX2 111 yX5_addApproval, Cond.instanceMethod yX5_addApproval, Cond.selects RX5 yX5_addApproval yX5_addApproval, Cond.code yX5_addApproval cX5_addApproval 4 none, Cond.methodLink RX2 82 yX5_markReleased, Cond.instanceMethod yX5_markReleased, Cond.selects RX5 yX5_markReleased yX5_markReleased, Cond.code yX5_markReleased cX5_markReleased 2 (some .int), Cond.methodLink RX2 85 yX4_addDays, Cond.instanceMethod yX4_addDays, Cond.selects RX4 yX4_addDays yX4_addDays, Cond.code yX4_addDays cX4_addDays 2 (some .int)]
def wsX8_tell : List Cond := .code yX8_tell cX8_tell 5 (some .int) :: ((wsX8_tell_r1 ++ (wsX8_tell_r2 ++ (wsX8_tell_r3 ++ (wsX8_tell_r4 ++ (wsX8_tell_r5 ++ (wsX8_tell_r6 ++ wsX8_tell_r7)))))) ++ wsX80 ++ wsX00 ++ wsX60 ++ wsX20 ++ wsX30 ++ wsX40 ++ wsX50)
def wsX8_version_r1 : List Cond := [Cond.classLink RX8 37 "java/lang/IllegalArgumentException", Cond.initialized "java/lang/IllegalArgumentException", Cond.classLink RX8 54 "java/lang/IllegalStateException", Cond.initialized "java/lang/IllegalStateException", Cond.fieldLink RX8 19 "Approvalyard" "desk" "LApprovalyard$Desk;", Cond.fieldLink RX8 44 "Approvalyard$Desk" "parts" "LApprovalyard$Parts;", Cond.methodLink RX8 33 yX8_checkPart, Cond.static yX8_checkPart, Cond.initialized RX8, Cond.code yX8_checkPart cX8_checkPart 1 none, Cond.classLink RX8 178 "java/lang/IndexOutOfBoundsException", Cond.initialized "java/lang/IndexOutOfBoundsException", Cond.methodLink RX8 48 yX3_countOf, Cond.instanceMethod yX3_countOf, Cond.selects RX3 yX3_countOf yX3_countOf, Cond.initialized RX3, Cond.code yX3_countOf cX3_countOf 2 (some .int), Cond.fieldLink RX3 14 "Approvalyard$Parts" "counts" "LApprovalyard$Row;", Cond.methodLink RX3 38 yX6_at, Cond.instanceMethod yX6_at, Cond.selects RX6 yX6_at yX6_at, Cond.initialized RX6, Cond.code yX6_at cX6_at 2 (some .int), Cond.fieldLink RX6 7 "Approvalyard$Row" "cells" "[I"]
def wsX8_version_r2 : List Cond := [Cond.methodLink RX8 59 yX8_tell, Cond.instanceMethod yX8_tell, Cond.selects RX8 yX8_tell yX8_tell, Cond.code yX8_tell cX8_tell 5 (some .int), Cond.fieldLink RX8 10 "Approvalyard" "book" "LApprovalyard$Book;", Cond.methodLink RX8 80 yX0_write, Cond.instanceMethod yX0_write, Cond.selects RX0 yX0_write yX0_write, Cond.initialized RX0, Cond.code yX0_write cX0_write 8 (some .int), Cond.fieldLink RX0 20 "Approvalyard$Book" "number" "I", Cond.fieldLink RX0 16 "Approvalyard$Book" "words" "LApprovalyard$Row;", Cond.methodLink RX0 24 yX6_put, Cond.instanceMethod yX6_put, Cond.selects RX6 yX6_put yX6_put, Cond.code yX6_put cX6_put 3 none, Cond.methodLink RX8 84 yX2_apply, Cond.instanceMethod yX2_apply, Cond.selects RX2 yX2_apply yX2_apply, Cond.initialized RX2, Cond.code yX2_apply cX2_apply 6 (some .int), Cond.fieldLink RX2 12 "Approvalyard$Desk" "parts" "LApprovalyard$Parts;", Cond.fieldLink RX2 28 "Approvalyard$Desk" "requests" "LApprovalyard$Requests;", Cond.fieldLink RX2 21 "Approvalyard$Desk" "people" "LApprovalyard$People;"]
def wsX8_version_r3 : List Cond := [Cond.methodLink RX2 38 yX0_wordOf, Cond.instanceMethod yX0_wordOf, Cond.selects RX0 yX0_wordOf yX0_wordOf, Cond.code yX0_wordOf cX0_wordOf 3 (some .int), Cond.methodLink RX0 28 yX6_at, Cond.methodLink RX2 44 yX3_addVersion, Cond.instanceMethod yX3_addVersion, Cond.selects RX3 yX3_addVersion yX3_addVersion, Cond.code yX3_addVersion cX3_addVersion 5 (some .int), Cond.fieldLink RX3 20 "Approvalyard$Parts" "costs" "LApprovalyard$Row;", Cond.fieldLink RX3 23 "Approvalyard$Parts" "replaced" "LApprovalyard$Row;", Cond.fieldLink RX3 26 "Approvalyard$Parts" "needCounts" "LApprovalyard$Row;", Cond.methodLink RX3 42 yX3_placeOf, Cond.static yX3_placeOf, Cond.code yX3_placeOf cX3_placeOf 2 (some .int), Cond.methodLink RX3 46 yX6_put, Cond.methodLink RX2 47 yX3_addNeed, Cond.instanceMethod yX3_addNeed, Cond.selects RX3 yX3_addNeed yX3_addNeed, Cond.code yX3_addNeed cX3_addNeed 8 (some .int), Cond.fieldLink RX3 29 "Approvalyard$Parts" "needParts" "LApprovalyard$Row;", Cond.fieldLink RX3 32 "Approvalyard$Parts" "needVersions" "LApprovalyard$Row;", Cond.methodLink RX3 50 yX3_versionSet, Cond.static yX3_versionSet]
def wsX8_version_r4 : List Cond := [Cond.code yX3_versionSet cX3_versionSet 2 (some .int), Cond.methodLink RX2 51 yX3_markReplaced, Cond.instanceMethod yX3_markReplaced, Cond.selects RX3 yX3_markReplaced yX3_markReplaced, Cond.code yX3_markReplaced cX3_markReplaced 3 none, Cond.methodLink RX2 55 yX4_today, Cond.instanceMethod yX4_today, Cond.selects RX4 yX4_today yX4_today, Cond.initialized RX4, Cond.code yX4_today cX4_today 1 (some .int), Cond.fieldLink RX4 29 "Approvalyard$People" "day" "I", Cond.methodLink RX2 59 yX5_loseVersion, Cond.instanceMethod yX5_loseVersion, Cond.selects RX5 yX5_loseVersion yX5_loseVersion, Cond.initialized RX5, Cond.code yX5_loseVersion cX5_loseVersion 6 (some .int), Cond.fieldLink RX5 38 "Approvalyard$Requests" "number" "I", Cond.fieldLink RX5 29 "Approvalyard$Requests" "choices" "LApprovalyard$Row;", Cond.fieldLink RX5 26 "Approvalyard$Requests" "states" "LApprovalyard$Row;", Cond.methodLink RX5 52 yX6_at, Cond.methodLink RX5 60 yX1_versionOf, Cond.static yX1_versionOf, Cond.initialized RX1, Cond.code yX1_versionOf cX1_versionOf 2 (some .int)]
def wsX8_version_r5 : List Cond := [Cond.methodLink RX5 66 yX5_approvalsOf, Cond.instanceMethod yX5_approvalsOf, Cond.selects RX5 yX5_approvalsOf yX5_approvalsOf, Cond.code yX5_approvalsOf cX5_approvalsOf 5 (some .int), Cond.methodLink RX5 56 yX5_hasApproval, Cond.instanceMethod yX5_hasApproval, Cond.selects RX5 yX5_hasApproval yX5_hasApproval, Cond.code yX5_hasApproval cX5_hasApproval 4 (some .boolean), Cond.fieldLink RX5 35 "Approvalyard$Requests" "ends" "LApprovalyard$Row;", Cond.methodLink RX5 49 yX5_endApprovals, Cond.instanceMethod yX5_endApprovals, Cond.selects RX5 yX5_endApprovals yX5_endApprovals, Cond.code yX5_endApprovals cX5_endApprovals 3 none, Cond.methodLink RX5 42 yX6_put, Cond.methodLink RX5 46 yX5_reopen, Cond.instanceMethod yX5_reopen, Cond.selects RX5 yX5_reopen yX5_reopen, Cond.code yX5_reopen cX5_reopen 2 none, Cond.fieldLink RX5 32 "Approvalyard$Requests" "costs" "LApprovalyard$Row;", Cond.methodLink RX2 63 yX5_add, Cond.instanceMethod yX5_add, Cond.selects RX5 yX5_add yX5_add, Cond.code yX5_add cX5_add 5 (some .int), Cond.fieldLink RX5 14 "Approvalyard$Requests" "people" "LApprovalyard$Row;"]
def wsX8_version_r6 : List Cond := [Cond.fieldLink RX5 20 "Approvalyard$Requests" "parts" "LApprovalyard$Row;", Cond.fieldLink RX5 23 "Approvalyard$Requests" "leasts" "LApprovalyard$Row;", Cond.methodLink RX2 66 yX3_costOf, Cond.instanceMethod yX3_costOf, Cond.selects RX3 yX3_costOf yX3_costOf, Cond.code yX3_costOf cX3_costOf 5 (some .int), Cond.methodLink RX3 57 yX1_versionOf, Cond.methodLink RX2 70 yX5_settle, Cond.instanceMethod yX5_settle, Cond.selects RX5 yX5_settle yX5_settle, Cond.code yX5_settle cX5_settle 4 (some .int), Cond.methodLink RX2 73 yX4_changeLimit, Cond.instanceMethod yX4_changeLimit, Cond.selects RX4 yX4_changeLimit yX4_changeLimit, Cond.code yX4_changeLimit cX4_changeLimit 4 (some .int), Cond.fieldLink RX4 14 "Approvalyard$People" "limits" "LApprovalyard$Row;", Cond.methodLink RX4 33 yX6_at, Cond.methodLink RX4 37 yX6_put, Cond.methodLink RX2 76 yX4_sendOnLeave, Cond.instanceMethod yX4_sendOnLeave, Cond.selects RX4 yX4_sendOnLeave yX4_sendOnLeave, Cond.code yX4_sendOnLeave cX4_sendOnLeave 4 (some .int), Cond.fieldLink RX4 20 "Approvalyard$People" "delegates" "LApprovalyard$Row;", Cond.fieldLink RX4 23 "Approvalyard$People" "backs" "LApprovalyard$Row;"]
def wsX8_version_r7 : List Cond := [Cond.methodLink RX2 79 yX2_takeApproval, Cond.instanceMethod yX2_takeApproval, Cond.selects RX2 yX2_takeApproval yX2_takeApproval, Cond.code yX2_takeApproval cX2_takeApproval 5 (some .int), Cond.constant RX2 107 (2147483647), Cond.methodLink RX2 98 yX5_costOf, Cond.instanceMethod yX5_costOf, Cond.selects RX5 yX5_costOf yX5_costOf, Cond.code yX5_costOf cX5_costOf 2 (some .int), Cond.methodLink RX2 99 yX4_principalOf, Cond.instanceMethod yX4_principalOf, Cond.selects RX4 yX4_principalOf yX4_principalOf, Cond.code yX4_principalOf cX4_principalOf 4 (some .int), Cond.methodLink RX4 41 yX4_isAway, Cond.instanceMethod yX4_isAway, Cond.selects RX4 yX4_isAway yX4_isAway, Cond.code yX4_isAway cX4_isAway 2 (some .boolean), Cond.methodLink RX2 108 yX4_backOf, Cond.instanceMethod yX4_backOf, Cond.selects RX4 yX4_backOf yX4_backOf, Cond.code yX4_backOf cX4_backOf 2 (some .int), Cond.methodLink RX2 111 yX5_addApproval, Cond.instanceMethod yX5_addApproval, Cond.selects RX5 yX5_addApproval yX5_addApproval]
def wsX8_version_r8 : List Cond := [Cond.code yX5_addApproval cX5_addApproval 4 none, Cond.methodLink RX2 82 yX5_markReleased, Cond.instanceMethod yX5_markReleased, Cond.selects RX5 yX5_markReleased yX5_markReleased, Cond.code yX5_markReleased cX5_markReleased 2 (some .int), Cond.methodLink RX2 85 yX4_addDays, Cond.instanceMethod yX4_addDays, Cond.selects RX4 yX4_addDays yX4_addDays, Cond.code yX4_addDays cX4_addDays 2 (some .int)]
def wsX8_version : List Cond := .code yX8_version cX8_version 3 (some .int) :: ((wsX8_version_r1 ++ (wsX8_version_r2 ++ (wsX8_version_r3 ++ (wsX8_version_r4 ++ (wsX8_version_r5 ++ (wsX8_version_r6 ++ (wsX8_version_r7 ++ wsX8_version_r8))))))) ++ wsX80 ++ wsX20 ++ wsX30 ++ wsX60 ++ wsX00 ++ wsX40 ++ wsX50 ++ (vx_atS RX8 41 "java/lang/IllegalArgumentException" ["java/lang/RuntimeException", "java/lang/Exception"]).filter goodWord ++ (vx_atS RX8 58 "java/lang/IllegalStateException" ["java/lang/RuntimeException", "java/lang/Exception"]).filter goodWord ++ (vx_atS RX8 182 "java/lang/IndexOutOfBoundsException" ["java/lang/RuntimeException", "java/lang/Exception"]).filter goodWord)
def wsX8_checkVersion : List Cond := .code yX8_checkVersion cX8_checkVersion 3 none :: ([.classLink RX8 178 "java/lang/IndexOutOfBoundsException", .initialized "java/lang/IndexOutOfBoundsException", .fieldLink RX8 19 "Approvalyard" "desk" "LApprovalyard$Desk;", .fieldLink RX8 44 "Approvalyard$Desk" "parts" "LApprovalyard$Parts;", .methodLink RX8 48 yX3_countOf, .instanceMethod yX3_countOf, .selects RX3 yX3_countOf yX3_countOf, .initialized RX3, .code yX3_countOf cX3_countOf 2 (some .int), .fieldLink RX3 14 "Approvalyard$Parts" "counts" "LApprovalyard$Row;", .methodLink RX3 38 yX6_at, .instanceMethod yX6_at, .selects RX6 yX6_at yX6_at, .initialized RX6, .code yX6_at cX6_at 2 (some .int), .fieldLink RX6 7 "Approvalyard$Row" "cells" "[I"] ++ wsX80 ++ wsX20 ++ wsX30 ++ wsX60 ++ (vx_atS RX8 182 "java/lang/IndexOutOfBoundsException" ["java/lang/RuntimeException", "java/lang/Exception"]).filter goodWord)
def wsX8_checkLeast : List Cond := .code yX8_checkLeast cX8_checkLeast 1 none :: ([.classLink RX8 37 "java/lang/IllegalArgumentException", .initialized "java/lang/IllegalArgumentException"] ++ (vx_atS RX8 41 "java/lang/IllegalArgumentException" ["java/lang/RuntimeException", "java/lang/Exception"]).filter goodWord)
def wsX8_need_r1 : List Cond := [Cond.classLink RX8 37 "java/lang/IllegalArgumentException", Cond.initialized "java/lang/IllegalArgumentException", Cond.classLink RX8 54 "java/lang/IllegalStateException", Cond.initialized "java/lang/IllegalStateException", Cond.fieldLink RX8 19 "Approvalyard" "desk" "LApprovalyard$Desk;", Cond.fieldLink RX8 44 "Approvalyard$Desk" "parts" "LApprovalyard$Parts;", Cond.fieldLink RX8 10 "Approvalyard" "book" "LApprovalyard$Book;", Cond.methodLink RX8 33 yX8_checkPart, Cond.static yX8_checkPart, Cond.initialized RX8, Cond.code yX8_checkPart cX8_checkPart 1 none, Cond.classLink RX8 178 "java/lang/IndexOutOfBoundsException", Cond.initialized "java/lang/IndexOutOfBoundsException", Cond.methodLink RX8 63 yX8_checkVersion, Cond.instanceMethod yX8_checkVersion, Cond.selects RX8 yX8_checkVersion yX8_checkVersion, Cond.code yX8_checkVersion cX8_checkVersion 3 none, Cond.methodLink RX8 48 yX3_countOf, Cond.instanceMethod yX3_countOf, Cond.selects RX3 yX3_countOf yX3_countOf, Cond.initialized RX3, Cond.code yX3_countOf cX3_countOf 2 (some .int), Cond.fieldLink RX3 14 "Approvalyard$Parts" "counts" "LApprovalyard$Row;", Cond.methodLink RX3 38 yX6_at]
def wsX8_need_r2 : List Cond := [Cond.instanceMethod yX6_at, Cond.selects RX6 yX6_at yX6_at, Cond.initialized RX6, Cond.code yX6_at cX6_at 2 (some .int), Cond.fieldLink RX6 7 "Approvalyard$Row" "cells" "[I", Cond.methodLink RX8 69 yX8_checkLeast, Cond.static yX8_checkLeast, Cond.code yX8_checkLeast cX8_checkLeast 1 none, Cond.methodLink RX8 74 yX3_needsOf, Cond.instanceMethod yX3_needsOf, Cond.selects RX3 yX3_needsOf yX3_needsOf, Cond.code yX3_needsOf cX3_needsOf 3 (some .int), Cond.fieldLink RX3 26 "Approvalyard$Parts" "needCounts" "LApprovalyard$Row;", Cond.methodLink RX3 42 yX3_placeOf, Cond.static yX3_placeOf, Cond.code yX3_placeOf cX3_placeOf 2 (some .int), Cond.methodLink RX8 80 yX0_write, Cond.instanceMethod yX0_write, Cond.selects RX0 yX0_write yX0_write, Cond.initialized RX0, Cond.code yX0_write cX0_write 8 (some .int), Cond.fieldLink RX0 20 "Approvalyard$Book" "number" "I", Cond.fieldLink RX0 16 "Approvalyard$Book" "words" "LApprovalyard$Row;", Cond.methodLink RX0 24 yX6_put]
def wsX8_need_r3 : List Cond := [Cond.instanceMethod yX6_put, Cond.selects RX6 yX6_put yX6_put, Cond.code yX6_put cX6_put 3 none, Cond.methodLink RX8 84 yX2_apply, Cond.instanceMethod yX2_apply, Cond.selects RX2 yX2_apply yX2_apply, Cond.initialized RX2, Cond.code yX2_apply cX2_apply 6 (some .int), Cond.fieldLink RX2 12 "Approvalyard$Desk" "parts" "LApprovalyard$Parts;", Cond.fieldLink RX2 28 "Approvalyard$Desk" "requests" "LApprovalyard$Requests;", Cond.fieldLink RX2 21 "Approvalyard$Desk" "people" "LApprovalyard$People;", Cond.methodLink RX2 38 yX0_wordOf, Cond.instanceMethod yX0_wordOf, Cond.selects RX0 yX0_wordOf yX0_wordOf, Cond.code yX0_wordOf cX0_wordOf 3 (some .int), Cond.methodLink RX0 28 yX6_at, Cond.methodLink RX2 44 yX3_addVersion, Cond.instanceMethod yX3_addVersion, Cond.selects RX3 yX3_addVersion yX3_addVersion, Cond.code yX3_addVersion cX3_addVersion 5 (some .int), Cond.fieldLink RX3 20 "Approvalyard$Parts" "costs" "LApprovalyard$Row;", Cond.fieldLink RX3 23 "Approvalyard$Parts" "replaced" "LApprovalyard$Row;", Cond.methodLink RX3 46 yX6_put, Cond.methodLink RX2 47 yX3_addNeed]
def wsX8_need_r4 : List Cond := [Cond.instanceMethod yX3_addNeed, Cond.selects RX3 yX3_addNeed yX3_addNeed, Cond.code yX3_addNeed cX3_addNeed 8 (some .int), Cond.fieldLink RX3 29 "Approvalyard$Parts" "needParts" "LApprovalyard$Row;", Cond.fieldLink RX3 32 "Approvalyard$Parts" "needVersions" "LApprovalyard$Row;", Cond.methodLink RX3 50 yX3_versionSet, Cond.static yX3_versionSet, Cond.code yX3_versionSet cX3_versionSet 2 (some .int), Cond.methodLink RX2 51 yX3_markReplaced, Cond.instanceMethod yX3_markReplaced, Cond.selects RX3 yX3_markReplaced yX3_markReplaced, Cond.code yX3_markReplaced cX3_markReplaced 3 none, Cond.methodLink RX2 55 yX4_today, Cond.instanceMethod yX4_today, Cond.selects RX4 yX4_today yX4_today, Cond.initialized RX4, Cond.code yX4_today cX4_today 1 (some .int), Cond.fieldLink RX4 29 "Approvalyard$People" "day" "I", Cond.methodLink RX2 59 yX5_loseVersion, Cond.instanceMethod yX5_loseVersion, Cond.selects RX5 yX5_loseVersion yX5_loseVersion, Cond.initialized RX5, Cond.code yX5_loseVersion cX5_loseVersion 6 (some .int), Cond.fieldLink RX5 38 "Approvalyard$Requests" "number" "I"]
def wsX8_need_r5 : List Cond := [Cond.fieldLink RX5 29 "Approvalyard$Requests" "choices" "LApprovalyard$Row;", Cond.fieldLink RX5 26 "Approvalyard$Requests" "states" "LApprovalyard$Row;", Cond.methodLink RX5 52 yX6_at, Cond.methodLink RX5 60 yX1_versionOf, Cond.static yX1_versionOf, Cond.initialized RX1, Cond.code yX1_versionOf cX1_versionOf 2 (some .int), Cond.methodLink RX5 66 yX5_approvalsOf, Cond.instanceMethod yX5_approvalsOf, Cond.selects RX5 yX5_approvalsOf yX5_approvalsOf, Cond.code yX5_approvalsOf cX5_approvalsOf 5 (some .int), Cond.methodLink RX5 56 yX5_hasApproval, Cond.instanceMethod yX5_hasApproval, Cond.selects RX5 yX5_hasApproval yX5_hasApproval, Cond.code yX5_hasApproval cX5_hasApproval 4 (some .boolean), Cond.fieldLink RX5 35 "Approvalyard$Requests" "ends" "LApprovalyard$Row;", Cond.methodLink RX5 49 yX5_endApprovals, Cond.instanceMethod yX5_endApprovals, Cond.selects RX5 yX5_endApprovals yX5_endApprovals, Cond.code yX5_endApprovals cX5_endApprovals 3 none, Cond.methodLink RX5 42 yX6_put, Cond.methodLink RX5 46 yX5_reopen, Cond.instanceMethod yX5_reopen, Cond.selects RX5 yX5_reopen yX5_reopen]
def wsX8_need_r6 : List Cond := [Cond.code yX5_reopen cX5_reopen 2 none, Cond.fieldLink RX5 32 "Approvalyard$Requests" "costs" "LApprovalyard$Row;", Cond.methodLink RX2 63 yX5_add, Cond.instanceMethod yX5_add, Cond.selects RX5 yX5_add yX5_add, Cond.code yX5_add cX5_add 5 (some .int), Cond.fieldLink RX5 14 "Approvalyard$Requests" "people" "LApprovalyard$Row;", Cond.fieldLink RX5 20 "Approvalyard$Requests" "parts" "LApprovalyard$Row;", Cond.fieldLink RX5 23 "Approvalyard$Requests" "leasts" "LApprovalyard$Row;", Cond.methodLink RX2 66 yX3_costOf, Cond.instanceMethod yX3_costOf, Cond.selects RX3 yX3_costOf yX3_costOf, Cond.code yX3_costOf cX3_costOf 5 (some .int), Cond.methodLink RX3 57 yX1_versionOf, Cond.methodLink RX2 70 yX5_settle, Cond.instanceMethod yX5_settle, Cond.selects RX5 yX5_settle yX5_settle, Cond.code yX5_settle cX5_settle 4 (some .int), Cond.methodLink RX2 73 yX4_changeLimit, Cond.instanceMethod yX4_changeLimit, Cond.selects RX4 yX4_changeLimit yX4_changeLimit, Cond.code yX4_changeLimit cX4_changeLimit 4 (some .int), Cond.fieldLink RX4 14 "Approvalyard$People" "limits" "LApprovalyard$Row;", Cond.methodLink RX4 33 yX6_at]
def wsX8_need_r7 : List Cond := [Cond.methodLink RX4 37 yX6_put, Cond.methodLink RX2 76 yX4_sendOnLeave, Cond.instanceMethod yX4_sendOnLeave, Cond.selects RX4 yX4_sendOnLeave yX4_sendOnLeave, Cond.code yX4_sendOnLeave cX4_sendOnLeave 4 (some .int), Cond.fieldLink RX4 20 "Approvalyard$People" "delegates" "LApprovalyard$Row;", Cond.fieldLink RX4 23 "Approvalyard$People" "backs" "LApprovalyard$Row;", Cond.methodLink RX2 79 yX2_takeApproval, Cond.instanceMethod yX2_takeApproval, Cond.selects RX2 yX2_takeApproval yX2_takeApproval, Cond.code yX2_takeApproval cX2_takeApproval 5 (some .int), Cond.constant RX2 107 (2147483647), Cond.methodLink RX2 98 yX5_costOf, Cond.instanceMethod yX5_costOf, Cond.selects RX5 yX5_costOf yX5_costOf, Cond.code yX5_costOf cX5_costOf 2 (some .int), Cond.methodLink RX2 99 yX4_principalOf, Cond.instanceMethod yX4_principalOf, Cond.selects RX4 yX4_principalOf yX4_principalOf, Cond.code yX4_principalOf cX4_principalOf 4 (some .int), Cond.methodLink RX4 41 yX4_isAway, Cond.instanceMethod yX4_isAway, Cond.selects RX4 yX4_isAway yX4_isAway, Cond.code yX4_isAway cX4_isAway 2 (some .boolean)]
def wsX8_need_r8 : List Cond := [Cond.methodLink RX2 108 yX4_backOf, Cond.instanceMethod yX4_backOf, Cond.selects RX4 yX4_backOf yX4_backOf, Cond.code yX4_backOf cX4_backOf 2 (some .int), Cond.methodLink RX2 111 yX5_addApproval, Cond.instanceMethod yX5_addApproval, Cond.selects RX5 yX5_addApproval yX5_addApproval, Cond.code yX5_addApproval cX5_addApproval 4 none, Cond.methodLink RX2 82 yX5_markReleased, Cond.instanceMethod yX5_markReleased, Cond.selects RX5 yX5_markReleased yX5_markReleased, Cond.code yX5_markReleased cX5_markReleased 2 (some .int), Cond.methodLink RX2 85 yX4_addDays, Cond.instanceMethod yX4_addDays, Cond.selects RX4 yX4_addDays yX4_addDays, Cond.code yX4_addDays cX4_addDays 2 (some .int)]
def wsX8_need : List Cond := .code yX8_need cX8_need 6 (some .int) :: ((wsX8_need_r1 ++ (wsX8_need_r2 ++ (wsX8_need_r3 ++ (wsX8_need_r4 ++ (wsX8_need_r5 ++ (wsX8_need_r6 ++ (wsX8_need_r7 ++ wsX8_need_r8))))))) ++ wsX80 ++ wsX20 ++ wsX30 ++ wsX60 ++ wsX00 ++ wsX40 ++ wsX50 ++ (vx_atS RX8 41 "java/lang/IllegalArgumentException" ["java/lang/RuntimeException", "java/lang/Exception"]).filter goodWord ++ (vx_atS RX8 58 "java/lang/IllegalStateException" ["java/lang/RuntimeException", "java/lang/Exception"]).filter goodWord ++ (vx_atS RX8 182 "java/lang/IndexOutOfBoundsException" ["java/lang/RuntimeException", "java/lang/Exception"]).filter goodWord)
def wsX8_replace_r1 : List Cond := [Cond.classLink RX8 54 "java/lang/IllegalStateException", Cond.initialized "java/lang/IllegalStateException", Cond.fieldLink RX8 19 "Approvalyard" "desk" "LApprovalyard$Desk;", Cond.fieldLink RX8 44 "Approvalyard$Desk" "parts" "LApprovalyard$Parts;", Cond.methodLink RX8 33 yX8_checkPart, Cond.static yX8_checkPart, Cond.initialized RX8, Cond.code yX8_checkPart cX8_checkPart 1 none, Cond.classLink RX8 178 "java/lang/IndexOutOfBoundsException", Cond.initialized "java/lang/IndexOutOfBoundsException", Cond.methodLink RX8 63 yX8_checkVersion, Cond.instanceMethod yX8_checkVersion, Cond.selects RX8 yX8_checkVersion yX8_checkVersion, Cond.code yX8_checkVersion cX8_checkVersion 3 none, Cond.methodLink RX8 48 yX3_countOf, Cond.instanceMethod yX3_countOf, Cond.selects RX3 yX3_countOf yX3_countOf, Cond.initialized RX3, Cond.code yX3_countOf cX3_countOf 2 (some .int), Cond.fieldLink RX3 14 "Approvalyard$Parts" "counts" "LApprovalyard$Row;", Cond.methodLink RX3 38 yX6_at, Cond.instanceMethod yX6_at, Cond.selects RX6 yX6_at yX6_at, Cond.initialized RX6]
def wsX8_replace_r2 : List Cond := [Cond.code yX6_at cX6_at 2 (some .int), Cond.fieldLink RX6 7 "Approvalyard$Row" "cells" "[I", Cond.methodLink RX8 88 yX3_isReplaced, Cond.instanceMethod yX3_isReplaced, Cond.selects RX3 yX3_isReplaced yX3_isReplaced, Cond.code yX3_isReplaced cX3_isReplaced 3 (some .boolean), Cond.fieldLink RX3 23 "Approvalyard$Parts" "replaced" "LApprovalyard$Row;", Cond.methodLink RX3 42 yX3_placeOf, Cond.static yX3_placeOf, Cond.code yX3_placeOf cX3_placeOf 2 (some .int), Cond.methodLink RX8 59 yX8_tell, Cond.instanceMethod yX8_tell, Cond.selects RX8 yX8_tell yX8_tell, Cond.code yX8_tell cX8_tell 5 (some .int), Cond.fieldLink RX8 10 "Approvalyard" "book" "LApprovalyard$Book;", Cond.methodLink RX8 80 yX0_write, Cond.instanceMethod yX0_write, Cond.selects RX0 yX0_write yX0_write, Cond.initialized RX0, Cond.code yX0_write cX0_write 8 (some .int), Cond.fieldLink RX0 20 "Approvalyard$Book" "number" "I", Cond.fieldLink RX0 16 "Approvalyard$Book" "words" "LApprovalyard$Row;", Cond.methodLink RX0 24 yX6_put, Cond.instanceMethod yX6_put]
def wsX8_replace_r3 : List Cond := [Cond.selects RX6 yX6_put yX6_put, Cond.code yX6_put cX6_put 3 none, Cond.methodLink RX8 84 yX2_apply, Cond.instanceMethod yX2_apply, Cond.selects RX2 yX2_apply yX2_apply, Cond.initialized RX2, Cond.code yX2_apply cX2_apply 6 (some .int), Cond.fieldLink RX2 12 "Approvalyard$Desk" "parts" "LApprovalyard$Parts;", Cond.fieldLink RX2 28 "Approvalyard$Desk" "requests" "LApprovalyard$Requests;", Cond.fieldLink RX2 21 "Approvalyard$Desk" "people" "LApprovalyard$People;", Cond.methodLink RX2 38 yX0_wordOf, Cond.instanceMethod yX0_wordOf, Cond.selects RX0 yX0_wordOf yX0_wordOf, Cond.code yX0_wordOf cX0_wordOf 3 (some .int), Cond.methodLink RX0 28 yX6_at, Cond.methodLink RX2 44 yX3_addVersion, Cond.instanceMethod yX3_addVersion, Cond.selects RX3 yX3_addVersion yX3_addVersion, Cond.code yX3_addVersion cX3_addVersion 5 (some .int), Cond.fieldLink RX3 20 "Approvalyard$Parts" "costs" "LApprovalyard$Row;", Cond.fieldLink RX3 26 "Approvalyard$Parts" "needCounts" "LApprovalyard$Row;", Cond.methodLink RX3 46 yX6_put, Cond.methodLink RX2 47 yX3_addNeed, Cond.instanceMethod yX3_addNeed]
def wsX8_replace_r4 : List Cond := [Cond.selects RX3 yX3_addNeed yX3_addNeed, Cond.code yX3_addNeed cX3_addNeed 8 (some .int), Cond.fieldLink RX3 29 "Approvalyard$Parts" "needParts" "LApprovalyard$Row;", Cond.fieldLink RX3 32 "Approvalyard$Parts" "needVersions" "LApprovalyard$Row;", Cond.methodLink RX3 50 yX3_versionSet, Cond.static yX3_versionSet, Cond.code yX3_versionSet cX3_versionSet 2 (some .int), Cond.methodLink RX2 51 yX3_markReplaced, Cond.instanceMethod yX3_markReplaced, Cond.selects RX3 yX3_markReplaced yX3_markReplaced, Cond.code yX3_markReplaced cX3_markReplaced 3 none, Cond.methodLink RX2 55 yX4_today, Cond.instanceMethod yX4_today, Cond.selects RX4 yX4_today yX4_today, Cond.initialized RX4, Cond.code yX4_today cX4_today 1 (some .int), Cond.fieldLink RX4 29 "Approvalyard$People" "day" "I", Cond.methodLink RX2 59 yX5_loseVersion, Cond.instanceMethod yX5_loseVersion, Cond.selects RX5 yX5_loseVersion yX5_loseVersion, Cond.initialized RX5, Cond.code yX5_loseVersion cX5_loseVersion 6 (some .int), Cond.fieldLink RX5 38 "Approvalyard$Requests" "number" "I", Cond.fieldLink RX5 29 "Approvalyard$Requests" "choices" "LApprovalyard$Row;"]
def wsX8_replace_r5 : List Cond := [Cond.fieldLink RX5 26 "Approvalyard$Requests" "states" "LApprovalyard$Row;", Cond.methodLink RX5 52 yX6_at, Cond.methodLink RX5 60 yX1_versionOf, Cond.static yX1_versionOf, Cond.initialized RX1, Cond.code yX1_versionOf cX1_versionOf 2 (some .int), Cond.methodLink RX5 66 yX5_approvalsOf, Cond.instanceMethod yX5_approvalsOf, Cond.selects RX5 yX5_approvalsOf yX5_approvalsOf, Cond.code yX5_approvalsOf cX5_approvalsOf 5 (some .int), Cond.methodLink RX5 56 yX5_hasApproval, Cond.instanceMethod yX5_hasApproval, Cond.selects RX5 yX5_hasApproval yX5_hasApproval, Cond.code yX5_hasApproval cX5_hasApproval 4 (some .boolean), Cond.fieldLink RX5 35 "Approvalyard$Requests" "ends" "LApprovalyard$Row;", Cond.methodLink RX5 49 yX5_endApprovals, Cond.instanceMethod yX5_endApprovals, Cond.selects RX5 yX5_endApprovals yX5_endApprovals, Cond.code yX5_endApprovals cX5_endApprovals 3 none, Cond.methodLink RX5 42 yX6_put, Cond.methodLink RX5 46 yX5_reopen, Cond.instanceMethod yX5_reopen, Cond.selects RX5 yX5_reopen yX5_reopen, Cond.code yX5_reopen cX5_reopen 2 none]
def wsX8_replace_r6 : List Cond := [Cond.fieldLink RX5 32 "Approvalyard$Requests" "costs" "LApprovalyard$Row;", Cond.methodLink RX2 63 yX5_add, Cond.instanceMethod yX5_add, Cond.selects RX5 yX5_add yX5_add, Cond.code yX5_add cX5_add 5 (some .int), Cond.fieldLink RX5 14 "Approvalyard$Requests" "people" "LApprovalyard$Row;", Cond.fieldLink RX5 20 "Approvalyard$Requests" "parts" "LApprovalyard$Row;", Cond.fieldLink RX5 23 "Approvalyard$Requests" "leasts" "LApprovalyard$Row;", Cond.methodLink RX2 66 yX3_costOf, Cond.instanceMethod yX3_costOf, Cond.selects RX3 yX3_costOf yX3_costOf, Cond.code yX3_costOf cX3_costOf 5 (some .int), Cond.methodLink RX3 57 yX1_versionOf, Cond.methodLink RX2 70 yX5_settle, Cond.instanceMethod yX5_settle, Cond.selects RX5 yX5_settle yX5_settle, Cond.code yX5_settle cX5_settle 4 (some .int), Cond.methodLink RX2 73 yX4_changeLimit, Cond.instanceMethod yX4_changeLimit, Cond.selects RX4 yX4_changeLimit yX4_changeLimit, Cond.code yX4_changeLimit cX4_changeLimit 4 (some .int), Cond.fieldLink RX4 14 "Approvalyard$People" "limits" "LApprovalyard$Row;", Cond.methodLink RX4 33 yX6_at, Cond.methodLink RX4 37 yX6_put]
def wsX8_replace_r7 : List Cond := [Cond.methodLink RX2 76 yX4_sendOnLeave, Cond.instanceMethod yX4_sendOnLeave, Cond.selects RX4 yX4_sendOnLeave yX4_sendOnLeave, Cond.code yX4_sendOnLeave cX4_sendOnLeave 4 (some .int), Cond.fieldLink RX4 20 "Approvalyard$People" "delegates" "LApprovalyard$Row;", Cond.fieldLink RX4 23 "Approvalyard$People" "backs" "LApprovalyard$Row;", Cond.methodLink RX2 79 yX2_takeApproval, Cond.instanceMethod yX2_takeApproval, Cond.selects RX2 yX2_takeApproval yX2_takeApproval, Cond.code yX2_takeApproval cX2_takeApproval 5 (some .int), Cond.constant RX2 107 (2147483647), Cond.methodLink RX2 98 yX5_costOf, Cond.instanceMethod yX5_costOf, Cond.selects RX5 yX5_costOf yX5_costOf, Cond.code yX5_costOf cX5_costOf 2 (some .int), Cond.methodLink RX2 99 yX4_principalOf, Cond.instanceMethod yX4_principalOf, Cond.selects RX4 yX4_principalOf yX4_principalOf, Cond.code yX4_principalOf cX4_principalOf 4 (some .int), Cond.methodLink RX4 41 yX4_isAway, Cond.instanceMethod yX4_isAway, Cond.selects RX4 yX4_isAway yX4_isAway, Cond.code yX4_isAway cX4_isAway 2 (some .boolean), Cond.methodLink RX2 108 yX4_backOf]
def wsX8_replace_r8 : List Cond := [Cond.instanceMethod yX4_backOf, Cond.selects RX4 yX4_backOf yX4_backOf, Cond.code yX4_backOf cX4_backOf 2 (some .int), Cond.methodLink RX2 111 yX5_addApproval, Cond.instanceMethod yX5_addApproval, Cond.selects RX5 yX5_addApproval yX5_addApproval, Cond.code yX5_addApproval cX5_addApproval 4 none, Cond.methodLink RX2 82 yX5_markReleased, Cond.instanceMethod yX5_markReleased, Cond.selects RX5 yX5_markReleased yX5_markReleased, Cond.code yX5_markReleased cX5_markReleased 2 (some .int), Cond.methodLink RX2 85 yX4_addDays, Cond.instanceMethod yX4_addDays, Cond.selects RX4 yX4_addDays yX4_addDays, Cond.code yX4_addDays cX4_addDays 2 (some .int)]
def wsX8_replace : List Cond := .code yX8_replace cX8_replace 3 (some .int) :: ((wsX8_replace_r1 ++ (wsX8_replace_r2 ++ (wsX8_replace_r3 ++ (wsX8_replace_r4 ++ (wsX8_replace_r5 ++ (wsX8_replace_r6 ++ (wsX8_replace_r7 ++ wsX8_replace_r8))))))) ++ wsX80 ++ wsX20 ++ wsX30 ++ wsX60 ++ wsX00 ++ wsX40 ++ wsX50 ++ (vx_atS RX8 58 "java/lang/IllegalStateException" ["java/lang/RuntimeException", "java/lang/Exception"]).filter goodWord ++ (vx_atS RX8 182 "java/lang/IndexOutOfBoundsException" ["java/lang/RuntimeException", "java/lang/Exception"]).filter goodWord)
def wsX8_checkPerson : List Cond := .code yX8_checkPerson cX8_checkPerson 1 none :: ([.classLink RX8 178 "java/lang/IndexOutOfBoundsException", .initialized "java/lang/IndexOutOfBoundsException"] ++ (vx_atS RX8 182 "java/lang/IndexOutOfBoundsException" ["java/lang/RuntimeException", "java/lang/Exception"]).filter goodWord)
def wsX8_request_r1 : List Cond := [Cond.classLink RX8 54 "java/lang/IllegalStateException", Cond.initialized "java/lang/IllegalStateException", Cond.fieldLink RX8 19 "Approvalyard" "desk" "LApprovalyard$Desk;", Cond.fieldLink RX8 97 "Approvalyard$Desk" "requests" "LApprovalyard$Requests;", Cond.methodLink RX8 94 yX8_checkPerson, Cond.static yX8_checkPerson, Cond.initialized RX8, Cond.code yX8_checkPerson cX8_checkPerson 1 none, Cond.classLink RX8 178 "java/lang/IndexOutOfBoundsException", Cond.initialized "java/lang/IndexOutOfBoundsException", Cond.methodLink RX8 33 yX8_checkPart, Cond.static yX8_checkPart, Cond.code yX8_checkPart cX8_checkPart 1 none, Cond.methodLink RX8 69 yX8_checkLeast, Cond.static yX8_checkLeast, Cond.code yX8_checkLeast cX8_checkLeast 1 none, Cond.classLink RX8 37 "java/lang/IllegalArgumentException", Cond.initialized "java/lang/IllegalArgumentException", Cond.methodLink RX8 101 yX5_count, Cond.instanceMethod yX5_count, Cond.selects RX5 yX5_count yX5_count, Cond.initialized RX5, Cond.code yX5_count cX5_count 1 (some .int), Cond.fieldLink RX5 38 "Approvalyard$Requests" "number" "I"]
def wsX8_request_r2 : List Cond := [Cond.methodLink RX8 59 yX8_tell, Cond.instanceMethod yX8_tell, Cond.selects RX8 yX8_tell yX8_tell, Cond.code yX8_tell cX8_tell 5 (some .int), Cond.fieldLink RX8 10 "Approvalyard" "book" "LApprovalyard$Book;", Cond.methodLink RX8 80 yX0_write, Cond.instanceMethod yX0_write, Cond.selects RX0 yX0_write yX0_write, Cond.initialized RX0, Cond.code yX0_write cX0_write 8 (some .int), Cond.fieldLink RX0 20 "Approvalyard$Book" "number" "I", Cond.fieldLink RX0 16 "Approvalyard$Book" "words" "LApprovalyard$Row;", Cond.methodLink RX0 24 yX6_put, Cond.instanceMethod yX6_put, Cond.selects RX6 yX6_put yX6_put, Cond.initialized RX6, Cond.code yX6_put cX6_put 3 none, Cond.fieldLink RX6 7 "Approvalyard$Row" "cells" "[I", Cond.methodLink RX8 84 yX2_apply, Cond.instanceMethod yX2_apply, Cond.selects RX2 yX2_apply yX2_apply, Cond.initialized RX2, Cond.code yX2_apply cX2_apply 6 (some .int), Cond.fieldLink RX2 12 "Approvalyard$Desk" "parts" "LApprovalyard$Parts;"]
def wsX8_request_r3 : List Cond := [Cond.fieldLink RX2 28 "Approvalyard$Desk" "requests" "LApprovalyard$Requests;", Cond.fieldLink RX2 21 "Approvalyard$Desk" "people" "LApprovalyard$People;", Cond.methodLink RX2 38 yX0_wordOf, Cond.instanceMethod yX0_wordOf, Cond.selects RX0 yX0_wordOf yX0_wordOf, Cond.code yX0_wordOf cX0_wordOf 3 (some .int), Cond.methodLink RX0 28 yX6_at, Cond.instanceMethod yX6_at, Cond.selects RX6 yX6_at yX6_at, Cond.code yX6_at cX6_at 2 (some .int), Cond.methodLink RX2 44 yX3_addVersion, Cond.instanceMethod yX3_addVersion, Cond.selects RX3 yX3_addVersion yX3_addVersion, Cond.initialized RX3, Cond.code yX3_addVersion cX3_addVersion 5 (some .int), Cond.fieldLink RX3 14 "Approvalyard$Parts" "counts" "LApprovalyard$Row;", Cond.fieldLink RX3 20 "Approvalyard$Parts" "costs" "LApprovalyard$Row;", Cond.fieldLink RX3 23 "Approvalyard$Parts" "replaced" "LApprovalyard$Row;", Cond.fieldLink RX3 26 "Approvalyard$Parts" "needCounts" "LApprovalyard$Row;", Cond.methodLink RX3 38 yX6_at, Cond.methodLink RX3 42 yX3_placeOf, Cond.static yX3_placeOf, Cond.code yX3_placeOf cX3_placeOf 2 (some .int), Cond.methodLink RX3 46 yX6_put]
def wsX8_request_r4 : List Cond := [Cond.methodLink RX2 47 yX3_addNeed, Cond.instanceMethod yX3_addNeed, Cond.selects RX3 yX3_addNeed yX3_addNeed, Cond.code yX3_addNeed cX3_addNeed 8 (some .int), Cond.fieldLink RX3 29 "Approvalyard$Parts" "needParts" "LApprovalyard$Row;", Cond.fieldLink RX3 32 "Approvalyard$Parts" "needVersions" "LApprovalyard$Row;", Cond.methodLink RX3 50 yX3_versionSet, Cond.static yX3_versionSet, Cond.code yX3_versionSet cX3_versionSet 2 (some .int), Cond.methodLink RX2 51 yX3_markReplaced, Cond.instanceMethod yX3_markReplaced, Cond.selects RX3 yX3_markReplaced yX3_markReplaced, Cond.code yX3_markReplaced cX3_markReplaced 3 none, Cond.methodLink RX2 55 yX4_today, Cond.instanceMethod yX4_today, Cond.selects RX4 yX4_today yX4_today, Cond.initialized RX4, Cond.code yX4_today cX4_today 1 (some .int), Cond.fieldLink RX4 29 "Approvalyard$People" "day" "I", Cond.methodLink RX2 59 yX5_loseVersion, Cond.instanceMethod yX5_loseVersion, Cond.selects RX5 yX5_loseVersion yX5_loseVersion, Cond.code yX5_loseVersion cX5_loseVersion 6 (some .int), Cond.fieldLink RX5 29 "Approvalyard$Requests" "choices" "LApprovalyard$Row;"]
def wsX8_request_r5 : List Cond := [Cond.fieldLink RX5 26 "Approvalyard$Requests" "states" "LApprovalyard$Row;", Cond.methodLink RX5 52 yX6_at, Cond.methodLink RX5 60 yX1_versionOf, Cond.static yX1_versionOf, Cond.initialized RX1, Cond.code yX1_versionOf cX1_versionOf 2 (some .int), Cond.methodLink RX5 66 yX5_approvalsOf, Cond.instanceMethod yX5_approvalsOf, Cond.selects RX5 yX5_approvalsOf yX5_approvalsOf, Cond.code yX5_approvalsOf cX5_approvalsOf 5 (some .int), Cond.methodLink RX5 56 yX5_hasApproval, Cond.instanceMethod yX5_hasApproval, Cond.selects RX5 yX5_hasApproval yX5_hasApproval, Cond.code yX5_hasApproval cX5_hasApproval 4 (some .boolean), Cond.fieldLink RX5 35 "Approvalyard$Requests" "ends" "LApprovalyard$Row;", Cond.methodLink RX5 49 yX5_endApprovals, Cond.instanceMethod yX5_endApprovals, Cond.selects RX5 yX5_endApprovals yX5_endApprovals, Cond.code yX5_endApprovals cX5_endApprovals 3 none, Cond.methodLink RX5 42 yX6_put, Cond.methodLink RX5 46 yX5_reopen, Cond.instanceMethod yX5_reopen, Cond.selects RX5 yX5_reopen yX5_reopen, Cond.code yX5_reopen cX5_reopen 2 none]
def wsX8_request_r6 : List Cond := [Cond.fieldLink RX5 32 "Approvalyard$Requests" "costs" "LApprovalyard$Row;", Cond.methodLink RX2 63 yX5_add, Cond.instanceMethod yX5_add, Cond.selects RX5 yX5_add yX5_add, Cond.code yX5_add cX5_add 5 (some .int), Cond.fieldLink RX5 14 "Approvalyard$Requests" "people" "LApprovalyard$Row;", Cond.fieldLink RX5 20 "Approvalyard$Requests" "parts" "LApprovalyard$Row;", Cond.fieldLink RX5 23 "Approvalyard$Requests" "leasts" "LApprovalyard$Row;", Cond.methodLink RX2 66 yX3_costOf, Cond.instanceMethod yX3_costOf, Cond.selects RX3 yX3_costOf yX3_costOf, Cond.code yX3_costOf cX3_costOf 5 (some .int), Cond.methodLink RX3 57 yX1_versionOf, Cond.methodLink RX2 70 yX5_settle, Cond.instanceMethod yX5_settle, Cond.selects RX5 yX5_settle yX5_settle, Cond.code yX5_settle cX5_settle 4 (some .int), Cond.methodLink RX2 73 yX4_changeLimit, Cond.instanceMethod yX4_changeLimit, Cond.selects RX4 yX4_changeLimit yX4_changeLimit, Cond.code yX4_changeLimit cX4_changeLimit 4 (some .int), Cond.fieldLink RX4 14 "Approvalyard$People" "limits" "LApprovalyard$Row;", Cond.methodLink RX4 33 yX6_at, Cond.methodLink RX4 37 yX6_put]
def wsX8_request_r7 : List Cond := [Cond.methodLink RX2 76 yX4_sendOnLeave, Cond.instanceMethod yX4_sendOnLeave, Cond.selects RX4 yX4_sendOnLeave yX4_sendOnLeave, Cond.code yX4_sendOnLeave cX4_sendOnLeave 4 (some .int), Cond.fieldLink RX4 20 "Approvalyard$People" "delegates" "LApprovalyard$Row;", Cond.fieldLink RX4 23 "Approvalyard$People" "backs" "LApprovalyard$Row;", Cond.methodLink RX2 79 yX2_takeApproval, Cond.instanceMethod yX2_takeApproval, Cond.selects RX2 yX2_takeApproval yX2_takeApproval, Cond.code yX2_takeApproval cX2_takeApproval 5 (some .int), Cond.constant RX2 107 (2147483647), Cond.methodLink RX2 98 yX5_costOf, Cond.instanceMethod yX5_costOf, Cond.selects RX5 yX5_costOf yX5_costOf, Cond.code yX5_costOf cX5_costOf 2 (some .int), Cond.methodLink RX2 99 yX4_principalOf, Cond.instanceMethod yX4_principalOf, Cond.selects RX4 yX4_principalOf yX4_principalOf, Cond.code yX4_principalOf cX4_principalOf 4 (some .int), Cond.methodLink RX4 41 yX4_isAway, Cond.instanceMethod yX4_isAway, Cond.selects RX4 yX4_isAway yX4_isAway, Cond.code yX4_isAway cX4_isAway 2 (some .boolean), Cond.methodLink RX2 108 yX4_backOf]
def wsX8_request_r8 : List Cond := [Cond.instanceMethod yX4_backOf, Cond.selects RX4 yX4_backOf yX4_backOf, Cond.code yX4_backOf cX4_backOf 2 (some .int), Cond.methodLink RX2 111 yX5_addApproval, Cond.instanceMethod yX5_addApproval, Cond.selects RX5 yX5_addApproval yX5_addApproval, Cond.code yX5_addApproval cX5_addApproval 4 none, Cond.methodLink RX2 82 yX5_markReleased, Cond.instanceMethod yX5_markReleased, Cond.selects RX5 yX5_markReleased yX5_markReleased, Cond.code yX5_markReleased cX5_markReleased 2 (some .int), Cond.methodLink RX2 85 yX4_addDays, Cond.instanceMethod yX4_addDays, Cond.selects RX4 yX4_addDays yX4_addDays, Cond.code yX4_addDays cX4_addDays 2 (some .int)]
def wsX8_request : List Cond := .code yX8_request cX8_request 4 (some .int) :: ((wsX8_request_r1 ++ (wsX8_request_r2 ++ (wsX8_request_r3 ++ (wsX8_request_r4 ++ (wsX8_request_r5 ++ (wsX8_request_r6 ++ (wsX8_request_r7 ++ wsX8_request_r8))))))) ++ wsX80 ++ wsX20 ++ wsX50 ++ wsX00 ++ wsX60 ++ wsX30 ++ wsX40 ++ (vx_atS RX8 58 "java/lang/IllegalStateException" ["java/lang/RuntimeException", "java/lang/Exception"]).filter goodWord ++ (vx_atS RX8 182 "java/lang/IndexOutOfBoundsException" ["java/lang/RuntimeException", "java/lang/Exception"]).filter goodWord ++ (vx_atS RX8 41 "java/lang/IllegalArgumentException" ["java/lang/RuntimeException", "java/lang/Exception"]).filter goodWord)
def wsX8_checkRequest : List Cond := .code yX8_checkRequest cX8_checkRequest 2 none :: ([.classLink RX8 178 "java/lang/IndexOutOfBoundsException", .initialized "java/lang/IndexOutOfBoundsException", .fieldLink RX8 19 "Approvalyard" "desk" "LApprovalyard$Desk;", .fieldLink RX8 97 "Approvalyard$Desk" "requests" "LApprovalyard$Requests;", .methodLink RX8 101 yX5_count, .instanceMethod yX5_count, .selects RX5 yX5_count yX5_count, .initialized RX5, .code yX5_count cX5_count 1 (some .int), .fieldLink RX5 38 "Approvalyard$Requests" "number" "I"] ++ wsX80 ++ wsX20 ++ wsX50 ++ (vx_atS RX8 182 "java/lang/IndexOutOfBoundsException" ["java/lang/RuntimeException", "java/lang/Exception"]).filter goodWord)
def wsX8_resolve_r1 : List Cond := [Cond.classLink RX8 54 "java/lang/IllegalStateException", Cond.initialized "java/lang/IllegalStateException", Cond.fieldLink RX8 19 "Approvalyard" "desk" "LApprovalyard$Desk;", Cond.fieldLink RX8 97 "Approvalyard$Desk" "requests" "LApprovalyard$Requests;", Cond.fieldLink RX8 29 "Approvalyard" "search" "LApprovalyard$Search;", Cond.fieldLink RX8 44 "Approvalyard$Desk" "parts" "LApprovalyard$Parts;", Cond.methodLink RX8 109 yX8_checkRequest, Cond.instanceMethod yX8_checkRequest, Cond.selects RX8 yX8_checkRequest yX8_checkRequest, Cond.initialized RX8, Cond.code yX8_checkRequest cX8_checkRequest 2 none, Cond.classLink RX8 178 "java/lang/IndexOutOfBoundsException", Cond.initialized "java/lang/IndexOutOfBoundsException", Cond.methodLink RX8 101 yX5_count, Cond.instanceMethod yX5_count, Cond.selects RX5 yX5_count yX5_count, Cond.initialized RX5, Cond.code yX5_count cX5_count 1 (some .int), Cond.fieldLink RX5 38 "Approvalyard$Requests" "number" "I", Cond.methodLink RX8 112 yX5_stateOf, Cond.instanceMethod yX5_stateOf, Cond.selects RX5 yX5_stateOf yX5_stateOf, Cond.code yX5_stateOf cX5_stateOf 2 (some .int), Cond.fieldLink RX5 26 "Approvalyard$Requests" "states" "LApprovalyard$Row;"]
def wsX8_resolve_r2 : List Cond := [Cond.methodLink RX5 52 yX6_at, Cond.instanceMethod yX6_at, Cond.selects RX6 yX6_at yX6_at, Cond.initialized RX6, Cond.code yX6_at cX6_at 2 (some .int), Cond.fieldLink RX6 7 "Approvalyard$Row" "cells" "[I", Cond.methodLink RX8 117 yX5_partOf, Cond.instanceMethod yX5_partOf, Cond.selects RX5 yX5_partOf yX5_partOf, Cond.code yX5_partOf cX5_partOf 2 (some .int), Cond.fieldLink RX5 20 "Approvalyard$Requests" "parts" "LApprovalyard$Row;", Cond.methodLink RX8 120 yX5_leastOf, Cond.instanceMethod yX5_leastOf, Cond.selects RX5 yX5_leastOf yX5_leastOf, Cond.code yX5_leastOf cX5_leastOf 2 (some .int), Cond.fieldLink RX5 23 "Approvalyard$Requests" "leasts" "LApprovalyard$Row;", Cond.methodLink RX8 123 yX7_find, Cond.instanceMethod yX7_find, Cond.selects RX7 yX7_find yX7_find, Cond.initialized RX7, Cond.code yX7_find cX7_find 5 (some .int), Cond.fieldLink RX7 20 "Approvalyard$Search" "wanted" "LApprovalyard$Row;", Cond.fieldLink RX7 14 "Approvalyard$Search" "order" "LApprovalyard$Row;", Cond.fieldLink RX7 40 "Approvalyard$Search" "number" "I"]
def wsX8_resolve_r3 : List Cond := [Cond.fieldLink RX7 46 "Approvalyard$Search" "choice" "I", Cond.methodLink RX7 23 yX3_current, Cond.instanceMethod yX3_current, Cond.selects RX3 yX3_current yX3_current, Cond.initialized RX3, Cond.code yX3_current cX3_current 4 (some .int), Cond.fieldLink RX3 14 "Approvalyard$Parts" "counts" "LApprovalyard$Row;", Cond.methodLink RX3 38 yX6_at, Cond.methodLink RX3 53 yX3_isReplaced, Cond.instanceMethod yX3_isReplaced, Cond.selects RX3 yX3_isReplaced yX3_isReplaced, Cond.code yX3_isReplaced cX3_isReplaced 3 (some .boolean), Cond.fieldLink RX3 23 "Approvalyard$Parts" "replaced" "LApprovalyard$Row;", Cond.methodLink RX3 42 yX3_placeOf, Cond.static yX3_placeOf, Cond.code yX3_placeOf cX3_placeOf 2 (some .int), Cond.methodLink RX3 50 yX3_versionSet, Cond.static yX3_versionSet, Cond.code yX3_versionSet cX3_versionSet 2 (some .int), Cond.methodLink RX7 29 yX6_put, Cond.instanceMethod yX6_put, Cond.selects RX6 yX6_put yX6_put, Cond.code yX6_put cX6_put 3 none, Cond.methodLink RX7 33 yX6_at]
def wsX8_resolve_r4 : List Cond := [Cond.methodLink RX7 36 yX3_versionSet, Cond.methodLink RX7 49 yX7_fill, Cond.instanceMethod yX7_fill, Cond.selects RX7 yX7_fill yX7_fill, Cond.code yX7_fill cX7_fill 8 (some .boolean), Cond.methodLink RX7 53 yX7_take, Cond.instanceMethod yX7_take, Cond.selects RX7 yX7_take yX7_take, Cond.code yX7_take cX7_take 10 (some .boolean), Cond.methodLink RX7 61 yX3_needsOf, Cond.instanceMethod yX3_needsOf, Cond.selects RX3 yX3_needsOf yX3_needsOf, Cond.code yX3_needsOf cX3_needsOf 3 (some .int), Cond.fieldLink RX3 26 "Approvalyard$Parts" "needCounts" "LApprovalyard$Row;", Cond.methodLink RX7 64 yX3_neededPart, Cond.instanceMethod yX3_neededPart, Cond.selects RX3 yX3_neededPart yX3_neededPart, Cond.code yX3_neededPart cX3_neededPart 4 (some .int), Cond.fieldLink RX3 29 "Approvalyard$Parts" "needParts" "LApprovalyard$Row;", Cond.methodLink RX7 67 yX3_neededVersions, Cond.instanceMethod yX3_neededVersions, Cond.selects RX3 yX3_neededVersions yX3_neededVersions, Cond.code yX3_neededVersions cX3_neededVersions 4 (some .int), Cond.fieldLink RX3 32 "Approvalyard$Parts" "needVersions" "LApprovalyard$Row;"]
def wsX8_resolve_r5 : List Cond := [Cond.methodLink RX7 70 yX7_await, Cond.instanceMethod yX7_await, Cond.selects RX7 yX7_await yX7_await, Cond.code yX7_await cX7_await 3 none, Cond.methodLink RX7 57 yX1_with, Cond.static yX1_with, Cond.initialized RX1, Cond.code yX1_with cX1_with 3 (some .int), Cond.methodLink RX8 59 yX8_tell, Cond.instanceMethod yX8_tell, Cond.selects RX8 yX8_tell yX8_tell, Cond.code yX8_tell cX8_tell 5 (some .int), Cond.fieldLink RX8 10 "Approvalyard" "book" "LApprovalyard$Book;", Cond.methodLink RX8 80 yX0_write, Cond.instanceMethod yX0_write, Cond.selects RX0 yX0_write yX0_write, Cond.initialized RX0, Cond.code yX0_write cX0_write 8 (some .int), Cond.fieldLink RX0 20 "Approvalyard$Book" "number" "I", Cond.fieldLink RX0 16 "Approvalyard$Book" "words" "LApprovalyard$Row;", Cond.methodLink RX0 24 yX6_put, Cond.methodLink RX8 84 yX2_apply, Cond.instanceMethod yX2_apply, Cond.selects RX2 yX2_apply yX2_apply]
def wsX8_resolve_r6 : List Cond := [Cond.initialized RX2, Cond.code yX2_apply cX2_apply 6 (some .int), Cond.fieldLink RX2 12 "Approvalyard$Desk" "parts" "LApprovalyard$Parts;", Cond.fieldLink RX2 28 "Approvalyard$Desk" "requests" "LApprovalyard$Requests;", Cond.fieldLink RX2 21 "Approvalyard$Desk" "people" "LApprovalyard$People;", Cond.methodLink RX2 38 yX0_wordOf, Cond.instanceMethod yX0_wordOf, Cond.selects RX0 yX0_wordOf yX0_wordOf, Cond.code yX0_wordOf cX0_wordOf 3 (some .int), Cond.methodLink RX0 28 yX6_at, Cond.methodLink RX2 44 yX3_addVersion, Cond.instanceMethod yX3_addVersion, Cond.selects RX3 yX3_addVersion yX3_addVersion, Cond.code yX3_addVersion cX3_addVersion 5 (some .int), Cond.fieldLink RX3 20 "Approvalyard$Parts" "costs" "LApprovalyard$Row;", Cond.methodLink RX3 46 yX6_put, Cond.methodLink RX2 47 yX3_addNeed, Cond.instanceMethod yX3_addNeed, Cond.selects RX3 yX3_addNeed yX3_addNeed, Cond.code yX3_addNeed cX3_addNeed 8 (some .int), Cond.methodLink RX2 51 yX3_markReplaced, Cond.instanceMethod yX3_markReplaced, Cond.selects RX3 yX3_markReplaced yX3_markReplaced, Cond.code yX3_markReplaced cX3_markReplaced 3 none]
def wsX8_resolve_r7 : List Cond := [Cond.methodLink RX2 55 yX4_today, Cond.instanceMethod yX4_today, Cond.selects RX4 yX4_today yX4_today, Cond.initialized RX4, Cond.code yX4_today cX4_today 1 (some .int), Cond.fieldLink RX4 29 "Approvalyard$People" "day" "I", Cond.methodLink RX2 59 yX5_loseVersion, Cond.instanceMethod yX5_loseVersion, Cond.selects RX5 yX5_loseVersion yX5_loseVersion, Cond.code yX5_loseVersion cX5_loseVersion 6 (some .int), Cond.fieldLink RX5 29 "Approvalyard$Requests" "choices" "LApprovalyard$Row;", Cond.methodLink RX5 60 yX1_versionOf, Cond.static yX1_versionOf, Cond.code yX1_versionOf cX1_versionOf 2 (some .int), Cond.methodLink RX5 66 yX5_approvalsOf, Cond.instanceMethod yX5_approvalsOf, Cond.selects RX5 yX5_approvalsOf yX5_approvalsOf, Cond.code yX5_approvalsOf cX5_approvalsOf 5 (some .int), Cond.methodLink RX5 56 yX5_hasApproval, Cond.instanceMethod yX5_hasApproval, Cond.selects RX5 yX5_hasApproval yX5_hasApproval, Cond.code yX5_hasApproval cX5_hasApproval 4 (some .boolean), Cond.fieldLink RX5 35 "Approvalyard$Requests" "ends" "LApprovalyard$Row;", Cond.methodLink RX5 49 yX5_endApprovals]
def wsX8_resolve_r8 : List Cond := [Cond.instanceMethod yX5_endApprovals, Cond.selects RX5 yX5_endApprovals yX5_endApprovals, Cond.code yX5_endApprovals cX5_endApprovals 3 none, Cond.methodLink RX5 42 yX6_put, Cond.methodLink RX5 46 yX5_reopen, Cond.instanceMethod yX5_reopen, Cond.selects RX5 yX5_reopen yX5_reopen, Cond.code yX5_reopen cX5_reopen 2 none, Cond.fieldLink RX5 32 "Approvalyard$Requests" "costs" "LApprovalyard$Row;", Cond.methodLink RX2 63 yX5_add, Cond.instanceMethod yX5_add, Cond.selects RX5 yX5_add yX5_add, Cond.code yX5_add cX5_add 5 (some .int), Cond.fieldLink RX5 14 "Approvalyard$Requests" "people" "LApprovalyard$Row;", Cond.methodLink RX2 66 yX3_costOf, Cond.instanceMethod yX3_costOf, Cond.selects RX3 yX3_costOf yX3_costOf, Cond.code yX3_costOf cX3_costOf 5 (some .int), Cond.methodLink RX3 57 yX1_versionOf, Cond.methodLink RX2 70 yX5_settle, Cond.instanceMethod yX5_settle, Cond.selects RX5 yX5_settle yX5_settle, Cond.code yX5_settle cX5_settle 4 (some .int), Cond.methodLink RX2 73 yX4_changeLimit]
def wsX8_resolve_r9 : List Cond := [Cond.instanceMethod yX4_changeLimit, Cond.selects RX4 yX4_changeLimit yX4_changeLimit, Cond.code yX4_changeLimit cX4_changeLimit 4 (some .int), Cond.fieldLink RX4 14 "Approvalyard$People" "limits" "LApprovalyard$Row;", Cond.methodLink RX4 33 yX6_at, Cond.methodLink RX4 37 yX6_put, Cond.methodLink RX2 76 yX4_sendOnLeave, Cond.instanceMethod yX4_sendOnLeave, Cond.selects RX4 yX4_sendOnLeave yX4_sendOnLeave, Cond.code yX4_sendOnLeave cX4_sendOnLeave 4 (some .int), Cond.fieldLink RX4 20 "Approvalyard$People" "delegates" "LApprovalyard$Row;", Cond.fieldLink RX4 23 "Approvalyard$People" "backs" "LApprovalyard$Row;", Cond.methodLink RX2 79 yX2_takeApproval, Cond.instanceMethod yX2_takeApproval, Cond.selects RX2 yX2_takeApproval yX2_takeApproval, Cond.code yX2_takeApproval cX2_takeApproval 5 (some .int), Cond.constant RX2 107 (2147483647), Cond.methodLink RX2 98 yX5_costOf, Cond.instanceMethod yX5_costOf, Cond.selects RX5 yX5_costOf yX5_costOf, Cond.code yX5_costOf cX5_costOf 2 (some .int), Cond.methodLink RX2 99 yX4_principalOf, Cond.instanceMethod yX4_principalOf, Cond.selects RX4 yX4_principalOf yX4_principalOf]
def wsX8_resolve_r10 : List Cond := [Cond.code yX4_principalOf cX4_principalOf 4 (some .int), Cond.methodLink RX4 41 yX4_isAway, Cond.instanceMethod yX4_isAway, Cond.selects RX4 yX4_isAway yX4_isAway, Cond.code yX4_isAway cX4_isAway 2 (some .boolean), Cond.methodLink RX2 108 yX4_backOf, Cond.instanceMethod yX4_backOf, Cond.selects RX4 yX4_backOf yX4_backOf, Cond.code yX4_backOf cX4_backOf 2 (some .int), Cond.methodLink RX2 111 yX5_addApproval, Cond.instanceMethod yX5_addApproval, Cond.selects RX5 yX5_addApproval yX5_addApproval, Cond.code yX5_addApproval cX5_addApproval 4 none, Cond.methodLink RX2 82 yX5_markReleased, Cond.instanceMethod yX5_markReleased, Cond.selects RX5 yX5_markReleased yX5_markReleased, Cond.code yX5_markReleased cX5_markReleased 2 (some .int), Cond.methodLink RX2 85 yX4_addDays, Cond.instanceMethod yX4_addDays, Cond.selects RX4 yX4_addDays yX4_addDays, Cond.code yX4_addDays cX4_addDays 2 (some .int)]
def wsX8_resolve : List Cond := .code yX8_resolve cX8_resolve 3 (some .int) :: ((wsX8_resolve_r1 ++ (wsX8_resolve_r2 ++ (wsX8_resolve_r3 ++ (wsX8_resolve_r4 ++ (wsX8_resolve_r5 ++ (wsX8_resolve_r6 ++ (wsX8_resolve_r7 ++ (wsX8_resolve_r8 ++ (wsX8_resolve_r9 ++ wsX8_resolve_r10))))))))) ++ wsX80 ++ wsX20 ++ wsX50 ++ wsX60 ++ wsX70 ++ wsX30 ++ wsX00 ++ wsX40 ++ (vx_atS RX8 58 "java/lang/IllegalStateException" ["java/lang/RuntimeException", "java/lang/Exception"]).filter goodWord ++ (vx_atS RX8 182 "java/lang/IndexOutOfBoundsException" ["java/lang/RuntimeException", "java/lang/Exception"]).filter goodWord)
def wsX8_chosen_r1 : List Cond := [Cond.fieldLink RX8 19 "Approvalyard" "desk" "LApprovalyard$Desk;", Cond.fieldLink RX8 97 "Approvalyard$Desk" "requests" "LApprovalyard$Requests;", Cond.methodLink RX8 109 yX8_checkRequest, Cond.instanceMethod yX8_checkRequest, Cond.selects RX8 yX8_checkRequest yX8_checkRequest, Cond.initialized RX8, Cond.code yX8_checkRequest cX8_checkRequest 2 none, Cond.classLink RX8 178 "java/lang/IndexOutOfBoundsException", Cond.initialized "java/lang/IndexOutOfBoundsException", Cond.methodLink RX8 101 yX5_count, Cond.instanceMethod yX5_count, Cond.selects RX5 yX5_count yX5_count, Cond.initialized RX5, Cond.code yX5_count cX5_count 1 (some .int), Cond.fieldLink RX5 38 "Approvalyard$Requests" "number" "I", Cond.methodLink RX8 33 yX8_checkPart, Cond.static yX8_checkPart, Cond.code yX8_checkPart cX8_checkPart 1 none, Cond.methodLink RX8 127 yX5_choiceOf, Cond.instanceMethod yX5_choiceOf, Cond.selects RX5 yX5_choiceOf yX5_choiceOf, Cond.code yX5_choiceOf cX5_choiceOf 2 (some .int), Cond.fieldLink RX5 29 "Approvalyard$Requests" "choices" "LApprovalyard$Row;", Cond.methodLink RX5 52 yX6_at]
def wsX8_chosen_r2 : List Cond := [Cond.instanceMethod yX6_at, Cond.selects RX6 yX6_at yX6_at, Cond.initialized RX6, Cond.code yX6_at cX6_at 2 (some .int), Cond.fieldLink RX6 7 "Approvalyard$Row" "cells" "[I", Cond.methodLink RX8 130 yX1_versionOf, Cond.static yX1_versionOf, Cond.initialized RX1, Cond.code yX1_versionOf cX1_versionOf 2 (some .int)]
def wsX8_chosen : List Cond := .code yX8_chosen cX8_chosen 4 (some .int) :: ((wsX8_chosen_r1 ++ wsX8_chosen_r2) ++ wsX80 ++ wsX20 ++ wsX50 ++ wsX60 ++ (vx_atS RX8 182 "java/lang/IndexOutOfBoundsException" ["java/lang/RuntimeException", "java/lang/Exception"]).filter goodWord)
def wsX8_limit_r1 : List Cond := [Cond.classLink RX8 37 "java/lang/IllegalArgumentException", Cond.initialized "java/lang/IllegalArgumentException", Cond.methodLink RX8 94 yX8_checkPerson, Cond.static yX8_checkPerson, Cond.initialized RX8, Cond.code yX8_checkPerson cX8_checkPerson 1 none, Cond.classLink RX8 178 "java/lang/IndexOutOfBoundsException", Cond.initialized "java/lang/IndexOutOfBoundsException", Cond.methodLink RX8 59 yX8_tell, Cond.instanceMethod yX8_tell, Cond.selects RX8 yX8_tell yX8_tell, Cond.code yX8_tell cX8_tell 5 (some .int), Cond.fieldLink RX8 19 "Approvalyard" "desk" "LApprovalyard$Desk;", Cond.fieldLink RX8 10 "Approvalyard" "book" "LApprovalyard$Book;", Cond.methodLink RX8 80 yX0_write, Cond.instanceMethod yX0_write, Cond.selects RX0 yX0_write yX0_write, Cond.initialized RX0, Cond.code yX0_write cX0_write 8 (some .int), Cond.fieldLink RX0 20 "Approvalyard$Book" "number" "I", Cond.fieldLink RX0 16 "Approvalyard$Book" "words" "LApprovalyard$Row;", Cond.methodLink RX0 24 yX6_put, Cond.instanceMethod yX6_put, Cond.selects RX6 yX6_put yX6_put]
def wsX8_limit_r2 : List Cond := [Cond.initialized RX6, Cond.code yX6_put cX6_put 3 none, Cond.fieldLink RX6 7 "Approvalyard$Row" "cells" "[I", Cond.methodLink RX8 84 yX2_apply, Cond.instanceMethod yX2_apply, Cond.selects RX2 yX2_apply yX2_apply, Cond.initialized RX2, Cond.code yX2_apply cX2_apply 6 (some .int), Cond.fieldLink RX2 12 "Approvalyard$Desk" "parts" "LApprovalyard$Parts;", Cond.fieldLink RX2 28 "Approvalyard$Desk" "requests" "LApprovalyard$Requests;", Cond.fieldLink RX2 21 "Approvalyard$Desk" "people" "LApprovalyard$People;", Cond.methodLink RX2 38 yX0_wordOf, Cond.instanceMethod yX0_wordOf, Cond.selects RX0 yX0_wordOf yX0_wordOf, Cond.code yX0_wordOf cX0_wordOf 3 (some .int), Cond.methodLink RX0 28 yX6_at, Cond.instanceMethod yX6_at, Cond.selects RX6 yX6_at yX6_at, Cond.code yX6_at cX6_at 2 (some .int), Cond.methodLink RX2 44 yX3_addVersion, Cond.instanceMethod yX3_addVersion, Cond.selects RX3 yX3_addVersion yX3_addVersion, Cond.initialized RX3, Cond.code yX3_addVersion cX3_addVersion 5 (some .int)]
def wsX8_limit_r3 : List Cond := [Cond.fieldLink RX3 14 "Approvalyard$Parts" "counts" "LApprovalyard$Row;", Cond.fieldLink RX3 20 "Approvalyard$Parts" "costs" "LApprovalyard$Row;", Cond.fieldLink RX3 23 "Approvalyard$Parts" "replaced" "LApprovalyard$Row;", Cond.fieldLink RX3 26 "Approvalyard$Parts" "needCounts" "LApprovalyard$Row;", Cond.methodLink RX3 38 yX6_at, Cond.methodLink RX3 42 yX3_placeOf, Cond.static yX3_placeOf, Cond.code yX3_placeOf cX3_placeOf 2 (some .int), Cond.methodLink RX3 46 yX6_put, Cond.methodLink RX2 47 yX3_addNeed, Cond.instanceMethod yX3_addNeed, Cond.selects RX3 yX3_addNeed yX3_addNeed, Cond.code yX3_addNeed cX3_addNeed 8 (some .int), Cond.fieldLink RX3 29 "Approvalyard$Parts" "needParts" "LApprovalyard$Row;", Cond.fieldLink RX3 32 "Approvalyard$Parts" "needVersions" "LApprovalyard$Row;", Cond.methodLink RX3 50 yX3_versionSet, Cond.static yX3_versionSet, Cond.code yX3_versionSet cX3_versionSet 2 (some .int), Cond.methodLink RX2 51 yX3_markReplaced, Cond.instanceMethod yX3_markReplaced, Cond.selects RX3 yX3_markReplaced yX3_markReplaced, Cond.code yX3_markReplaced cX3_markReplaced 3 none, Cond.methodLink RX2 55 yX4_today, Cond.instanceMethod yX4_today]
def wsX8_limit_r4 : List Cond := [Cond.selects RX4 yX4_today yX4_today, Cond.initialized RX4, Cond.code yX4_today cX4_today 1 (some .int), Cond.fieldLink RX4 29 "Approvalyard$People" "day" "I", Cond.methodLink RX2 59 yX5_loseVersion, Cond.instanceMethod yX5_loseVersion, Cond.selects RX5 yX5_loseVersion yX5_loseVersion, Cond.initialized RX5, Cond.code yX5_loseVersion cX5_loseVersion 6 (some .int), Cond.fieldLink RX5 38 "Approvalyard$Requests" "number" "I", Cond.fieldLink RX5 29 "Approvalyard$Requests" "choices" "LApprovalyard$Row;", Cond.fieldLink RX5 26 "Approvalyard$Requests" "states" "LApprovalyard$Row;", Cond.methodLink RX5 52 yX6_at, Cond.methodLink RX5 60 yX1_versionOf, Cond.static yX1_versionOf, Cond.initialized RX1, Cond.code yX1_versionOf cX1_versionOf 2 (some .int), Cond.methodLink RX5 66 yX5_approvalsOf, Cond.instanceMethod yX5_approvalsOf, Cond.selects RX5 yX5_approvalsOf yX5_approvalsOf, Cond.code yX5_approvalsOf cX5_approvalsOf 5 (some .int), Cond.methodLink RX5 56 yX5_hasApproval, Cond.instanceMethod yX5_hasApproval, Cond.selects RX5 yX5_hasApproval yX5_hasApproval]
def wsX8_limit_r5 : List Cond := [Cond.code yX5_hasApproval cX5_hasApproval 4 (some .boolean), Cond.fieldLink RX5 35 "Approvalyard$Requests" "ends" "LApprovalyard$Row;", Cond.methodLink RX5 49 yX5_endApprovals, Cond.instanceMethod yX5_endApprovals, Cond.selects RX5 yX5_endApprovals yX5_endApprovals, Cond.code yX5_endApprovals cX5_endApprovals 3 none, Cond.methodLink RX5 42 yX6_put, Cond.methodLink RX5 46 yX5_reopen, Cond.instanceMethod yX5_reopen, Cond.selects RX5 yX5_reopen yX5_reopen, Cond.code yX5_reopen cX5_reopen 2 none, Cond.fieldLink RX5 32 "Approvalyard$Requests" "costs" "LApprovalyard$Row;", Cond.methodLink RX2 63 yX5_add, Cond.instanceMethod yX5_add, Cond.selects RX5 yX5_add yX5_add, Cond.code yX5_add cX5_add 5 (some .int), Cond.fieldLink RX5 14 "Approvalyard$Requests" "people" "LApprovalyard$Row;", Cond.fieldLink RX5 20 "Approvalyard$Requests" "parts" "LApprovalyard$Row;", Cond.fieldLink RX5 23 "Approvalyard$Requests" "leasts" "LApprovalyard$Row;", Cond.methodLink RX2 66 yX3_costOf, Cond.instanceMethod yX3_costOf, Cond.selects RX3 yX3_costOf yX3_costOf, Cond.code yX3_costOf cX3_costOf 5 (some .int), Cond.methodLink RX3 57 yX1_versionOf]
def wsX8_limit_r6 : List Cond := [Cond.methodLink RX2 70 yX5_settle, Cond.instanceMethod yX5_settle, Cond.selects RX5 yX5_settle yX5_settle, Cond.code yX5_settle cX5_settle 4 (some .int), Cond.methodLink RX2 73 yX4_changeLimit, Cond.instanceMethod yX4_changeLimit, Cond.selects RX4 yX4_changeLimit yX4_changeLimit, Cond.code yX4_changeLimit cX4_changeLimit 4 (some .int), Cond.fieldLink RX4 14 "Approvalyard$People" "limits" "LApprovalyard$Row;", Cond.methodLink RX4 33 yX6_at, Cond.methodLink RX4 37 yX6_put, Cond.methodLink RX2 76 yX4_sendOnLeave, Cond.instanceMethod yX4_sendOnLeave, Cond.selects RX4 yX4_sendOnLeave yX4_sendOnLeave, Cond.code yX4_sendOnLeave cX4_sendOnLeave 4 (some .int), Cond.fieldLink RX4 20 "Approvalyard$People" "delegates" "LApprovalyard$Row;", Cond.fieldLink RX4 23 "Approvalyard$People" "backs" "LApprovalyard$Row;", Cond.methodLink RX2 79 yX2_takeApproval, Cond.instanceMethod yX2_takeApproval, Cond.selects RX2 yX2_takeApproval yX2_takeApproval, Cond.code yX2_takeApproval cX2_takeApproval 5 (some .int), Cond.constant RX2 107 (2147483647), Cond.methodLink RX2 98 yX5_costOf, Cond.instanceMethod yX5_costOf]
def wsX8_limit_r7 : List Cond := [Cond.selects RX5 yX5_costOf yX5_costOf, Cond.code yX5_costOf cX5_costOf 2 (some .int), Cond.methodLink RX2 99 yX4_principalOf, Cond.instanceMethod yX4_principalOf, Cond.selects RX4 yX4_principalOf yX4_principalOf, Cond.code yX4_principalOf cX4_principalOf 4 (some .int), Cond.methodLink RX4 41 yX4_isAway, Cond.instanceMethod yX4_isAway, Cond.selects RX4 yX4_isAway yX4_isAway, Cond.code yX4_isAway cX4_isAway 2 (some .boolean), Cond.methodLink RX2 108 yX4_backOf, Cond.instanceMethod yX4_backOf, Cond.selects RX4 yX4_backOf yX4_backOf, Cond.code yX4_backOf cX4_backOf 2 (some .int), Cond.methodLink RX2 111 yX5_addApproval, Cond.instanceMethod yX5_addApproval, Cond.selects RX5 yX5_addApproval yX5_addApproval, Cond.code yX5_addApproval cX5_addApproval 4 none, Cond.methodLink RX2 82 yX5_markReleased, Cond.instanceMethod yX5_markReleased, Cond.selects RX5 yX5_markReleased yX5_markReleased, Cond.code yX5_markReleased cX5_markReleased 2 (some .int), Cond.methodLink RX2 85 yX4_addDays, Cond.instanceMethod yX4_addDays]
def wsX8_limit_r8 : List Cond := [Cond.selects RX4 yX4_addDays yX4_addDays, Cond.code yX4_addDays cX4_addDays 2 (some .int)]
def wsX8_limit : List Cond := .code yX8_limit cX8_limit 3 (some .int) :: ((wsX8_limit_r1 ++ (wsX8_limit_r2 ++ (wsX8_limit_r3 ++ (wsX8_limit_r4 ++ (wsX8_limit_r5 ++ (wsX8_limit_r6 ++ (wsX8_limit_r7 ++ wsX8_limit_r8))))))) ++ wsX80 ++ wsX00 ++ wsX60 ++ wsX20 ++ wsX30 ++ wsX40 ++ wsX50 ++ (vx_atS RX8 41 "java/lang/IllegalArgumentException" ["java/lang/RuntimeException", "java/lang/Exception"]).filter goodWord ++ (vx_atS RX8 182 "java/lang/IndexOutOfBoundsException" ["java/lang/RuntimeException", "java/lang/Exception"]).filter goodWord)
def wsX8_checkDays : List Cond := .code yX8_checkDays cX8_checkDays 1 none :: ([.classLink RX8 37 "java/lang/IllegalArgumentException", .initialized "java/lang/IllegalArgumentException"] ++ (vx_atS RX8 41 "java/lang/IllegalArgumentException" ["java/lang/RuntimeException", "java/lang/Exception"]).filter goodWord)
def wsX8_leave_r1 : List Cond := [Cond.classLink RX8 37 "java/lang/IllegalArgumentException", Cond.initialized "java/lang/IllegalArgumentException", Cond.methodLink RX8 94 yX8_checkPerson, Cond.static yX8_checkPerson, Cond.initialized RX8, Cond.code yX8_checkPerson cX8_checkPerson 1 none, Cond.classLink RX8 178 "java/lang/IndexOutOfBoundsException", Cond.initialized "java/lang/IndexOutOfBoundsException", Cond.methodLink RX8 139 yX8_checkDays, Cond.static yX8_checkDays, Cond.code yX8_checkDays cX8_checkDays 1 none, Cond.methodLink RX8 59 yX8_tell, Cond.instanceMethod yX8_tell, Cond.selects RX8 yX8_tell yX8_tell, Cond.code yX8_tell cX8_tell 5 (some .int), Cond.fieldLink RX8 19 "Approvalyard" "desk" "LApprovalyard$Desk;", Cond.fieldLink RX8 10 "Approvalyard" "book" "LApprovalyard$Book;", Cond.methodLink RX8 80 yX0_write, Cond.instanceMethod yX0_write, Cond.selects RX0 yX0_write yX0_write, Cond.initialized RX0, Cond.code yX0_write cX0_write 8 (some .int), Cond.fieldLink RX0 20 "Approvalyard$Book" "number" "I", Cond.fieldLink RX0 16 "Approvalyard$Book" "words" "LApprovalyard$Row;"]
def wsX8_leave_r2 : List Cond := [Cond.methodLink RX0 24 yX6_put, Cond.instanceMethod yX6_put, Cond.selects RX6 yX6_put yX6_put, Cond.initialized RX6, Cond.code yX6_put cX6_put 3 none, Cond.fieldLink RX6 7 "Approvalyard$Row" "cells" "[I", Cond.methodLink RX8 84 yX2_apply, Cond.instanceMethod yX2_apply, Cond.selects RX2 yX2_apply yX2_apply, Cond.initialized RX2, Cond.code yX2_apply cX2_apply 6 (some .int), Cond.fieldLink RX2 12 "Approvalyard$Desk" "parts" "LApprovalyard$Parts;", Cond.fieldLink RX2 28 "Approvalyard$Desk" "requests" "LApprovalyard$Requests;", Cond.fieldLink RX2 21 "Approvalyard$Desk" "people" "LApprovalyard$People;", Cond.methodLink RX2 38 yX0_wordOf, Cond.instanceMethod yX0_wordOf, Cond.selects RX0 yX0_wordOf yX0_wordOf, Cond.code yX0_wordOf cX0_wordOf 3 (some .int), Cond.methodLink RX0 28 yX6_at, Cond.instanceMethod yX6_at, Cond.selects RX6 yX6_at yX6_at, Cond.code yX6_at cX6_at 2 (some .int), Cond.methodLink RX2 44 yX3_addVersion, Cond.instanceMethod yX3_addVersion]
def wsX8_leave_r3 : List Cond := [Cond.selects RX3 yX3_addVersion yX3_addVersion, Cond.initialized RX3, Cond.code yX3_addVersion cX3_addVersion 5 (some .int), Cond.fieldLink RX3 14 "Approvalyard$Parts" "counts" "LApprovalyard$Row;", Cond.fieldLink RX3 20 "Approvalyard$Parts" "costs" "LApprovalyard$Row;", Cond.fieldLink RX3 23 "Approvalyard$Parts" "replaced" "LApprovalyard$Row;", Cond.fieldLink RX3 26 "Approvalyard$Parts" "needCounts" "LApprovalyard$Row;", Cond.methodLink RX3 38 yX6_at, Cond.methodLink RX3 42 yX3_placeOf, Cond.static yX3_placeOf, Cond.code yX3_placeOf cX3_placeOf 2 (some .int), Cond.methodLink RX3 46 yX6_put, Cond.methodLink RX2 47 yX3_addNeed, Cond.instanceMethod yX3_addNeed, Cond.selects RX3 yX3_addNeed yX3_addNeed, Cond.code yX3_addNeed cX3_addNeed 8 (some .int), Cond.fieldLink RX3 29 "Approvalyard$Parts" "needParts" "LApprovalyard$Row;", Cond.fieldLink RX3 32 "Approvalyard$Parts" "needVersions" "LApprovalyard$Row;", Cond.methodLink RX3 50 yX3_versionSet, Cond.static yX3_versionSet, Cond.code yX3_versionSet cX3_versionSet 2 (some .int), Cond.methodLink RX2 51 yX3_markReplaced, Cond.instanceMethod yX3_markReplaced, Cond.selects RX3 yX3_markReplaced yX3_markReplaced]
def wsX8_leave_r4 : List Cond := [Cond.code yX3_markReplaced cX3_markReplaced 3 none, Cond.methodLink RX2 55 yX4_today, Cond.instanceMethod yX4_today, Cond.selects RX4 yX4_today yX4_today, Cond.initialized RX4, Cond.code yX4_today cX4_today 1 (some .int), Cond.fieldLink RX4 29 "Approvalyard$People" "day" "I", Cond.methodLink RX2 59 yX5_loseVersion, Cond.instanceMethod yX5_loseVersion, Cond.selects RX5 yX5_loseVersion yX5_loseVersion, Cond.initialized RX5, Cond.code yX5_loseVersion cX5_loseVersion 6 (some .int), Cond.fieldLink RX5 38 "Approvalyard$Requests" "number" "I", Cond.fieldLink RX5 29 "Approvalyard$Requests" "choices" "LApprovalyard$Row;", Cond.fieldLink RX5 26 "Approvalyard$Requests" "states" "LApprovalyard$Row;", Cond.methodLink RX5 52 yX6_at, Cond.methodLink RX5 60 yX1_versionOf, Cond.static yX1_versionOf, Cond.initialized RX1, Cond.code yX1_versionOf cX1_versionOf 2 (some .int), Cond.methodLink RX5 66 yX5_approvalsOf, Cond.instanceMethod yX5_approvalsOf, Cond.selects RX5 yX5_approvalsOf yX5_approvalsOf, Cond.code yX5_approvalsOf cX5_approvalsOf 5 (some .int)]
def wsX8_leave_r5 : List Cond := [Cond.methodLink RX5 56 yX5_hasApproval, Cond.instanceMethod yX5_hasApproval, Cond.selects RX5 yX5_hasApproval yX5_hasApproval, Cond.code yX5_hasApproval cX5_hasApproval 4 (some .boolean), Cond.fieldLink RX5 35 "Approvalyard$Requests" "ends" "LApprovalyard$Row;", Cond.methodLink RX5 49 yX5_endApprovals, Cond.instanceMethod yX5_endApprovals, Cond.selects RX5 yX5_endApprovals yX5_endApprovals, Cond.code yX5_endApprovals cX5_endApprovals 3 none, Cond.methodLink RX5 42 yX6_put, Cond.methodLink RX5 46 yX5_reopen, Cond.instanceMethod yX5_reopen, Cond.selects RX5 yX5_reopen yX5_reopen, Cond.code yX5_reopen cX5_reopen 2 none, Cond.fieldLink RX5 32 "Approvalyard$Requests" "costs" "LApprovalyard$Row;", Cond.methodLink RX2 63 yX5_add, Cond.instanceMethod yX5_add, Cond.selects RX5 yX5_add yX5_add, Cond.code yX5_add cX5_add 5 (some .int), Cond.fieldLink RX5 14 "Approvalyard$Requests" "people" "LApprovalyard$Row;", Cond.fieldLink RX5 20 "Approvalyard$Requests" "parts" "LApprovalyard$Row;", Cond.fieldLink RX5 23 "Approvalyard$Requests" "leasts" "LApprovalyard$Row;", Cond.methodLink RX2 66 yX3_costOf, Cond.instanceMethod yX3_costOf]
def wsX8_leave_r6 : List Cond := [Cond.selects RX3 yX3_costOf yX3_costOf, Cond.code yX3_costOf cX3_costOf 5 (some .int), Cond.methodLink RX3 57 yX1_versionOf, Cond.methodLink RX2 70 yX5_settle, Cond.instanceMethod yX5_settle, Cond.selects RX5 yX5_settle yX5_settle, Cond.code yX5_settle cX5_settle 4 (some .int), Cond.methodLink RX2 73 yX4_changeLimit, Cond.instanceMethod yX4_changeLimit, Cond.selects RX4 yX4_changeLimit yX4_changeLimit, Cond.code yX4_changeLimit cX4_changeLimit 4 (some .int), Cond.fieldLink RX4 14 "Approvalyard$People" "limits" "LApprovalyard$Row;", Cond.methodLink RX4 33 yX6_at, Cond.methodLink RX4 37 yX6_put, Cond.methodLink RX2 76 yX4_sendOnLeave, Cond.instanceMethod yX4_sendOnLeave, Cond.selects RX4 yX4_sendOnLeave yX4_sendOnLeave, Cond.code yX4_sendOnLeave cX4_sendOnLeave 4 (some .int), Cond.fieldLink RX4 20 "Approvalyard$People" "delegates" "LApprovalyard$Row;", Cond.fieldLink RX4 23 "Approvalyard$People" "backs" "LApprovalyard$Row;", Cond.methodLink RX2 79 yX2_takeApproval, Cond.instanceMethod yX2_takeApproval, Cond.selects RX2 yX2_takeApproval yX2_takeApproval, Cond.code yX2_takeApproval cX2_takeApproval 5 (some .int)]
def wsX8_leave_r7 : List Cond := [Cond.constant RX2 107 (2147483647), Cond.methodLink RX2 98 yX5_costOf, Cond.instanceMethod yX5_costOf, Cond.selects RX5 yX5_costOf yX5_costOf, Cond.code yX5_costOf cX5_costOf 2 (some .int), Cond.methodLink RX2 99 yX4_principalOf, Cond.instanceMethod yX4_principalOf, Cond.selects RX4 yX4_principalOf yX4_principalOf, Cond.code yX4_principalOf cX4_principalOf 4 (some .int), Cond.methodLink RX4 41 yX4_isAway, Cond.instanceMethod yX4_isAway, Cond.selects RX4 yX4_isAway yX4_isAway, Cond.code yX4_isAway cX4_isAway 2 (some .boolean), Cond.methodLink RX2 108 yX4_backOf, Cond.instanceMethod yX4_backOf, Cond.selects RX4 yX4_backOf yX4_backOf, Cond.code yX4_backOf cX4_backOf 2 (some .int), Cond.methodLink RX2 111 yX5_addApproval, Cond.instanceMethod yX5_addApproval, Cond.selects RX5 yX5_addApproval yX5_addApproval, Cond.code yX5_addApproval cX5_addApproval 4 none, Cond.methodLink RX2 82 yX5_markReleased, Cond.instanceMethod yX5_markReleased, Cond.selects RX5 yX5_markReleased yX5_markReleased]
def wsX8_leave_r8 : List Cond := [Cond.code yX5_markReleased cX5_markReleased 2 (some .int), Cond.methodLink RX2 85 yX4_addDays, Cond.instanceMethod yX4_addDays, Cond.selects RX4 yX4_addDays yX4_addDays, Cond.code yX4_addDays cX4_addDays 2 (some .int)]
def wsX8_leave : List Cond := .code yX8_leave cX8_leave 4 (some .int) :: ((wsX8_leave_r1 ++ (wsX8_leave_r2 ++ (wsX8_leave_r3 ++ (wsX8_leave_r4 ++ (wsX8_leave_r5 ++ (wsX8_leave_r6 ++ (wsX8_leave_r7 ++ wsX8_leave_r8))))))) ++ wsX80 ++ wsX00 ++ wsX60 ++ wsX20 ++ wsX30 ++ wsX40 ++ wsX50 ++ (vx_atS RX8 41 "java/lang/IllegalArgumentException" ["java/lang/RuntimeException", "java/lang/Exception"]).filter goodWord ++ (vx_atS RX8 182 "java/lang/IndexOutOfBoundsException" ["java/lang/RuntimeException", "java/lang/Exception"]).filter goodWord)
def wsX8_approve_r1 : List Cond := [Cond.classLink RX8 54 "java/lang/IllegalStateException", Cond.initialized "java/lang/IllegalStateException", Cond.fieldLink RX8 19 "Approvalyard" "desk" "LApprovalyard$Desk;", Cond.methodLink RX8 109 yX8_checkRequest, Cond.instanceMethod yX8_checkRequest, Cond.selects RX8 yX8_checkRequest yX8_checkRequest, Cond.initialized RX8, Cond.code yX8_checkRequest cX8_checkRequest 2 none, Cond.classLink RX8 178 "java/lang/IndexOutOfBoundsException", Cond.initialized "java/lang/IndexOutOfBoundsException", Cond.fieldLink RX8 97 "Approvalyard$Desk" "requests" "LApprovalyard$Requests;", Cond.methodLink RX8 101 yX5_count, Cond.instanceMethod yX5_count, Cond.selects RX5 yX5_count yX5_count, Cond.initialized RX5, Cond.code yX5_count cX5_count 1 (some .int), Cond.fieldLink RX5 38 "Approvalyard$Requests" "number" "I", Cond.methodLink RX8 94 yX8_checkPerson, Cond.static yX8_checkPerson, Cond.code yX8_checkPerson cX8_checkPerson 1 none, Cond.methodLink RX8 142 yX2_principalFor, Cond.instanceMethod yX2_principalFor, Cond.selects RX2 yX2_principalFor yX2_principalFor, Cond.initialized RX2]
def wsX8_approve_r2 : List Cond := [Cond.code yX2_principalFor cX2_principalFor 4 (some .int), Cond.fieldLink RX2 28 "Approvalyard$Desk" "requests" "LApprovalyard$Requests;", Cond.fieldLink RX2 21 "Approvalyard$Desk" "people" "LApprovalyard$People;", Cond.methodLink RX2 88 yX5_stateOf, Cond.instanceMethod yX5_stateOf, Cond.selects RX5 yX5_stateOf yX5_stateOf, Cond.code yX5_stateOf cX5_stateOf 2 (some .int), Cond.fieldLink RX5 26 "Approvalyard$Requests" "states" "LApprovalyard$Row;", Cond.methodLink RX5 52 yX6_at, Cond.instanceMethod yX6_at, Cond.selects RX6 yX6_at yX6_at, Cond.initialized RX6, Cond.code yX6_at cX6_at 2 (some .int), Cond.fieldLink RX6 7 "Approvalyard$Row" "cells" "[I", Cond.methodLink RX2 91 yX5_personOf, Cond.instanceMethod yX5_personOf, Cond.selects RX5 yX5_personOf yX5_personOf, Cond.code yX5_personOf cX5_personOf 2 (some .int), Cond.fieldLink RX5 14 "Approvalyard$Requests" "people" "LApprovalyard$Row;", Cond.methodLink RX2 55 yX4_today, Cond.instanceMethod yX4_today, Cond.selects RX4 yX4_today yX4_today, Cond.initialized RX4, Cond.code yX4_today cX4_today 1 (some .int)]
def wsX8_approve_r3 : List Cond := [Cond.fieldLink RX4 29 "Approvalyard$People" "day" "I", Cond.methodLink RX2 94 yX5_hasApproval, Cond.instanceMethod yX5_hasApproval, Cond.selects RX5 yX5_hasApproval yX5_hasApproval, Cond.code yX5_hasApproval cX5_hasApproval 4 (some .boolean), Cond.fieldLink RX5 35 "Approvalyard$Requests" "ends" "LApprovalyard$Row;", Cond.methodLink RX2 98 yX5_costOf, Cond.instanceMethod yX5_costOf, Cond.selects RX5 yX5_costOf yX5_costOf, Cond.code yX5_costOf cX5_costOf 2 (some .int), Cond.fieldLink RX5 32 "Approvalyard$Requests" "costs" "LApprovalyard$Row;", Cond.methodLink RX2 99 yX4_principalOf, Cond.instanceMethod yX4_principalOf, Cond.selects RX4 yX4_principalOf yX4_principalOf, Cond.code yX4_principalOf cX4_principalOf 4 (some .int), Cond.fieldLink RX4 14 "Approvalyard$People" "limits" "LApprovalyard$Row;", Cond.fieldLink RX4 20 "Approvalyard$People" "delegates" "LApprovalyard$Row;", Cond.methodLink RX4 41 yX4_isAway, Cond.instanceMethod yX4_isAway, Cond.selects RX4 yX4_isAway yX4_isAway, Cond.code yX4_isAway cX4_isAway 2 (some .boolean), Cond.fieldLink RX4 23 "Approvalyard$People" "backs" "LApprovalyard$Row;", Cond.methodLink RX4 33 yX6_at, Cond.methodLink RX8 59 yX8_tell]
def wsX8_approve_r4 : List Cond := [Cond.instanceMethod yX8_tell, Cond.selects RX8 yX8_tell yX8_tell, Cond.code yX8_tell cX8_tell 5 (some .int), Cond.fieldLink RX8 10 "Approvalyard" "book" "LApprovalyard$Book;", Cond.methodLink RX8 80 yX0_write, Cond.instanceMethod yX0_write, Cond.selects RX0 yX0_write yX0_write, Cond.initialized RX0, Cond.code yX0_write cX0_write 8 (some .int), Cond.fieldLink RX0 20 "Approvalyard$Book" "number" "I", Cond.fieldLink RX0 16 "Approvalyard$Book" "words" "LApprovalyard$Row;", Cond.methodLink RX0 24 yX6_put, Cond.instanceMethod yX6_put, Cond.selects RX6 yX6_put yX6_put, Cond.code yX6_put cX6_put 3 none, Cond.methodLink RX8 84 yX2_apply, Cond.instanceMethod yX2_apply, Cond.selects RX2 yX2_apply yX2_apply, Cond.code yX2_apply cX2_apply 6 (some .int), Cond.fieldLink RX2 12 "Approvalyard$Desk" "parts" "LApprovalyard$Parts;", Cond.methodLink RX2 38 yX0_wordOf, Cond.instanceMethod yX0_wordOf, Cond.selects RX0 yX0_wordOf yX0_wordOf, Cond.code yX0_wordOf cX0_wordOf 3 (some .int)]
def wsX8_approve_r5 : List Cond := [Cond.methodLink RX0 28 yX6_at, Cond.methodLink RX2 44 yX3_addVersion, Cond.instanceMethod yX3_addVersion, Cond.selects RX3 yX3_addVersion yX3_addVersion, Cond.initialized RX3, Cond.code yX3_addVersion cX3_addVersion 5 (some .int), Cond.fieldLink RX3 14 "Approvalyard$Parts" "counts" "LApprovalyard$Row;", Cond.fieldLink RX3 20 "Approvalyard$Parts" "costs" "LApprovalyard$Row;", Cond.fieldLink RX3 23 "Approvalyard$Parts" "replaced" "LApprovalyard$Row;", Cond.fieldLink RX3 26 "Approvalyard$Parts" "needCounts" "LApprovalyard$Row;", Cond.methodLink RX3 38 yX6_at, Cond.methodLink RX3 42 yX3_placeOf, Cond.static yX3_placeOf, Cond.code yX3_placeOf cX3_placeOf 2 (some .int), Cond.methodLink RX3 46 yX6_put, Cond.methodLink RX2 47 yX3_addNeed, Cond.instanceMethod yX3_addNeed, Cond.selects RX3 yX3_addNeed yX3_addNeed, Cond.code yX3_addNeed cX3_addNeed 8 (some .int), Cond.fieldLink RX3 29 "Approvalyard$Parts" "needParts" "LApprovalyard$Row;", Cond.fieldLink RX3 32 "Approvalyard$Parts" "needVersions" "LApprovalyard$Row;", Cond.methodLink RX3 50 yX3_versionSet, Cond.static yX3_versionSet, Cond.code yX3_versionSet cX3_versionSet 2 (some .int)]
def wsX8_approve_r6 : List Cond := [Cond.methodLink RX2 51 yX3_markReplaced, Cond.instanceMethod yX3_markReplaced, Cond.selects RX3 yX3_markReplaced yX3_markReplaced, Cond.code yX3_markReplaced cX3_markReplaced 3 none, Cond.methodLink RX2 59 yX5_loseVersion, Cond.instanceMethod yX5_loseVersion, Cond.selects RX5 yX5_loseVersion yX5_loseVersion, Cond.code yX5_loseVersion cX5_loseVersion 6 (some .int), Cond.fieldLink RX5 29 "Approvalyard$Requests" "choices" "LApprovalyard$Row;", Cond.methodLink RX5 60 yX1_versionOf, Cond.static yX1_versionOf, Cond.initialized RX1, Cond.code yX1_versionOf cX1_versionOf 2 (some .int), Cond.methodLink RX5 66 yX5_approvalsOf, Cond.instanceMethod yX5_approvalsOf, Cond.selects RX5 yX5_approvalsOf yX5_approvalsOf, Cond.code yX5_approvalsOf cX5_approvalsOf 5 (some .int), Cond.methodLink RX5 56 yX5_hasApproval, Cond.methodLink RX5 49 yX5_endApprovals, Cond.instanceMethod yX5_endApprovals, Cond.selects RX5 yX5_endApprovals yX5_endApprovals, Cond.code yX5_endApprovals cX5_endApprovals 3 none, Cond.methodLink RX5 42 yX6_put, Cond.methodLink RX5 46 yX5_reopen]
def wsX8_approve_r7 : List Cond := [Cond.instanceMethod yX5_reopen, Cond.selects RX5 yX5_reopen yX5_reopen, Cond.code yX5_reopen cX5_reopen 2 none, Cond.methodLink RX2 63 yX5_add, Cond.instanceMethod yX5_add, Cond.selects RX5 yX5_add yX5_add, Cond.code yX5_add cX5_add 5 (some .int), Cond.fieldLink RX5 20 "Approvalyard$Requests" "parts" "LApprovalyard$Row;", Cond.fieldLink RX5 23 "Approvalyard$Requests" "leasts" "LApprovalyard$Row;", Cond.methodLink RX2 66 yX3_costOf, Cond.instanceMethod yX3_costOf, Cond.selects RX3 yX3_costOf yX3_costOf, Cond.code yX3_costOf cX3_costOf 5 (some .int), Cond.methodLink RX3 57 yX1_versionOf, Cond.methodLink RX2 70 yX5_settle, Cond.instanceMethod yX5_settle, Cond.selects RX5 yX5_settle yX5_settle, Cond.code yX5_settle cX5_settle 4 (some .int), Cond.methodLink RX2 73 yX4_changeLimit, Cond.instanceMethod yX4_changeLimit, Cond.selects RX4 yX4_changeLimit yX4_changeLimit, Cond.code yX4_changeLimit cX4_changeLimit 4 (some .int), Cond.methodLink RX4 37 yX6_put, Cond.methodLink RX2 76 yX4_sendOnLeave]
def wsX8_approve_r8 : List Cond := [Cond.instanceMethod yX4_sendOnLeave, Cond.selects RX4 yX4_sendOnLeave yX4_sendOnLeave, Cond.code yX4_sendOnLeave cX4_sendOnLeave 4 (some .int), Cond.methodLink RX2 79 yX2_takeApproval, Cond.instanceMethod yX2_takeApproval, Cond.selects RX2 yX2_takeApproval yX2_takeApproval, Cond.code yX2_takeApproval cX2_takeApproval 5 (some .int), Cond.constant RX2 107 (2147483647), Cond.methodLink RX2 108 yX4_backOf, Cond.instanceMethod yX4_backOf, Cond.selects RX4 yX4_backOf yX4_backOf, Cond.code yX4_backOf cX4_backOf 2 (some .int), Cond.methodLink RX2 111 yX5_addApproval, Cond.instanceMethod yX5_addApproval, Cond.selects RX5 yX5_addApproval yX5_addApproval, Cond.code yX5_addApproval cX5_addApproval 4 none, Cond.methodLink RX2 82 yX5_markReleased, Cond.instanceMethod yX5_markReleased, Cond.selects RX5 yX5_markReleased yX5_markReleased, Cond.code yX5_markReleased cX5_markReleased 2 (some .int), Cond.methodLink RX2 85 yX4_addDays, Cond.instanceMethod yX4_addDays, Cond.selects RX4 yX4_addDays yX4_addDays, Cond.code yX4_addDays cX4_addDays 2 (some .int)]
def wsX8_approve : List Cond := .code yX8_approve cX8_approve 3 (some .int) :: ((wsX8_approve_r1 ++ (wsX8_approve_r2 ++ (wsX8_approve_r3 ++ (wsX8_approve_r4 ++ (wsX8_approve_r5 ++ (wsX8_approve_r6 ++ (wsX8_approve_r7 ++ wsX8_approve_r8))))))) ++ wsX80 ++ wsX20 ++ wsX50 ++ wsX60 ++ wsX40 ++ wsX00 ++ wsX30 ++ (vx_atS RX8 58 "java/lang/IllegalStateException" ["java/lang/RuntimeException", "java/lang/Exception"]).filter goodWord ++ (vx_atS RX8 182 "java/lang/IndexOutOfBoundsException" ["java/lang/RuntimeException", "java/lang/Exception"]).filter goodWord)
def wsX8_release_r1 : List Cond := [Cond.classLink RX8 54 "java/lang/IllegalStateException", Cond.initialized "java/lang/IllegalStateException", Cond.fieldLink RX8 19 "Approvalyard" "desk" "LApprovalyard$Desk;", Cond.fieldLink RX8 97 "Approvalyard$Desk" "requests" "LApprovalyard$Requests;", Cond.methodLink RX8 109 yX8_checkRequest, Cond.instanceMethod yX8_checkRequest, Cond.selects RX8 yX8_checkRequest yX8_checkRequest, Cond.initialized RX8, Cond.code yX8_checkRequest cX8_checkRequest 2 none, Cond.classLink RX8 178 "java/lang/IndexOutOfBoundsException", Cond.initialized "java/lang/IndexOutOfBoundsException", Cond.methodLink RX8 101 yX5_count, Cond.instanceMethod yX5_count, Cond.selects RX5 yX5_count yX5_count, Cond.initialized RX5, Cond.code yX5_count cX5_count 1 (some .int), Cond.fieldLink RX5 38 "Approvalyard$Requests" "number" "I", Cond.methodLink RX8 112 yX5_stateOf, Cond.instanceMethod yX5_stateOf, Cond.selects RX5 yX5_stateOf yX5_stateOf, Cond.code yX5_stateOf cX5_stateOf 2 (some .int), Cond.fieldLink RX5 26 "Approvalyard$Requests" "states" "LApprovalyard$Row;", Cond.methodLink RX5 52 yX6_at, Cond.instanceMethod yX6_at]
def wsX8_release_r2 : List Cond := [Cond.selects RX6 yX6_at yX6_at, Cond.initialized RX6, Cond.code yX6_at cX6_at 2 (some .int), Cond.fieldLink RX6 7 "Approvalyard$Row" "cells" "[I", Cond.methodLink RX8 147 yX2_isCovered, Cond.instanceMethod yX2_isCovered, Cond.selects RX2 yX2_isCovered yX2_isCovered, Cond.initialized RX2, Cond.code yX2_isCovered cX2_isCovered 3 (some .boolean), Cond.fieldLink RX2 28 "Approvalyard$Desk" "requests" "LApprovalyard$Requests;", Cond.methodLink RX2 98 yX5_costOf, Cond.instanceMethod yX5_costOf, Cond.selects RX5 yX5_costOf yX5_costOf, Cond.code yX5_costOf cX5_costOf 2 (some .int), Cond.fieldLink RX5 32 "Approvalyard$Requests" "costs" "LApprovalyard$Row;", Cond.methodLink RX2 105 yX2_approvalsOf, Cond.instanceMethod yX2_approvalsOf, Cond.selects RX2 yX2_approvalsOf yX2_approvalsOf, Cond.code yX2_approvalsOf cX2_approvalsOf 2 (some .int), Cond.fieldLink RX2 21 "Approvalyard$Desk" "people" "LApprovalyard$People;", Cond.methodLink RX2 55 yX4_today, Cond.instanceMethod yX4_today, Cond.selects RX4 yX4_today yX4_today, Cond.initialized RX4]
def wsX8_release_r3 : List Cond := [Cond.code yX4_today cX4_today 1 (some .int), Cond.fieldLink RX4 29 "Approvalyard$People" "day" "I", Cond.methodLink RX2 102 yX5_approvalsOf, Cond.instanceMethod yX5_approvalsOf, Cond.selects RX5 yX5_approvalsOf yX5_approvalsOf, Cond.code yX5_approvalsOf cX5_approvalsOf 5 (some .int), Cond.methodLink RX5 56 yX5_hasApproval, Cond.instanceMethod yX5_hasApproval, Cond.selects RX5 yX5_hasApproval yX5_hasApproval, Cond.code yX5_hasApproval cX5_hasApproval 4 (some .boolean), Cond.fieldLink RX5 35 "Approvalyard$Requests" "ends" "LApprovalyard$Row;", Cond.methodLink RX8 59 yX8_tell, Cond.instanceMethod yX8_tell, Cond.selects RX8 yX8_tell yX8_tell, Cond.code yX8_tell cX8_tell 5 (some .int), Cond.fieldLink RX8 10 "Approvalyard" "book" "LApprovalyard$Book;", Cond.methodLink RX8 80 yX0_write, Cond.instanceMethod yX0_write, Cond.selects RX0 yX0_write yX0_write, Cond.initialized RX0, Cond.code yX0_write cX0_write 8 (some .int), Cond.fieldLink RX0 20 "Approvalyard$Book" "number" "I", Cond.fieldLink RX0 16 "Approvalyard$Book" "words" "LApprovalyard$Row;", Cond.methodLink RX0 24 yX6_put]
def wsX8_release_r4 : List Cond := [Cond.instanceMethod yX6_put, Cond.selects RX6 yX6_put yX6_put, Cond.code yX6_put cX6_put 3 none, Cond.methodLink RX8 84 yX2_apply, Cond.instanceMethod yX2_apply, Cond.selects RX2 yX2_apply yX2_apply, Cond.code yX2_apply cX2_apply 6 (some .int), Cond.fieldLink RX2 12 "Approvalyard$Desk" "parts" "LApprovalyard$Parts;", Cond.methodLink RX2 38 yX0_wordOf, Cond.instanceMethod yX0_wordOf, Cond.selects RX0 yX0_wordOf yX0_wordOf, Cond.code yX0_wordOf cX0_wordOf 3 (some .int), Cond.methodLink RX0 28 yX6_at, Cond.methodLink RX2 44 yX3_addVersion, Cond.instanceMethod yX3_addVersion, Cond.selects RX3 yX3_addVersion yX3_addVersion, Cond.initialized RX3, Cond.code yX3_addVersion cX3_addVersion 5 (some .int), Cond.fieldLink RX3 14 "Approvalyard$Parts" "counts" "LApprovalyard$Row;", Cond.fieldLink RX3 20 "Approvalyard$Parts" "costs" "LApprovalyard$Row;", Cond.fieldLink RX3 23 "Approvalyard$Parts" "replaced" "LApprovalyard$Row;", Cond.fieldLink RX3 26 "Approvalyard$Parts" "needCounts" "LApprovalyard$Row;", Cond.methodLink RX3 38 yX6_at, Cond.methodLink RX3 42 yX3_placeOf]
def wsX8_release_r5 : List Cond := [Cond.static yX3_placeOf, Cond.code yX3_placeOf cX3_placeOf 2 (some .int), Cond.methodLink RX3 46 yX6_put, Cond.methodLink RX2 47 yX3_addNeed, Cond.instanceMethod yX3_addNeed, Cond.selects RX3 yX3_addNeed yX3_addNeed, Cond.code yX3_addNeed cX3_addNeed 8 (some .int), Cond.fieldLink RX3 29 "Approvalyard$Parts" "needParts" "LApprovalyard$Row;", Cond.fieldLink RX3 32 "Approvalyard$Parts" "needVersions" "LApprovalyard$Row;", Cond.methodLink RX3 50 yX3_versionSet, Cond.static yX3_versionSet, Cond.code yX3_versionSet cX3_versionSet 2 (some .int), Cond.methodLink RX2 51 yX3_markReplaced, Cond.instanceMethod yX3_markReplaced, Cond.selects RX3 yX3_markReplaced yX3_markReplaced, Cond.code yX3_markReplaced cX3_markReplaced 3 none, Cond.methodLink RX2 59 yX5_loseVersion, Cond.instanceMethod yX5_loseVersion, Cond.selects RX5 yX5_loseVersion yX5_loseVersion, Cond.code yX5_loseVersion cX5_loseVersion 6 (some .int), Cond.fieldLink RX5 29 "Approvalyard$Requests" "choices" "LApprovalyard$Row;", Cond.methodLink RX5 60 yX1_versionOf, Cond.static yX1_versionOf, Cond.initialized RX1]
def wsX8_release_r6 : List Cond := [Cond.code yX1_versionOf cX1_versionOf 2 (some .int), Cond.methodLink RX5 66 yX5_approvalsOf, Cond.methodLink RX5 49 yX5_endApprovals, Cond.instanceMethod yX5_endApprovals, Cond.selects RX5 yX5_endApprovals yX5_endApprovals, Cond.code yX5_endApprovals cX5_endApprovals 3 none, Cond.methodLink RX5 42 yX6_put, Cond.methodLink RX5 46 yX5_reopen, Cond.instanceMethod yX5_reopen, Cond.selects RX5 yX5_reopen yX5_reopen, Cond.code yX5_reopen cX5_reopen 2 none, Cond.methodLink RX2 63 yX5_add, Cond.instanceMethod yX5_add, Cond.selects RX5 yX5_add yX5_add, Cond.code yX5_add cX5_add 5 (some .int), Cond.fieldLink RX5 14 "Approvalyard$Requests" "people" "LApprovalyard$Row;", Cond.fieldLink RX5 20 "Approvalyard$Requests" "parts" "LApprovalyard$Row;", Cond.fieldLink RX5 23 "Approvalyard$Requests" "leasts" "LApprovalyard$Row;", Cond.methodLink RX2 66 yX3_costOf, Cond.instanceMethod yX3_costOf, Cond.selects RX3 yX3_costOf yX3_costOf, Cond.code yX3_costOf cX3_costOf 5 (some .int), Cond.methodLink RX3 57 yX1_versionOf, Cond.methodLink RX2 70 yX5_settle]
def wsX8_release_r7 : List Cond := [Cond.instanceMethod yX5_settle, Cond.selects RX5 yX5_settle yX5_settle, Cond.code yX5_settle cX5_settle 4 (some .int), Cond.methodLink RX2 73 yX4_changeLimit, Cond.instanceMethod yX4_changeLimit, Cond.selects RX4 yX4_changeLimit yX4_changeLimit, Cond.code yX4_changeLimit cX4_changeLimit 4 (some .int), Cond.fieldLink RX4 14 "Approvalyard$People" "limits" "LApprovalyard$Row;", Cond.methodLink RX4 33 yX6_at, Cond.methodLink RX4 37 yX6_put, Cond.methodLink RX2 76 yX4_sendOnLeave, Cond.instanceMethod yX4_sendOnLeave, Cond.selects RX4 yX4_sendOnLeave yX4_sendOnLeave, Cond.code yX4_sendOnLeave cX4_sendOnLeave 4 (some .int), Cond.fieldLink RX4 20 "Approvalyard$People" "delegates" "LApprovalyard$Row;", Cond.fieldLink RX4 23 "Approvalyard$People" "backs" "LApprovalyard$Row;", Cond.methodLink RX2 79 yX2_takeApproval, Cond.instanceMethod yX2_takeApproval, Cond.selects RX2 yX2_takeApproval yX2_takeApproval, Cond.code yX2_takeApproval cX2_takeApproval 5 (some .int), Cond.constant RX2 107 (2147483647), Cond.methodLink RX2 99 yX4_principalOf, Cond.instanceMethod yX4_principalOf, Cond.selects RX4 yX4_principalOf yX4_principalOf]
def wsX8_release_r8 : List Cond := [Cond.code yX4_principalOf cX4_principalOf 4 (some .int), Cond.methodLink RX4 41 yX4_isAway, Cond.instanceMethod yX4_isAway, Cond.selects RX4 yX4_isAway yX4_isAway, Cond.code yX4_isAway cX4_isAway 2 (some .boolean), Cond.methodLink RX2 108 yX4_backOf, Cond.instanceMethod yX4_backOf, Cond.selects RX4 yX4_backOf yX4_backOf, Cond.code yX4_backOf cX4_backOf 2 (some .int), Cond.methodLink RX2 111 yX5_addApproval, Cond.instanceMethod yX5_addApproval, Cond.selects RX5 yX5_addApproval yX5_addApproval, Cond.code yX5_addApproval cX5_addApproval 4 none, Cond.methodLink RX2 82 yX5_markReleased, Cond.instanceMethod yX5_markReleased, Cond.selects RX5 yX5_markReleased yX5_markReleased, Cond.code yX5_markReleased cX5_markReleased 2 (some .int), Cond.methodLink RX2 85 yX4_addDays, Cond.instanceMethod yX4_addDays, Cond.selects RX4 yX4_addDays yX4_addDays, Cond.code yX4_addDays cX4_addDays 2 (some .int)]
def wsX8_release : List Cond := .code yX8_release cX8_release 2 none :: ((wsX8_release_r1 ++ (wsX8_release_r2 ++ (wsX8_release_r3 ++ (wsX8_release_r4 ++ (wsX8_release_r5 ++ (wsX8_release_r6 ++ (wsX8_release_r7 ++ wsX8_release_r8))))))) ++ wsX80 ++ wsX20 ++ wsX50 ++ wsX60 ++ wsX40 ++ wsX00 ++ wsX30 ++ (vx_atS RX8 58 "java/lang/IllegalStateException" ["java/lang/RuntimeException", "java/lang/Exception"]).filter goodWord ++ (vx_atS RX8 182 "java/lang/IndexOutOfBoundsException" ["java/lang/RuntimeException", "java/lang/Exception"]).filter goodWord)
def wsX8_pass_r1 : List Cond := [Cond.methodLink RX8 139 yX8_checkDays, Cond.static yX8_checkDays, Cond.initialized RX8, Cond.code yX8_checkDays cX8_checkDays 1 none, Cond.classLink RX8 37 "java/lang/IllegalArgumentException", Cond.initialized "java/lang/IllegalArgumentException", Cond.methodLink RX8 59 yX8_tell, Cond.instanceMethod yX8_tell, Cond.selects RX8 yX8_tell yX8_tell, Cond.code yX8_tell cX8_tell 5 (some .int), Cond.fieldLink RX8 19 "Approvalyard" "desk" "LApprovalyard$Desk;", Cond.fieldLink RX8 10 "Approvalyard" "book" "LApprovalyard$Book;", Cond.methodLink RX8 80 yX0_write, Cond.instanceMethod yX0_write, Cond.selects RX0 yX0_write yX0_write, Cond.initialized RX0, Cond.code yX0_write cX0_write 8 (some .int), Cond.fieldLink RX0 20 "Approvalyard$Book" "number" "I", Cond.fieldLink RX0 16 "Approvalyard$Book" "words" "LApprovalyard$Row;", Cond.methodLink RX0 24 yX6_put, Cond.instanceMethod yX6_put, Cond.selects RX6 yX6_put yX6_put, Cond.initialized RX6, Cond.code yX6_put cX6_put 3 none]
def wsX8_pass_r2 : List Cond := [Cond.fieldLink RX6 7 "Approvalyard$Row" "cells" "[I", Cond.methodLink RX8 84 yX2_apply, Cond.instanceMethod yX2_apply, Cond.selects RX2 yX2_apply yX2_apply, Cond.initialized RX2, Cond.code yX2_apply cX2_apply 6 (some .int), Cond.fieldLink RX2 12 "Approvalyard$Desk" "parts" "LApprovalyard$Parts;", Cond.fieldLink RX2 28 "Approvalyard$Desk" "requests" "LApprovalyard$Requests;", Cond.fieldLink RX2 21 "Approvalyard$Desk" "people" "LApprovalyard$People;", Cond.methodLink RX2 38 yX0_wordOf, Cond.instanceMethod yX0_wordOf, Cond.selects RX0 yX0_wordOf yX0_wordOf, Cond.code yX0_wordOf cX0_wordOf 3 (some .int), Cond.methodLink RX0 28 yX6_at, Cond.instanceMethod yX6_at, Cond.selects RX6 yX6_at yX6_at, Cond.code yX6_at cX6_at 2 (some .int), Cond.methodLink RX2 44 yX3_addVersion, Cond.instanceMethod yX3_addVersion, Cond.selects RX3 yX3_addVersion yX3_addVersion, Cond.initialized RX3, Cond.code yX3_addVersion cX3_addVersion 5 (some .int), Cond.fieldLink RX3 14 "Approvalyard$Parts" "counts" "LApprovalyard$Row;", Cond.fieldLink RX3 20 "Approvalyard$Parts" "costs" "LApprovalyard$Row;"]
def wsX8_pass_r3 : List Cond := [Cond.fieldLink RX3 23 "Approvalyard$Parts" "replaced" "LApprovalyard$Row;", Cond.fieldLink RX3 26 "Approvalyard$Parts" "needCounts" "LApprovalyard$Row;", Cond.methodLink RX3 38 yX6_at, Cond.methodLink RX3 42 yX3_placeOf, Cond.static yX3_placeOf, Cond.code yX3_placeOf cX3_placeOf 2 (some .int), Cond.methodLink RX3 46 yX6_put, Cond.methodLink RX2 47 yX3_addNeed, Cond.instanceMethod yX3_addNeed, Cond.selects RX3 yX3_addNeed yX3_addNeed, Cond.code yX3_addNeed cX3_addNeed 8 (some .int), Cond.fieldLink RX3 29 "Approvalyard$Parts" "needParts" "LApprovalyard$Row;", Cond.fieldLink RX3 32 "Approvalyard$Parts" "needVersions" "LApprovalyard$Row;", Cond.methodLink RX3 50 yX3_versionSet, Cond.static yX3_versionSet, Cond.code yX3_versionSet cX3_versionSet 2 (some .int), Cond.methodLink RX2 51 yX3_markReplaced, Cond.instanceMethod yX3_markReplaced, Cond.selects RX3 yX3_markReplaced yX3_markReplaced, Cond.code yX3_markReplaced cX3_markReplaced 3 none, Cond.methodLink RX2 55 yX4_today, Cond.instanceMethod yX4_today, Cond.selects RX4 yX4_today yX4_today, Cond.initialized RX4]
def wsX8_pass_r4 : List Cond := [Cond.code yX4_today cX4_today 1 (some .int), Cond.fieldLink RX4 29 "Approvalyard$People" "day" "I", Cond.methodLink RX2 59 yX5_loseVersion, Cond.instanceMethod yX5_loseVersion, Cond.selects RX5 yX5_loseVersion yX5_loseVersion, Cond.initialized RX5, Cond.code yX5_loseVersion cX5_loseVersion 6 (some .int), Cond.fieldLink RX5 38 "Approvalyard$Requests" "number" "I", Cond.fieldLink RX5 29 "Approvalyard$Requests" "choices" "LApprovalyard$Row;", Cond.fieldLink RX5 26 "Approvalyard$Requests" "states" "LApprovalyard$Row;", Cond.methodLink RX5 52 yX6_at, Cond.methodLink RX5 60 yX1_versionOf, Cond.static yX1_versionOf, Cond.initialized RX1, Cond.code yX1_versionOf cX1_versionOf 2 (some .int), Cond.methodLink RX5 66 yX5_approvalsOf, Cond.instanceMethod yX5_approvalsOf, Cond.selects RX5 yX5_approvalsOf yX5_approvalsOf, Cond.code yX5_approvalsOf cX5_approvalsOf 5 (some .int), Cond.methodLink RX5 56 yX5_hasApproval, Cond.instanceMethod yX5_hasApproval, Cond.selects RX5 yX5_hasApproval yX5_hasApproval, Cond.code yX5_hasApproval cX5_hasApproval 4 (some .boolean), Cond.fieldLink RX5 35 "Approvalyard$Requests" "ends" "LApprovalyard$Row;"]
def wsX8_pass_r5 : List Cond := [Cond.methodLink RX5 49 yX5_endApprovals, Cond.instanceMethod yX5_endApprovals, Cond.selects RX5 yX5_endApprovals yX5_endApprovals, Cond.code yX5_endApprovals cX5_endApprovals 3 none, Cond.methodLink RX5 42 yX6_put, Cond.methodLink RX5 46 yX5_reopen, Cond.instanceMethod yX5_reopen, Cond.selects RX5 yX5_reopen yX5_reopen, Cond.code yX5_reopen cX5_reopen 2 none, Cond.fieldLink RX5 32 "Approvalyard$Requests" "costs" "LApprovalyard$Row;", Cond.methodLink RX2 63 yX5_add, Cond.instanceMethod yX5_add, Cond.selects RX5 yX5_add yX5_add, Cond.code yX5_add cX5_add 5 (some .int), Cond.fieldLink RX5 14 "Approvalyard$Requests" "people" "LApprovalyard$Row;", Cond.fieldLink RX5 20 "Approvalyard$Requests" "parts" "LApprovalyard$Row;", Cond.fieldLink RX5 23 "Approvalyard$Requests" "leasts" "LApprovalyard$Row;", Cond.methodLink RX2 66 yX3_costOf, Cond.instanceMethod yX3_costOf, Cond.selects RX3 yX3_costOf yX3_costOf, Cond.code yX3_costOf cX3_costOf 5 (some .int), Cond.methodLink RX3 57 yX1_versionOf, Cond.methodLink RX2 70 yX5_settle, Cond.instanceMethod yX5_settle]
def wsX8_pass_r6 : List Cond := [Cond.selects RX5 yX5_settle yX5_settle, Cond.code yX5_settle cX5_settle 4 (some .int), Cond.methodLink RX2 73 yX4_changeLimit, Cond.instanceMethod yX4_changeLimit, Cond.selects RX4 yX4_changeLimit yX4_changeLimit, Cond.code yX4_changeLimit cX4_changeLimit 4 (some .int), Cond.fieldLink RX4 14 "Approvalyard$People" "limits" "LApprovalyard$Row;", Cond.methodLink RX4 33 yX6_at, Cond.methodLink RX4 37 yX6_put, Cond.methodLink RX2 76 yX4_sendOnLeave, Cond.instanceMethod yX4_sendOnLeave, Cond.selects RX4 yX4_sendOnLeave yX4_sendOnLeave, Cond.code yX4_sendOnLeave cX4_sendOnLeave 4 (some .int), Cond.fieldLink RX4 20 "Approvalyard$People" "delegates" "LApprovalyard$Row;", Cond.fieldLink RX4 23 "Approvalyard$People" "backs" "LApprovalyard$Row;", Cond.methodLink RX2 79 yX2_takeApproval, Cond.instanceMethod yX2_takeApproval, Cond.selects RX2 yX2_takeApproval yX2_takeApproval, Cond.code yX2_takeApproval cX2_takeApproval 5 (some .int), Cond.constant RX2 107 (2147483647), Cond.methodLink RX2 98 yX5_costOf, Cond.instanceMethod yX5_costOf, Cond.selects RX5 yX5_costOf yX5_costOf, Cond.code yX5_costOf cX5_costOf 2 (some .int)]
def wsX8_pass_r7 : List Cond := [Cond.methodLink RX2 99 yX4_principalOf, Cond.instanceMethod yX4_principalOf, Cond.selects RX4 yX4_principalOf yX4_principalOf, Cond.code yX4_principalOf cX4_principalOf 4 (some .int), Cond.methodLink RX4 41 yX4_isAway, Cond.instanceMethod yX4_isAway, Cond.selects RX4 yX4_isAway yX4_isAway, Cond.code yX4_isAway cX4_isAway 2 (some .boolean), Cond.methodLink RX2 108 yX4_backOf, Cond.instanceMethod yX4_backOf, Cond.selects RX4 yX4_backOf yX4_backOf, Cond.code yX4_backOf cX4_backOf 2 (some .int), Cond.methodLink RX2 111 yX5_addApproval, Cond.instanceMethod yX5_addApproval, Cond.selects RX5 yX5_addApproval yX5_addApproval, Cond.code yX5_addApproval cX5_addApproval 4 none, Cond.methodLink RX2 82 yX5_markReleased, Cond.instanceMethod yX5_markReleased, Cond.selects RX5 yX5_markReleased yX5_markReleased, Cond.code yX5_markReleased cX5_markReleased 2 (some .int), Cond.methodLink RX2 85 yX4_addDays, Cond.instanceMethod yX4_addDays, Cond.selects RX4 yX4_addDays yX4_addDays, Cond.code yX4_addDays cX4_addDays 2 (some .int)]
def wsX8_pass : List Cond := .code yX8_pass cX8_pass 2 (some .int) :: ((wsX8_pass_r1 ++ (wsX8_pass_r2 ++ (wsX8_pass_r3 ++ (wsX8_pass_r4 ++ (wsX8_pass_r5 ++ (wsX8_pass_r6 ++ wsX8_pass_r7)))))) ++ wsX80 ++ wsX00 ++ wsX60 ++ wsX20 ++ wsX30 ++ wsX40 ++ wsX50 ++ (vx_atS RX8 41 "java/lang/IllegalArgumentException" ["java/lang/RuntimeException", "java/lang/Exception"]).filter goodWord)
def wsX8_ofRequest_r1 : List Cond := [Cond.classLink RX8 37 "java/lang/IllegalArgumentException", Cond.initialized "java/lang/IllegalArgumentException", Cond.fieldLink RX8 19 "Approvalyard" "desk" "LApprovalyard$Desk;", Cond.fieldLink RX8 97 "Approvalyard$Desk" "requests" "LApprovalyard$Requests;", Cond.methodLink RX8 109 yX8_checkRequest, Cond.instanceMethod yX8_checkRequest, Cond.selects RX8 yX8_checkRequest yX8_checkRequest, Cond.initialized RX8, Cond.code yX8_checkRequest cX8_checkRequest 2 none, Cond.classLink RX8 178 "java/lang/IndexOutOfBoundsException", Cond.initialized "java/lang/IndexOutOfBoundsException", Cond.methodLink RX8 101 yX5_count, Cond.instanceMethod yX5_count, Cond.selects RX5 yX5_count yX5_count, Cond.initialized RX5, Cond.code yX5_count cX5_count 1 (some .int), Cond.fieldLink RX5 38 "Approvalyard$Requests" "number" "I", Cond.methodLink RX8 112 yX5_stateOf, Cond.instanceMethod yX5_stateOf, Cond.selects RX5 yX5_stateOf yX5_stateOf, Cond.code yX5_stateOf cX5_stateOf 2 (some .int), Cond.fieldLink RX5 26 "Approvalyard$Requests" "states" "LApprovalyard$Row;", Cond.methodLink RX5 52 yX6_at, Cond.instanceMethod yX6_at]
def wsX8_ofRequest_r2 : List Cond := [Cond.selects RX6 yX6_at yX6_at, Cond.initialized RX6, Cond.code yX6_at cX6_at 2 (some .int), Cond.fieldLink RX6 7 "Approvalyard$Row" "cells" "[I", Cond.methodLink RX8 153 yX5_costOf, Cond.instanceMethod yX5_costOf, Cond.selects RX5 yX5_costOf yX5_costOf, Cond.code yX5_costOf cX5_costOf 2 (some .int), Cond.fieldLink RX5 32 "Approvalyard$Requests" "costs" "LApprovalyard$Row;", Cond.methodLink RX8 156 yX2_approvalsOf, Cond.instanceMethod yX2_approvalsOf, Cond.selects RX2 yX2_approvalsOf yX2_approvalsOf, Cond.initialized RX2, Cond.code yX2_approvalsOf cX2_approvalsOf 2 (some .int), Cond.fieldLink RX2 28 "Approvalyard$Desk" "requests" "LApprovalyard$Requests;", Cond.fieldLink RX2 21 "Approvalyard$Desk" "people" "LApprovalyard$People;", Cond.methodLink RX2 55 yX4_today, Cond.instanceMethod yX4_today, Cond.selects RX4 yX4_today yX4_today, Cond.initialized RX4, Cond.code yX4_today cX4_today 1 (some .int), Cond.fieldLink RX4 29 "Approvalyard$People" "day" "I", Cond.methodLink RX2 102 yX5_approvalsOf, Cond.instanceMethod yX5_approvalsOf]
def wsX8_ofRequest_r3 : List Cond := [Cond.selects RX5 yX5_approvalsOf yX5_approvalsOf, Cond.code yX5_approvalsOf cX5_approvalsOf 5 (some .int), Cond.methodLink RX5 56 yX5_hasApproval, Cond.instanceMethod yX5_hasApproval, Cond.selects RX5 yX5_hasApproval yX5_hasApproval, Cond.code yX5_hasApproval cX5_hasApproval 4 (some .boolean), Cond.fieldLink RX5 35 "Approvalyard$Requests" "ends" "LApprovalyard$Row;", Cond.methodLink RX8 147 yX2_isCovered, Cond.instanceMethod yX2_isCovered, Cond.selects RX2 yX2_isCovered yX2_isCovered, Cond.code yX2_isCovered cX2_isCovered 3 (some .boolean), Cond.methodLink RX2 98 yX5_costOf, Cond.methodLink RX2 105 yX2_approvalsOf]
def wsX8_ofRequest : List Cond := .code yX8_ofRequest cX8_ofRequest 3 (some .int) :: ((wsX8_ofRequest_r1 ++ (wsX8_ofRequest_r2 ++ wsX8_ofRequest_r3)) ++ wsX80 ++ wsX20 ++ wsX50 ++ wsX60 ++ wsX40 ++ (vx_atS RX8 41 "java/lang/IllegalArgumentException" ["java/lang/RuntimeException", "java/lang/Exception"]).filter goodWord ++ (vx_atS RX8 182 "java/lang/IndexOutOfBoundsException" ["java/lang/RuntimeException", "java/lang/Exception"]).filter goodWord)
def wsX8_isCoveredAnew_r1 : List Cond := [Cond.fieldLink RX8 10 "Approvalyard" "book" "LApprovalyard$Book;", Cond.fieldLink RX8 23 "Approvalyard" "deskAnew" "LApprovalyard$Desk;", Cond.methodLink RX8 109 yX8_checkRequest, Cond.instanceMethod yX8_checkRequest, Cond.selects RX8 yX8_checkRequest yX8_checkRequest, Cond.initialized RX8, Cond.code yX8_checkRequest cX8_checkRequest 2 none, Cond.classLink RX8 178 "java/lang/IndexOutOfBoundsException", Cond.initialized "java/lang/IndexOutOfBoundsException", Cond.fieldLink RX8 19 "Approvalyard" "desk" "LApprovalyard$Desk;", Cond.fieldLink RX8 97 "Approvalyard$Desk" "requests" "LApprovalyard$Requests;", Cond.methodLink RX8 101 yX5_count, Cond.instanceMethod yX5_count, Cond.selects RX5 yX5_count yX5_count, Cond.initialized RX5, Cond.code yX5_count cX5_count 1 (some .int), Cond.fieldLink RX5 38 "Approvalyard$Requests" "number" "I", Cond.methodLink RX8 161 yX0_count, Cond.instanceMethod yX0_count, Cond.selects RX0 yX0_count yX0_count, Cond.initialized RX0, Cond.code yX0_count cX0_count 1 (some .int), Cond.fieldLink RX0 20 "Approvalyard$Book" "number" "I", Cond.methodLink RX8 162 yX2_clear]
def wsX8_isCoveredAnew_r2 : List Cond := [Cond.instanceMethod yX2_clear, Cond.selects RX2 yX2_clear yX2_clear, Cond.initialized RX2, Cond.code yX2_clear cX2_clear 1 none, Cond.fieldLink RX2 12 "Approvalyard$Desk" "parts" "LApprovalyard$Parts;", Cond.fieldLink RX2 21 "Approvalyard$Desk" "people" "LApprovalyard$People;", Cond.fieldLink RX2 28 "Approvalyard$Desk" "requests" "LApprovalyard$Requests;", Cond.methodLink RX2 35 yX3_clear, Cond.instanceMethod yX3_clear, Cond.selects RX3 yX3_clear yX3_clear, Cond.initialized RX3, Cond.code yX3_clear cX3_clear 1 none, Cond.fieldLink RX3 14 "Approvalyard$Parts" "counts" "LApprovalyard$Row;", Cond.methodLink RX3 35 yX6_fill, Cond.instanceMethod yX6_fill, Cond.selects RX6 yX6_fill yX6_fill, Cond.initialized RX6, Cond.code yX6_fill cX6_fill 3 none, Cond.fieldLink RX6 7 "Approvalyard$Row" "cells" "[I", Cond.methodLink RX2 36 yX4_clear, Cond.instanceMethod yX4_clear, Cond.selects RX4 yX4_clear yX4_clear, Cond.initialized RX4, Cond.code yX4_clear cX4_clear 1 none]
def wsX8_isCoveredAnew_r3 : List Cond := [Cond.fieldLink RX4 14 "Approvalyard$People" "limits" "LApprovalyard$Row;", Cond.fieldLink RX4 23 "Approvalyard$People" "backs" "LApprovalyard$Row;", Cond.fieldLink RX4 29 "Approvalyard$People" "day" "I", Cond.methodLink RX4 26 yX6_fill, Cond.methodLink RX2 37 yX5_clear, Cond.instanceMethod yX5_clear, Cond.selects RX5 yX5_clear yX5_clear, Cond.code yX5_clear cX5_clear 1 none, Cond.methodLink RX8 84 yX2_apply, Cond.instanceMethod yX2_apply, Cond.selects RX2 yX2_apply yX2_apply, Cond.code yX2_apply cX2_apply 6 (some .int), Cond.methodLink RX2 38 yX0_wordOf, Cond.instanceMethod yX0_wordOf, Cond.selects RX0 yX0_wordOf yX0_wordOf, Cond.code yX0_wordOf cX0_wordOf 3 (some .int), Cond.fieldLink RX0 16 "Approvalyard$Book" "words" "LApprovalyard$Row;", Cond.methodLink RX0 28 yX6_at, Cond.instanceMethod yX6_at, Cond.selects RX6 yX6_at yX6_at, Cond.code yX6_at cX6_at 2 (some .int), Cond.methodLink RX2 44 yX3_addVersion, Cond.instanceMethod yX3_addVersion, Cond.selects RX3 yX3_addVersion yX3_addVersion]
def wsX8_isCoveredAnew_r4 : List Cond := [Cond.code yX3_addVersion cX3_addVersion 5 (some .int), Cond.fieldLink RX3 20 "Approvalyard$Parts" "costs" "LApprovalyard$Row;", Cond.fieldLink RX3 23 "Approvalyard$Parts" "replaced" "LApprovalyard$Row;", Cond.fieldLink RX3 26 "Approvalyard$Parts" "needCounts" "LApprovalyard$Row;", Cond.methodLink RX3 38 yX6_at, Cond.methodLink RX3 42 yX3_placeOf, Cond.static yX3_placeOf, Cond.code yX3_placeOf cX3_placeOf 2 (some .int), Cond.methodLink RX3 46 yX6_put, Cond.instanceMethod yX6_put, Cond.selects RX6 yX6_put yX6_put, Cond.code yX6_put cX6_put 3 none, Cond.methodLink RX2 47 yX3_addNeed, Cond.instanceMethod yX3_addNeed, Cond.selects RX3 yX3_addNeed yX3_addNeed, Cond.code yX3_addNeed cX3_addNeed 8 (some .int), Cond.fieldLink RX3 29 "Approvalyard$Parts" "needParts" "LApprovalyard$Row;", Cond.fieldLink RX3 32 "Approvalyard$Parts" "needVersions" "LApprovalyard$Row;", Cond.methodLink RX3 50 yX3_versionSet, Cond.static yX3_versionSet, Cond.code yX3_versionSet cX3_versionSet 2 (some .int), Cond.methodLink RX2 51 yX3_markReplaced, Cond.instanceMethod yX3_markReplaced, Cond.selects RX3 yX3_markReplaced yX3_markReplaced]
def wsX8_isCoveredAnew_r5 : List Cond := [Cond.code yX3_markReplaced cX3_markReplaced 3 none, Cond.methodLink RX2 55 yX4_today, Cond.instanceMethod yX4_today, Cond.selects RX4 yX4_today yX4_today, Cond.code yX4_today cX4_today 1 (some .int), Cond.methodLink RX2 59 yX5_loseVersion, Cond.instanceMethod yX5_loseVersion, Cond.selects RX5 yX5_loseVersion yX5_loseVersion, Cond.code yX5_loseVersion cX5_loseVersion 6 (some .int), Cond.fieldLink RX5 29 "Approvalyard$Requests" "choices" "LApprovalyard$Row;", Cond.fieldLink RX5 26 "Approvalyard$Requests" "states" "LApprovalyard$Row;", Cond.methodLink RX5 52 yX6_at, Cond.methodLink RX5 60 yX1_versionOf, Cond.static yX1_versionOf, Cond.initialized RX1, Cond.code yX1_versionOf cX1_versionOf 2 (some .int), Cond.methodLink RX5 66 yX5_approvalsOf, Cond.instanceMethod yX5_approvalsOf, Cond.selects RX5 yX5_approvalsOf yX5_approvalsOf, Cond.code yX5_approvalsOf cX5_approvalsOf 5 (some .int), Cond.methodLink RX5 56 yX5_hasApproval, Cond.instanceMethod yX5_hasApproval, Cond.selects RX5 yX5_hasApproval yX5_hasApproval, Cond.code yX5_hasApproval cX5_hasApproval 4 (some .boolean)]
def wsX8_isCoveredAnew_r6 : List Cond := [Cond.fieldLink RX5 35 "Approvalyard$Requests" "ends" "LApprovalyard$Row;", Cond.methodLink RX5 49 yX5_endApprovals, Cond.instanceMethod yX5_endApprovals, Cond.selects RX5 yX5_endApprovals yX5_endApprovals, Cond.code yX5_endApprovals cX5_endApprovals 3 none, Cond.methodLink RX5 42 yX6_put, Cond.methodLink RX5 46 yX5_reopen, Cond.instanceMethod yX5_reopen, Cond.selects RX5 yX5_reopen yX5_reopen, Cond.code yX5_reopen cX5_reopen 2 none, Cond.fieldLink RX5 32 "Approvalyard$Requests" "costs" "LApprovalyard$Row;", Cond.methodLink RX2 63 yX5_add, Cond.instanceMethod yX5_add, Cond.selects RX5 yX5_add yX5_add, Cond.code yX5_add cX5_add 5 (some .int), Cond.fieldLink RX5 14 "Approvalyard$Requests" "people" "LApprovalyard$Row;", Cond.fieldLink RX5 20 "Approvalyard$Requests" "parts" "LApprovalyard$Row;", Cond.fieldLink RX5 23 "Approvalyard$Requests" "leasts" "LApprovalyard$Row;", Cond.methodLink RX2 66 yX3_costOf, Cond.instanceMethod yX3_costOf, Cond.selects RX3 yX3_costOf yX3_costOf, Cond.code yX3_costOf cX3_costOf 5 (some .int), Cond.methodLink RX3 57 yX1_versionOf, Cond.methodLink RX2 70 yX5_settle]
def wsX8_isCoveredAnew_r7 : List Cond := [Cond.instanceMethod yX5_settle, Cond.selects RX5 yX5_settle yX5_settle, Cond.code yX5_settle cX5_settle 4 (some .int), Cond.methodLink RX2 73 yX4_changeLimit, Cond.instanceMethod yX4_changeLimit, Cond.selects RX4 yX4_changeLimit yX4_changeLimit, Cond.code yX4_changeLimit cX4_changeLimit 4 (some .int), Cond.methodLink RX4 33 yX6_at, Cond.methodLink RX4 37 yX6_put, Cond.methodLink RX2 76 yX4_sendOnLeave, Cond.instanceMethod yX4_sendOnLeave, Cond.selects RX4 yX4_sendOnLeave yX4_sendOnLeave, Cond.code yX4_sendOnLeave cX4_sendOnLeave 4 (some .int), Cond.fieldLink RX4 20 "Approvalyard$People" "delegates" "LApprovalyard$Row;", Cond.methodLink RX2 79 yX2_takeApproval, Cond.instanceMethod yX2_takeApproval, Cond.selects RX2 yX2_takeApproval yX2_takeApproval, Cond.code yX2_takeApproval cX2_takeApproval 5 (some .int), Cond.constant RX2 107 (2147483647), Cond.methodLink RX2 98 yX5_costOf, Cond.instanceMethod yX5_costOf, Cond.selects RX5 yX5_costOf yX5_costOf, Cond.code yX5_costOf cX5_costOf 2 (some .int), Cond.methodLink RX2 99 yX4_principalOf]
def wsX8_isCoveredAnew_r8 : List Cond := [Cond.instanceMethod yX4_principalOf, Cond.selects RX4 yX4_principalOf yX4_principalOf, Cond.code yX4_principalOf cX4_principalOf 4 (some .int), Cond.methodLink RX4 41 yX4_isAway, Cond.instanceMethod yX4_isAway, Cond.selects RX4 yX4_isAway yX4_isAway, Cond.code yX4_isAway cX4_isAway 2 (some .boolean), Cond.methodLink RX2 108 yX4_backOf, Cond.instanceMethod yX4_backOf, Cond.selects RX4 yX4_backOf yX4_backOf, Cond.code yX4_backOf cX4_backOf 2 (some .int), Cond.methodLink RX2 111 yX5_addApproval, Cond.instanceMethod yX5_addApproval, Cond.selects RX5 yX5_addApproval yX5_addApproval, Cond.code yX5_addApproval cX5_addApproval 4 none, Cond.methodLink RX2 82 yX5_markReleased, Cond.instanceMethod yX5_markReleased, Cond.selects RX5 yX5_markReleased yX5_markReleased, Cond.code yX5_markReleased cX5_markReleased 2 (some .int), Cond.methodLink RX2 85 yX4_addDays, Cond.instanceMethod yX4_addDays, Cond.selects RX4 yX4_addDays yX4_addDays, Cond.code yX4_addDays cX4_addDays 2 (some .int), Cond.methodLink RX8 147 yX2_isCovered]
def wsX8_isCoveredAnew_r9 : List Cond := [Cond.instanceMethod yX2_isCovered, Cond.selects RX2 yX2_isCovered yX2_isCovered, Cond.code yX2_isCovered cX2_isCovered 3 (some .boolean), Cond.methodLink RX2 105 yX2_approvalsOf, Cond.instanceMethod yX2_approvalsOf, Cond.selects RX2 yX2_approvalsOf yX2_approvalsOf, Cond.code yX2_approvalsOf cX2_approvalsOf 2 (some .int), Cond.methodLink RX2 102 yX5_approvalsOf]
def wsX8_isCoveredAnew : List Cond := .code yX8_isCoveredAnew cX8_isCoveredAnew 4 (some .boolean) :: ((wsX8_isCoveredAnew_r1 ++ (wsX8_isCoveredAnew_r2 ++ (wsX8_isCoveredAnew_r3 ++ (wsX8_isCoveredAnew_r4 ++ (wsX8_isCoveredAnew_r5 ++ (wsX8_isCoveredAnew_r6 ++ (wsX8_isCoveredAnew_r7 ++ (wsX8_isCoveredAnew_r8 ++ wsX8_isCoveredAnew_r9)))))))) ++ wsX80 ++ wsX20 ++ wsX50 ++ wsX00 ++ wsX30 ++ wsX60 ++ wsX40 ++ (vx_atS RX8 182 "java/lang/IndexOutOfBoundsException" ["java/lang/RuntimeException", "java/lang/Exception"]).filter goodWord)
def wsX8_strain_r1 : List Cond := [Cond.fieldLink RX8 19 "Approvalyard" "desk" "LApprovalyard$Desk;", Cond.fieldLink RX8 97 "Approvalyard$Desk" "requests" "LApprovalyard$Requests;", Cond.constantFloat RX8 165 (3212836864), Cond.fieldLink RX8 166 "Approvalyard$Desk" "people" "LApprovalyard$People;", Cond.methodLink RX8 109 yX8_checkRequest, Cond.instanceMethod yX8_checkRequest, Cond.selects RX8 yX8_checkRequest yX8_checkRequest, Cond.initialized RX8, Cond.code yX8_checkRequest cX8_checkRequest 2 none, Cond.classLink RX8 178 "java/lang/IndexOutOfBoundsException", Cond.initialized "java/lang/IndexOutOfBoundsException", Cond.methodLink RX8 101 yX5_count, Cond.instanceMethod yX5_count, Cond.selects RX5 yX5_count yX5_count, Cond.initialized RX5, Cond.code yX5_count cX5_count 1 (some .int), Cond.fieldLink RX5 38 "Approvalyard$Requests" "number" "I", Cond.methodLink RX8 112 yX5_stateOf, Cond.instanceMethod yX5_stateOf, Cond.selects RX5 yX5_stateOf yX5_stateOf, Cond.code yX5_stateOf cX5_stateOf 2 (some .int), Cond.fieldLink RX5 26 "Approvalyard$Requests" "states" "LApprovalyard$Row;", Cond.methodLink RX5 52 yX6_at, Cond.instanceMethod yX6_at]
def wsX8_strain_r2 : List Cond := [Cond.selects RX6 yX6_at yX6_at, Cond.initialized RX6, Cond.code yX6_at cX6_at 2 (some .int), Cond.fieldLink RX6 7 "Approvalyard$Row" "cells" "[I", Cond.methodLink RX8 153 yX5_costOf, Cond.instanceMethod yX5_costOf, Cond.selects RX5 yX5_costOf yX5_costOf, Cond.code yX5_costOf cX5_costOf 2 (some .int), Cond.fieldLink RX5 32 "Approvalyard$Requests" "costs" "LApprovalyard$Row;", Cond.methodLink RX8 170 yX5_personOf, Cond.instanceMethod yX5_personOf, Cond.selects RX5 yX5_personOf yX5_personOf, Cond.code yX5_personOf cX5_personOf 2 (some .int), Cond.fieldLink RX5 14 "Approvalyard$Requests" "people" "LApprovalyard$Row;", Cond.methodLink RX8 173 yX4_greatestLimit, Cond.instanceMethod yX4_greatestLimit, Cond.selects RX4 yX4_greatestLimit yX4_greatestLimit, Cond.initialized RX4, Cond.code yX4_greatestLimit cX4_greatestLimit 6 (some .int), Cond.fieldLink RX4 14 "Approvalyard$People" "limits" "LApprovalyard$Row;", Cond.methodLink RX4 33 yX6_at, Cond.methodLink RX4 41 yX4_isAway, Cond.instanceMethod yX4_isAway, Cond.selects RX4 yX4_isAway yX4_isAway]
def wsX8_strain_r3 : List Cond := [Cond.code yX4_isAway cX4_isAway 2 (some .boolean), Cond.fieldLink RX4 29 "Approvalyard$People" "day" "I", Cond.fieldLink RX4 23 "Approvalyard$People" "backs" "LApprovalyard$Row;"]
def wsX8_strain : List Cond := .code yX8_strain cX8_strain 4 (some .float) :: ((wsX8_strain_r1 ++ (wsX8_strain_r2 ++ wsX8_strain_r3)) ++ wsX80 ++ wsX20 ++ wsX50 ++ wsX60 ++ wsX40 ++ (vx_atS RX8 182 "java/lang/IndexOutOfBoundsException" ["java/lang/RuntimeException", "java/lang/Exception"]).filter goodWord)
def wsX8_entries : List Cond := .code yX8_entries cX8_entries 1 (some .int) :: ([.fieldLink RX8 10 "Approvalyard" "book" "LApprovalyard$Book;", .methodLink RX8 161 yX0_count, .instanceMethod yX0_count, .selects RX0 yX0_count yX0_count, .initialized RX0, .code yX0_count cX0_count 1 (some .int), .fieldLink RX0 20 "Approvalyard$Book" "number" "I"] ++ wsX80 ++ wsX00)
def wsX9_init : List Cond := .code yX9_init cX9_init 2 none :: ([.methodLink RX9 1 objectInit, .instanceMethod objectInit, .code objectInit ⟨#[0xb1]⟩ 1 none, .arrayClass .int, .fieldLink RX9 7 "ApprovalyardModel" "vc" "[I", .fieldLink RX9 13 "ApprovalyardModel" "vr" "[I", .fieldLink RX9 16 "ApprovalyardModel" "vn" "[I", .fieldLink RX9 19 "ApprovalyardModel" "needs" "[I", .fieldLink RX9 22 "ApprovalyardModel" "versions" "[I", .fieldLink RX9 25 "ApprovalyardModel" "lim" "[I", .fieldLink RX9 28 "ApprovalyardModel" "back" "[I", .fieldLink RX9 31 "ApprovalyardModel" "deputy" "[I", .fieldLink RX9 34 "ApprovalyardModel" "qp" "[I", .fieldLink RX9 37 "ApprovalyardModel" "qt" "[I", .fieldLink RX9 40 "ApprovalyardModel" "ql" "[I", .fieldLink RX9 43 "ApprovalyardModel" "qs" "[I", .fieldLink RX9 46 "ApprovalyardModel" "qc" "[I", .fieldLink RX9 49 "ApprovalyardModel" "chosen" "[I", .fieldLink RX9 52 "ApprovalyardModel" "by" "[I", .fieldLink RX9 55 "ApprovalyardModel" "until" "[I", .fieldLink RX9 58 "ApprovalyardModel" "row" "[I", .fieldLink RX9 61 "ApprovalyardModel" "pick" "[I", .fieldLink RX9 64 "ApprovalyardModel" "size" "[I", .fieldLink RX9 67 "ApprovalyardModel" "place" "[I"] ++ wsX90)
def wsX9_thrown : List Cond := .code yX9_thrown cX9_thrown 1 (some .int) :: ([.fieldLink RX9 70 "ApprovalyardModel" "thrown" "I"] ++ wsX90)
def wsX9_holds : List Cond := .code yX9_holds cX9_holds 2 (some .boolean) :: ([.fieldLink RX9 70 "ApprovalyardModel" "thrown" "I"] ++ wsX90)
def wsX9_in : List Cond := .code yX9_in cX9_in 4 (some .boolean) :: ([])
def wsX9_isEight : List Cond := .code yX9_isEight cX9_isEight 2 (some .boolean) :: ([.methodLink RX9 74 yX9_in, .instanceMethod yX9_in, .selects RX9 yX9_in yX9_in, .initialized RX9, .code yX9_in cX9_in 4 (some .boolean)])
def wsX9_isVersion : List Cond := .code yX9_isVersion cX9_isVersion 3 (some .boolean) :: ([.fieldLink RX9 22 "ApprovalyardModel" "versions" "[I", .methodLink RX9 78 yX9_isEight, .instanceMethod yX9_isEight, .selects RX9 yX9_isEight yX9_isEight, .initialized RX9, .code yX9_isEight cX9_isEight 2 (some .boolean), .methodLink RX9 74 yX9_in, .instanceMethod yX9_in, .selects RX9 yX9_in yX9_in, .code yX9_in cX9_in 4 (some .boolean)] ++ wsX90)
def wsX9_isRequest : List Cond := .code yX9_isRequest cX9_isRequest 2 (some .boolean) :: ([.fieldLink RX9 82 "ApprovalyardModel" "requests" "I", .methodLink RX9 74 yX9_in, .instanceMethod yX9_in, .selects RX9 yX9_in yX9_in, .initialized RX9, .code yX9_in cX9_in 4 (some .boolean)] ++ wsX90)
def wsX9_version : List Cond := .code yX9_version cX9_version 3 (some .int) :: ([.fieldLink RX9 22 "ApprovalyardModel" "versions" "[I", .fieldLink RX9 7 "ApprovalyardModel" "vc" "[I", .fieldLink RX9 88 "ApprovalyardModel" "entries" "I", .methodLink RX9 78 yX9_isEight, .instanceMethod yX9_isEight, .selects RX9 yX9_isEight yX9_isEight, .initialized RX9, .code yX9_isEight cX9_isEight 2 (some .boolean), .methodLink RX9 74 yX9_in, .instanceMethod yX9_in, .selects RX9 yX9_in yX9_in, .code yX9_in cX9_in 4 (some .boolean), .methodLink RX9 85 yX9_holds, .instanceMethod yX9_holds, .selects RX9 yX9_holds yX9_holds, .code yX9_holds cX9_holds 2 (some .boolean), .fieldLink RX9 70 "ApprovalyardModel" "thrown" "I"] ++ wsX90)
def wsX9_need : List Cond := .code yX9_need cX9_need 10 (some .int) :: ([.fieldLink RX9 16 "ApprovalyardModel" "vn" "[I", .fieldLink RX9 19 "ApprovalyardModel" "needs" "[I", .fieldLink RX9 88 "ApprovalyardModel" "entries" "I", .methodLink RX9 91 yX9_isVersion, .instanceMethod yX9_isVersion, .selects RX9 yX9_isVersion yX9_isVersion, .initialized RX9, .code yX9_isVersion cX9_isVersion 3 (some .boolean), .fieldLink RX9 22 "ApprovalyardModel" "versions" "[I", .methodLink RX9 78 yX9_isEight, .instanceMethod yX9_isEight, .selects RX9 yX9_isEight yX9_isEight, .code yX9_isEight cX9_isEight 2 (some .boolean), .methodLink RX9 74 yX9_in, .instanceMethod yX9_in, .selects RX9 yX9_in yX9_in, .code yX9_in cX9_in 4 (some .boolean), .methodLink RX9 85 yX9_holds, .instanceMethod yX9_holds, .selects RX9 yX9_holds yX9_holds, .code yX9_holds cX9_holds 2 (some .boolean), .fieldLink RX9 70 "ApprovalyardModel" "thrown" "I"] ++ wsX90)
def wsX9_ends : List Cond := .code yX9_ends cX9_ends 4 (some .int) :: ([.fieldLink RX9 52 "ApprovalyardModel" "by" "[I"] ++ wsX90)
def wsX9_empty : List Cond := .code yX9_empty cX9_empty 3 none :: ([.fieldLink RX9 49 "ApprovalyardModel" "chosen" "[I"] ++ wsX90)
def wsX9_replace_r1 : List Cond := [Cond.fieldLink RX9 13 "ApprovalyardModel" "vr" "[I", Cond.fieldLink RX9 82 "ApprovalyardModel" "requests" "I", Cond.fieldLink RX9 43 "ApprovalyardModel" "qs" "[I", Cond.fieldLink RX9 49 "ApprovalyardModel" "chosen" "[I", Cond.fieldLink RX9 88 "ApprovalyardModel" "entries" "I", Cond.methodLink RX9 91 yX9_isVersion, Cond.instanceMethod yX9_isVersion, Cond.selects RX9 yX9_isVersion yX9_isVersion, Cond.initialized RX9, Cond.code yX9_isVersion cX9_isVersion 3 (some .boolean), Cond.fieldLink RX9 22 "ApprovalyardModel" "versions" "[I", Cond.methodLink RX9 78 yX9_isEight, Cond.instanceMethod yX9_isEight, Cond.selects RX9 yX9_isEight yX9_isEight, Cond.code yX9_isEight cX9_isEight 2 (some .boolean), Cond.methodLink RX9 74 yX9_in, Cond.instanceMethod yX9_in, Cond.selects RX9 yX9_in yX9_in, Cond.code yX9_in cX9_in 4 (some .boolean), Cond.methodLink RX9 85 yX9_holds, Cond.instanceMethod yX9_holds, Cond.selects RX9 yX9_holds yX9_holds, Cond.code yX9_holds cX9_holds 2 (some .boolean), Cond.fieldLink RX9 70 "ApprovalyardModel" "thrown" "I"]
def wsX9_replace_r2 : List Cond := [Cond.methodLink RX9 95 yX9_ends, Cond.instanceMethod yX9_ends, Cond.selects RX9 yX9_ends yX9_ends, Cond.code yX9_ends cX9_ends 4 (some .int), Cond.fieldLink RX9 52 "ApprovalyardModel" "by" "[I", Cond.methodLink RX9 99 yX9_empty, Cond.instanceMethod yX9_empty, Cond.selects RX9 yX9_empty yX9_empty, Cond.code yX9_empty cX9_empty 3 none]
def wsX9_replace : List Cond := .code yX9_replace cX9_replace 6 (some .int) :: ((wsX9_replace_r1 ++ wsX9_replace_r2) ++ wsX90)
def wsX9_request : List Cond := .code yX9_request cX9_request 4 (some .int) :: ([.fieldLink RX9 82 "ApprovalyardModel" "requests" "I", .fieldLink RX9 34 "ApprovalyardModel" "qp" "[I", .fieldLink RX9 37 "ApprovalyardModel" "qt" "[I", .fieldLink RX9 40 "ApprovalyardModel" "ql" "[I", .fieldLink RX9 88 "ApprovalyardModel" "entries" "I", .methodLink RX9 78 yX9_isEight, .instanceMethod yX9_isEight, .selects RX9 yX9_isEight yX9_isEight, .initialized RX9, .code yX9_isEight cX9_isEight 2 (some .boolean), .methodLink RX9 74 yX9_in, .instanceMethod yX9_in, .selects RX9 yX9_in yX9_in, .code yX9_in cX9_in 4 (some .boolean), .methodLink RX9 85 yX9_holds, .instanceMethod yX9_holds, .selects RX9 yX9_holds yX9_holds, .code yX9_holds cX9_holds 2 (some .boolean), .fieldLink RX9 70 "ApprovalyardModel" "thrown" "I"] ++ wsX90)
def wsX9_goes : List Cond := .code yX9_goes cX9_goes 9 (some .boolean) :: ([.fieldLink RX9 58 "ApprovalyardModel" "row" "[I", .fieldLink RX9 13 "ApprovalyardModel" "vr" "[I", .fieldLink RX9 61 "ApprovalyardModel" "pick" "[I", .fieldLink RX9 16 "ApprovalyardModel" "vn" "[I", .fieldLink RX9 19 "ApprovalyardModel" "needs" "[I", .fieldLink RX9 67 "ApprovalyardModel" "place" "[I", .methodLink RX9 74 yX9_in, .instanceMethod yX9_in, .selects RX9 yX9_in yX9_in, .initialized RX9, .code yX9_in cX9_in 4 (some .boolean)] ++ wsX90)
def wsX9_comes : List Cond := .code yX9_comes cX9_comes 7 (some .int) :: ([.fieldLink RX9 58 "ApprovalyardModel" "row" "[I", .fieldLink RX9 61 "ApprovalyardModel" "pick" "[I", .fieldLink RX9 16 "ApprovalyardModel" "vn" "[I", .fieldLink RX9 19 "ApprovalyardModel" "needs" "[I", .fieldLink RX9 67 "ApprovalyardModel" "place" "[I"] ++ wsX90)
def wsX9_forget : List Cond := .code yX9_forget cX9_forget 3 none :: ([.fieldLink RX9 67 "ApprovalyardModel" "place" "[I"] ++ wsX90)
def wsX9_search_r1 : List Cond := [Cond.fieldLink RX9 67 "ApprovalyardModel" "place" "[I", Cond.fieldLink RX9 58 "ApprovalyardModel" "row" "[I", Cond.fieldLink RX9 37 "ApprovalyardModel" "qt" "[I", Cond.fieldLink RX9 64 "ApprovalyardModel" "size" "[I", Cond.fieldLink RX9 61 "ApprovalyardModel" "pick" "[I", Cond.fieldLink RX9 22 "ApprovalyardModel" "versions" "[I", Cond.fieldLink RX9 40 "ApprovalyardModel" "ql" "[I", Cond.methodLink RX9 103 yX9_forget, Cond.instanceMethod yX9_forget, Cond.selects RX9 yX9_forget yX9_forget, Cond.initialized RX9, Cond.code yX9_forget cX9_forget 3 none, Cond.methodLink RX9 106 yX9_goes, Cond.instanceMethod yX9_goes, Cond.selects RX9 yX9_goes yX9_goes, Cond.code yX9_goes cX9_goes 9 (some .boolean), Cond.fieldLink RX9 13 "ApprovalyardModel" "vr" "[I", Cond.fieldLink RX9 16 "ApprovalyardModel" "vn" "[I", Cond.fieldLink RX9 19 "ApprovalyardModel" "needs" "[I", Cond.methodLink RX9 74 yX9_in, Cond.instanceMethod yX9_in, Cond.selects RX9 yX9_in yX9_in, Cond.code yX9_in cX9_in 4 (some .boolean), Cond.methodLink RX9 109 yX9_comes]
def wsX9_search_r2 : List Cond := [Cond.instanceMethod yX9_comes, Cond.selects RX9 yX9_comes yX9_comes, Cond.code yX9_comes cX9_comes 7 (some .int)]
def wsX9_search : List Cond := .code yX9_search cX9_search 6 (some .int) :: ((wsX9_search_r1 ++ wsX9_search_r2) ++ wsX90)
def wsX9_resolve_r1 : List Cond := [Cond.fieldLink RX9 43 "ApprovalyardModel" "qs" "[I", Cond.fieldLink RX9 46 "ApprovalyardModel" "qc" "[I", Cond.fieldLink RX9 49 "ApprovalyardModel" "chosen" "[I", Cond.fieldLink RX9 58 "ApprovalyardModel" "row" "[I", Cond.fieldLink RX9 61 "ApprovalyardModel" "pick" "[I", Cond.fieldLink RX9 7 "ApprovalyardModel" "vc" "[I", Cond.fieldLink RX9 88 "ApprovalyardModel" "entries" "I", Cond.methodLink RX9 113 yX9_isRequest, Cond.instanceMethod yX9_isRequest, Cond.selects RX9 yX9_isRequest yX9_isRequest, Cond.initialized RX9, Cond.code yX9_isRequest cX9_isRequest 2 (some .boolean), Cond.fieldLink RX9 82 "ApprovalyardModel" "requests" "I", Cond.methodLink RX9 74 yX9_in, Cond.instanceMethod yX9_in, Cond.selects RX9 yX9_in yX9_in, Cond.code yX9_in cX9_in 4 (some .boolean), Cond.methodLink RX9 85 yX9_holds, Cond.instanceMethod yX9_holds, Cond.selects RX9 yX9_holds yX9_holds, Cond.code yX9_holds cX9_holds 2 (some .boolean), Cond.fieldLink RX9 70 "ApprovalyardModel" "thrown" "I", Cond.methodLink RX9 116 yX9_search, Cond.instanceMethod yX9_search]
def wsX9_resolve_r2 : List Cond := [Cond.selects RX9 yX9_search yX9_search, Cond.code yX9_search cX9_search 6 (some .int), Cond.fieldLink RX9 67 "ApprovalyardModel" "place" "[I", Cond.fieldLink RX9 37 "ApprovalyardModel" "qt" "[I", Cond.fieldLink RX9 64 "ApprovalyardModel" "size" "[I", Cond.fieldLink RX9 22 "ApprovalyardModel" "versions" "[I", Cond.fieldLink RX9 40 "ApprovalyardModel" "ql" "[I", Cond.methodLink RX9 103 yX9_forget, Cond.instanceMethod yX9_forget, Cond.selects RX9 yX9_forget yX9_forget, Cond.code yX9_forget cX9_forget 3 none, Cond.methodLink RX9 106 yX9_goes, Cond.instanceMethod yX9_goes, Cond.selects RX9 yX9_goes yX9_goes, Cond.code yX9_goes cX9_goes 9 (some .boolean), Cond.fieldLink RX9 13 "ApprovalyardModel" "vr" "[I", Cond.fieldLink RX9 16 "ApprovalyardModel" "vn" "[I", Cond.fieldLink RX9 19 "ApprovalyardModel" "needs" "[I", Cond.methodLink RX9 109 yX9_comes, Cond.instanceMethod yX9_comes, Cond.selects RX9 yX9_comes yX9_comes, Cond.code yX9_comes cX9_comes 7 (some .int), Cond.methodLink RX9 99 yX9_empty, Cond.instanceMethod yX9_empty]
def wsX9_resolve_r3 : List Cond := [Cond.selects RX9 yX9_empty yX9_empty, Cond.code yX9_empty cX9_empty 3 none, Cond.methodLink RX9 95 yX9_ends, Cond.instanceMethod yX9_ends, Cond.selects RX9 yX9_ends yX9_ends, Cond.code yX9_ends cX9_ends 4 (some .int), Cond.fieldLink RX9 52 "ApprovalyardModel" "by" "[I"]
def wsX9_resolve : List Cond := .code yX9_resolve cX9_resolve 5 (some .int) :: ((wsX9_resolve_r1 ++ (wsX9_resolve_r2 ++ wsX9_resolve_r3)) ++ wsX90)
def wsX9_chosen : List Cond := .code yX9_chosen cX9_chosen 3 (some .int) :: ([.fieldLink RX9 49 "ApprovalyardModel" "chosen" "[I", .methodLink RX9 113 yX9_isRequest, .instanceMethod yX9_isRequest, .selects RX9 yX9_isRequest yX9_isRequest, .initialized RX9, .code yX9_isRequest cX9_isRequest 2 (some .boolean), .fieldLink RX9 82 "ApprovalyardModel" "requests" "I", .methodLink RX9 74 yX9_in, .instanceMethod yX9_in, .selects RX9 yX9_in yX9_in, .code yX9_in cX9_in 4 (some .boolean), .methodLink RX9 78 yX9_isEight, .instanceMethod yX9_isEight, .selects RX9 yX9_isEight yX9_isEight, .code yX9_isEight cX9_isEight 2 (some .boolean), .methodLink RX9 85 yX9_holds, .instanceMethod yX9_holds, .selects RX9 yX9_holds yX9_holds, .code yX9_holds cX9_holds 2 (some .boolean), .fieldLink RX9 70 "ApprovalyardModel" "thrown" "I"] ++ wsX90)
def wsX9_limit : List Cond := .code yX9_limit cX9_limit 4 (some .int) :: ([.fieldLink RX9 25 "ApprovalyardModel" "lim" "[I", .fieldLink RX9 88 "ApprovalyardModel" "entries" "I", .methodLink RX9 78 yX9_isEight, .instanceMethod yX9_isEight, .selects RX9 yX9_isEight yX9_isEight, .initialized RX9, .code yX9_isEight cX9_isEight 2 (some .boolean), .methodLink RX9 74 yX9_in, .instanceMethod yX9_in, .selects RX9 yX9_in yX9_in, .code yX9_in cX9_in 4 (some .boolean), .methodLink RX9 85 yX9_holds, .instanceMethod yX9_holds, .selects RX9 yX9_holds yX9_holds, .code yX9_holds cX9_holds 2 (some .boolean), .fieldLink RX9 70 "ApprovalyardModel" "thrown" "I"] ++ wsX90)
def wsX9_leave : List Cond := .code yX9_leave cX9_leave 4 (some .int) :: ([.fieldLink RX9 28 "ApprovalyardModel" "back" "[I", .fieldLink RX9 119 "ApprovalyardModel" "day" "I", .fieldLink RX9 31 "ApprovalyardModel" "deputy" "[I", .fieldLink RX9 88 "ApprovalyardModel" "entries" "I", .methodLink RX9 78 yX9_isEight, .instanceMethod yX9_isEight, .selects RX9 yX9_isEight yX9_isEight, .initialized RX9, .code yX9_isEight cX9_isEight 2 (some .boolean), .methodLink RX9 74 yX9_in, .instanceMethod yX9_in, .selects RX9 yX9_in yX9_in, .code yX9_in cX9_in 4 (some .boolean), .methodLink RX9 85 yX9_holds, .instanceMethod yX9_holds, .selects RX9 yX9_holds yX9_holds, .code yX9_holds cX9_holds 2 (some .boolean), .fieldLink RX9 70 "ApprovalyardModel" "thrown" "I"] ++ wsX90)
def wsX9_isAway : List Cond := .code yX9_isAway cX9_isAway 2 (some .boolean) :: ([.fieldLink RX9 119 "ApprovalyardModel" "day" "I", .fieldLink RX9 28 "ApprovalyardModel" "back" "[I"] ++ wsX90)
def wsX9_forWhom : List Cond := .code yX9_forWhom cX9_forWhom 4 (some .int) :: ([.fieldLink RX9 34 "ApprovalyardModel" "qp" "[I", .fieldLink RX9 25 "ApprovalyardModel" "lim" "[I", .fieldLink RX9 46 "ApprovalyardModel" "qc" "[I", .fieldLink RX9 31 "ApprovalyardModel" "deputy" "[I", .methodLink RX9 122 yX9_isAway, .instanceMethod yX9_isAway, .selects RX9 yX9_isAway yX9_isAway, .initialized RX9, .code yX9_isAway cX9_isAway 2 (some .boolean), .fieldLink RX9 119 "ApprovalyardModel" "day" "I", .fieldLink RX9 28 "ApprovalyardModel" "back" "[I"] ++ wsX90)
def wsX9_approve_r1 : List Cond := [Cond.fieldLink RX9 43 "ApprovalyardModel" "qs" "[I", Cond.fieldLink RX9 52 "ApprovalyardModel" "by" "[I", Cond.fieldLink RX9 55 "ApprovalyardModel" "until" "[I", Cond.fieldLink RX9 28 "ApprovalyardModel" "back" "[I", Cond.fieldLink RX9 88 "ApprovalyardModel" "entries" "I", Cond.methodLink RX9 113 yX9_isRequest, Cond.instanceMethod yX9_isRequest, Cond.selects RX9 yX9_isRequest yX9_isRequest, Cond.initialized RX9, Cond.code yX9_isRequest cX9_isRequest 2 (some .boolean), Cond.fieldLink RX9 82 "ApprovalyardModel" "requests" "I", Cond.methodLink RX9 74 yX9_in, Cond.instanceMethod yX9_in, Cond.selects RX9 yX9_in yX9_in, Cond.code yX9_in cX9_in 4 (some .boolean), Cond.methodLink RX9 78 yX9_isEight, Cond.instanceMethod yX9_isEight, Cond.selects RX9 yX9_isEight yX9_isEight, Cond.code yX9_isEight cX9_isEight 2 (some .boolean), Cond.methodLink RX9 125 yX9_forWhom, Cond.instanceMethod yX9_forWhom, Cond.selects RX9 yX9_forWhom yX9_forWhom, Cond.code yX9_forWhom cX9_forWhom 4 (some .int), Cond.fieldLink RX9 34 "ApprovalyardModel" "qp" "[I"]
def wsX9_approve_r2 : List Cond := [Cond.fieldLink RX9 25 "ApprovalyardModel" "lim" "[I", Cond.fieldLink RX9 46 "ApprovalyardModel" "qc" "[I", Cond.fieldLink RX9 31 "ApprovalyardModel" "deputy" "[I", Cond.methodLink RX9 122 yX9_isAway, Cond.instanceMethod yX9_isAway, Cond.selects RX9 yX9_isAway yX9_isAway, Cond.code yX9_isAway cX9_isAway 2 (some .boolean), Cond.fieldLink RX9 119 "ApprovalyardModel" "day" "I", Cond.methodLink RX9 85 yX9_holds, Cond.instanceMethod yX9_holds, Cond.selects RX9 yX9_holds yX9_holds, Cond.code yX9_holds cX9_holds 2 (some .boolean), Cond.fieldLink RX9 70 "ApprovalyardModel" "thrown" "I"]
def wsX9_approve : List Cond := .code yX9_approve cX9_approve 6 (some .int) :: ((wsX9_approve_r1 ++ wsX9_approve_r2) ++ wsX90)
def wsX9_approvals : List Cond := .code yX9_approvals cX9_approvals 4 (some .int) :: ([.fieldLink RX9 52 "ApprovalyardModel" "by" "[I"] ++ wsX90)
def wsX9_covered : List Cond := .code yX9_covered cX9_covered 2 (some .boolean) :: ([.fieldLink RX9 46 "ApprovalyardModel" "qc" "[I", .methodLink RX9 128 yX9_approvals, .instanceMethod yX9_approvals, .selects RX9 yX9_approvals yX9_approvals, .initialized RX9, .code yX9_approvals cX9_approvals 4 (some .int), .fieldLink RX9 52 "ApprovalyardModel" "by" "[I"] ++ wsX90)
def wsX9_release_r1 : List Cond := [Cond.fieldLink RX9 43 "ApprovalyardModel" "qs" "[I", Cond.fieldLink RX9 88 "ApprovalyardModel" "entries" "I", Cond.methodLink RX9 113 yX9_isRequest, Cond.instanceMethod yX9_isRequest, Cond.selects RX9 yX9_isRequest yX9_isRequest, Cond.initialized RX9, Cond.code yX9_isRequest cX9_isRequest 2 (some .boolean), Cond.fieldLink RX9 82 "ApprovalyardModel" "requests" "I", Cond.methodLink RX9 74 yX9_in, Cond.instanceMethod yX9_in, Cond.selects RX9 yX9_in yX9_in, Cond.code yX9_in cX9_in 4 (some .boolean), Cond.methodLink RX9 131 yX9_covered, Cond.instanceMethod yX9_covered, Cond.selects RX9 yX9_covered yX9_covered, Cond.code yX9_covered cX9_covered 2 (some .boolean), Cond.fieldLink RX9 46 "ApprovalyardModel" "qc" "[I", Cond.methodLink RX9 128 yX9_approvals, Cond.instanceMethod yX9_approvals, Cond.selects RX9 yX9_approvals yX9_approvals, Cond.code yX9_approvals cX9_approvals 4 (some .int), Cond.fieldLink RX9 52 "ApprovalyardModel" "by" "[I", Cond.methodLink RX9 85 yX9_holds, Cond.instanceMethod yX9_holds]
def wsX9_release_r2 : List Cond := [Cond.selects RX9 yX9_holds yX9_holds, Cond.code yX9_holds cX9_holds 2 (some .boolean), Cond.fieldLink RX9 70 "ApprovalyardModel" "thrown" "I"]
def wsX9_release : List Cond := .code yX9_release cX9_release 2 none :: ((wsX9_release_r1 ++ wsX9_release_r2) ++ wsX90)
def wsX9_pass : List Cond := .code yX9_pass cX9_pass 3 (some .int) :: ([.fieldLink RX9 119 "ApprovalyardModel" "day" "I", .fieldLink RX9 82 "ApprovalyardModel" "requests" "I", .fieldLink RX9 52 "ApprovalyardModel" "by" "[I", .fieldLink RX9 55 "ApprovalyardModel" "until" "[I", .fieldLink RX9 88 "ApprovalyardModel" "entries" "I", .methodLink RX9 74 yX9_in, .instanceMethod yX9_in, .selects RX9 yX9_in yX9_in, .initialized RX9, .code yX9_in cX9_in 4 (some .boolean), .methodLink RX9 85 yX9_holds, .instanceMethod yX9_holds, .selects RX9 yX9_holds yX9_holds, .code yX9_holds cX9_holds 2 (some .boolean), .fieldLink RX9 70 "ApprovalyardModel" "thrown" "I"] ++ wsX90)
def wsX9_ofRequest_r1 : List Cond := [Cond.fieldLink RX9 43 "ApprovalyardModel" "qs" "[I", Cond.fieldLink RX9 46 "ApprovalyardModel" "qc" "[I", Cond.methodLink RX9 113 yX9_isRequest, Cond.instanceMethod yX9_isRequest, Cond.selects RX9 yX9_isRequest yX9_isRequest, Cond.initialized RX9, Cond.code yX9_isRequest cX9_isRequest 2 (some .boolean), Cond.fieldLink RX9 82 "ApprovalyardModel" "requests" "I", Cond.methodLink RX9 74 yX9_in, Cond.instanceMethod yX9_in, Cond.selects RX9 yX9_in yX9_in, Cond.code yX9_in cX9_in 4 (some .boolean), Cond.methodLink RX9 85 yX9_holds, Cond.instanceMethod yX9_holds, Cond.selects RX9 yX9_holds yX9_holds, Cond.code yX9_holds cX9_holds 2 (some .boolean), Cond.fieldLink RX9 70 "ApprovalyardModel" "thrown" "I", Cond.methodLink RX9 128 yX9_approvals, Cond.instanceMethod yX9_approvals, Cond.selects RX9 yX9_approvals yX9_approvals, Cond.code yX9_approvals cX9_approvals 4 (some .int), Cond.fieldLink RX9 52 "ApprovalyardModel" "by" "[I", Cond.methodLink RX9 131 yX9_covered, Cond.instanceMethod yX9_covered]
def wsX9_ofRequest_r2 : List Cond := [Cond.selects RX9 yX9_covered yX9_covered, Cond.code yX9_covered cX9_covered 2 (some .boolean)]
def wsX9_ofRequest : List Cond := .code yX9_ofRequest cX9_ofRequest 3 (some .int) :: ((wsX9_ofRequest_r1 ++ wsX9_ofRequest_r2) ++ wsX90)
def wsX9_isCoveredAnew_r1 : List Cond := [Cond.methodLink RX9 113 yX9_isRequest, Cond.instanceMethod yX9_isRequest, Cond.selects RX9 yX9_isRequest yX9_isRequest, Cond.initialized RX9, Cond.code yX9_isRequest cX9_isRequest 2 (some .boolean), Cond.fieldLink RX9 82 "ApprovalyardModel" "requests" "I", Cond.methodLink RX9 74 yX9_in, Cond.instanceMethod yX9_in, Cond.selects RX9 yX9_in yX9_in, Cond.code yX9_in cX9_in 4 (some .boolean), Cond.methodLink RX9 85 yX9_holds, Cond.instanceMethod yX9_holds, Cond.selects RX9 yX9_holds yX9_holds, Cond.code yX9_holds cX9_holds 2 (some .boolean), Cond.fieldLink RX9 70 "ApprovalyardModel" "thrown" "I", Cond.methodLink RX9 131 yX9_covered, Cond.instanceMethod yX9_covered, Cond.selects RX9 yX9_covered yX9_covered, Cond.code yX9_covered cX9_covered 2 (some .boolean), Cond.fieldLink RX9 46 "ApprovalyardModel" "qc" "[I", Cond.methodLink RX9 128 yX9_approvals, Cond.instanceMethod yX9_approvals, Cond.selects RX9 yX9_approvals yX9_approvals, Cond.code yX9_approvals cX9_approvals 4 (some .int)]
def wsX9_isCoveredAnew_r2 : List Cond := [Cond.fieldLink RX9 52 "ApprovalyardModel" "by" "[I"]
def wsX9_isCoveredAnew : List Cond := .code yX9_isCoveredAnew cX9_isCoveredAnew 2 (some .boolean) :: ((wsX9_isCoveredAnew_r1 ++ wsX9_isCoveredAnew_r2) ++ wsX90)
def wsX9_strain_r1 : List Cond := [Cond.fieldLink RX9 43 "ApprovalyardModel" "qs" "[I", Cond.constantFloat RX9 134 (3212836864), Cond.fieldLink RX9 34 "ApprovalyardModel" "qp" "[I", Cond.fieldLink RX9 25 "ApprovalyardModel" "lim" "[I", Cond.fieldLink RX9 46 "ApprovalyardModel" "qc" "[I", Cond.methodLink RX9 113 yX9_isRequest, Cond.instanceMethod yX9_isRequest, Cond.selects RX9 yX9_isRequest yX9_isRequest, Cond.initialized RX9, Cond.code yX9_isRequest cX9_isRequest 2 (some .boolean), Cond.fieldLink RX9 82 "ApprovalyardModel" "requests" "I", Cond.methodLink RX9 74 yX9_in, Cond.instanceMethod yX9_in, Cond.selects RX9 yX9_in yX9_in, Cond.code yX9_in cX9_in 4 (some .boolean), Cond.methodLink RX9 85 yX9_holds, Cond.instanceMethod yX9_holds, Cond.selects RX9 yX9_holds yX9_holds, Cond.code yX9_holds cX9_holds 2 (some .boolean), Cond.fieldLink RX9 70 "ApprovalyardModel" "thrown" "I", Cond.methodLink RX9 122 yX9_isAway, Cond.instanceMethod yX9_isAway, Cond.selects RX9 yX9_isAway yX9_isAway, Cond.code yX9_isAway cX9_isAway 2 (some .boolean)]
def wsX9_strain_r2 : List Cond := [Cond.fieldLink RX9 119 "ApprovalyardModel" "day" "I", Cond.fieldLink RX9 28 "ApprovalyardModel" "back" "[I"]
def wsX9_strain : List Cond := .code yX9_strain cX9_strain 5 (some .float) :: ((wsX9_strain_r1 ++ wsX9_strain_r2) ++ wsX90)
def wsX9_entries : List Cond := .code yX9_entries cX9_entries 1 (some .int) :: ([.fieldLink RX9 88 "ApprovalyardModel" "entries" "I", .methodLink RX9 85 yX9_holds, .instanceMethod yX9_holds, .selects RX9 yX9_holds yX9_holds, .initialized RX9, .code yX9_holds cX9_holds 2 (some .boolean), .fieldLink RX9 70 "ApprovalyardModel" "thrown" "I"] ++ wsX90)
def wsL_version_r1 : List Cond := [Cond.classLink RL 13 "java/lang/IndexOutOfBoundsException", Cond.classLink RL 15 "java/lang/IllegalArgumentException", Cond.classLink RL 17 "java/lang/IllegalStateException", Cond.methodLink RL 7 yX8_version, Cond.instanceMethod yX8_version, Cond.selects RX8 yX8_version yX8_version, Cond.initialized RX8, Cond.code yX8_version cX8_version 3 (some .int), Cond.classLink RX8 37 "java/lang/IllegalArgumentException", Cond.initialized "java/lang/IllegalArgumentException", Cond.classLink RX8 54 "java/lang/IllegalStateException", Cond.initialized "java/lang/IllegalStateException", Cond.fieldLink RX8 19 "Approvalyard" "desk" "LApprovalyard$Desk;", Cond.fieldLink RX8 44 "Approvalyard$Desk" "parts" "LApprovalyard$Parts;", Cond.methodLink RX8 33 yX8_checkPart, Cond.static yX8_checkPart, Cond.code yX8_checkPart cX8_checkPart 1 none, Cond.classLink RX8 178 "java/lang/IndexOutOfBoundsException", Cond.initialized "java/lang/IndexOutOfBoundsException", Cond.methodLink RX8 48 yX3_countOf, Cond.instanceMethod yX3_countOf, Cond.selects RX3 yX3_countOf yX3_countOf, Cond.initialized RX3, Cond.code yX3_countOf cX3_countOf 2 (some .int)]
def wsL_version_r2 : List Cond := [Cond.fieldLink RX3 14 "Approvalyard$Parts" "counts" "LApprovalyard$Row;", Cond.methodLink RX3 38 yX6_at, Cond.instanceMethod yX6_at, Cond.selects RX6 yX6_at yX6_at, Cond.initialized RX6, Cond.code yX6_at cX6_at 2 (some .int), Cond.fieldLink RX6 7 "Approvalyard$Row" "cells" "[I", Cond.methodLink RX8 59 yX8_tell, Cond.instanceMethod yX8_tell, Cond.selects RX8 yX8_tell yX8_tell, Cond.code yX8_tell cX8_tell 5 (some .int), Cond.fieldLink RX8 10 "Approvalyard" "book" "LApprovalyard$Book;", Cond.methodLink RX8 80 yX0_write, Cond.instanceMethod yX0_write, Cond.selects RX0 yX0_write yX0_write, Cond.initialized RX0, Cond.code yX0_write cX0_write 8 (some .int), Cond.fieldLink RX0 20 "Approvalyard$Book" "number" "I", Cond.fieldLink RX0 16 "Approvalyard$Book" "words" "LApprovalyard$Row;", Cond.methodLink RX0 24 yX6_put, Cond.instanceMethod yX6_put, Cond.selects RX6 yX6_put yX6_put, Cond.code yX6_put cX6_put 3 none, Cond.methodLink RX8 84 yX2_apply]
def wsL_version_r3 : List Cond := [Cond.instanceMethod yX2_apply, Cond.selects RX2 yX2_apply yX2_apply, Cond.initialized RX2, Cond.code yX2_apply cX2_apply 6 (some .int), Cond.fieldLink RX2 12 "Approvalyard$Desk" "parts" "LApprovalyard$Parts;", Cond.fieldLink RX2 28 "Approvalyard$Desk" "requests" "LApprovalyard$Requests;", Cond.fieldLink RX2 21 "Approvalyard$Desk" "people" "LApprovalyard$People;", Cond.methodLink RX2 38 yX0_wordOf, Cond.instanceMethod yX0_wordOf, Cond.selects RX0 yX0_wordOf yX0_wordOf, Cond.code yX0_wordOf cX0_wordOf 3 (some .int), Cond.methodLink RX0 28 yX6_at, Cond.methodLink RX2 44 yX3_addVersion, Cond.instanceMethod yX3_addVersion, Cond.selects RX3 yX3_addVersion yX3_addVersion, Cond.code yX3_addVersion cX3_addVersion 5 (some .int), Cond.fieldLink RX3 20 "Approvalyard$Parts" "costs" "LApprovalyard$Row;", Cond.fieldLink RX3 23 "Approvalyard$Parts" "replaced" "LApprovalyard$Row;", Cond.fieldLink RX3 26 "Approvalyard$Parts" "needCounts" "LApprovalyard$Row;", Cond.methodLink RX3 42 yX3_placeOf, Cond.static yX3_placeOf, Cond.code yX3_placeOf cX3_placeOf 2 (some .int), Cond.methodLink RX3 46 yX6_put, Cond.methodLink RX2 47 yX3_addNeed]
def wsL_version_r4 : List Cond := [Cond.instanceMethod yX3_addNeed, Cond.selects RX3 yX3_addNeed yX3_addNeed, Cond.code yX3_addNeed cX3_addNeed 8 (some .int), Cond.fieldLink RX3 29 "Approvalyard$Parts" "needParts" "LApprovalyard$Row;", Cond.fieldLink RX3 32 "Approvalyard$Parts" "needVersions" "LApprovalyard$Row;", Cond.methodLink RX3 50 yX3_versionSet, Cond.static yX3_versionSet, Cond.code yX3_versionSet cX3_versionSet 2 (some .int), Cond.methodLink RX2 51 yX3_markReplaced, Cond.instanceMethod yX3_markReplaced, Cond.selects RX3 yX3_markReplaced yX3_markReplaced, Cond.code yX3_markReplaced cX3_markReplaced 3 none, Cond.methodLink RX2 55 yX4_today, Cond.instanceMethod yX4_today, Cond.selects RX4 yX4_today yX4_today, Cond.initialized RX4, Cond.code yX4_today cX4_today 1 (some .int), Cond.fieldLink RX4 29 "Approvalyard$People" "day" "I", Cond.methodLink RX2 59 yX5_loseVersion, Cond.instanceMethod yX5_loseVersion, Cond.selects RX5 yX5_loseVersion yX5_loseVersion, Cond.initialized RX5, Cond.code yX5_loseVersion cX5_loseVersion 6 (some .int), Cond.fieldLink RX5 38 "Approvalyard$Requests" "number" "I"]
def wsL_version_r5 : List Cond := [Cond.fieldLink RX5 29 "Approvalyard$Requests" "choices" "LApprovalyard$Row;", Cond.fieldLink RX5 26 "Approvalyard$Requests" "states" "LApprovalyard$Row;", Cond.methodLink RX5 52 yX6_at, Cond.methodLink RX5 60 yX1_versionOf, Cond.static yX1_versionOf, Cond.initialized RX1, Cond.code yX1_versionOf cX1_versionOf 2 (some .int), Cond.methodLink RX5 66 yX5_approvalsOf, Cond.instanceMethod yX5_approvalsOf, Cond.selects RX5 yX5_approvalsOf yX5_approvalsOf, Cond.code yX5_approvalsOf cX5_approvalsOf 5 (some .int), Cond.methodLink RX5 56 yX5_hasApproval, Cond.instanceMethod yX5_hasApproval, Cond.selects RX5 yX5_hasApproval yX5_hasApproval, Cond.code yX5_hasApproval cX5_hasApproval 4 (some .boolean), Cond.fieldLink RX5 35 "Approvalyard$Requests" "ends" "LApprovalyard$Row;", Cond.methodLink RX5 49 yX5_endApprovals, Cond.instanceMethod yX5_endApprovals, Cond.selects RX5 yX5_endApprovals yX5_endApprovals, Cond.code yX5_endApprovals cX5_endApprovals 3 none, Cond.methodLink RX5 42 yX6_put, Cond.methodLink RX5 46 yX5_reopen, Cond.instanceMethod yX5_reopen, Cond.selects RX5 yX5_reopen yX5_reopen]
def wsL_version_r6 : List Cond := [Cond.code yX5_reopen cX5_reopen 2 none, Cond.fieldLink RX5 32 "Approvalyard$Requests" "costs" "LApprovalyard$Row;", Cond.methodLink RX2 63 yX5_add, Cond.instanceMethod yX5_add, Cond.selects RX5 yX5_add yX5_add, Cond.code yX5_add cX5_add 5 (some .int), Cond.fieldLink RX5 14 "Approvalyard$Requests" "people" "LApprovalyard$Row;", Cond.fieldLink RX5 20 "Approvalyard$Requests" "parts" "LApprovalyard$Row;", Cond.fieldLink RX5 23 "Approvalyard$Requests" "leasts" "LApprovalyard$Row;", Cond.methodLink RX2 66 yX3_costOf, Cond.instanceMethod yX3_costOf, Cond.selects RX3 yX3_costOf yX3_costOf, Cond.code yX3_costOf cX3_costOf 5 (some .int), Cond.methodLink RX3 57 yX1_versionOf, Cond.methodLink RX2 70 yX5_settle, Cond.instanceMethod yX5_settle, Cond.selects RX5 yX5_settle yX5_settle, Cond.code yX5_settle cX5_settle 4 (some .int), Cond.methodLink RX2 73 yX4_changeLimit, Cond.instanceMethod yX4_changeLimit, Cond.selects RX4 yX4_changeLimit yX4_changeLimit, Cond.code yX4_changeLimit cX4_changeLimit 4 (some .int), Cond.fieldLink RX4 14 "Approvalyard$People" "limits" "LApprovalyard$Row;", Cond.methodLink RX4 33 yX6_at]
def wsL_version_r7 : List Cond := [Cond.methodLink RX4 37 yX6_put, Cond.methodLink RX2 76 yX4_sendOnLeave, Cond.instanceMethod yX4_sendOnLeave, Cond.selects RX4 yX4_sendOnLeave yX4_sendOnLeave, Cond.code yX4_sendOnLeave cX4_sendOnLeave 4 (some .int), Cond.fieldLink RX4 20 "Approvalyard$People" "delegates" "LApprovalyard$Row;", Cond.fieldLink RX4 23 "Approvalyard$People" "backs" "LApprovalyard$Row;", Cond.methodLink RX2 79 yX2_takeApproval, Cond.instanceMethod yX2_takeApproval, Cond.selects RX2 yX2_takeApproval yX2_takeApproval, Cond.code yX2_takeApproval cX2_takeApproval 5 (some .int), Cond.constant RX2 107 (2147483647), Cond.methodLink RX2 98 yX5_costOf, Cond.instanceMethod yX5_costOf, Cond.selects RX5 yX5_costOf yX5_costOf, Cond.code yX5_costOf cX5_costOf 2 (some .int), Cond.methodLink RX2 99 yX4_principalOf, Cond.instanceMethod yX4_principalOf, Cond.selects RX4 yX4_principalOf yX4_principalOf, Cond.code yX4_principalOf cX4_principalOf 4 (some .int), Cond.methodLink RX4 41 yX4_isAway, Cond.instanceMethod yX4_isAway, Cond.selects RX4 yX4_isAway yX4_isAway, Cond.code yX4_isAway cX4_isAway 2 (some .boolean)]
def wsL_version_r8 : List Cond := [Cond.methodLink RX2 108 yX4_backOf, Cond.instanceMethod yX4_backOf, Cond.selects RX4 yX4_backOf yX4_backOf, Cond.code yX4_backOf cX4_backOf 2 (some .int), Cond.methodLink RX2 111 yX5_addApproval, Cond.instanceMethod yX5_addApproval, Cond.selects RX5 yX5_addApproval yX5_addApproval, Cond.code yX5_addApproval cX5_addApproval 4 none, Cond.methodLink RX2 82 yX5_markReleased, Cond.instanceMethod yX5_markReleased, Cond.selects RX5 yX5_markReleased yX5_markReleased, Cond.code yX5_markReleased cX5_markReleased 2 (some .int), Cond.methodLink RX2 85 yX4_addDays, Cond.instanceMethod yX4_addDays, Cond.selects RX4 yX4_addDays yX4_addDays, Cond.code yX4_addDays cX4_addDays 2 (some .int)]
def wsL_version : List Cond := .codeWith yL_version cL_version 5 (some .int) [(0, 10, 13, 13), (0, 10, 17, 15), (0, 10, 21, 17)] :: ((wsL_version_r1 ++ (wsL_version_r2 ++ (wsL_version_r3 ++ (wsL_version_r4 ++ (wsL_version_r5 ++ (wsL_version_r6 ++ (wsL_version_r7 ++ wsL_version_r8))))))) ++ wsX80 ++ wsX20 ++ wsX30 ++ wsX60 ++ wsX00 ++ wsX40 ++ wsX50 ++ (vx_atS RX8 41 "java/lang/IllegalArgumentException" ["java/lang/RuntimeException", "java/lang/Exception"]).filter goodWord ++ (vx_atS RX8 58 "java/lang/IllegalStateException" ["java/lang/RuntimeException", "java/lang/Exception"]).filter goodWord ++ (vx_atS RX8 182 "java/lang/IndexOutOfBoundsException" ["java/lang/RuntimeException", "java/lang/Exception"]).filter goodWord)
def wsL_need_r1 : List Cond := [Cond.classLink RL 13 "java/lang/IndexOutOfBoundsException", Cond.classLink RL 15 "java/lang/IllegalArgumentException", Cond.classLink RL 17 "java/lang/IllegalStateException", Cond.methodLink RL 19 yX8_need, Cond.instanceMethod yX8_need, Cond.selects RX8 yX8_need yX8_need, Cond.initialized RX8, Cond.code yX8_need cX8_need 6 (some .int), Cond.classLink RX8 37 "java/lang/IllegalArgumentException", Cond.initialized "java/lang/IllegalArgumentException", Cond.classLink RX8 54 "java/lang/IllegalStateException", Cond.initialized "java/lang/IllegalStateException", Cond.fieldLink RX8 19 "Approvalyard" "desk" "LApprovalyard$Desk;", Cond.fieldLink RX8 44 "Approvalyard$Desk" "parts" "LApprovalyard$Parts;", Cond.fieldLink RX8 10 "Approvalyard" "book" "LApprovalyard$Book;", Cond.methodLink RX8 33 yX8_checkPart, Cond.static yX8_checkPart, Cond.code yX8_checkPart cX8_checkPart 1 none, Cond.classLink RX8 178 "java/lang/IndexOutOfBoundsException", Cond.initialized "java/lang/IndexOutOfBoundsException", Cond.methodLink RX8 63 yX8_checkVersion, Cond.instanceMethod yX8_checkVersion, Cond.selects RX8 yX8_checkVersion yX8_checkVersion, Cond.code yX8_checkVersion cX8_checkVersion 3 none]
def wsL_need_r2 : List Cond := [Cond.methodLink RX8 48 yX3_countOf, Cond.instanceMethod yX3_countOf, Cond.selects RX3 yX3_countOf yX3_countOf, Cond.initialized RX3, Cond.code yX3_countOf cX3_countOf 2 (some .int), Cond.fieldLink RX3 14 "Approvalyard$Parts" "counts" "LApprovalyard$Row;", Cond.methodLink RX3 38 yX6_at, Cond.instanceMethod yX6_at, Cond.selects RX6 yX6_at yX6_at, Cond.initialized RX6, Cond.code yX6_at cX6_at 2 (some .int), Cond.fieldLink RX6 7 "Approvalyard$Row" "cells" "[I", Cond.methodLink RX8 69 yX8_checkLeast, Cond.static yX8_checkLeast, Cond.code yX8_checkLeast cX8_checkLeast 1 none, Cond.methodLink RX8 74 yX3_needsOf, Cond.instanceMethod yX3_needsOf, Cond.selects RX3 yX3_needsOf yX3_needsOf, Cond.code yX3_needsOf cX3_needsOf 3 (some .int), Cond.fieldLink RX3 26 "Approvalyard$Parts" "needCounts" "LApprovalyard$Row;", Cond.methodLink RX3 42 yX3_placeOf, Cond.static yX3_placeOf, Cond.code yX3_placeOf cX3_placeOf 2 (some .int), Cond.methodLink RX8 80 yX0_write]
def wsL_need_r3 : List Cond := [Cond.instanceMethod yX0_write, Cond.selects RX0 yX0_write yX0_write, Cond.initialized RX0, Cond.code yX0_write cX0_write 8 (some .int), Cond.fieldLink RX0 20 "Approvalyard$Book" "number" "I", Cond.fieldLink RX0 16 "Approvalyard$Book" "words" "LApprovalyard$Row;", Cond.methodLink RX0 24 yX6_put, Cond.instanceMethod yX6_put, Cond.selects RX6 yX6_put yX6_put, Cond.code yX6_put cX6_put 3 none, Cond.methodLink RX8 84 yX2_apply, Cond.instanceMethod yX2_apply, Cond.selects RX2 yX2_apply yX2_apply, Cond.initialized RX2, Cond.code yX2_apply cX2_apply 6 (some .int), Cond.fieldLink RX2 12 "Approvalyard$Desk" "parts" "LApprovalyard$Parts;", Cond.fieldLink RX2 28 "Approvalyard$Desk" "requests" "LApprovalyard$Requests;", Cond.fieldLink RX2 21 "Approvalyard$Desk" "people" "LApprovalyard$People;", Cond.methodLink RX2 38 yX0_wordOf, Cond.instanceMethod yX0_wordOf, Cond.selects RX0 yX0_wordOf yX0_wordOf, Cond.code yX0_wordOf cX0_wordOf 3 (some .int), Cond.methodLink RX0 28 yX6_at, Cond.methodLink RX2 44 yX3_addVersion]
def wsL_need_r4 : List Cond := [Cond.instanceMethod yX3_addVersion, Cond.selects RX3 yX3_addVersion yX3_addVersion, Cond.code yX3_addVersion cX3_addVersion 5 (some .int), Cond.fieldLink RX3 20 "Approvalyard$Parts" "costs" "LApprovalyard$Row;", Cond.fieldLink RX3 23 "Approvalyard$Parts" "replaced" "LApprovalyard$Row;", Cond.methodLink RX3 46 yX6_put, Cond.methodLink RX2 47 yX3_addNeed, Cond.instanceMethod yX3_addNeed, Cond.selects RX3 yX3_addNeed yX3_addNeed, Cond.code yX3_addNeed cX3_addNeed 8 (some .int), Cond.fieldLink RX3 29 "Approvalyard$Parts" "needParts" "LApprovalyard$Row;", Cond.fieldLink RX3 32 "Approvalyard$Parts" "needVersions" "LApprovalyard$Row;", Cond.methodLink RX3 50 yX3_versionSet, Cond.static yX3_versionSet, Cond.code yX3_versionSet cX3_versionSet 2 (some .int), Cond.methodLink RX2 51 yX3_markReplaced, Cond.instanceMethod yX3_markReplaced, Cond.selects RX3 yX3_markReplaced yX3_markReplaced, Cond.code yX3_markReplaced cX3_markReplaced 3 none, Cond.methodLink RX2 55 yX4_today, Cond.instanceMethod yX4_today, Cond.selects RX4 yX4_today yX4_today, Cond.initialized RX4, Cond.code yX4_today cX4_today 1 (some .int)]
def wsL_need_r5 : List Cond := [Cond.fieldLink RX4 29 "Approvalyard$People" "day" "I", Cond.methodLink RX2 59 yX5_loseVersion, Cond.instanceMethod yX5_loseVersion, Cond.selects RX5 yX5_loseVersion yX5_loseVersion, Cond.initialized RX5, Cond.code yX5_loseVersion cX5_loseVersion 6 (some .int), Cond.fieldLink RX5 38 "Approvalyard$Requests" "number" "I", Cond.fieldLink RX5 29 "Approvalyard$Requests" "choices" "LApprovalyard$Row;", Cond.fieldLink RX5 26 "Approvalyard$Requests" "states" "LApprovalyard$Row;", Cond.methodLink RX5 52 yX6_at, Cond.methodLink RX5 60 yX1_versionOf, Cond.static yX1_versionOf, Cond.initialized RX1, Cond.code yX1_versionOf cX1_versionOf 2 (some .int), Cond.methodLink RX5 66 yX5_approvalsOf, Cond.instanceMethod yX5_approvalsOf, Cond.selects RX5 yX5_approvalsOf yX5_approvalsOf, Cond.code yX5_approvalsOf cX5_approvalsOf 5 (some .int), Cond.methodLink RX5 56 yX5_hasApproval, Cond.instanceMethod yX5_hasApproval, Cond.selects RX5 yX5_hasApproval yX5_hasApproval, Cond.code yX5_hasApproval cX5_hasApproval 4 (some .boolean), Cond.fieldLink RX5 35 "Approvalyard$Requests" "ends" "LApprovalyard$Row;", Cond.methodLink RX5 49 yX5_endApprovals]
def wsL_need_r6 : List Cond := [Cond.instanceMethod yX5_endApprovals, Cond.selects RX5 yX5_endApprovals yX5_endApprovals, Cond.code yX5_endApprovals cX5_endApprovals 3 none, Cond.methodLink RX5 42 yX6_put, Cond.methodLink RX5 46 yX5_reopen, Cond.instanceMethod yX5_reopen, Cond.selects RX5 yX5_reopen yX5_reopen, Cond.code yX5_reopen cX5_reopen 2 none, Cond.fieldLink RX5 32 "Approvalyard$Requests" "costs" "LApprovalyard$Row;", Cond.methodLink RX2 63 yX5_add, Cond.instanceMethod yX5_add, Cond.selects RX5 yX5_add yX5_add, Cond.code yX5_add cX5_add 5 (some .int), Cond.fieldLink RX5 14 "Approvalyard$Requests" "people" "LApprovalyard$Row;", Cond.fieldLink RX5 20 "Approvalyard$Requests" "parts" "LApprovalyard$Row;", Cond.fieldLink RX5 23 "Approvalyard$Requests" "leasts" "LApprovalyard$Row;", Cond.methodLink RX2 66 yX3_costOf, Cond.instanceMethod yX3_costOf, Cond.selects RX3 yX3_costOf yX3_costOf, Cond.code yX3_costOf cX3_costOf 5 (some .int), Cond.methodLink RX3 57 yX1_versionOf, Cond.methodLink RX2 70 yX5_settle, Cond.instanceMethod yX5_settle, Cond.selects RX5 yX5_settle yX5_settle]
def wsL_need_r7 : List Cond := [Cond.code yX5_settle cX5_settle 4 (some .int), Cond.methodLink RX2 73 yX4_changeLimit, Cond.instanceMethod yX4_changeLimit, Cond.selects RX4 yX4_changeLimit yX4_changeLimit, Cond.code yX4_changeLimit cX4_changeLimit 4 (some .int), Cond.fieldLink RX4 14 "Approvalyard$People" "limits" "LApprovalyard$Row;", Cond.methodLink RX4 33 yX6_at, Cond.methodLink RX4 37 yX6_put, Cond.methodLink RX2 76 yX4_sendOnLeave, Cond.instanceMethod yX4_sendOnLeave, Cond.selects RX4 yX4_sendOnLeave yX4_sendOnLeave, Cond.code yX4_sendOnLeave cX4_sendOnLeave 4 (some .int), Cond.fieldLink RX4 20 "Approvalyard$People" "delegates" "LApprovalyard$Row;", Cond.fieldLink RX4 23 "Approvalyard$People" "backs" "LApprovalyard$Row;", Cond.methodLink RX2 79 yX2_takeApproval, Cond.instanceMethod yX2_takeApproval, Cond.selects RX2 yX2_takeApproval yX2_takeApproval, Cond.code yX2_takeApproval cX2_takeApproval 5 (some .int), Cond.constant RX2 107 (2147483647), Cond.methodLink RX2 98 yX5_costOf, Cond.instanceMethod yX5_costOf, Cond.selects RX5 yX5_costOf yX5_costOf, Cond.code yX5_costOf cX5_costOf 2 (some .int), Cond.methodLink RX2 99 yX4_principalOf]
def wsL_need_r8 : List Cond := [Cond.instanceMethod yX4_principalOf, Cond.selects RX4 yX4_principalOf yX4_principalOf, Cond.code yX4_principalOf cX4_principalOf 4 (some .int), Cond.methodLink RX4 41 yX4_isAway, Cond.instanceMethod yX4_isAway, Cond.selects RX4 yX4_isAway yX4_isAway, Cond.code yX4_isAway cX4_isAway 2 (some .boolean), Cond.methodLink RX2 108 yX4_backOf, Cond.instanceMethod yX4_backOf, Cond.selects RX4 yX4_backOf yX4_backOf, Cond.code yX4_backOf cX4_backOf 2 (some .int), Cond.methodLink RX2 111 yX5_addApproval, Cond.instanceMethod yX5_addApproval, Cond.selects RX5 yX5_addApproval yX5_addApproval, Cond.code yX5_addApproval cX5_addApproval 4 none, Cond.methodLink RX2 82 yX5_markReleased, Cond.instanceMethod yX5_markReleased, Cond.selects RX5 yX5_markReleased yX5_markReleased, Cond.code yX5_markReleased cX5_markReleased 2 (some .int), Cond.methodLink RX2 85 yX4_addDays, Cond.instanceMethod yX4_addDays, Cond.selects RX4 yX4_addDays yX4_addDays, Cond.code yX4_addDays cX4_addDays 2 (some .int)]
def wsL_need : List Cond := .codeWith yL_need cL_need 8 (some .int) [(0, 16, 19, 13), (0, 16, 23, 15), (0, 16, 27, 17)] :: ((wsL_need_r1 ++ (wsL_need_r2 ++ (wsL_need_r3 ++ (wsL_need_r4 ++ (wsL_need_r5 ++ (wsL_need_r6 ++ (wsL_need_r7 ++ wsL_need_r8))))))) ++ wsX80 ++ wsX20 ++ wsX30 ++ wsX60 ++ wsX00 ++ wsX40 ++ wsX50 ++ (vx_atS RX8 41 "java/lang/IllegalArgumentException" ["java/lang/RuntimeException", "java/lang/Exception"]).filter goodWord ++ (vx_atS RX8 58 "java/lang/IllegalStateException" ["java/lang/RuntimeException", "java/lang/Exception"]).filter goodWord ++ (vx_atS RX8 182 "java/lang/IndexOutOfBoundsException" ["java/lang/RuntimeException", "java/lang/Exception"]).filter goodWord)
def wsL_replace_r1 : List Cond := [Cond.classLink RL 13 "java/lang/IndexOutOfBoundsException", Cond.classLink RL 17 "java/lang/IllegalStateException", Cond.methodLink RL 23 yX8_replace, Cond.instanceMethod yX8_replace, Cond.selects RX8 yX8_replace yX8_replace, Cond.initialized RX8, Cond.code yX8_replace cX8_replace 3 (some .int), Cond.classLink RX8 54 "java/lang/IllegalStateException", Cond.initialized "java/lang/IllegalStateException", Cond.fieldLink RX8 19 "Approvalyard" "desk" "LApprovalyard$Desk;", Cond.fieldLink RX8 44 "Approvalyard$Desk" "parts" "LApprovalyard$Parts;", Cond.methodLink RX8 33 yX8_checkPart, Cond.static yX8_checkPart, Cond.code yX8_checkPart cX8_checkPart 1 none, Cond.classLink RX8 178 "java/lang/IndexOutOfBoundsException", Cond.initialized "java/lang/IndexOutOfBoundsException", Cond.methodLink RX8 63 yX8_checkVersion, Cond.instanceMethod yX8_checkVersion, Cond.selects RX8 yX8_checkVersion yX8_checkVersion, Cond.code yX8_checkVersion cX8_checkVersion 3 none, Cond.methodLink RX8 48 yX3_countOf, Cond.instanceMethod yX3_countOf, Cond.selects RX3 yX3_countOf yX3_countOf, Cond.initialized RX3]
def wsL_replace_r2 : List Cond := [Cond.code yX3_countOf cX3_countOf 2 (some .int), Cond.fieldLink RX3 14 "Approvalyard$Parts" "counts" "LApprovalyard$Row;", Cond.methodLink RX3 38 yX6_at, Cond.instanceMethod yX6_at, Cond.selects RX6 yX6_at yX6_at, Cond.initialized RX6, Cond.code yX6_at cX6_at 2 (some .int), Cond.fieldLink RX6 7 "Approvalyard$Row" "cells" "[I", Cond.methodLink RX8 88 yX3_isReplaced, Cond.instanceMethod yX3_isReplaced, Cond.selects RX3 yX3_isReplaced yX3_isReplaced, Cond.code yX3_isReplaced cX3_isReplaced 3 (some .boolean), Cond.fieldLink RX3 23 "Approvalyard$Parts" "replaced" "LApprovalyard$Row;", Cond.methodLink RX3 42 yX3_placeOf, Cond.static yX3_placeOf, Cond.code yX3_placeOf cX3_placeOf 2 (some .int), Cond.methodLink RX8 59 yX8_tell, Cond.instanceMethod yX8_tell, Cond.selects RX8 yX8_tell yX8_tell, Cond.code yX8_tell cX8_tell 5 (some .int), Cond.fieldLink RX8 10 "Approvalyard" "book" "LApprovalyard$Book;", Cond.methodLink RX8 80 yX0_write, Cond.instanceMethod yX0_write, Cond.selects RX0 yX0_write yX0_write]
def wsL_replace_r3 : List Cond := [Cond.initialized RX0, Cond.code yX0_write cX0_write 8 (some .int), Cond.fieldLink RX0 20 "Approvalyard$Book" "number" "I", Cond.fieldLink RX0 16 "Approvalyard$Book" "words" "LApprovalyard$Row;", Cond.methodLink RX0 24 yX6_put, Cond.instanceMethod yX6_put, Cond.selects RX6 yX6_put yX6_put, Cond.code yX6_put cX6_put 3 none, Cond.methodLink RX8 84 yX2_apply, Cond.instanceMethod yX2_apply, Cond.selects RX2 yX2_apply yX2_apply, Cond.initialized RX2, Cond.code yX2_apply cX2_apply 6 (some .int), Cond.fieldLink RX2 12 "Approvalyard$Desk" "parts" "LApprovalyard$Parts;", Cond.fieldLink RX2 28 "Approvalyard$Desk" "requests" "LApprovalyard$Requests;", Cond.fieldLink RX2 21 "Approvalyard$Desk" "people" "LApprovalyard$People;", Cond.methodLink RX2 38 yX0_wordOf, Cond.instanceMethod yX0_wordOf, Cond.selects RX0 yX0_wordOf yX0_wordOf, Cond.code yX0_wordOf cX0_wordOf 3 (some .int), Cond.methodLink RX0 28 yX6_at, Cond.methodLink RX2 44 yX3_addVersion, Cond.instanceMethod yX3_addVersion, Cond.selects RX3 yX3_addVersion yX3_addVersion]
def wsL_replace_r4 : List Cond := [Cond.code yX3_addVersion cX3_addVersion 5 (some .int), Cond.fieldLink RX3 20 "Approvalyard$Parts" "costs" "LApprovalyard$Row;", Cond.fieldLink RX3 26 "Approvalyard$Parts" "needCounts" "LApprovalyard$Row;", Cond.methodLink RX3 46 yX6_put, Cond.methodLink RX2 47 yX3_addNeed, Cond.instanceMethod yX3_addNeed, Cond.selects RX3 yX3_addNeed yX3_addNeed, Cond.code yX3_addNeed cX3_addNeed 8 (some .int), Cond.fieldLink RX3 29 "Approvalyard$Parts" "needParts" "LApprovalyard$Row;", Cond.fieldLink RX3 32 "Approvalyard$Parts" "needVersions" "LApprovalyard$Row;", Cond.methodLink RX3 50 yX3_versionSet, Cond.static yX3_versionSet, Cond.code yX3_versionSet cX3_versionSet 2 (some .int), Cond.methodLink RX2 51 yX3_markReplaced, Cond.instanceMethod yX3_markReplaced, Cond.selects RX3 yX3_markReplaced yX3_markReplaced, Cond.code yX3_markReplaced cX3_markReplaced 3 none, Cond.methodLink RX2 55 yX4_today, Cond.instanceMethod yX4_today, Cond.selects RX4 yX4_today yX4_today, Cond.initialized RX4, Cond.code yX4_today cX4_today 1 (some .int), Cond.fieldLink RX4 29 "Approvalyard$People" "day" "I", Cond.methodLink RX2 59 yX5_loseVersion]
def wsL_replace_r5 : List Cond := [Cond.instanceMethod yX5_loseVersion, Cond.selects RX5 yX5_loseVersion yX5_loseVersion, Cond.initialized RX5, Cond.code yX5_loseVersion cX5_loseVersion 6 (some .int), Cond.fieldLink RX5 38 "Approvalyard$Requests" "number" "I", Cond.fieldLink RX5 29 "Approvalyard$Requests" "choices" "LApprovalyard$Row;", Cond.fieldLink RX5 26 "Approvalyard$Requests" "states" "LApprovalyard$Row;", Cond.methodLink RX5 52 yX6_at, Cond.methodLink RX5 60 yX1_versionOf, Cond.static yX1_versionOf, Cond.initialized RX1, Cond.code yX1_versionOf cX1_versionOf 2 (some .int), Cond.methodLink RX5 66 yX5_approvalsOf, Cond.instanceMethod yX5_approvalsOf, Cond.selects RX5 yX5_approvalsOf yX5_approvalsOf, Cond.code yX5_approvalsOf cX5_approvalsOf 5 (some .int), Cond.methodLink RX5 56 yX5_hasApproval, Cond.instanceMethod yX5_hasApproval, Cond.selects RX5 yX5_hasApproval yX5_hasApproval, Cond.code yX5_hasApproval cX5_hasApproval 4 (some .boolean), Cond.fieldLink RX5 35 "Approvalyard$Requests" "ends" "LApprovalyard$Row;", Cond.methodLink RX5 49 yX5_endApprovals, Cond.instanceMethod yX5_endApprovals, Cond.selects RX5 yX5_endApprovals yX5_endApprovals]
def wsL_replace_r6 : List Cond := [Cond.code yX5_endApprovals cX5_endApprovals 3 none, Cond.methodLink RX5 42 yX6_put, Cond.methodLink RX5 46 yX5_reopen, Cond.instanceMethod yX5_reopen, Cond.selects RX5 yX5_reopen yX5_reopen, Cond.code yX5_reopen cX5_reopen 2 none, Cond.fieldLink RX5 32 "Approvalyard$Requests" "costs" "LApprovalyard$Row;", Cond.methodLink RX2 63 yX5_add, Cond.instanceMethod yX5_add, Cond.selects RX5 yX5_add yX5_add, Cond.code yX5_add cX5_add 5 (some .int), Cond.fieldLink RX5 14 "Approvalyard$Requests" "people" "LApprovalyard$Row;", Cond.fieldLink RX5 20 "Approvalyard$Requests" "parts" "LApprovalyard$Row;", Cond.fieldLink RX5 23 "Approvalyard$Requests" "leasts" "LApprovalyard$Row;", Cond.methodLink RX2 66 yX3_costOf, Cond.instanceMethod yX3_costOf, Cond.selects RX3 yX3_costOf yX3_costOf, Cond.code yX3_costOf cX3_costOf 5 (some .int), Cond.methodLink RX3 57 yX1_versionOf, Cond.methodLink RX2 70 yX5_settle, Cond.instanceMethod yX5_settle, Cond.selects RX5 yX5_settle yX5_settle, Cond.code yX5_settle cX5_settle 4 (some .int), Cond.methodLink RX2 73 yX4_changeLimit]
def wsL_replace_r7 : List Cond := [Cond.instanceMethod yX4_changeLimit, Cond.selects RX4 yX4_changeLimit yX4_changeLimit, Cond.code yX4_changeLimit cX4_changeLimit 4 (some .int), Cond.fieldLink RX4 14 "Approvalyard$People" "limits" "LApprovalyard$Row;", Cond.methodLink RX4 33 yX6_at, Cond.methodLink RX4 37 yX6_put, Cond.methodLink RX2 76 yX4_sendOnLeave, Cond.instanceMethod yX4_sendOnLeave, Cond.selects RX4 yX4_sendOnLeave yX4_sendOnLeave, Cond.code yX4_sendOnLeave cX4_sendOnLeave 4 (some .int), Cond.fieldLink RX4 20 "Approvalyard$People" "delegates" "LApprovalyard$Row;", Cond.fieldLink RX4 23 "Approvalyard$People" "backs" "LApprovalyard$Row;", Cond.methodLink RX2 79 yX2_takeApproval, Cond.instanceMethod yX2_takeApproval, Cond.selects RX2 yX2_takeApproval yX2_takeApproval, Cond.code yX2_takeApproval cX2_takeApproval 5 (some .int), Cond.constant RX2 107 (2147483647), Cond.methodLink RX2 98 yX5_costOf, Cond.instanceMethod yX5_costOf, Cond.selects RX5 yX5_costOf yX5_costOf, Cond.code yX5_costOf cX5_costOf 2 (some .int), Cond.methodLink RX2 99 yX4_principalOf, Cond.instanceMethod yX4_principalOf, Cond.selects RX4 yX4_principalOf yX4_principalOf]
def wsL_replace_r8 : List Cond := [Cond.code yX4_principalOf cX4_principalOf 4 (some .int), Cond.methodLink RX4 41 yX4_isAway, Cond.instanceMethod yX4_isAway, Cond.selects RX4 yX4_isAway yX4_isAway, Cond.code yX4_isAway cX4_isAway 2 (some .boolean), Cond.methodLink RX2 108 yX4_backOf, Cond.instanceMethod yX4_backOf, Cond.selects RX4 yX4_backOf yX4_backOf, Cond.code yX4_backOf cX4_backOf 2 (some .int), Cond.methodLink RX2 111 yX5_addApproval, Cond.instanceMethod yX5_addApproval, Cond.selects RX5 yX5_addApproval yX5_addApproval, Cond.code yX5_addApproval cX5_addApproval 4 none, Cond.methodLink RX2 82 yX5_markReleased, Cond.instanceMethod yX5_markReleased, Cond.selects RX5 yX5_markReleased yX5_markReleased, Cond.code yX5_markReleased cX5_markReleased 2 (some .int), Cond.methodLink RX2 85 yX4_addDays, Cond.instanceMethod yX4_addDays, Cond.selects RX4 yX4_addDays yX4_addDays, Cond.code yX4_addDays cX4_addDays 2 (some .int)]
def wsL_replace : List Cond := .codeWith yL_replace cL_replace 5 (some .int) [(0, 10, 13, 13), (0, 10, 17, 17)] :: ((wsL_replace_r1 ++ (wsL_replace_r2 ++ (wsL_replace_r3 ++ (wsL_replace_r4 ++ (wsL_replace_r5 ++ (wsL_replace_r6 ++ (wsL_replace_r7 ++ wsL_replace_r8))))))) ++ wsX80 ++ wsX20 ++ wsX30 ++ wsX60 ++ wsX00 ++ wsX40 ++ wsX50 ++ (vx_atS RX8 58 "java/lang/IllegalStateException" ["java/lang/RuntimeException", "java/lang/Exception"]).filter goodWord ++ (vx_atS RX8 182 "java/lang/IndexOutOfBoundsException" ["java/lang/RuntimeException", "java/lang/Exception"]).filter goodWord)
def wsL_request_r1 : List Cond := [Cond.classLink RL 13 "java/lang/IndexOutOfBoundsException", Cond.classLink RL 15 "java/lang/IllegalArgumentException", Cond.classLink RL 17 "java/lang/IllegalStateException", Cond.methodLink RL 26 yX8_request, Cond.instanceMethod yX8_request, Cond.selects RX8 yX8_request yX8_request, Cond.initialized RX8, Cond.code yX8_request cX8_request 4 (some .int), Cond.classLink RX8 54 "java/lang/IllegalStateException", Cond.initialized "java/lang/IllegalStateException", Cond.fieldLink RX8 19 "Approvalyard" "desk" "LApprovalyard$Desk;", Cond.fieldLink RX8 97 "Approvalyard$Desk" "requests" "LApprovalyard$Requests;", Cond.methodLink RX8 94 yX8_checkPerson, Cond.static yX8_checkPerson, Cond.code yX8_checkPerson cX8_checkPerson 1 none, Cond.classLink RX8 178 "java/lang/IndexOutOfBoundsException", Cond.initialized "java/lang/IndexOutOfBoundsException", Cond.methodLink RX8 33 yX8_checkPart, Cond.static yX8_checkPart, Cond.code yX8_checkPart cX8_checkPart 1 none, Cond.methodLink RX8 69 yX8_checkLeast, Cond.static yX8_checkLeast, Cond.code yX8_checkLeast cX8_checkLeast 1 none, Cond.classLink RX8 37 "java/lang/IllegalArgumentException"]
def wsL_request_r2 : List Cond := [Cond.initialized "java/lang/IllegalArgumentException", Cond.methodLink RX8 101 yX5_count, Cond.instanceMethod yX5_count, Cond.selects RX5 yX5_count yX5_count, Cond.initialized RX5, Cond.code yX5_count cX5_count 1 (some .int), Cond.fieldLink RX5 38 "Approvalyard$Requests" "number" "I", Cond.methodLink RX8 59 yX8_tell, Cond.instanceMethod yX8_tell, Cond.selects RX8 yX8_tell yX8_tell, Cond.code yX8_tell cX8_tell 5 (some .int), Cond.fieldLink RX8 10 "Approvalyard" "book" "LApprovalyard$Book;", Cond.methodLink RX8 80 yX0_write, Cond.instanceMethod yX0_write, Cond.selects RX0 yX0_write yX0_write, Cond.initialized RX0, Cond.code yX0_write cX0_write 8 (some .int), Cond.fieldLink RX0 20 "Approvalyard$Book" "number" "I", Cond.fieldLink RX0 16 "Approvalyard$Book" "words" "LApprovalyard$Row;", Cond.methodLink RX0 24 yX6_put, Cond.instanceMethod yX6_put, Cond.selects RX6 yX6_put yX6_put, Cond.initialized RX6, Cond.code yX6_put cX6_put 3 none]
def wsL_request_r3 : List Cond := [Cond.fieldLink RX6 7 "Approvalyard$Row" "cells" "[I", Cond.methodLink RX8 84 yX2_apply, Cond.instanceMethod yX2_apply, Cond.selects RX2 yX2_apply yX2_apply, Cond.initialized RX2, Cond.code yX2_apply cX2_apply 6 (some .int), Cond.fieldLink RX2 12 "Approvalyard$Desk" "parts" "LApprovalyard$Parts;", Cond.fieldLink RX2 28 "Approvalyard$Desk" "requests" "LApprovalyard$Requests;", Cond.fieldLink RX2 21 "Approvalyard$Desk" "people" "LApprovalyard$People;", Cond.methodLink RX2 38 yX0_wordOf, Cond.instanceMethod yX0_wordOf, Cond.selects RX0 yX0_wordOf yX0_wordOf, Cond.code yX0_wordOf cX0_wordOf 3 (some .int), Cond.methodLink RX0 28 yX6_at, Cond.instanceMethod yX6_at, Cond.selects RX6 yX6_at yX6_at, Cond.code yX6_at cX6_at 2 (some .int), Cond.methodLink RX2 44 yX3_addVersion, Cond.instanceMethod yX3_addVersion, Cond.selects RX3 yX3_addVersion yX3_addVersion, Cond.initialized RX3, Cond.code yX3_addVersion cX3_addVersion 5 (some .int), Cond.fieldLink RX3 14 "Approvalyard$Parts" "counts" "LApprovalyard$Row;", Cond.fieldLink RX3 20 "Approvalyard$Parts" "costs" "LApprovalyard$Row;"]
def wsL_request_r4 : List Cond := [Cond.fieldLink RX3 23 "Approvalyard$Parts" "replaced" "LApprovalyard$Row;", Cond.fieldLink RX3 26 "Approvalyard$Parts" "needCounts" "LApprovalyard$Row;", Cond.methodLink RX3 38 yX6_at, Cond.methodLink RX3 42 yX3_placeOf, Cond.static yX3_placeOf, Cond.code yX3_placeOf cX3_placeOf 2 (some .int), Cond.methodLink RX3 46 yX6_put, Cond.methodLink RX2 47 yX3_addNeed, Cond.instanceMethod yX3_addNeed, Cond.selects RX3 yX3_addNeed yX3_addNeed, Cond.code yX3_addNeed cX3_addNeed 8 (some .int), Cond.fieldLink RX3 29 "Approvalyard$Parts" "needParts" "LApprovalyard$Row;", Cond.fieldLink RX3 32 "Approvalyard$Parts" "needVersions" "LApprovalyard$Row;", Cond.methodLink RX3 50 yX3_versionSet, Cond.static yX3_versionSet, Cond.code yX3_versionSet cX3_versionSet 2 (some .int), Cond.methodLink RX2 51 yX3_markReplaced, Cond.instanceMethod yX3_markReplaced, Cond.selects RX3 yX3_markReplaced yX3_markReplaced, Cond.code yX3_markReplaced cX3_markReplaced 3 none, Cond.methodLink RX2 55 yX4_today, Cond.instanceMethod yX4_today, Cond.selects RX4 yX4_today yX4_today, Cond.initialized RX4]
def wsL_request_r5 : List Cond := [Cond.code yX4_today cX4_today 1 (some .int), Cond.fieldLink RX4 29 "Approvalyard$People" "day" "I", Cond.methodLink RX2 59 yX5_loseVersion, Cond.instanceMethod yX5_loseVersion, Cond.selects RX5 yX5_loseVersion yX5_loseVersion, Cond.code yX5_loseVersion cX5_loseVersion 6 (some .int), Cond.fieldLink RX5 29 "Approvalyard$Requests" "choices" "LApprovalyard$Row;", Cond.fieldLink RX5 26 "Approvalyard$Requests" "states" "LApprovalyard$Row;", Cond.methodLink RX5 52 yX6_at, Cond.methodLink RX5 60 yX1_versionOf, Cond.static yX1_versionOf, Cond.initialized RX1, Cond.code yX1_versionOf cX1_versionOf 2 (some .int), Cond.methodLink RX5 66 yX5_approvalsOf, Cond.instanceMethod yX5_approvalsOf, Cond.selects RX5 yX5_approvalsOf yX5_approvalsOf, Cond.code yX5_approvalsOf cX5_approvalsOf 5 (some .int), Cond.methodLink RX5 56 yX5_hasApproval, Cond.instanceMethod yX5_hasApproval, Cond.selects RX5 yX5_hasApproval yX5_hasApproval, Cond.code yX5_hasApproval cX5_hasApproval 4 (some .boolean), Cond.fieldLink RX5 35 "Approvalyard$Requests" "ends" "LApprovalyard$Row;", Cond.methodLink RX5 49 yX5_endApprovals, Cond.instanceMethod yX5_endApprovals]
def wsL_request_r6 : List Cond := [Cond.selects RX5 yX5_endApprovals yX5_endApprovals, Cond.code yX5_endApprovals cX5_endApprovals 3 none, Cond.methodLink RX5 42 yX6_put, Cond.methodLink RX5 46 yX5_reopen, Cond.instanceMethod yX5_reopen, Cond.selects RX5 yX5_reopen yX5_reopen, Cond.code yX5_reopen cX5_reopen 2 none, Cond.fieldLink RX5 32 "Approvalyard$Requests" "costs" "LApprovalyard$Row;", Cond.methodLink RX2 63 yX5_add, Cond.instanceMethod yX5_add, Cond.selects RX5 yX5_add yX5_add, Cond.code yX5_add cX5_add 5 (some .int), Cond.fieldLink RX5 14 "Approvalyard$Requests" "people" "LApprovalyard$Row;", Cond.fieldLink RX5 20 "Approvalyard$Requests" "parts" "LApprovalyard$Row;", Cond.fieldLink RX5 23 "Approvalyard$Requests" "leasts" "LApprovalyard$Row;", Cond.methodLink RX2 66 yX3_costOf, Cond.instanceMethod yX3_costOf, Cond.selects RX3 yX3_costOf yX3_costOf, Cond.code yX3_costOf cX3_costOf 5 (some .int), Cond.methodLink RX3 57 yX1_versionOf, Cond.methodLink RX2 70 yX5_settle, Cond.instanceMethod yX5_settle, Cond.selects RX5 yX5_settle yX5_settle, Cond.code yX5_settle cX5_settle 4 (some .int)]
def wsL_request_r7 : List Cond := [Cond.methodLink RX2 73 yX4_changeLimit, Cond.instanceMethod yX4_changeLimit, Cond.selects RX4 yX4_changeLimit yX4_changeLimit, Cond.code yX4_changeLimit cX4_changeLimit 4 (some .int), Cond.fieldLink RX4 14 "Approvalyard$People" "limits" "LApprovalyard$Row;", Cond.methodLink RX4 33 yX6_at, Cond.methodLink RX4 37 yX6_put, Cond.methodLink RX2 76 yX4_sendOnLeave, Cond.instanceMethod yX4_sendOnLeave, Cond.selects RX4 yX4_sendOnLeave yX4_sendOnLeave, Cond.code yX4_sendOnLeave cX4_sendOnLeave 4 (some .int), Cond.fieldLink RX4 20 "Approvalyard$People" "delegates" "LApprovalyard$Row;", Cond.fieldLink RX4 23 "Approvalyard$People" "backs" "LApprovalyard$Row;", Cond.methodLink RX2 79 yX2_takeApproval, Cond.instanceMethod yX2_takeApproval, Cond.selects RX2 yX2_takeApproval yX2_takeApproval, Cond.code yX2_takeApproval cX2_takeApproval 5 (some .int), Cond.constant RX2 107 (2147483647), Cond.methodLink RX2 98 yX5_costOf, Cond.instanceMethod yX5_costOf, Cond.selects RX5 yX5_costOf yX5_costOf, Cond.code yX5_costOf cX5_costOf 2 (some .int), Cond.methodLink RX2 99 yX4_principalOf, Cond.instanceMethod yX4_principalOf]
def wsL_request_r8 : List Cond := [Cond.selects RX4 yX4_principalOf yX4_principalOf, Cond.code yX4_principalOf cX4_principalOf 4 (some .int), Cond.methodLink RX4 41 yX4_isAway, Cond.instanceMethod yX4_isAway, Cond.selects RX4 yX4_isAway yX4_isAway, Cond.code yX4_isAway cX4_isAway 2 (some .boolean), Cond.methodLink RX2 108 yX4_backOf, Cond.instanceMethod yX4_backOf, Cond.selects RX4 yX4_backOf yX4_backOf, Cond.code yX4_backOf cX4_backOf 2 (some .int), Cond.methodLink RX2 111 yX5_addApproval, Cond.instanceMethod yX5_addApproval, Cond.selects RX5 yX5_addApproval yX5_addApproval, Cond.code yX5_addApproval cX5_addApproval 4 none, Cond.methodLink RX2 82 yX5_markReleased, Cond.instanceMethod yX5_markReleased, Cond.selects RX5 yX5_markReleased yX5_markReleased, Cond.code yX5_markReleased cX5_markReleased 2 (some .int), Cond.methodLink RX2 85 yX4_addDays, Cond.instanceMethod yX4_addDays, Cond.selects RX4 yX4_addDays yX4_addDays, Cond.code yX4_addDays cX4_addDays 2 (some .int)]
def wsL_request : List Cond := .codeWith yL_request cL_request 6 (some .int) [(0, 12, 15, 13), (0, 12, 19, 15), (0, 12, 23, 17)] :: ((wsL_request_r1 ++ (wsL_request_r2 ++ (wsL_request_r3 ++ (wsL_request_r4 ++ (wsL_request_r5 ++ (wsL_request_r6 ++ (wsL_request_r7 ++ wsL_request_r8))))))) ++ wsX80 ++ wsX20 ++ wsX50 ++ wsX00 ++ wsX60 ++ wsX30 ++ wsX40 ++ (vx_atS RX8 58 "java/lang/IllegalStateException" ["java/lang/RuntimeException", "java/lang/Exception"]).filter goodWord ++ (vx_atS RX8 182 "java/lang/IndexOutOfBoundsException" ["java/lang/RuntimeException", "java/lang/Exception"]).filter goodWord ++ (vx_atS RX8 41 "java/lang/IllegalArgumentException" ["java/lang/RuntimeException", "java/lang/Exception"]).filter goodWord)
def wsL_resolve_r1 : List Cond := [Cond.classLink RL 13 "java/lang/IndexOutOfBoundsException", Cond.classLink RL 17 "java/lang/IllegalStateException", Cond.methodLink RL 30 yX8_resolve, Cond.instanceMethod yX8_resolve, Cond.selects RX8 yX8_resolve yX8_resolve, Cond.initialized RX8, Cond.code yX8_resolve cX8_resolve 3 (some .int), Cond.classLink RX8 54 "java/lang/IllegalStateException", Cond.initialized "java/lang/IllegalStateException", Cond.fieldLink RX8 19 "Approvalyard" "desk" "LApprovalyard$Desk;", Cond.fieldLink RX8 97 "Approvalyard$Desk" "requests" "LApprovalyard$Requests;", Cond.fieldLink RX8 29 "Approvalyard" "search" "LApprovalyard$Search;", Cond.fieldLink RX8 44 "Approvalyard$Desk" "parts" "LApprovalyard$Parts;", Cond.methodLink RX8 109 yX8_checkRequest, Cond.instanceMethod yX8_checkRequest, Cond.selects RX8 yX8_checkRequest yX8_checkRequest, Cond.code yX8_checkRequest cX8_checkRequest 2 none, Cond.classLink RX8 178 "java/lang/IndexOutOfBoundsException", Cond.initialized "java/lang/IndexOutOfBoundsException", Cond.methodLink RX8 101 yX5_count, Cond.instanceMethod yX5_count, Cond.selects RX5 yX5_count yX5_count, Cond.initialized RX5, Cond.code yX5_count cX5_count 1 (some .int)]
def wsL_resolve_r2 : List Cond := [Cond.fieldLink RX5 38 "Approvalyard$Requests" "number" "I", Cond.methodLink RX8 112 yX5_stateOf, Cond.instanceMethod yX5_stateOf, Cond.selects RX5 yX5_stateOf yX5_stateOf, Cond.code yX5_stateOf cX5_stateOf 2 (some .int), Cond.fieldLink RX5 26 "Approvalyard$Requests" "states" "LApprovalyard$Row;", Cond.methodLink RX5 52 yX6_at, Cond.instanceMethod yX6_at, Cond.selects RX6 yX6_at yX6_at, Cond.initialized RX6, Cond.code yX6_at cX6_at 2 (some .int), Cond.fieldLink RX6 7 "Approvalyard$Row" "cells" "[I", Cond.methodLink RX8 117 yX5_partOf, Cond.instanceMethod yX5_partOf, Cond.selects RX5 yX5_partOf yX5_partOf, Cond.code yX5_partOf cX5_partOf 2 (some .int), Cond.fieldLink RX5 20 "Approvalyard$Requests" "parts" "LApprovalyard$Row;", Cond.methodLink RX8 120 yX5_leastOf, Cond.instanceMethod yX5_leastOf, Cond.selects RX5 yX5_leastOf yX5_leastOf, Cond.code yX5_leastOf cX5_leastOf 2 (some .int), Cond.fieldLink RX5 23 "Approvalyard$Requests" "leasts" "LApprovalyard$Row;", Cond.methodLink RX8 123 yX7_find, Cond.instanceMethod yX7_find]
def wsL_resolve_r3 : List Cond := [Cond.selects RX7 yX7_find yX7_find, Cond.initialized RX7, Cond.code yX7_find cX7_find 5 (some .int), Cond.fieldLink RX7 20 "Approvalyard$Search" "wanted" "LApprovalyard$Row;", Cond.fieldLink RX7 14 "Approvalyard$Search" "order" "LApprovalyard$Row;", Cond.fieldLink RX7 40 "Approvalyard$Search" "number" "I", Cond.fieldLink RX7 46 "Approvalyard$Search" "choice" "I", Cond.methodLink RX7 23 yX3_current, Cond.instanceMethod yX3_current, Cond.selects RX3 yX3_current yX3_current, Cond.initialized RX3, Cond.code yX3_current cX3_current 4 (some .int), Cond.fieldLink RX3 14 "Approvalyard$Parts" "counts" "LApprovalyard$Row;", Cond.methodLink RX3 38 yX6_at, Cond.methodLink RX3 53 yX3_isReplaced, Cond.instanceMethod yX3_isReplaced, Cond.selects RX3 yX3_isReplaced yX3_isReplaced, Cond.code yX3_isReplaced cX3_isReplaced 3 (some .boolean), Cond.fieldLink RX3 23 "Approvalyard$Parts" "replaced" "LApprovalyard$Row;", Cond.methodLink RX3 42 yX3_placeOf, Cond.static yX3_placeOf, Cond.code yX3_placeOf cX3_placeOf 2 (some .int), Cond.methodLink RX3 50 yX3_versionSet, Cond.static yX3_versionSet]
def wsL_resolve_r4 : List Cond := [Cond.code yX3_versionSet cX3_versionSet 2 (some .int), Cond.methodLink RX7 29 yX6_put, Cond.instanceMethod yX6_put, Cond.selects RX6 yX6_put yX6_put, Cond.code yX6_put cX6_put 3 none, Cond.methodLink RX7 33 yX6_at, Cond.methodLink RX7 36 yX3_versionSet, Cond.methodLink RX7 49 yX7_fill, Cond.instanceMethod yX7_fill, Cond.selects RX7 yX7_fill yX7_fill, Cond.code yX7_fill cX7_fill 8 (some .boolean), Cond.methodLink RX7 53 yX7_take, Cond.instanceMethod yX7_take, Cond.selects RX7 yX7_take yX7_take, Cond.code yX7_take cX7_take 10 (some .boolean), Cond.methodLink RX7 61 yX3_needsOf, Cond.instanceMethod yX3_needsOf, Cond.selects RX3 yX3_needsOf yX3_needsOf, Cond.code yX3_needsOf cX3_needsOf 3 (some .int), Cond.fieldLink RX3 26 "Approvalyard$Parts" "needCounts" "LApprovalyard$Row;", Cond.methodLink RX7 64 yX3_neededPart, Cond.instanceMethod yX3_neededPart, Cond.selects RX3 yX3_neededPart yX3_neededPart, Cond.code yX3_neededPart cX3_neededPart 4 (some .int)]
def wsL_resolve_r5 : List Cond := [Cond.fieldLink RX3 29 "Approvalyard$Parts" "needParts" "LApprovalyard$Row;", Cond.methodLink RX7 67 yX3_neededVersions, Cond.instanceMethod yX3_neededVersions, Cond.selects RX3 yX3_neededVersions yX3_neededVersions, Cond.code yX3_neededVersions cX3_neededVersions 4 (some .int), Cond.fieldLink RX3 32 "Approvalyard$Parts" "needVersions" "LApprovalyard$Row;", Cond.methodLink RX7 70 yX7_await, Cond.instanceMethod yX7_await, Cond.selects RX7 yX7_await yX7_await, Cond.code yX7_await cX7_await 3 none, Cond.methodLink RX7 57 yX1_with, Cond.static yX1_with, Cond.initialized RX1, Cond.code yX1_with cX1_with 3 (some .int), Cond.methodLink RX8 59 yX8_tell, Cond.instanceMethod yX8_tell, Cond.selects RX8 yX8_tell yX8_tell, Cond.code yX8_tell cX8_tell 5 (some .int), Cond.fieldLink RX8 10 "Approvalyard" "book" "LApprovalyard$Book;", Cond.methodLink RX8 80 yX0_write, Cond.instanceMethod yX0_write, Cond.selects RX0 yX0_write yX0_write, Cond.initialized RX0, Cond.code yX0_write cX0_write 8 (some .int)]
def wsL_resolve_r6 : List Cond := [Cond.fieldLink RX0 20 "Approvalyard$Book" "number" "I", Cond.fieldLink RX0 16 "Approvalyard$Book" "words" "LApprovalyard$Row;", Cond.methodLink RX0 24 yX6_put, Cond.methodLink RX8 84 yX2_apply, Cond.instanceMethod yX2_apply, Cond.selects RX2 yX2_apply yX2_apply, Cond.initialized RX2, Cond.code yX2_apply cX2_apply 6 (some .int), Cond.fieldLink RX2 12 "Approvalyard$Desk" "parts" "LApprovalyard$Parts;", Cond.fieldLink RX2 28 "Approvalyard$Desk" "requests" "LApprovalyard$Requests;", Cond.fieldLink RX2 21 "Approvalyard$Desk" "people" "LApprovalyard$People;", Cond.methodLink RX2 38 yX0_wordOf, Cond.instanceMethod yX0_wordOf, Cond.selects RX0 yX0_wordOf yX0_wordOf, Cond.code yX0_wordOf cX0_wordOf 3 (some .int), Cond.methodLink RX0 28 yX6_at, Cond.methodLink RX2 44 yX3_addVersion, Cond.instanceMethod yX3_addVersion, Cond.selects RX3 yX3_addVersion yX3_addVersion, Cond.code yX3_addVersion cX3_addVersion 5 (some .int), Cond.fieldLink RX3 20 "Approvalyard$Parts" "costs" "LApprovalyard$Row;", Cond.methodLink RX3 46 yX6_put, Cond.methodLink RX2 47 yX3_addNeed, Cond.instanceMethod yX3_addNeed]
def wsL_resolve_r7 : List Cond := [Cond.selects RX3 yX3_addNeed yX3_addNeed, Cond.code yX3_addNeed cX3_addNeed 8 (some .int), Cond.methodLink RX2 51 yX3_markReplaced, Cond.instanceMethod yX3_markReplaced, Cond.selects RX3 yX3_markReplaced yX3_markReplaced, Cond.code yX3_markReplaced cX3_markReplaced 3 none, Cond.methodLink RX2 55 yX4_today, Cond.instanceMethod yX4_today, Cond.selects RX4 yX4_today yX4_today, Cond.initialized RX4, Cond.code yX4_today cX4_today 1 (some .int), Cond.fieldLink RX4 29 "Approvalyard$People" "day" "I", Cond.methodLink RX2 59 yX5_loseVersion, Cond.instanceMethod yX5_loseVersion, Cond.selects RX5 yX5_loseVersion yX5_loseVersion, Cond.code yX5_loseVersion cX5_loseVersion 6 (some .int), Cond.fieldLink RX5 29 "Approvalyard$Requests" "choices" "LApprovalyard$Row;", Cond.methodLink RX5 60 yX1_versionOf, Cond.static yX1_versionOf, Cond.code yX1_versionOf cX1_versionOf 2 (some .int), Cond.methodLink RX5 66 yX5_approvalsOf, Cond.instanceMethod yX5_approvalsOf, Cond.selects RX5 yX5_approvalsOf yX5_approvalsOf, Cond.code yX5_approvalsOf cX5_approvalsOf 5 (some .int)]
def wsL_resolve_r8 : List Cond := [Cond.methodLink RX5 56 yX5_hasApproval, Cond.instanceMethod yX5_hasApproval, Cond.selects RX5 yX5_hasApproval yX5_hasApproval, Cond.code yX5_hasApproval cX5_hasApproval 4 (some .boolean), Cond.fieldLink RX5 35 "Approvalyard$Requests" "ends" "LApprovalyard$Row;", Cond.methodLink RX5 49 yX5_endApprovals, Cond.instanceMethod yX5_endApprovals, Cond.selects RX5 yX5_endApprovals yX5_endApprovals, Cond.code yX5_endApprovals cX5_endApprovals 3 none, Cond.methodLink RX5 42 yX6_put, Cond.methodLink RX5 46 yX5_reopen, Cond.instanceMethod yX5_reopen, Cond.selects RX5 yX5_reopen yX5_reopen, Cond.code yX5_reopen cX5_reopen 2 none, Cond.fieldLink RX5 32 "Approvalyard$Requests" "costs" "LApprovalyard$Row;", Cond.methodLink RX2 63 yX5_add, Cond.instanceMethod yX5_add, Cond.selects RX5 yX5_add yX5_add, Cond.code yX5_add cX5_add 5 (some .int), Cond.fieldLink RX5 14 "Approvalyard$Requests" "people" "LApprovalyard$Row;", Cond.methodLink RX2 66 yX3_costOf, Cond.instanceMethod yX3_costOf, Cond.selects RX3 yX3_costOf yX3_costOf, Cond.code yX3_costOf cX3_costOf 5 (some .int)]
def wsL_resolve_r9 : List Cond := [Cond.methodLink RX3 57 yX1_versionOf, Cond.methodLink RX2 70 yX5_settle, Cond.instanceMethod yX5_settle, Cond.selects RX5 yX5_settle yX5_settle, Cond.code yX5_settle cX5_settle 4 (some .int), Cond.methodLink RX2 73 yX4_changeLimit, Cond.instanceMethod yX4_changeLimit, Cond.selects RX4 yX4_changeLimit yX4_changeLimit, Cond.code yX4_changeLimit cX4_changeLimit 4 (some .int), Cond.fieldLink RX4 14 "Approvalyard$People" "limits" "LApprovalyard$Row;", Cond.methodLink RX4 33 yX6_at, Cond.methodLink RX4 37 yX6_put, Cond.methodLink RX2 76 yX4_sendOnLeave, Cond.instanceMethod yX4_sendOnLeave, Cond.selects RX4 yX4_sendOnLeave yX4_sendOnLeave, Cond.code yX4_sendOnLeave cX4_sendOnLeave 4 (some .int), Cond.fieldLink RX4 20 "Approvalyard$People" "delegates" "LApprovalyard$Row;", Cond.fieldLink RX4 23 "Approvalyard$People" "backs" "LApprovalyard$Row;", Cond.methodLink RX2 79 yX2_takeApproval, Cond.instanceMethod yX2_takeApproval, Cond.selects RX2 yX2_takeApproval yX2_takeApproval, Cond.code yX2_takeApproval cX2_takeApproval 5 (some .int), Cond.constant RX2 107 (2147483647), Cond.methodLink RX2 98 yX5_costOf]
def wsL_resolve_r10 : List Cond := [Cond.instanceMethod yX5_costOf, Cond.selects RX5 yX5_costOf yX5_costOf, Cond.code yX5_costOf cX5_costOf 2 (some .int), Cond.methodLink RX2 99 yX4_principalOf, Cond.instanceMethod yX4_principalOf, Cond.selects RX4 yX4_principalOf yX4_principalOf, Cond.code yX4_principalOf cX4_principalOf 4 (some .int), Cond.methodLink RX4 41 yX4_isAway, Cond.instanceMethod yX4_isAway, Cond.selects RX4 yX4_isAway yX4_isAway, Cond.code yX4_isAway cX4_isAway 2 (some .boolean), Cond.methodLink RX2 108 yX4_backOf, Cond.instanceMethod yX4_backOf, Cond.selects RX4 yX4_backOf yX4_backOf, Cond.code yX4_backOf cX4_backOf 2 (some .int), Cond.methodLink RX2 111 yX5_addApproval, Cond.instanceMethod yX5_addApproval, Cond.selects RX5 yX5_addApproval yX5_addApproval, Cond.code yX5_addApproval cX5_addApproval 4 none, Cond.methodLink RX2 82 yX5_markReleased, Cond.instanceMethod yX5_markReleased, Cond.selects RX5 yX5_markReleased yX5_markReleased, Cond.code yX5_markReleased cX5_markReleased 2 (some .int), Cond.methodLink RX2 85 yX4_addDays]
def wsL_resolve_r11 : List Cond := [Cond.instanceMethod yX4_addDays, Cond.selects RX4 yX4_addDays yX4_addDays, Cond.code yX4_addDays cX4_addDays 2 (some .int)]
def wsL_resolve : List Cond := .codeWith yL_resolve cL_resolve 4 (some .int) [(0, 9, 12, 13), (0, 9, 15, 17)] :: ((wsL_resolve_r1 ++ (wsL_resolve_r2 ++ (wsL_resolve_r3 ++ (wsL_resolve_r4 ++ (wsL_resolve_r5 ++ (wsL_resolve_r6 ++ (wsL_resolve_r7 ++ (wsL_resolve_r8 ++ (wsL_resolve_r9 ++ (wsL_resolve_r10 ++ wsL_resolve_r11)))))))))) ++ wsX80 ++ wsX20 ++ wsX50 ++ wsX60 ++ wsX70 ++ wsX30 ++ wsX00 ++ wsX40 ++ (vx_atS RX8 58 "java/lang/IllegalStateException" ["java/lang/RuntimeException", "java/lang/Exception"]).filter goodWord ++ (vx_atS RX8 182 "java/lang/IndexOutOfBoundsException" ["java/lang/RuntimeException", "java/lang/Exception"]).filter goodWord)
def wsL_chosen_r1 : List Cond := [Cond.classLink RL 13 "java/lang/IndexOutOfBoundsException", Cond.methodLink RL 34 yX8_chosen, Cond.instanceMethod yX8_chosen, Cond.selects RX8 yX8_chosen yX8_chosen, Cond.initialized RX8, Cond.code yX8_chosen cX8_chosen 4 (some .int), Cond.fieldLink RX8 19 "Approvalyard" "desk" "LApprovalyard$Desk;", Cond.fieldLink RX8 97 "Approvalyard$Desk" "requests" "LApprovalyard$Requests;", Cond.methodLink RX8 109 yX8_checkRequest, Cond.instanceMethod yX8_checkRequest, Cond.selects RX8 yX8_checkRequest yX8_checkRequest, Cond.code yX8_checkRequest cX8_checkRequest 2 none, Cond.classLink RX8 178 "java/lang/IndexOutOfBoundsException", Cond.initialized "java/lang/IndexOutOfBoundsException", Cond.methodLink RX8 101 yX5_count, Cond.instanceMethod yX5_count, Cond.selects RX5 yX5_count yX5_count, Cond.initialized RX5, Cond.code yX5_count cX5_count 1 (some .int), Cond.fieldLink RX5 38 "Approvalyard$Requests" "number" "I", Cond.methodLink RX8 33 yX8_checkPart, Cond.static yX8_checkPart, Cond.code yX8_checkPart cX8_checkPart 1 none, Cond.methodLink RX8 127 yX5_choiceOf]
def wsL_chosen_r2 : List Cond := [Cond.instanceMethod yX5_choiceOf, Cond.selects RX5 yX5_choiceOf yX5_choiceOf, Cond.code yX5_choiceOf cX5_choiceOf 2 (some .int), Cond.fieldLink RX5 29 "Approvalyard$Requests" "choices" "LApprovalyard$Row;", Cond.methodLink RX5 52 yX6_at, Cond.instanceMethod yX6_at, Cond.selects RX6 yX6_at yX6_at, Cond.initialized RX6, Cond.code yX6_at cX6_at 2 (some .int), Cond.fieldLink RX6 7 "Approvalyard$Row" "cells" "[I", Cond.methodLink RX8 130 yX1_versionOf, Cond.static yX1_versionOf, Cond.initialized RX1, Cond.code yX1_versionOf cX1_versionOf 2 (some .int)]
def wsL_chosen : List Cond := .codeWith yL_chosen cL_chosen 5 (some .int) [(0, 10, 13, 13)] :: ((wsL_chosen_r1 ++ wsL_chosen_r2) ++ wsX80 ++ wsX20 ++ wsX50 ++ wsX60 ++ (vx_atS RX8 182 "java/lang/IndexOutOfBoundsException" ["java/lang/RuntimeException", "java/lang/Exception"]).filter goodWord)
def wsL_limit_r1 : List Cond := [Cond.classLink RL 13 "java/lang/IndexOutOfBoundsException", Cond.classLink RL 15 "java/lang/IllegalArgumentException", Cond.methodLink RL 37 yX8_limit, Cond.instanceMethod yX8_limit, Cond.selects RX8 yX8_limit yX8_limit, Cond.initialized RX8, Cond.code yX8_limit cX8_limit 3 (some .int), Cond.classLink RX8 37 "java/lang/IllegalArgumentException", Cond.initialized "java/lang/IllegalArgumentException", Cond.methodLink RX8 94 yX8_checkPerson, Cond.static yX8_checkPerson, Cond.code yX8_checkPerson cX8_checkPerson 1 none, Cond.classLink RX8 178 "java/lang/IndexOutOfBoundsException", Cond.initialized "java/lang/IndexOutOfBoundsException", Cond.methodLink RX8 59 yX8_tell, Cond.instanceMethod yX8_tell, Cond.selects RX8 yX8_tell yX8_tell, Cond.code yX8_tell cX8_tell 5 (some .int), Cond.fieldLink RX8 19 "Approvalyard" "desk" "LApprovalyard$Desk;", Cond.fieldLink RX8 10 "Approvalyard" "book" "LApprovalyard$Book;", Cond.methodLink RX8 80 yX0_write, Cond.instanceMethod yX0_write, Cond.selects RX0 yX0_write yX0_write, Cond.initialized RX0]
def wsL_limit_r2 : List Cond := [Cond.code yX0_write cX0_write 8 (some .int), Cond.fieldLink RX0 20 "Approvalyard$Book" "number" "I", Cond.fieldLink RX0 16 "Approvalyard$Book" "words" "LApprovalyard$Row;", Cond.methodLink RX0 24 yX6_put, Cond.instanceMethod yX6_put, Cond.selects RX6 yX6_put yX6_put, Cond.initialized RX6, Cond.code yX6_put cX6_put 3 none, Cond.fieldLink RX6 7 "Approvalyard$Row" "cells" "[I", Cond.methodLink RX8 84 yX2_apply, Cond.instanceMethod yX2_apply, Cond.selects RX2 yX2_apply yX2_apply, Cond.initialized RX2, Cond.code yX2_apply cX2_apply 6 (some .int), Cond.fieldLink RX2 12 "Approvalyard$Desk" "parts" "LApprovalyard$Parts;", Cond.fieldLink RX2 28 "Approvalyard$Desk" "requests" "LApprovalyard$Requests;", Cond.fieldLink RX2 21 "Approvalyard$Desk" "people" "LApprovalyard$People;", Cond.methodLink RX2 38 yX0_wordOf, Cond.instanceMethod yX0_wordOf, Cond.selects RX0 yX0_wordOf yX0_wordOf, Cond.code yX0_wordOf cX0_wordOf 3 (some .int), Cond.methodLink RX0 28 yX6_at, Cond.instanceMethod yX6_at, Cond.selects RX6 yX6_at yX6_at]
def wsL_limit_r3 : List Cond := [Cond.code yX6_at cX6_at 2 (some .int), Cond.methodLink RX2 44 yX3_addVersion, Cond.instanceMethod yX3_addVersion, Cond.selects RX3 yX3_addVersion yX3_addVersion, Cond.initialized RX3, Cond.code yX3_addVersion cX3_addVersion 5 (some .int), Cond.fieldLink RX3 14 "Approvalyard$Parts" "counts" "LApprovalyard$Row;", Cond.fieldLink RX3 20 "Approvalyard$Parts" "costs" "LApprovalyard$Row;", Cond.fieldLink RX3 23 "Approvalyard$Parts" "replaced" "LApprovalyard$Row;", Cond.fieldLink RX3 26 "Approvalyard$Parts" "needCounts" "LApprovalyard$Row;", Cond.methodLink RX3 38 yX6_at, Cond.methodLink RX3 42 yX3_placeOf, Cond.static yX3_placeOf, Cond.code yX3_placeOf cX3_placeOf 2 (some .int), Cond.methodLink RX3 46 yX6_put, Cond.methodLink RX2 47 yX3_addNeed, Cond.instanceMethod yX3_addNeed, Cond.selects RX3 yX3_addNeed yX3_addNeed, Cond.code yX3_addNeed cX3_addNeed 8 (some .int), Cond.fieldLink RX3 29 "Approvalyard$Parts" "needParts" "LApprovalyard$Row;", Cond.fieldLink RX3 32 "Approvalyard$Parts" "needVersions" "LApprovalyard$Row;", Cond.methodLink RX3 50 yX3_versionSet, Cond.static yX3_versionSet, Cond.code yX3_versionSet cX3_versionSet 2 (some .int)]
def wsL_limit_r4 : List Cond := [Cond.methodLink RX2 51 yX3_markReplaced, Cond.instanceMethod yX3_markReplaced, Cond.selects RX3 yX3_markReplaced yX3_markReplaced, Cond.code yX3_markReplaced cX3_markReplaced 3 none, Cond.methodLink RX2 55 yX4_today, Cond.instanceMethod yX4_today, Cond.selects RX4 yX4_today yX4_today, Cond.initialized RX4, Cond.code yX4_today cX4_today 1 (some .int), Cond.fieldLink RX4 29 "Approvalyard$People" "day" "I", Cond.methodLink RX2 59 yX5_loseVersion, Cond.instanceMethod yX5_loseVersion, Cond.selects RX5 yX5_loseVersion yX5_loseVersion, Cond.initialized RX5, Cond.code yX5_loseVersion cX5_loseVersion 6 (some .int), Cond.fieldLink RX5 38 "Approvalyard$Requests" "number" "I", Cond.fieldLink RX5 29 "Approvalyard$Requests" "choices" "LApprovalyard$Row;", Cond.fieldLink RX5 26 "Approvalyard$Requests" "states" "LApprovalyard$Row;", Cond.methodLink RX5 52 yX6_at, Cond.methodLink RX5 60 yX1_versionOf, Cond.static yX1_versionOf, Cond.initialized RX1, Cond.code yX1_versionOf cX1_versionOf 2 (some .int), Cond.methodLink RX5 66 yX5_approvalsOf]
def wsL_limit_r5 : List Cond := [Cond.instanceMethod yX5_approvalsOf, Cond.selects RX5 yX5_approvalsOf yX5_approvalsOf, Cond.code yX5_approvalsOf cX5_approvalsOf 5 (some .int), Cond.methodLink RX5 56 yX5_hasApproval, Cond.instanceMethod yX5_hasApproval, Cond.selects RX5 yX5_hasApproval yX5_hasApproval, Cond.code yX5_hasApproval cX5_hasApproval 4 (some .boolean), Cond.fieldLink RX5 35 "Approvalyard$Requests" "ends" "LApprovalyard$Row;", Cond.methodLink RX5 49 yX5_endApprovals, Cond.instanceMethod yX5_endApprovals, Cond.selects RX5 yX5_endApprovals yX5_endApprovals, Cond.code yX5_endApprovals cX5_endApprovals 3 none, Cond.methodLink RX5 42 yX6_put, Cond.methodLink RX5 46 yX5_reopen, Cond.instanceMethod yX5_reopen, Cond.selects RX5 yX5_reopen yX5_reopen, Cond.code yX5_reopen cX5_reopen 2 none, Cond.fieldLink RX5 32 "Approvalyard$Requests" "costs" "LApprovalyard$Row;", Cond.methodLink RX2 63 yX5_add, Cond.instanceMethod yX5_add, Cond.selects RX5 yX5_add yX5_add, Cond.code yX5_add cX5_add 5 (some .int), Cond.fieldLink RX5 14 "Approvalyard$Requests" "people" "LApprovalyard$Row;", Cond.fieldLink RX5 20 "Approvalyard$Requests" "parts" "LApprovalyard$Row;"]
def wsL_limit_r6 : List Cond := [Cond.fieldLink RX5 23 "Approvalyard$Requests" "leasts" "LApprovalyard$Row;", Cond.methodLink RX2 66 yX3_costOf, Cond.instanceMethod yX3_costOf, Cond.selects RX3 yX3_costOf yX3_costOf, Cond.code yX3_costOf cX3_costOf 5 (some .int), Cond.methodLink RX3 57 yX1_versionOf, Cond.methodLink RX2 70 yX5_settle, Cond.instanceMethod yX5_settle, Cond.selects RX5 yX5_settle yX5_settle, Cond.code yX5_settle cX5_settle 4 (some .int), Cond.methodLink RX2 73 yX4_changeLimit, Cond.instanceMethod yX4_changeLimit, Cond.selects RX4 yX4_changeLimit yX4_changeLimit, Cond.code yX4_changeLimit cX4_changeLimit 4 (some .int), Cond.fieldLink RX4 14 "Approvalyard$People" "limits" "LApprovalyard$Row;", Cond.methodLink RX4 33 yX6_at, Cond.methodLink RX4 37 yX6_put, Cond.methodLink RX2 76 yX4_sendOnLeave, Cond.instanceMethod yX4_sendOnLeave, Cond.selects RX4 yX4_sendOnLeave yX4_sendOnLeave, Cond.code yX4_sendOnLeave cX4_sendOnLeave 4 (some .int), Cond.fieldLink RX4 20 "Approvalyard$People" "delegates" "LApprovalyard$Row;", Cond.fieldLink RX4 23 "Approvalyard$People" "backs" "LApprovalyard$Row;", Cond.methodLink RX2 79 yX2_takeApproval]
def wsL_limit_r7 : List Cond := [Cond.instanceMethod yX2_takeApproval, Cond.selects RX2 yX2_takeApproval yX2_takeApproval, Cond.code yX2_takeApproval cX2_takeApproval 5 (some .int), Cond.constant RX2 107 (2147483647), Cond.methodLink RX2 98 yX5_costOf, Cond.instanceMethod yX5_costOf, Cond.selects RX5 yX5_costOf yX5_costOf, Cond.code yX5_costOf cX5_costOf 2 (some .int), Cond.methodLink RX2 99 yX4_principalOf, Cond.instanceMethod yX4_principalOf, Cond.selects RX4 yX4_principalOf yX4_principalOf, Cond.code yX4_principalOf cX4_principalOf 4 (some .int), Cond.methodLink RX4 41 yX4_isAway, Cond.instanceMethod yX4_isAway, Cond.selects RX4 yX4_isAway yX4_isAway, Cond.code yX4_isAway cX4_isAway 2 (some .boolean), Cond.methodLink RX2 108 yX4_backOf, Cond.instanceMethod yX4_backOf, Cond.selects RX4 yX4_backOf yX4_backOf, Cond.code yX4_backOf cX4_backOf 2 (some .int), Cond.methodLink RX2 111 yX5_addApproval, Cond.instanceMethod yX5_addApproval, Cond.selects RX5 yX5_addApproval yX5_addApproval, Cond.code yX5_addApproval cX5_addApproval 4 none]
def wsL_limit_r8 : List Cond := [Cond.methodLink RX2 82 yX5_markReleased, Cond.instanceMethod yX5_markReleased, Cond.selects RX5 yX5_markReleased yX5_markReleased, Cond.code yX5_markReleased cX5_markReleased 2 (some .int), Cond.methodLink RX2 85 yX4_addDays, Cond.instanceMethod yX4_addDays, Cond.selects RX4 yX4_addDays yX4_addDays, Cond.code yX4_addDays cX4_addDays 2 (some .int)]
def wsL_limit : List Cond := .codeWith yL_limit cL_limit 5 (some .int) [(0, 10, 13, 13), (0, 10, 17, 15)] :: ((wsL_limit_r1 ++ (wsL_limit_r2 ++ (wsL_limit_r3 ++ (wsL_limit_r4 ++ (wsL_limit_r5 ++ (wsL_limit_r6 ++ (wsL_limit_r7 ++ wsL_limit_r8))))))) ++ wsX80 ++ wsX00 ++ wsX60 ++ wsX20 ++ wsX30 ++ wsX40 ++ wsX50 ++ (vx_atS RX8 41 "java/lang/IllegalArgumentException" ["java/lang/RuntimeException", "java/lang/Exception"]).filter goodWord ++ (vx_atS RX8 182 "java/lang/IndexOutOfBoundsException" ["java/lang/RuntimeException", "java/lang/Exception"]).filter goodWord)
def wsL_leave_r1 : List Cond := [Cond.classLink RL 13 "java/lang/IndexOutOfBoundsException", Cond.classLink RL 15 "java/lang/IllegalArgumentException", Cond.methodLink RL 40 yX8_leave, Cond.instanceMethod yX8_leave, Cond.selects RX8 yX8_leave yX8_leave, Cond.initialized RX8, Cond.code yX8_leave cX8_leave 4 (some .int), Cond.classLink RX8 37 "java/lang/IllegalArgumentException", Cond.initialized "java/lang/IllegalArgumentException", Cond.methodLink RX8 94 yX8_checkPerson, Cond.static yX8_checkPerson, Cond.code yX8_checkPerson cX8_checkPerson 1 none, Cond.classLink RX8 178 "java/lang/IndexOutOfBoundsException", Cond.initialized "java/lang/IndexOutOfBoundsException", Cond.methodLink RX8 139 yX8_checkDays, Cond.static yX8_checkDays, Cond.code yX8_checkDays cX8_checkDays 1 none, Cond.methodLink RX8 59 yX8_tell, Cond.instanceMethod yX8_tell, Cond.selects RX8 yX8_tell yX8_tell, Cond.code yX8_tell cX8_tell 5 (some .int), Cond.fieldLink RX8 19 "Approvalyard" "desk" "LApprovalyard$Desk;", Cond.fieldLink RX8 10 "Approvalyard" "book" "LApprovalyard$Book;", Cond.methodLink RX8 80 yX0_write]
def wsL_leave_r2 : List Cond := [Cond.instanceMethod yX0_write, Cond.selects RX0 yX0_write yX0_write, Cond.initialized RX0, Cond.code yX0_write cX0_write 8 (some .int), Cond.fieldLink RX0 20 "Approvalyard$Book" "number" "I", Cond.fieldLink RX0 16 "Approvalyard$Book" "words" "LApprovalyard$Row;", Cond.methodLink RX0 24 yX6_put, Cond.instanceMethod yX6_put, Cond.selects RX6 yX6_put yX6_put, Cond.initialized RX6, Cond.code yX6_put cX6_put 3 none, Cond.fieldLink RX6 7 "Approvalyard$Row" "cells" "[I", Cond.methodLink RX8 84 yX2_apply, Cond.instanceMethod yX2_apply, Cond.selects RX2 yX2_apply yX2_apply, Cond.initialized RX2, Cond.code yX2_apply cX2_apply 6 (some .int), Cond.fieldLink RX2 12 "Approvalyard$Desk" "parts" "LApprovalyard$Parts;", Cond.fieldLink RX2 28 "Approvalyard$Desk" "requests" "LApprovalyard$Requests;", Cond.fieldLink RX2 21 "Approvalyard$Desk" "people" "LApprovalyard$People;", Cond.methodLink RX2 38 yX0_wordOf, Cond.instanceMethod yX0_wordOf, Cond.selects RX0 yX0_wordOf yX0_wordOf, Cond.code yX0_wordOf cX0_wordOf 3 (some .int)]
def wsL_leave_r3 : List Cond := [Cond.methodLink RX0 28 yX6_at, Cond.instanceMethod yX6_at, Cond.selects RX6 yX6_at yX6_at, Cond.code yX6_at cX6_at 2 (some .int), Cond.methodLink RX2 44 yX3_addVersion, Cond.instanceMethod yX3_addVersion, Cond.selects RX3 yX3_addVersion yX3_addVersion, Cond.initialized RX3, Cond.code yX3_addVersion cX3_addVersion 5 (some .int), Cond.fieldLink RX3 14 "Approvalyard$Parts" "counts" "LApprovalyard$Row;", Cond.fieldLink RX3 20 "Approvalyard$Parts" "costs" "LApprovalyard$Row;", Cond.fieldLink RX3 23 "Approvalyard$Parts" "replaced" "LApprovalyard$Row;", Cond.fieldLink RX3 26 "Approvalyard$Parts" "needCounts" "LApprovalyard$Row;", Cond.methodLink RX3 38 yX6_at, Cond.methodLink RX3 42 yX3_placeOf, Cond.static yX3_placeOf, Cond.code yX3_placeOf cX3_placeOf 2 (some .int), Cond.methodLink RX3 46 yX6_put, Cond.methodLink RX2 47 yX3_addNeed, Cond.instanceMethod yX3_addNeed, Cond.selects RX3 yX3_addNeed yX3_addNeed, Cond.code yX3_addNeed cX3_addNeed 8 (some .int), Cond.fieldLink RX3 29 "Approvalyard$Parts" "needParts" "LApprovalyard$Row;", Cond.fieldLink RX3 32 "Approvalyard$Parts" "needVersions" "LApprovalyard$Row;"]
def wsL_leave_r4 : List Cond := [Cond.methodLink RX3 50 yX3_versionSet, Cond.static yX3_versionSet, Cond.code yX3_versionSet cX3_versionSet 2 (some .int), Cond.methodLink RX2 51 yX3_markReplaced, Cond.instanceMethod yX3_markReplaced, Cond.selects RX3 yX3_markReplaced yX3_markReplaced, Cond.code yX3_markReplaced cX3_markReplaced 3 none, Cond.methodLink RX2 55 yX4_today, Cond.instanceMethod yX4_today, Cond.selects RX4 yX4_today yX4_today, Cond.initialized RX4, Cond.code yX4_today cX4_today 1 (some .int), Cond.fieldLink RX4 29 "Approvalyard$People" "day" "I", Cond.methodLink RX2 59 yX5_loseVersion, Cond.instanceMethod yX5_loseVersion, Cond.selects RX5 yX5_loseVersion yX5_loseVersion, Cond.initialized RX5, Cond.code yX5_loseVersion cX5_loseVersion 6 (some .int), Cond.fieldLink RX5 38 "Approvalyard$Requests" "number" "I", Cond.fieldLink RX5 29 "Approvalyard$Requests" "choices" "LApprovalyard$Row;", Cond.fieldLink RX5 26 "Approvalyard$Requests" "states" "LApprovalyard$Row;", Cond.methodLink RX5 52 yX6_at, Cond.methodLink RX5 60 yX1_versionOf, Cond.static yX1_versionOf]
def wsL_leave_r5 : List Cond := [Cond.initialized RX1, Cond.code yX1_versionOf cX1_versionOf 2 (some .int), Cond.methodLink RX5 66 yX5_approvalsOf, Cond.instanceMethod yX5_approvalsOf, Cond.selects RX5 yX5_approvalsOf yX5_approvalsOf, Cond.code yX5_approvalsOf cX5_approvalsOf 5 (some .int), Cond.methodLink RX5 56 yX5_hasApproval, Cond.instanceMethod yX5_hasApproval, Cond.selects RX5 yX5_hasApproval yX5_hasApproval, Cond.code yX5_hasApproval cX5_hasApproval 4 (some .boolean), Cond.fieldLink RX5 35 "Approvalyard$Requests" "ends" "LApprovalyard$Row;", Cond.methodLink RX5 49 yX5_endApprovals, Cond.instanceMethod yX5_endApprovals, Cond.selects RX5 yX5_endApprovals yX5_endApprovals, Cond.code yX5_endApprovals cX5_endApprovals 3 none, Cond.methodLink RX5 42 yX6_put, Cond.methodLink RX5 46 yX5_reopen, Cond.instanceMethod yX5_reopen, Cond.selects RX5 yX5_reopen yX5_reopen, Cond.code yX5_reopen cX5_reopen 2 none, Cond.fieldLink RX5 32 "Approvalyard$Requests" "costs" "LApprovalyard$Row;", Cond.methodLink RX2 63 yX5_add, Cond.instanceMethod yX5_add, Cond.selects RX5 yX5_add yX5_add]
def wsL_leave_r6 : List Cond := [Cond.code yX5_add cX5_add 5 (some .int), Cond.fieldLink RX5 14 "Approvalyard$Requests" "people" "LApprovalyard$Row;", Cond.fieldLink RX5 20 "Approvalyard$Requests" "parts" "LApprovalyard$Row;", Cond.fieldLink RX5 23 "Approvalyard$Requests" "leasts" "LApprovalyard$Row;", Cond.methodLink RX2 66 yX3_costOf, Cond.instanceMethod yX3_costOf, Cond.selects RX3 yX3_costOf yX3_costOf, Cond.code yX3_costOf cX3_costOf 5 (some .int), Cond.methodLink RX3 57 yX1_versionOf, Cond.methodLink RX2 70 yX5_settle, Cond.instanceMethod yX5_settle, Cond.selects RX5 yX5_settle yX5_settle, Cond.code yX5_settle cX5_settle 4 (some .int), Cond.methodLink RX2 73 yX4_changeLimit, Cond.instanceMethod yX4_changeLimit, Cond.selects RX4 yX4_changeLimit yX4_changeLimit, Cond.code yX4_changeLimit cX4_changeLimit 4 (some .int), Cond.fieldLink RX4 14 "Approvalyard$People" "limits" "LApprovalyard$Row;", Cond.methodLink RX4 33 yX6_at, Cond.methodLink RX4 37 yX6_put, Cond.methodLink RX2 76 yX4_sendOnLeave, Cond.instanceMethod yX4_sendOnLeave, Cond.selects RX4 yX4_sendOnLeave yX4_sendOnLeave, Cond.code yX4_sendOnLeave cX4_sendOnLeave 4 (some .int)]
def wsL_leave_r7 : List Cond := [Cond.fieldLink RX4 20 "Approvalyard$People" "delegates" "LApprovalyard$Row;", Cond.fieldLink RX4 23 "Approvalyard$People" "backs" "LApprovalyard$Row;", Cond.methodLink RX2 79 yX2_takeApproval, Cond.instanceMethod yX2_takeApproval, Cond.selects RX2 yX2_takeApproval yX2_takeApproval, Cond.code yX2_takeApproval cX2_takeApproval 5 (some .int), Cond.constant RX2 107 (2147483647), Cond.methodLink RX2 98 yX5_costOf, Cond.instanceMethod yX5_costOf, Cond.selects RX5 yX5_costOf yX5_costOf, Cond.code yX5_costOf cX5_costOf 2 (some .int), Cond.methodLink RX2 99 yX4_principalOf, Cond.instanceMethod yX4_principalOf, Cond.selects RX4 yX4_principalOf yX4_principalOf, Cond.code yX4_principalOf cX4_principalOf 4 (some .int), Cond.methodLink RX4 41 yX4_isAway, Cond.instanceMethod yX4_isAway, Cond.selects RX4 yX4_isAway yX4_isAway, Cond.code yX4_isAway cX4_isAway 2 (some .boolean), Cond.methodLink RX2 108 yX4_backOf, Cond.instanceMethod yX4_backOf, Cond.selects RX4 yX4_backOf yX4_backOf, Cond.code yX4_backOf cX4_backOf 2 (some .int), Cond.methodLink RX2 111 yX5_addApproval]
def wsL_leave_r8 : List Cond := [Cond.instanceMethod yX5_addApproval, Cond.selects RX5 yX5_addApproval yX5_addApproval, Cond.code yX5_addApproval cX5_addApproval 4 none, Cond.methodLink RX2 82 yX5_markReleased, Cond.instanceMethod yX5_markReleased, Cond.selects RX5 yX5_markReleased yX5_markReleased, Cond.code yX5_markReleased cX5_markReleased 2 (some .int), Cond.methodLink RX2 85 yX4_addDays, Cond.instanceMethod yX4_addDays, Cond.selects RX4 yX4_addDays yX4_addDays, Cond.code yX4_addDays cX4_addDays 2 (some .int)]
def wsL_leave : List Cond := .codeWith yL_leave cL_leave 6 (some .int) [(0, 12, 15, 13), (0, 12, 19, 15)] :: ((wsL_leave_r1 ++ (wsL_leave_r2 ++ (wsL_leave_r3 ++ (wsL_leave_r4 ++ (wsL_leave_r5 ++ (wsL_leave_r6 ++ (wsL_leave_r7 ++ wsL_leave_r8))))))) ++ wsX80 ++ wsX00 ++ wsX60 ++ wsX20 ++ wsX30 ++ wsX40 ++ wsX50 ++ (vx_atS RX8 41 "java/lang/IllegalArgumentException" ["java/lang/RuntimeException", "java/lang/Exception"]).filter goodWord ++ (vx_atS RX8 182 "java/lang/IndexOutOfBoundsException" ["java/lang/RuntimeException", "java/lang/Exception"]).filter goodWord)
def wsL_approve_r1 : List Cond := [Cond.classLink RL 13 "java/lang/IndexOutOfBoundsException", Cond.classLink RL 17 "java/lang/IllegalStateException", Cond.methodLink RL 43 yX8_approve, Cond.instanceMethod yX8_approve, Cond.selects RX8 yX8_approve yX8_approve, Cond.initialized RX8, Cond.code yX8_approve cX8_approve 3 (some .int), Cond.classLink RX8 54 "java/lang/IllegalStateException", Cond.initialized "java/lang/IllegalStateException", Cond.fieldLink RX8 19 "Approvalyard" "desk" "LApprovalyard$Desk;", Cond.methodLink RX8 109 yX8_checkRequest, Cond.instanceMethod yX8_checkRequest, Cond.selects RX8 yX8_checkRequest yX8_checkRequest, Cond.code yX8_checkRequest cX8_checkRequest 2 none, Cond.classLink RX8 178 "java/lang/IndexOutOfBoundsException", Cond.initialized "java/lang/IndexOutOfBoundsException", Cond.fieldLink RX8 97 "Approvalyard$Desk" "requests" "LApprovalyard$Requests;", Cond.methodLink RX8 101 yX5_count, Cond.instanceMethod yX5_count, Cond.selects RX5 yX5_count yX5_count, Cond.initialized RX5, Cond.code yX5_count cX5_count 1 (some .int), Cond.fieldLink RX5 38 "Approvalyard$Requests" "number" "I", Cond.methodLink RX8 94 yX8_checkPerson]
def wsL_approve_r2 : List Cond := [Cond.static yX8_checkPerson, Cond.code yX8_checkPerson cX8_checkPerson 1 none, Cond.methodLink RX8 142 yX2_principalFor, Cond.instanceMethod yX2_principalFor, Cond.selects RX2 yX2_principalFor yX2_principalFor, Cond.initialized RX2, Cond.code yX2_principalFor cX2_principalFor 4 (some .int), Cond.fieldLink RX2 28 "Approvalyard$Desk" "requests" "LApprovalyard$Requests;", Cond.fieldLink RX2 21 "Approvalyard$Desk" "people" "LApprovalyard$People;", Cond.methodLink RX2 88 yX5_stateOf, Cond.instanceMethod yX5_stateOf, Cond.selects RX5 yX5_stateOf yX5_stateOf, Cond.code yX5_stateOf cX5_stateOf 2 (some .int), Cond.fieldLink RX5 26 "Approvalyard$Requests" "states" "LApprovalyard$Row;", Cond.methodLink RX5 52 yX6_at, Cond.instanceMethod yX6_at, Cond.selects RX6 yX6_at yX6_at, Cond.initialized RX6, Cond.code yX6_at cX6_at 2 (some .int), Cond.fieldLink RX6 7 "Approvalyard$Row" "cells" "[I", Cond.methodLink RX2 91 yX5_personOf, Cond.instanceMethod yX5_personOf, Cond.selects RX5 yX5_personOf yX5_personOf, Cond.code yX5_personOf cX5_personOf 2 (some .int)]
def wsL_approve_r3 : List Cond := [Cond.fieldLink RX5 14 "Approvalyard$Requests" "people" "LApprovalyard$Row;", Cond.methodLink RX2 55 yX4_today, Cond.instanceMethod yX4_today, Cond.selects RX4 yX4_today yX4_today, Cond.initialized RX4, Cond.code yX4_today cX4_today 1 (some .int), Cond.fieldLink RX4 29 "Approvalyard$People" "day" "I", Cond.methodLink RX2 94 yX5_hasApproval, Cond.instanceMethod yX5_hasApproval, Cond.selects RX5 yX5_hasApproval yX5_hasApproval, Cond.code yX5_hasApproval cX5_hasApproval 4 (some .boolean), Cond.fieldLink RX5 35 "Approvalyard$Requests" "ends" "LApprovalyard$Row;", Cond.methodLink RX2 98 yX5_costOf, Cond.instanceMethod yX5_costOf, Cond.selects RX5 yX5_costOf yX5_costOf, Cond.code yX5_costOf cX5_costOf 2 (some .int), Cond.fieldLink RX5 32 "Approvalyard$Requests" "costs" "LApprovalyard$Row;", Cond.methodLink RX2 99 yX4_principalOf, Cond.instanceMethod yX4_principalOf, Cond.selects RX4 yX4_principalOf yX4_principalOf, Cond.code yX4_principalOf cX4_principalOf 4 (some .int), Cond.fieldLink RX4 14 "Approvalyard$People" "limits" "LApprovalyard$Row;", Cond.fieldLink RX4 20 "Approvalyard$People" "delegates" "LApprovalyard$Row;", Cond.methodLink RX4 41 yX4_isAway]
def wsL_approve_r4 : List Cond := [Cond.instanceMethod yX4_isAway, Cond.selects RX4 yX4_isAway yX4_isAway, Cond.code yX4_isAway cX4_isAway 2 (some .boolean), Cond.fieldLink RX4 23 "Approvalyard$People" "backs" "LApprovalyard$Row;", Cond.methodLink RX4 33 yX6_at, Cond.methodLink RX8 59 yX8_tell, Cond.instanceMethod yX8_tell, Cond.selects RX8 yX8_tell yX8_tell, Cond.code yX8_tell cX8_tell 5 (some .int), Cond.fieldLink RX8 10 "Approvalyard" "book" "LApprovalyard$Book;", Cond.methodLink RX8 80 yX0_write, Cond.instanceMethod yX0_write, Cond.selects RX0 yX0_write yX0_write, Cond.initialized RX0, Cond.code yX0_write cX0_write 8 (some .int), Cond.fieldLink RX0 20 "Approvalyard$Book" "number" "I", Cond.fieldLink RX0 16 "Approvalyard$Book" "words" "LApprovalyard$Row;", Cond.methodLink RX0 24 yX6_put, Cond.instanceMethod yX6_put, Cond.selects RX6 yX6_put yX6_put, Cond.code yX6_put cX6_put 3 none, Cond.methodLink RX8 84 yX2_apply, Cond.instanceMethod yX2_apply, Cond.selects RX2 yX2_apply yX2_apply]
def wsL_approve_r5 : List Cond := [Cond.code yX2_apply cX2_apply 6 (some .int), Cond.fieldLink RX2 12 "Approvalyard$Desk" "parts" "LApprovalyard$Parts;", Cond.methodLink RX2 38 yX0_wordOf, Cond.instanceMethod yX0_wordOf, Cond.selects RX0 yX0_wordOf yX0_wordOf, Cond.code yX0_wordOf cX0_wordOf 3 (some .int), Cond.methodLink RX0 28 yX6_at, Cond.methodLink RX2 44 yX3_addVersion, Cond.instanceMethod yX3_addVersion, Cond.selects RX3 yX3_addVersion yX3_addVersion, Cond.initialized RX3, Cond.code yX3_addVersion cX3_addVersion 5 (some .int), Cond.fieldLink RX3 14 "Approvalyard$Parts" "counts" "LApprovalyard$Row;", Cond.fieldLink RX3 20 "Approvalyard$Parts" "costs" "LApprovalyard$Row;", Cond.fieldLink RX3 23 "Approvalyard$Parts" "replaced" "LApprovalyard$Row;", Cond.fieldLink RX3 26 "Approvalyard$Parts" "needCounts" "LApprovalyard$Row;", Cond.methodLink RX3 38 yX6_at, Cond.methodLink RX3 42 yX3_placeOf, Cond.static yX3_placeOf, Cond.code yX3_placeOf cX3_placeOf 2 (some .int), Cond.methodLink RX3 46 yX6_put, Cond.methodLink RX2 47 yX3_addNeed, Cond.instanceMethod yX3_addNeed, Cond.selects RX3 yX3_addNeed yX3_addNeed]
def wsL_approve_r6 : List Cond := [Cond.code yX3_addNeed cX3_addNeed 8 (some .int), Cond.fieldLink RX3 29 "Approvalyard$Parts" "needParts" "LApprovalyard$Row;", Cond.fieldLink RX3 32 "Approvalyard$Parts" "needVersions" "LApprovalyard$Row;", Cond.methodLink RX3 50 yX3_versionSet, Cond.static yX3_versionSet, Cond.code yX3_versionSet cX3_versionSet 2 (some .int), Cond.methodLink RX2 51 yX3_markReplaced, Cond.instanceMethod yX3_markReplaced, Cond.selects RX3 yX3_markReplaced yX3_markReplaced, Cond.code yX3_markReplaced cX3_markReplaced 3 none, Cond.methodLink RX2 59 yX5_loseVersion, Cond.instanceMethod yX5_loseVersion, Cond.selects RX5 yX5_loseVersion yX5_loseVersion, Cond.code yX5_loseVersion cX5_loseVersion 6 (some .int), Cond.fieldLink RX5 29 "Approvalyard$Requests" "choices" "LApprovalyard$Row;", Cond.methodLink RX5 60 yX1_versionOf, Cond.static yX1_versionOf, Cond.initialized RX1, Cond.code yX1_versionOf cX1_versionOf 2 (some .int), Cond.methodLink RX5 66 yX5_approvalsOf, Cond.instanceMethod yX5_approvalsOf, Cond.selects RX5 yX5_approvalsOf yX5_approvalsOf, Cond.code yX5_approvalsOf cX5_approvalsOf 5 (some .int), Cond.methodLink RX5 56 yX5_hasApproval]
def wsL_approve_r7 : List Cond := [Cond.methodLink RX5 49 yX5_endApprovals, Cond.instanceMethod yX5_endApprovals, Cond.selects RX5 yX5_endApprovals yX5_endApprovals, Cond.code yX5_endApprovals cX5_endApprovals 3 none, Cond.methodLink RX5 42 yX6_put, Cond.methodLink RX5 46 yX5_reopen, Cond.instanceMethod yX5_reopen, Cond.selects RX5 yX5_reopen yX5_reopen, Cond.code yX5_reopen cX5_reopen 2 none, Cond.methodLink RX2 63 yX5_add, Cond.instanceMethod yX5_add, Cond.selects RX5 yX5_add yX5_add, Cond.code yX5_add cX5_add 5 (some .int), Cond.fieldLink RX5 20 "Approvalyard$Requests" "parts" "LApprovalyard$Row;", Cond.fieldLink RX5 23 "Approvalyard$Requests" "leasts" "LApprovalyard$Row;", Cond.methodLink RX2 66 yX3_costOf, Cond.instanceMethod yX3_costOf, Cond.selects RX3 yX3_costOf yX3_costOf, Cond.code yX3_costOf cX3_costOf 5 (some .int), Cond.methodLink RX3 57 yX1_versionOf, Cond.methodLink RX2 70 yX5_settle, Cond.instanceMethod yX5_settle, Cond.selects RX5 yX5_settle yX5_settle, Cond.code yX5_settle cX5_settle 4 (some .int)]
def wsL_approve_r8 : List Cond := [Cond.methodLink RX2 73 yX4_changeLimit, Cond.instanceMethod yX4_changeLimit, Cond.selects RX4 yX4_changeLimit yX4_changeLimit, Cond.code yX4_changeLimit cX4_changeLimit 4 (some .int), Cond.methodLink RX4 37 yX6_put, Cond.methodLink RX2 76 yX4_sendOnLeave, Cond.instanceMethod yX4_sendOnLeave, Cond.selects RX4 yX4_sendOnLeave yX4_sendOnLeave, Cond.code yX4_sendOnLeave cX4_sendOnLeave 4 (some .int), Cond.methodLink RX2 79 yX2_takeApproval, Cond.instanceMethod yX2_takeApproval, Cond.selects RX2 yX2_takeApproval yX2_takeApproval, Cond.code yX2_takeApproval cX2_takeApproval 5 (some .int), Cond.constant RX2 107 (2147483647), Cond.methodLink RX2 108 yX4_backOf, Cond.instanceMethod yX4_backOf, Cond.selects RX4 yX4_backOf yX4_backOf, Cond.code yX4_backOf cX4_backOf 2 (some .int), Cond.methodLink RX2 111 yX5_addApproval, Cond.instanceMethod yX5_addApproval, Cond.selects RX5 yX5_addApproval yX5_addApproval, Cond.code yX5_addApproval cX5_addApproval 4 none, Cond.methodLink RX2 82 yX5_markReleased, Cond.instanceMethod yX5_markReleased]
def wsL_approve_r9 : List Cond := [Cond.selects RX5 yX5_markReleased yX5_markReleased, Cond.code yX5_markReleased cX5_markReleased 2 (some .int), Cond.methodLink RX2 85 yX4_addDays, Cond.instanceMethod yX4_addDays, Cond.selects RX4 yX4_addDays yX4_addDays, Cond.code yX4_addDays cX4_addDays 2 (some .int)]
def wsL_approve : List Cond := .codeWith yL_approve cL_approve 5 (some .int) [(0, 10, 13, 13), (0, 10, 17, 17)] :: ((wsL_approve_r1 ++ (wsL_approve_r2 ++ (wsL_approve_r3 ++ (wsL_approve_r4 ++ (wsL_approve_r5 ++ (wsL_approve_r6 ++ (wsL_approve_r7 ++ (wsL_approve_r8 ++ wsL_approve_r9)))))))) ++ wsX80 ++ wsX20 ++ wsX50 ++ wsX60 ++ wsX40 ++ wsX00 ++ wsX30 ++ (vx_atS RX8 58 "java/lang/IllegalStateException" ["java/lang/RuntimeException", "java/lang/Exception"]).filter goodWord ++ (vx_atS RX8 182 "java/lang/IndexOutOfBoundsException" ["java/lang/RuntimeException", "java/lang/Exception"]).filter goodWord)
def wsL_release_r1 : List Cond := [Cond.classLink RL 13 "java/lang/IndexOutOfBoundsException", Cond.classLink RL 17 "java/lang/IllegalStateException", Cond.methodLink RL 46 yX8_release, Cond.instanceMethod yX8_release, Cond.selects RX8 yX8_release yX8_release, Cond.initialized RX8, Cond.code yX8_release cX8_release 2 none, Cond.classLink RX8 54 "java/lang/IllegalStateException", Cond.initialized "java/lang/IllegalStateException", Cond.fieldLink RX8 19 "Approvalyard" "desk" "LApprovalyard$Desk;", Cond.fieldLink RX8 97 "Approvalyard$Desk" "requests" "LApprovalyard$Requests;", Cond.methodLink RX8 109 yX8_checkRequest, Cond.instanceMethod yX8_checkRequest, Cond.selects RX8 yX8_checkRequest yX8_checkRequest, Cond.code yX8_checkRequest cX8_checkRequest 2 none, Cond.classLink RX8 178 "java/lang/IndexOutOfBoundsException", Cond.initialized "java/lang/IndexOutOfBoundsException", Cond.methodLink RX8 101 yX5_count, Cond.instanceMethod yX5_count, Cond.selects RX5 yX5_count yX5_count, Cond.initialized RX5, Cond.code yX5_count cX5_count 1 (some .int), Cond.fieldLink RX5 38 "Approvalyard$Requests" "number" "I", Cond.methodLink RX8 112 yX5_stateOf]
def wsL_release_r2 : List Cond := [Cond.instanceMethod yX5_stateOf, Cond.selects RX5 yX5_stateOf yX5_stateOf, Cond.code yX5_stateOf cX5_stateOf 2 (some .int), Cond.fieldLink RX5 26 "Approvalyard$Requests" "states" "LApprovalyard$Row;", Cond.methodLink RX5 52 yX6_at, Cond.instanceMethod yX6_at, Cond.selects RX6 yX6_at yX6_at, Cond.initialized RX6, Cond.code yX6_at cX6_at 2 (some .int), Cond.fieldLink RX6 7 "Approvalyard$Row" "cells" "[I", Cond.methodLink RX8 147 yX2_isCovered, Cond.instanceMethod yX2_isCovered, Cond.selects RX2 yX2_isCovered yX2_isCovered, Cond.initialized RX2, Cond.code yX2_isCovered cX2_isCovered 3 (some .boolean), Cond.fieldLink RX2 28 "Approvalyard$Desk" "requests" "LApprovalyard$Requests;", Cond.methodLink RX2 98 yX5_costOf, Cond.instanceMethod yX5_costOf, Cond.selects RX5 yX5_costOf yX5_costOf, Cond.code yX5_costOf cX5_costOf 2 (some .int), Cond.fieldLink RX5 32 "Approvalyard$Requests" "costs" "LApprovalyard$Row;", Cond.methodLink RX2 105 yX2_approvalsOf, Cond.instanceMethod yX2_approvalsOf, Cond.selects RX2 yX2_approvalsOf yX2_approvalsOf]
def wsL_release_r3 : List Cond := [Cond.code yX2_approvalsOf cX2_approvalsOf 2 (some .int), Cond.fieldLink RX2 21 "Approvalyard$Desk" "people" "LApprovalyard$People;", Cond.methodLink RX2 55 yX4_today, Cond.instanceMethod yX4_today, Cond.selects RX4 yX4_today yX4_today, Cond.initialized RX4, Cond.code yX4_today cX4_today 1 (some .int), Cond.fieldLink RX4 29 "Approvalyard$People" "day" "I", Cond.methodLink RX2 102 yX5_approvalsOf, Cond.instanceMethod yX5_approvalsOf, Cond.selects RX5 yX5_approvalsOf yX5_approvalsOf, Cond.code yX5_approvalsOf cX5_approvalsOf 5 (some .int), Cond.methodLink RX5 56 yX5_hasApproval, Cond.instanceMethod yX5_hasApproval, Cond.selects RX5 yX5_hasApproval yX5_hasApproval, Cond.code yX5_hasApproval cX5_hasApproval 4 (some .boolean), Cond.fieldLink RX5 35 "Approvalyard$Requests" "ends" "LApprovalyard$Row;", Cond.methodLink RX8 59 yX8_tell, Cond.instanceMethod yX8_tell, Cond.selects RX8 yX8_tell yX8_tell, Cond.code yX8_tell cX8_tell 5 (some .int), Cond.fieldLink RX8 10 "Approvalyard" "book" "LApprovalyard$Book;", Cond.methodLink RX8 80 yX0_write, Cond.instanceMethod yX0_write]
def wsL_release_r4 : List Cond := [Cond.selects RX0 yX0_write yX0_write, Cond.initialized RX0, Cond.code yX0_write cX0_write 8 (some .int), Cond.fieldLink RX0 20 "Approvalyard$Book" "number" "I", Cond.fieldLink RX0 16 "Approvalyard$Book" "words" "LApprovalyard$Row;", Cond.methodLink RX0 24 yX6_put, Cond.instanceMethod yX6_put, Cond.selects RX6 yX6_put yX6_put, Cond.code yX6_put cX6_put 3 none, Cond.methodLink RX8 84 yX2_apply, Cond.instanceMethod yX2_apply, Cond.selects RX2 yX2_apply yX2_apply, Cond.code yX2_apply cX2_apply 6 (some .int), Cond.fieldLink RX2 12 "Approvalyard$Desk" "parts" "LApprovalyard$Parts;", Cond.methodLink RX2 38 yX0_wordOf, Cond.instanceMethod yX0_wordOf, Cond.selects RX0 yX0_wordOf yX0_wordOf, Cond.code yX0_wordOf cX0_wordOf 3 (some .int), Cond.methodLink RX0 28 yX6_at, Cond.methodLink RX2 44 yX3_addVersion, Cond.instanceMethod yX3_addVersion, Cond.selects RX3 yX3_addVersion yX3_addVersion, Cond.initialized RX3, Cond.code yX3_addVersion cX3_addVersion 5 (some .int)]
def wsL_release_r5 : List Cond := [Cond.fieldLink RX3 14 "Approvalyard$Parts" "counts" "LApprovalyard$Row;", Cond.fieldLink RX3 20 "Approvalyard$Parts" "costs" "LApprovalyard$Row;", Cond.fieldLink RX3 23 "Approvalyard$Parts" "replaced" "LApprovalyard$Row;", Cond.fieldLink RX3 26 "Approvalyard$Parts" "needCounts" "LApprovalyard$Row;", Cond.methodLink RX3 38 yX6_at, Cond.methodLink RX3 42 yX3_placeOf, Cond.static yX3_placeOf, Cond.code yX3_placeOf cX3_placeOf 2 (some .int), Cond.methodLink RX3 46 yX6_put, Cond.methodLink RX2 47 yX3_addNeed, Cond.instanceMethod yX3_addNeed, Cond.selects RX3 yX3_addNeed yX3_addNeed, Cond.code yX3_addNeed cX3_addNeed 8 (some .int), Cond.fieldLink RX3 29 "Approvalyard$Parts" "needParts" "LApprovalyard$Row;", Cond.fieldLink RX3 32 "Approvalyard$Parts" "needVersions" "LApprovalyard$Row;", Cond.methodLink RX3 50 yX3_versionSet, Cond.static yX3_versionSet, Cond.code yX3_versionSet cX3_versionSet 2 (some .int), Cond.methodLink RX2 51 yX3_markReplaced, Cond.instanceMethod yX3_markReplaced, Cond.selects RX3 yX3_markReplaced yX3_markReplaced, Cond.code yX3_markReplaced cX3_markReplaced 3 none, Cond.methodLink RX2 59 yX5_loseVersion, Cond.instanceMethod yX5_loseVersion]
def wsL_release_r6 : List Cond := [Cond.selects RX5 yX5_loseVersion yX5_loseVersion, Cond.code yX5_loseVersion cX5_loseVersion 6 (some .int), Cond.fieldLink RX5 29 "Approvalyard$Requests" "choices" "LApprovalyard$Row;", Cond.methodLink RX5 60 yX1_versionOf, Cond.static yX1_versionOf, Cond.initialized RX1, Cond.code yX1_versionOf cX1_versionOf 2 (some .int), Cond.methodLink RX5 66 yX5_approvalsOf, Cond.methodLink RX5 49 yX5_endApprovals, Cond.instanceMethod yX5_endApprovals, Cond.selects RX5 yX5_endApprovals yX5_endApprovals, Cond.code yX5_endApprovals cX5_endApprovals 3 none, Cond.methodLink RX5 42 yX6_put, Cond.methodLink RX5 46 yX5_reopen, Cond.instanceMethod yX5_reopen, Cond.selects RX5 yX5_reopen yX5_reopen, Cond.code yX5_reopen cX5_reopen 2 none, Cond.methodLink RX2 63 yX5_add, Cond.instanceMethod yX5_add, Cond.selects RX5 yX5_add yX5_add, Cond.code yX5_add cX5_add 5 (some .int), Cond.fieldLink RX5 14 "Approvalyard$Requests" "people" "LApprovalyard$Row;", Cond.fieldLink RX5 20 "Approvalyard$Requests" "parts" "LApprovalyard$Row;", Cond.fieldLink RX5 23 "Approvalyard$Requests" "leasts" "LApprovalyard$Row;"]
def wsL_release_r7 : List Cond := [Cond.methodLink RX2 66 yX3_costOf, Cond.instanceMethod yX3_costOf, Cond.selects RX3 yX3_costOf yX3_costOf, Cond.code yX3_costOf cX3_costOf 5 (some .int), Cond.methodLink RX3 57 yX1_versionOf, Cond.methodLink RX2 70 yX5_settle, Cond.instanceMethod yX5_settle, Cond.selects RX5 yX5_settle yX5_settle, Cond.code yX5_settle cX5_settle 4 (some .int), Cond.methodLink RX2 73 yX4_changeLimit, Cond.instanceMethod yX4_changeLimit, Cond.selects RX4 yX4_changeLimit yX4_changeLimit, Cond.code yX4_changeLimit cX4_changeLimit 4 (some .int), Cond.fieldLink RX4 14 "Approvalyard$People" "limits" "LApprovalyard$Row;", Cond.methodLink RX4 33 yX6_at, Cond.methodLink RX4 37 yX6_put, Cond.methodLink RX2 76 yX4_sendOnLeave, Cond.instanceMethod yX4_sendOnLeave, Cond.selects RX4 yX4_sendOnLeave yX4_sendOnLeave, Cond.code yX4_sendOnLeave cX4_sendOnLeave 4 (some .int), Cond.fieldLink RX4 20 "Approvalyard$People" "delegates" "LApprovalyard$Row;", Cond.fieldLink RX4 23 "Approvalyard$People" "backs" "LApprovalyard$Row;", Cond.methodLink RX2 79 yX2_takeApproval, Cond.instanceMethod yX2_takeApproval]
def wsL_release_r8 : List Cond := [Cond.selects RX2 yX2_takeApproval yX2_takeApproval, Cond.code yX2_takeApproval cX2_takeApproval 5 (some .int), Cond.constant RX2 107 (2147483647), Cond.methodLink RX2 99 yX4_principalOf, Cond.instanceMethod yX4_principalOf, Cond.selects RX4 yX4_principalOf yX4_principalOf, Cond.code yX4_principalOf cX4_principalOf 4 (some .int), Cond.methodLink RX4 41 yX4_isAway, Cond.instanceMethod yX4_isAway, Cond.selects RX4 yX4_isAway yX4_isAway, Cond.code yX4_isAway cX4_isAway 2 (some .boolean), Cond.methodLink RX2 108 yX4_backOf, Cond.instanceMethod yX4_backOf, Cond.selects RX4 yX4_backOf yX4_backOf, Cond.code yX4_backOf cX4_backOf 2 (some .int), Cond.methodLink RX2 111 yX5_addApproval, Cond.instanceMethod yX5_addApproval, Cond.selects RX5 yX5_addApproval yX5_addApproval, Cond.code yX5_addApproval cX5_addApproval 4 none, Cond.methodLink RX2 82 yX5_markReleased, Cond.instanceMethod yX5_markReleased, Cond.selects RX5 yX5_markReleased yX5_markReleased, Cond.code yX5_markReleased cX5_markReleased 2 (some .int), Cond.methodLink RX2 85 yX4_addDays]
def wsL_release_r9 : List Cond := [Cond.instanceMethod yX4_addDays, Cond.selects RX4 yX4_addDays yX4_addDays, Cond.code yX4_addDays cX4_addDays 2 (some .int)]
def wsL_release : List Cond := .codeWith yL_release cL_release 3 (some .int) [(0, 5, 8, 13), (0, 5, 11, 17)] :: ((wsL_release_r1 ++ (wsL_release_r2 ++ (wsL_release_r3 ++ (wsL_release_r4 ++ (wsL_release_r5 ++ (wsL_release_r6 ++ (wsL_release_r7 ++ (wsL_release_r8 ++ wsL_release_r9)))))))) ++ wsX80 ++ wsX20 ++ wsX50 ++ wsX60 ++ wsX40 ++ wsX00 ++ wsX30 ++ (vx_atS RX8 58 "java/lang/IllegalStateException" ["java/lang/RuntimeException", "java/lang/Exception"]).filter goodWord ++ (vx_atS RX8 182 "java/lang/IndexOutOfBoundsException" ["java/lang/RuntimeException", "java/lang/Exception"]).filter goodWord)
def wsL_pass_r1 : List Cond := [Cond.classLink RL 15 "java/lang/IllegalArgumentException", Cond.methodLink RL 50 yX8_pass, Cond.instanceMethod yX8_pass, Cond.selects RX8 yX8_pass yX8_pass, Cond.initialized RX8, Cond.code yX8_pass cX8_pass 2 (some .int), Cond.methodLink RX8 139 yX8_checkDays, Cond.static yX8_checkDays, Cond.code yX8_checkDays cX8_checkDays 1 none, Cond.classLink RX8 37 "java/lang/IllegalArgumentException", Cond.initialized "java/lang/IllegalArgumentException", Cond.methodLink RX8 59 yX8_tell, Cond.instanceMethod yX8_tell, Cond.selects RX8 yX8_tell yX8_tell, Cond.code yX8_tell cX8_tell 5 (some .int), Cond.fieldLink RX8 19 "Approvalyard" "desk" "LApprovalyard$Desk;", Cond.fieldLink RX8 10 "Approvalyard" "book" "LApprovalyard$Book;", Cond.methodLink RX8 80 yX0_write, Cond.instanceMethod yX0_write, Cond.selects RX0 yX0_write yX0_write, Cond.initialized RX0, Cond.code yX0_write cX0_write 8 (some .int), Cond.fieldLink RX0 20 "Approvalyard$Book" "number" "I", Cond.fieldLink RX0 16 "Approvalyard$Book" "words" "LApprovalyard$Row;"]
def wsL_pass_r2 : List Cond := [Cond.methodLink RX0 24 yX6_put, Cond.instanceMethod yX6_put, Cond.selects RX6 yX6_put yX6_put, Cond.initialized RX6, Cond.code yX6_put cX6_put 3 none, Cond.fieldLink RX6 7 "Approvalyard$Row" "cells" "[I", Cond.methodLink RX8 84 yX2_apply, Cond.instanceMethod yX2_apply, Cond.selects RX2 yX2_apply yX2_apply, Cond.initialized RX2, Cond.code yX2_apply cX2_apply 6 (some .int), Cond.fieldLink RX2 12 "Approvalyard$Desk" "parts" "LApprovalyard$Parts;", Cond.fieldLink RX2 28 "Approvalyard$Desk" "requests" "LApprovalyard$Requests;", Cond.fieldLink RX2 21 "Approvalyard$Desk" "people" "LApprovalyard$People;", Cond.methodLink RX2 38 yX0_wordOf, Cond.instanceMethod yX0_wordOf, Cond.selects RX0 yX0_wordOf yX0_wordOf, Cond.code yX0_wordOf cX0_wordOf 3 (some .int), Cond.methodLink RX0 28 yX6_at, Cond.instanceMethod yX6_at, Cond.selects RX6 yX6_at yX6_at, Cond.code yX6_at cX6_at 2 (some .int), Cond.methodLink RX2 44 yX3_addVersion, Cond.instanceMethod yX3_addVersion]
def wsL_pass_r3 : List Cond := [Cond.selects RX3 yX3_addVersion yX3_addVersion, Cond.initialized RX3, Cond.code yX3_addVersion cX3_addVersion 5 (some .int), Cond.fieldLink RX3 14 "Approvalyard$Parts" "counts" "LApprovalyard$Row;", Cond.fieldLink RX3 20 "Approvalyard$Parts" "costs" "LApprovalyard$Row;", Cond.fieldLink RX3 23 "Approvalyard$Parts" "replaced" "LApprovalyard$Row;", Cond.fieldLink RX3 26 "Approvalyard$Parts" "needCounts" "LApprovalyard$Row;", Cond.methodLink RX3 38 yX6_at, Cond.methodLink RX3 42 yX3_placeOf, Cond.static yX3_placeOf, Cond.code yX3_placeOf cX3_placeOf 2 (some .int), Cond.methodLink RX3 46 yX6_put, Cond.methodLink RX2 47 yX3_addNeed, Cond.instanceMethod yX3_addNeed, Cond.selects RX3 yX3_addNeed yX3_addNeed, Cond.code yX3_addNeed cX3_addNeed 8 (some .int), Cond.fieldLink RX3 29 "Approvalyard$Parts" "needParts" "LApprovalyard$Row;", Cond.fieldLink RX3 32 "Approvalyard$Parts" "needVersions" "LApprovalyard$Row;", Cond.methodLink RX3 50 yX3_versionSet, Cond.static yX3_versionSet, Cond.code yX3_versionSet cX3_versionSet 2 (some .int), Cond.methodLink RX2 51 yX3_markReplaced, Cond.instanceMethod yX3_markReplaced, Cond.selects RX3 yX3_markReplaced yX3_markReplaced]
def wsL_pass_r4 : List Cond := [Cond.code yX3_markReplaced cX3_markReplaced 3 none, Cond.methodLink RX2 55 yX4_today, Cond.instanceMethod yX4_today, Cond.selects RX4 yX4_today yX4_today, Cond.initialized RX4, Cond.code yX4_today cX4_today 1 (some .int), Cond.fieldLink RX4 29 "Approvalyard$People" "day" "I", Cond.methodLink RX2 59 yX5_loseVersion, Cond.instanceMethod yX5_loseVersion, Cond.selects RX5 yX5_loseVersion yX5_loseVersion, Cond.initialized RX5, Cond.code yX5_loseVersion cX5_loseVersion 6 (some .int), Cond.fieldLink RX5 38 "Approvalyard$Requests" "number" "I", Cond.fieldLink RX5 29 "Approvalyard$Requests" "choices" "LApprovalyard$Row;", Cond.fieldLink RX5 26 "Approvalyard$Requests" "states" "LApprovalyard$Row;", Cond.methodLink RX5 52 yX6_at, Cond.methodLink RX5 60 yX1_versionOf, Cond.static yX1_versionOf, Cond.initialized RX1, Cond.code yX1_versionOf cX1_versionOf 2 (some .int), Cond.methodLink RX5 66 yX5_approvalsOf, Cond.instanceMethod yX5_approvalsOf, Cond.selects RX5 yX5_approvalsOf yX5_approvalsOf, Cond.code yX5_approvalsOf cX5_approvalsOf 5 (some .int)]
def wsL_pass_r5 : List Cond := [Cond.methodLink RX5 56 yX5_hasApproval, Cond.instanceMethod yX5_hasApproval, Cond.selects RX5 yX5_hasApproval yX5_hasApproval, Cond.code yX5_hasApproval cX5_hasApproval 4 (some .boolean), Cond.fieldLink RX5 35 "Approvalyard$Requests" "ends" "LApprovalyard$Row;", Cond.methodLink RX5 49 yX5_endApprovals, Cond.instanceMethod yX5_endApprovals, Cond.selects RX5 yX5_endApprovals yX5_endApprovals, Cond.code yX5_endApprovals cX5_endApprovals 3 none, Cond.methodLink RX5 42 yX6_put, Cond.methodLink RX5 46 yX5_reopen, Cond.instanceMethod yX5_reopen, Cond.selects RX5 yX5_reopen yX5_reopen, Cond.code yX5_reopen cX5_reopen 2 none, Cond.fieldLink RX5 32 "Approvalyard$Requests" "costs" "LApprovalyard$Row;", Cond.methodLink RX2 63 yX5_add, Cond.instanceMethod yX5_add, Cond.selects RX5 yX5_add yX5_add, Cond.code yX5_add cX5_add 5 (some .int), Cond.fieldLink RX5 14 "Approvalyard$Requests" "people" "LApprovalyard$Row;", Cond.fieldLink RX5 20 "Approvalyard$Requests" "parts" "LApprovalyard$Row;", Cond.fieldLink RX5 23 "Approvalyard$Requests" "leasts" "LApprovalyard$Row;", Cond.methodLink RX2 66 yX3_costOf, Cond.instanceMethod yX3_costOf]
def wsL_pass_r6 : List Cond := [Cond.selects RX3 yX3_costOf yX3_costOf, Cond.code yX3_costOf cX3_costOf 5 (some .int), Cond.methodLink RX3 57 yX1_versionOf, Cond.methodLink RX2 70 yX5_settle, Cond.instanceMethod yX5_settle, Cond.selects RX5 yX5_settle yX5_settle, Cond.code yX5_settle cX5_settle 4 (some .int), Cond.methodLink RX2 73 yX4_changeLimit, Cond.instanceMethod yX4_changeLimit, Cond.selects RX4 yX4_changeLimit yX4_changeLimit, Cond.code yX4_changeLimit cX4_changeLimit 4 (some .int), Cond.fieldLink RX4 14 "Approvalyard$People" "limits" "LApprovalyard$Row;", Cond.methodLink RX4 33 yX6_at, Cond.methodLink RX4 37 yX6_put, Cond.methodLink RX2 76 yX4_sendOnLeave, Cond.instanceMethod yX4_sendOnLeave, Cond.selects RX4 yX4_sendOnLeave yX4_sendOnLeave, Cond.code yX4_sendOnLeave cX4_sendOnLeave 4 (some .int), Cond.fieldLink RX4 20 "Approvalyard$People" "delegates" "LApprovalyard$Row;", Cond.fieldLink RX4 23 "Approvalyard$People" "backs" "LApprovalyard$Row;", Cond.methodLink RX2 79 yX2_takeApproval, Cond.instanceMethod yX2_takeApproval, Cond.selects RX2 yX2_takeApproval yX2_takeApproval, Cond.code yX2_takeApproval cX2_takeApproval 5 (some .int)]
def wsL_pass_r7 : List Cond := [Cond.constant RX2 107 (2147483647), Cond.methodLink RX2 98 yX5_costOf, Cond.instanceMethod yX5_costOf, Cond.selects RX5 yX5_costOf yX5_costOf, Cond.code yX5_costOf cX5_costOf 2 (some .int), Cond.methodLink RX2 99 yX4_principalOf, Cond.instanceMethod yX4_principalOf, Cond.selects RX4 yX4_principalOf yX4_principalOf, Cond.code yX4_principalOf cX4_principalOf 4 (some .int), Cond.methodLink RX4 41 yX4_isAway, Cond.instanceMethod yX4_isAway, Cond.selects RX4 yX4_isAway yX4_isAway, Cond.code yX4_isAway cX4_isAway 2 (some .boolean), Cond.methodLink RX2 108 yX4_backOf, Cond.instanceMethod yX4_backOf, Cond.selects RX4 yX4_backOf yX4_backOf, Cond.code yX4_backOf cX4_backOf 2 (some .int), Cond.methodLink RX2 111 yX5_addApproval, Cond.instanceMethod yX5_addApproval, Cond.selects RX5 yX5_addApproval yX5_addApproval, Cond.code yX5_addApproval cX5_addApproval 4 none, Cond.methodLink RX2 82 yX5_markReleased, Cond.instanceMethod yX5_markReleased, Cond.selects RX5 yX5_markReleased yX5_markReleased]
def wsL_pass_r8 : List Cond := [Cond.code yX5_markReleased cX5_markReleased 2 (some .int), Cond.methodLink RX2 85 yX4_addDays, Cond.instanceMethod yX4_addDays, Cond.selects RX4 yX4_addDays yX4_addDays, Cond.code yX4_addDays cX4_addDays 2 (some .int)]
def wsL_pass : List Cond := .codeWith yL_pass cL_pass 4 (some .int) [(0, 9, 12, 15)] :: ((wsL_pass_r1 ++ (wsL_pass_r2 ++ (wsL_pass_r3 ++ (wsL_pass_r4 ++ (wsL_pass_r5 ++ (wsL_pass_r6 ++ (wsL_pass_r7 ++ wsL_pass_r8))))))) ++ wsX80 ++ wsX00 ++ wsX60 ++ wsX20 ++ wsX30 ++ wsX40 ++ wsX50 ++ (vx_atS RX8 41 "java/lang/IllegalArgumentException" ["java/lang/RuntimeException", "java/lang/Exception"]).filter goodWord)
def wsL_ofRequest_r1 : List Cond := [Cond.classLink RL 13 "java/lang/IndexOutOfBoundsException", Cond.classLink RL 15 "java/lang/IllegalArgumentException", Cond.methodLink RL 53 yX8_ofRequest, Cond.instanceMethod yX8_ofRequest, Cond.selects RX8 yX8_ofRequest yX8_ofRequest, Cond.initialized RX8, Cond.code yX8_ofRequest cX8_ofRequest 3 (some .int), Cond.classLink RX8 37 "java/lang/IllegalArgumentException", Cond.initialized "java/lang/IllegalArgumentException", Cond.fieldLink RX8 19 "Approvalyard" "desk" "LApprovalyard$Desk;", Cond.fieldLink RX8 97 "Approvalyard$Desk" "requests" "LApprovalyard$Requests;", Cond.methodLink RX8 109 yX8_checkRequest, Cond.instanceMethod yX8_checkRequest, Cond.selects RX8 yX8_checkRequest yX8_checkRequest, Cond.code yX8_checkRequest cX8_checkRequest 2 none, Cond.classLink RX8 178 "java/lang/IndexOutOfBoundsException", Cond.initialized "java/lang/IndexOutOfBoundsException", Cond.methodLink RX8 101 yX5_count, Cond.instanceMethod yX5_count, Cond.selects RX5 yX5_count yX5_count, Cond.initialized RX5, Cond.code yX5_count cX5_count 1 (some .int), Cond.fieldLink RX5 38 "Approvalyard$Requests" "number" "I", Cond.methodLink RX8 112 yX5_stateOf]
def wsL_ofRequest_r2 : List Cond := [Cond.instanceMethod yX5_stateOf, Cond.selects RX5 yX5_stateOf yX5_stateOf, Cond.code yX5_stateOf cX5_stateOf 2 (some .int), Cond.fieldLink RX5 26 "Approvalyard$Requests" "states" "LApprovalyard$Row;", Cond.methodLink RX5 52 yX6_at, Cond.instanceMethod yX6_at, Cond.selects RX6 yX6_at yX6_at, Cond.initialized RX6, Cond.code yX6_at cX6_at 2 (some .int), Cond.fieldLink RX6 7 "Approvalyard$Row" "cells" "[I", Cond.methodLink RX8 153 yX5_costOf, Cond.instanceMethod yX5_costOf, Cond.selects RX5 yX5_costOf yX5_costOf, Cond.code yX5_costOf cX5_costOf 2 (some .int), Cond.fieldLink RX5 32 "Approvalyard$Requests" "costs" "LApprovalyard$Row;", Cond.methodLink RX8 156 yX2_approvalsOf, Cond.instanceMethod yX2_approvalsOf, Cond.selects RX2 yX2_approvalsOf yX2_approvalsOf, Cond.initialized RX2, Cond.code yX2_approvalsOf cX2_approvalsOf 2 (some .int), Cond.fieldLink RX2 28 "Approvalyard$Desk" "requests" "LApprovalyard$Requests;", Cond.fieldLink RX2 21 "Approvalyard$Desk" "people" "LApprovalyard$People;", Cond.methodLink RX2 55 yX4_today, Cond.instanceMethod yX4_today]
def wsL_ofRequest_r3 : List Cond := [Cond.selects RX4 yX4_today yX4_today, Cond.initialized RX4, Cond.code yX4_today cX4_today 1 (some .int), Cond.fieldLink RX4 29 "Approvalyard$People" "day" "I", Cond.methodLink RX2 102 yX5_approvalsOf, Cond.instanceMethod yX5_approvalsOf, Cond.selects RX5 yX5_approvalsOf yX5_approvalsOf, Cond.code yX5_approvalsOf cX5_approvalsOf 5 (some .int), Cond.methodLink RX5 56 yX5_hasApproval, Cond.instanceMethod yX5_hasApproval, Cond.selects RX5 yX5_hasApproval yX5_hasApproval, Cond.code yX5_hasApproval cX5_hasApproval 4 (some .boolean), Cond.fieldLink RX5 35 "Approvalyard$Requests" "ends" "LApprovalyard$Row;", Cond.methodLink RX8 147 yX2_isCovered, Cond.instanceMethod yX2_isCovered, Cond.selects RX2 yX2_isCovered yX2_isCovered, Cond.code yX2_isCovered cX2_isCovered 3 (some .boolean), Cond.methodLink RX2 98 yX5_costOf, Cond.methodLink RX2 105 yX2_approvalsOf]
def wsL_ofRequest : List Cond := .codeWith yL_ofRequest cL_ofRequest 5 (some .int) [(0, 10, 13, 13), (0, 10, 17, 15)] :: ((wsL_ofRequest_r1 ++ (wsL_ofRequest_r2 ++ wsL_ofRequest_r3)) ++ wsX80 ++ wsX20 ++ wsX50 ++ wsX60 ++ wsX40 ++ (vx_atS RX8 41 "java/lang/IllegalArgumentException" ["java/lang/RuntimeException", "java/lang/Exception"]).filter goodWord ++ (vx_atS RX8 182 "java/lang/IndexOutOfBoundsException" ["java/lang/RuntimeException", "java/lang/Exception"]).filter goodWord)
def wsL_isCoveredAnew_r1 : List Cond := [Cond.classLink RL 13 "java/lang/IndexOutOfBoundsException", Cond.methodLink RL 56 yX8_isCoveredAnew, Cond.instanceMethod yX8_isCoveredAnew, Cond.selects RX8 yX8_isCoveredAnew yX8_isCoveredAnew, Cond.initialized RX8, Cond.code yX8_isCoveredAnew cX8_isCoveredAnew 4 (some .boolean), Cond.fieldLink RX8 10 "Approvalyard" "book" "LApprovalyard$Book;", Cond.fieldLink RX8 23 "Approvalyard" "deskAnew" "LApprovalyard$Desk;", Cond.methodLink RX8 109 yX8_checkRequest, Cond.instanceMethod yX8_checkRequest, Cond.selects RX8 yX8_checkRequest yX8_checkRequest, Cond.code yX8_checkRequest cX8_checkRequest 2 none, Cond.classLink RX8 178 "java/lang/IndexOutOfBoundsException", Cond.initialized "java/lang/IndexOutOfBoundsException", Cond.fieldLink RX8 19 "Approvalyard" "desk" "LApprovalyard$Desk;", Cond.fieldLink RX8 97 "Approvalyard$Desk" "requests" "LApprovalyard$Requests;", Cond.methodLink RX8 101 yX5_count, Cond.instanceMethod yX5_count, Cond.selects RX5 yX5_count yX5_count, Cond.initialized RX5, Cond.code yX5_count cX5_count 1 (some .int), Cond.fieldLink RX5 38 "Approvalyard$Requests" "number" "I", Cond.methodLink RX8 161 yX0_count, Cond.instanceMethod yX0_count]
def wsL_isCoveredAnew_r2 : List Cond := [Cond.selects RX0 yX0_count yX0_count, Cond.initialized RX0, Cond.code yX0_count cX0_count 1 (some .int), Cond.fieldLink RX0 20 "Approvalyard$Book" "number" "I", Cond.methodLink RX8 162 yX2_clear, Cond.instanceMethod yX2_clear, Cond.selects RX2 yX2_clear yX2_clear, Cond.initialized RX2, Cond.code yX2_clear cX2_clear 1 none, Cond.fieldLink RX2 12 "Approvalyard$Desk" "parts" "LApprovalyard$Parts;", Cond.fieldLink RX2 21 "Approvalyard$Desk" "people" "LApprovalyard$People;", Cond.fieldLink RX2 28 "Approvalyard$Desk" "requests" "LApprovalyard$Requests;", Cond.methodLink RX2 35 yX3_clear, Cond.instanceMethod yX3_clear, Cond.selects RX3 yX3_clear yX3_clear, Cond.initialized RX3, Cond.code yX3_clear cX3_clear 1 none, Cond.fieldLink RX3 14 "Approvalyard$Parts" "counts" "LApprovalyard$Row;", Cond.methodLink RX3 35 yX6_fill, Cond.instanceMethod yX6_fill, Cond.selects RX6 yX6_fill yX6_fill, Cond.initialized RX6, Cond.code yX6_fill cX6_fill 3 none, Cond.fieldLink RX6 7 "Approvalyard$Row" "cells" "[I"]
def wsL_isCoveredAnew_r3 : List Cond := [Cond.methodLink RX2 36 yX4_clear, Cond.instanceMethod yX4_clear, Cond.selects RX4 yX4_clear yX4_clear, Cond.initialized RX4, Cond.code yX4_clear cX4_clear 1 none, Cond.fieldLink RX4 14 "Approvalyard$People" "limits" "LApprovalyard$Row;", Cond.fieldLink RX4 23 "Approvalyard$People" "backs" "LApprovalyard$Row;", Cond.fieldLink RX4 29 "Approvalyard$People" "day" "I", Cond.methodLink RX4 26 yX6_fill, Cond.methodLink RX2 37 yX5_clear, Cond.instanceMethod yX5_clear, Cond.selects RX5 yX5_clear yX5_clear, Cond.code yX5_clear cX5_clear 1 none, Cond.methodLink RX8 84 yX2_apply, Cond.instanceMethod yX2_apply, Cond.selects RX2 yX2_apply yX2_apply, Cond.code yX2_apply cX2_apply 6 (some .int), Cond.methodLink RX2 38 yX0_wordOf, Cond.instanceMethod yX0_wordOf, Cond.selects RX0 yX0_wordOf yX0_wordOf, Cond.code yX0_wordOf cX0_wordOf 3 (some .int), Cond.fieldLink RX0 16 "Approvalyard$Book" "words" "LApprovalyard$Row;", Cond.methodLink RX0 28 yX6_at, Cond.instanceMethod yX6_at]
def wsL_isCoveredAnew_r4 : List Cond := [Cond.selects RX6 yX6_at yX6_at, Cond.code yX6_at cX6_at 2 (some .int), Cond.methodLink RX2 44 yX3_addVersion, Cond.instanceMethod yX3_addVersion, Cond.selects RX3 yX3_addVersion yX3_addVersion, Cond.code yX3_addVersion cX3_addVersion 5 (some .int), Cond.fieldLink RX3 20 "Approvalyard$Parts" "costs" "LApprovalyard$Row;", Cond.fieldLink RX3 23 "Approvalyard$Parts" "replaced" "LApprovalyard$Row;", Cond.fieldLink RX3 26 "Approvalyard$Parts" "needCounts" "LApprovalyard$Row;", Cond.methodLink RX3 38 yX6_at, Cond.methodLink RX3 42 yX3_placeOf, Cond.static yX3_placeOf, Cond.code yX3_placeOf cX3_placeOf 2 (some .int), Cond.methodLink RX3 46 yX6_put, Cond.instanceMethod yX6_put, Cond.selects RX6 yX6_put yX6_put, Cond.code yX6_put cX6_put 3 none, Cond.methodLink RX2 47 yX3_addNeed, Cond.instanceMethod yX3_addNeed, Cond.selects RX3 yX3_addNeed yX3_addNeed, Cond.code yX3_addNeed cX3_addNeed 8 (some .int), Cond.fieldLink RX3 29 "Approvalyard$Parts" "needParts" "LApprovalyard$Row;", Cond.fieldLink RX3 32 "Approvalyard$Parts" "needVersions" "LApprovalyard$Row;", Cond.methodLink RX3 50 yX3_versionSet]
def wsL_isCoveredAnew_r5 : List Cond := [Cond.static yX3_versionSet, Cond.code yX3_versionSet cX3_versionSet 2 (some .int), Cond.methodLink RX2 51 yX3_markReplaced, Cond.instanceMethod yX3_markReplaced, Cond.selects RX3 yX3_markReplaced yX3_markReplaced, Cond.code yX3_markReplaced cX3_markReplaced 3 none, Cond.methodLink RX2 55 yX4_today, Cond.instanceMethod yX4_today, Cond.selects RX4 yX4_today yX4_today, Cond.code yX4_today cX4_today 1 (some .int), Cond.methodLink RX2 59 yX5_loseVersion, Cond.instanceMethod yX5_loseVersion, Cond.selects RX5 yX5_loseVersion yX5_loseVersion, Cond.code yX5_loseVersion cX5_loseVersion 6 (some .int), Cond.fieldLink RX5 29 "Approvalyard$Requests" "choices" "LApprovalyard$Row;", Cond.fieldLink RX5 26 "Approvalyard$Requests" "states" "LApprovalyard$Row;", Cond.methodLink RX5 52 yX6_at, Cond.methodLink RX5 60 yX1_versionOf, Cond.static yX1_versionOf, Cond.initialized RX1, Cond.code yX1_versionOf cX1_versionOf 2 (some .int), Cond.methodLink RX5 66 yX5_approvalsOf, Cond.instanceMethod yX5_approvalsOf, Cond.selects RX5 yX5_approvalsOf yX5_approvalsOf]
def wsL_isCoveredAnew_r6 : List Cond := [Cond.code yX5_approvalsOf cX5_approvalsOf 5 (some .int), Cond.methodLink RX5 56 yX5_hasApproval, Cond.instanceMethod yX5_hasApproval, Cond.selects RX5 yX5_hasApproval yX5_hasApproval, Cond.code yX5_hasApproval cX5_hasApproval 4 (some .boolean), Cond.fieldLink RX5 35 "Approvalyard$Requests" "ends" "LApprovalyard$Row;", Cond.methodLink RX5 49 yX5_endApprovals, Cond.instanceMethod yX5_endApprovals, Cond.selects RX5 yX5_endApprovals yX5_endApprovals, Cond.code yX5_endApprovals cX5_endApprovals 3 none, Cond.methodLink RX5 42 yX6_put, Cond.methodLink RX5 46 yX5_reopen, Cond.instanceMethod yX5_reopen, Cond.selects RX5 yX5_reopen yX5_reopen, Cond.code yX5_reopen cX5_reopen 2 none, Cond.fieldLink RX5 32 "Approvalyard$Requests" "costs" "LApprovalyard$Row;", Cond.methodLink RX2 63 yX5_add, Cond.instanceMethod yX5_add, Cond.selects RX5 yX5_add yX5_add, Cond.code yX5_add cX5_add 5 (some .int), Cond.fieldLink RX5 14 "Approvalyard$Requests" "people" "LApprovalyard$Row;", Cond.fieldLink RX5 20 "Approvalyard$Requests" "parts" "LApprovalyard$Row;", Cond.fieldLink RX5 23 "Approvalyard$Requests" "leasts" "LApprovalyard$Row;", Cond.methodLink RX2 66 yX3_costOf]
def wsL_isCoveredAnew_r7 : List Cond := [Cond.instanceMethod yX3_costOf, Cond.selects RX3 yX3_costOf yX3_costOf, Cond.code yX3_costOf cX3_costOf 5 (some .int), Cond.methodLink RX3 57 yX1_versionOf, Cond.methodLink RX2 70 yX5_settle, Cond.instanceMethod yX5_settle, Cond.selects RX5 yX5_settle yX5_settle, Cond.code yX5_settle cX5_settle 4 (some .int), Cond.methodLink RX2 73 yX4_changeLimit, Cond.instanceMethod yX4_changeLimit, Cond.selects RX4 yX4_changeLimit yX4_changeLimit, Cond.code yX4_changeLimit cX4_changeLimit 4 (some .int), Cond.methodLink RX4 33 yX6_at, Cond.methodLink RX4 37 yX6_put, Cond.methodLink RX2 76 yX4_sendOnLeave, Cond.instanceMethod yX4_sendOnLeave, Cond.selects RX4 yX4_sendOnLeave yX4_sendOnLeave, Cond.code yX4_sendOnLeave cX4_sendOnLeave 4 (some .int), Cond.fieldLink RX4 20 "Approvalyard$People" "delegates" "LApprovalyard$Row;", Cond.methodLink RX2 79 yX2_takeApproval, Cond.instanceMethod yX2_takeApproval, Cond.selects RX2 yX2_takeApproval yX2_takeApproval, Cond.code yX2_takeApproval cX2_takeApproval 5 (some .int), Cond.constant RX2 107 (2147483647)]
def wsL_isCoveredAnew_r8 : List Cond := [Cond.methodLink RX2 98 yX5_costOf, Cond.instanceMethod yX5_costOf, Cond.selects RX5 yX5_costOf yX5_costOf, Cond.code yX5_costOf cX5_costOf 2 (some .int), Cond.methodLink RX2 99 yX4_principalOf, Cond.instanceMethod yX4_principalOf, Cond.selects RX4 yX4_principalOf yX4_principalOf, Cond.code yX4_principalOf cX4_principalOf 4 (some .int), Cond.methodLink RX4 41 yX4_isAway, Cond.instanceMethod yX4_isAway, Cond.selects RX4 yX4_isAway yX4_isAway, Cond.code yX4_isAway cX4_isAway 2 (some .boolean), Cond.methodLink RX2 108 yX4_backOf, Cond.instanceMethod yX4_backOf, Cond.selects RX4 yX4_backOf yX4_backOf, Cond.code yX4_backOf cX4_backOf 2 (some .int), Cond.methodLink RX2 111 yX5_addApproval, Cond.instanceMethod yX5_addApproval, Cond.selects RX5 yX5_addApproval yX5_addApproval, Cond.code yX5_addApproval cX5_addApproval 4 none, Cond.methodLink RX2 82 yX5_markReleased, Cond.instanceMethod yX5_markReleased, Cond.selects RX5 yX5_markReleased yX5_markReleased, Cond.code yX5_markReleased cX5_markReleased 2 (some .int)]
def wsL_isCoveredAnew_r9 : List Cond := [Cond.methodLink RX2 85 yX4_addDays, Cond.instanceMethod yX4_addDays, Cond.selects RX4 yX4_addDays yX4_addDays, Cond.code yX4_addDays cX4_addDays 2 (some .int), Cond.methodLink RX8 147 yX2_isCovered, Cond.instanceMethod yX2_isCovered, Cond.selects RX2 yX2_isCovered yX2_isCovered, Cond.code yX2_isCovered cX2_isCovered 3 (some .boolean), Cond.methodLink RX2 105 yX2_approvalsOf, Cond.instanceMethod yX2_approvalsOf, Cond.selects RX2 yX2_approvalsOf yX2_approvalsOf, Cond.code yX2_approvalsOf cX2_approvalsOf 2 (some .int), Cond.methodLink RX2 102 yX5_approvalsOf]
def wsL_isCoveredAnew : List Cond := .codeWith yL_isCoveredAnew cL_isCoveredAnew 4 (some .int) [(0, 16, 19, 13)] :: ((wsL_isCoveredAnew_r1 ++ (wsL_isCoveredAnew_r2 ++ (wsL_isCoveredAnew_r3 ++ (wsL_isCoveredAnew_r4 ++ (wsL_isCoveredAnew_r5 ++ (wsL_isCoveredAnew_r6 ++ (wsL_isCoveredAnew_r7 ++ (wsL_isCoveredAnew_r8 ++ wsL_isCoveredAnew_r9)))))))) ++ wsX80 ++ wsX20 ++ wsX50 ++ wsX00 ++ wsX30 ++ wsX60 ++ wsX40 ++ (vx_atS RX8 182 "java/lang/IndexOutOfBoundsException" ["java/lang/RuntimeException", "java/lang/Exception"]).filter goodWord)
def wsL_strain_r1 : List Cond := [Cond.classLink RL 13 "java/lang/IndexOutOfBoundsException", Cond.methodLink RL 60 yX8_strain, Cond.instanceMethod yX8_strain, Cond.selects RX8 yX8_strain yX8_strain, Cond.initialized RX8, Cond.code yX8_strain cX8_strain 4 (some .float), Cond.fieldLink RX8 19 "Approvalyard" "desk" "LApprovalyard$Desk;", Cond.fieldLink RX8 97 "Approvalyard$Desk" "requests" "LApprovalyard$Requests;", Cond.constantFloat RX8 165 (3212836864), Cond.fieldLink RX8 166 "Approvalyard$Desk" "people" "LApprovalyard$People;", Cond.methodLink RX8 109 yX8_checkRequest, Cond.instanceMethod yX8_checkRequest, Cond.selects RX8 yX8_checkRequest yX8_checkRequest, Cond.code yX8_checkRequest cX8_checkRequest 2 none, Cond.classLink RX8 178 "java/lang/IndexOutOfBoundsException", Cond.initialized "java/lang/IndexOutOfBoundsException", Cond.methodLink RX8 101 yX5_count, Cond.instanceMethod yX5_count, Cond.selects RX5 yX5_count yX5_count, Cond.initialized RX5, Cond.code yX5_count cX5_count 1 (some .int), Cond.fieldLink RX5 38 "Approvalyard$Requests" "number" "I", Cond.methodLink RX8 112 yX5_stateOf, Cond.instanceMethod yX5_stateOf]
def wsL_strain_r2 : List Cond := [Cond.selects RX5 yX5_stateOf yX5_stateOf, Cond.code yX5_stateOf cX5_stateOf 2 (some .int), Cond.fieldLink RX5 26 "Approvalyard$Requests" "states" "LApprovalyard$Row;", Cond.methodLink RX5 52 yX6_at, Cond.instanceMethod yX6_at, Cond.selects RX6 yX6_at yX6_at, Cond.initialized RX6, Cond.code yX6_at cX6_at 2 (some .int), Cond.fieldLink RX6 7 "Approvalyard$Row" "cells" "[I", Cond.methodLink RX8 153 yX5_costOf, Cond.instanceMethod yX5_costOf, Cond.selects RX5 yX5_costOf yX5_costOf, Cond.code yX5_costOf cX5_costOf 2 (some .int), Cond.fieldLink RX5 32 "Approvalyard$Requests" "costs" "LApprovalyard$Row;", Cond.methodLink RX8 170 yX5_personOf, Cond.instanceMethod yX5_personOf, Cond.selects RX5 yX5_personOf yX5_personOf, Cond.code yX5_personOf cX5_personOf 2 (some .int), Cond.fieldLink RX5 14 "Approvalyard$Requests" "people" "LApprovalyard$Row;", Cond.methodLink RX8 173 yX4_greatestLimit, Cond.instanceMethod yX4_greatestLimit, Cond.selects RX4 yX4_greatestLimit yX4_greatestLimit, Cond.initialized RX4, Cond.code yX4_greatestLimit cX4_greatestLimit 6 (some .int)]
def wsL_strain_r3 : List Cond := [Cond.fieldLink RX4 14 "Approvalyard$People" "limits" "LApprovalyard$Row;", Cond.methodLink RX4 33 yX6_at, Cond.methodLink RX4 41 yX4_isAway, Cond.instanceMethod yX4_isAway, Cond.selects RX4 yX4_isAway yX4_isAway, Cond.code yX4_isAway cX4_isAway 2 (some .boolean), Cond.fieldLink RX4 29 "Approvalyard$People" "day" "I", Cond.fieldLink RX4 23 "Approvalyard$People" "backs" "LApprovalyard$Row;"]
def wsL_strain : List Cond := .codeWith yL_strain cL_strain 4 (some .int) [(0, 9, 12, 13)] :: ((wsL_strain_r1 ++ (wsL_strain_r2 ++ wsL_strain_r3)) ++ wsX80 ++ wsX20 ++ wsX50 ++ wsX60 ++ wsX40 ++ (vx_atS RX8 182 "java/lang/IndexOutOfBoundsException" ["java/lang/RuntimeException", "java/lang/Exception"]).filter goodWord)
def wsL_law0_r1 : List Cond := [Cond.classLink RL 8 RX8, Cond.instantiable RX8 4, Cond.initialized RX8, Cond.classLink RL 65 RX9, Cond.instantiable RX9 24, Cond.initialized RX9, Cond.arrayClass .long, Cond.arrayClass .double, Cond.methodLink RL 64 yX8_init, Cond.instanceMethod yX8_init, Cond.code yX8_init cX8_init 1 none, Cond.methodLink RX8 1 objectInit, Cond.instanceMethod objectInit, Cond.code objectInit ⟨#[0xb1]⟩ 1 none, Cond.classLink RX8 7 RX0, Cond.instantiable RX0 2, Cond.initialized RX0, Cond.fieldLink RX8 10 "Approvalyard" "book" "LApprovalyard$Book;", Cond.classLink RX8 16 RX2, Cond.instantiable RX2 3, Cond.initialized RX2, Cond.fieldLink RX8 19 "Approvalyard" "desk" "LApprovalyard$Desk;", Cond.fieldLink RX8 23 "Approvalyard" "deskAnew" "LApprovalyard$Desk;", Cond.classLink RX8 26 RX7]
def wsL_law0_r2 : List Cond := [Cond.instantiable RX7 4, Cond.initialized RX7, Cond.fieldLink RX8 29 "Approvalyard" "search" "LApprovalyard$Search;", Cond.instanceMethod yX0_init, Cond.code yX0_init cX0_init 1 none, Cond.methodLink RX0 3 objectInit, Cond.classLink RX0 9 RX6, Cond.instantiable RX6 1, Cond.initialized RX6, Cond.fieldLink RX0 16 "Approvalyard$Book" "words" "LApprovalyard$Row;", Cond.methodLink RX0 13 yX6_init, Cond.instanceMethod yX6_init, Cond.code yX6_init cX6_init 2 none, Cond.methodLink RX6 1 objectInit, Cond.arrayClass .int, Cond.fieldLink RX6 7 "Approvalyard$Row" "cells" "[I", Cond.methodLink RX8 18 yX2_init, Cond.instanceMethod yX2_init, Cond.code yX2_init cX2_init 1 none, Cond.methodLink RX2 3 objectInit, Cond.classLink RX2 9 RX3, Cond.instantiable RX3 6, Cond.initialized RX3, Cond.fieldLink RX2 12 "Approvalyard$Desk" "parts" "LApprovalyard$Parts;"]
def wsL_law0_r3 : List Cond := [Cond.classLink RX2 18 RX4, Cond.instantiable RX4 4, Cond.initialized RX4, Cond.fieldLink RX2 21 "Approvalyard$Desk" "people" "LApprovalyard$People;", Cond.classLink RX2 25 RX5, Cond.instantiable RX5 8, Cond.initialized RX5, Cond.fieldLink RX2 28 "Approvalyard$Desk" "requests" "LApprovalyard$Requests;", Cond.instanceMethod yX3_init, Cond.code yX3_init cX3_init 1 none, Cond.methodLink RX3 3 objectInit, Cond.classLink RX3 9 RX6, Cond.fieldLink RX3 14 "Approvalyard$Parts" "counts" "LApprovalyard$Row;", Cond.fieldLink RX3 20 "Approvalyard$Parts" "costs" "LApprovalyard$Row;", Cond.fieldLink RX3 23 "Approvalyard$Parts" "replaced" "LApprovalyard$Row;", Cond.fieldLink RX3 26 "Approvalyard$Parts" "needCounts" "LApprovalyard$Row;", Cond.fieldLink RX3 29 "Approvalyard$Parts" "needParts" "LApprovalyard$Row;", Cond.fieldLink RX3 32 "Approvalyard$Parts" "needVersions" "LApprovalyard$Row;", Cond.methodLink RX3 11 yX6_init, Cond.instanceMethod yX4_init, Cond.code yX4_init cX4_init 1 none, Cond.methodLink RX4 3 objectInit, Cond.classLink RX4 9 RX6, Cond.fieldLink RX4 14 "Approvalyard$People" "limits" "LApprovalyard$Row;"]
def wsL_law0_r4 : List Cond := [Cond.fieldLink RX4 20 "Approvalyard$People" "delegates" "LApprovalyard$Row;", Cond.fieldLink RX4 23 "Approvalyard$People" "backs" "LApprovalyard$Row;", Cond.methodLink RX4 11 yX6_init, Cond.instanceMethod yX5_init, Cond.code yX5_init cX5_init 1 none, Cond.methodLink RX5 3 objectInit, Cond.classLink RX5 9 RX6, Cond.fieldLink RX5 14 "Approvalyard$Requests" "people" "LApprovalyard$Row;", Cond.fieldLink RX5 20 "Approvalyard$Requests" "parts" "LApprovalyard$Row;", Cond.fieldLink RX5 23 "Approvalyard$Requests" "leasts" "LApprovalyard$Row;", Cond.fieldLink RX5 26 "Approvalyard$Requests" "states" "LApprovalyard$Row;", Cond.fieldLink RX5 29 "Approvalyard$Requests" "choices" "LApprovalyard$Row;", Cond.fieldLink RX5 32 "Approvalyard$Requests" "costs" "LApprovalyard$Row;", Cond.fieldLink RX5 35 "Approvalyard$Requests" "ends" "LApprovalyard$Row;", Cond.methodLink RX5 11 yX6_init, Cond.methodLink RX2 32 yX2_clear, Cond.instanceMethod yX2_clear, Cond.selects RX2 yX2_clear yX2_clear, Cond.code yX2_clear cX2_clear 1 none, Cond.methodLink RX2 35 yX3_clear, Cond.instanceMethod yX3_clear, Cond.selects RX3 yX3_clear yX3_clear, Cond.code yX3_clear cX3_clear 1 none, Cond.methodLink RX3 35 yX6_fill]
def wsL_law0_r5 : List Cond := [Cond.instanceMethod yX6_fill, Cond.selects RX6 yX6_fill yX6_fill, Cond.code yX6_fill cX6_fill 3 none, Cond.methodLink RX2 36 yX4_clear, Cond.instanceMethod yX4_clear, Cond.selects RX4 yX4_clear yX4_clear, Cond.code yX4_clear cX4_clear 1 none, Cond.fieldLink RX4 29 "Approvalyard$People" "day" "I", Cond.methodLink RX4 26 yX6_fill, Cond.methodLink RX2 37 yX5_clear, Cond.instanceMethod yX5_clear, Cond.selects RX5 yX5_clear yX5_clear, Cond.code yX5_clear cX5_clear 1 none, Cond.fieldLink RX5 38 "Approvalyard$Requests" "number" "I", Cond.instanceMethod yX7_init, Cond.code yX7_init cX7_init 1 none, Cond.methodLink RX7 3 objectInit, Cond.classLink RX7 9 RX6, Cond.fieldLink RX7 14 "Approvalyard$Search" "order" "LApprovalyard$Row;", Cond.fieldLink RX7 20 "Approvalyard$Search" "wanted" "LApprovalyard$Row;", Cond.methodLink RX7 11 yX6_init, Cond.methodLink RL 67 yX9_init, Cond.instanceMethod yX9_init, Cond.code yX9_init cX9_init 2 none]
def wsL_law0_r6 : List Cond := [Cond.methodLink RX9 1 objectInit, Cond.fieldLink RX9 7 "ApprovalyardModel" "vc" "[I", Cond.fieldLink RX9 13 "ApprovalyardModel" "vr" "[I", Cond.fieldLink RX9 16 "ApprovalyardModel" "vn" "[I", Cond.fieldLink RX9 19 "ApprovalyardModel" "needs" "[I", Cond.fieldLink RX9 22 "ApprovalyardModel" "versions" "[I", Cond.fieldLink RX9 25 "ApprovalyardModel" "lim" "[I", Cond.fieldLink RX9 28 "ApprovalyardModel" "back" "[I", Cond.fieldLink RX9 31 "ApprovalyardModel" "deputy" "[I", Cond.fieldLink RX9 34 "ApprovalyardModel" "qp" "[I", Cond.fieldLink RX9 37 "ApprovalyardModel" "qt" "[I", Cond.fieldLink RX9 40 "ApprovalyardModel" "ql" "[I", Cond.fieldLink RX9 43 "ApprovalyardModel" "qs" "[I", Cond.fieldLink RX9 46 "ApprovalyardModel" "qc" "[I", Cond.fieldLink RX9 49 "ApprovalyardModel" "chosen" "[I", Cond.fieldLink RX9 52 "ApprovalyardModel" "by" "[I", Cond.fieldLink RX9 55 "ApprovalyardModel" "until" "[I", Cond.fieldLink RX9 58 "ApprovalyardModel" "row" "[I", Cond.fieldLink RX9 61 "ApprovalyardModel" "pick" "[I", Cond.fieldLink RX9 64 "ApprovalyardModel" "size" "[I", Cond.fieldLink RX9 67 "ApprovalyardModel" "place" "[I", Cond.methodLink RL 68 yL_version, Cond.static yL_version, Cond.initialized RL]
def wsL_law0_r7 : List Cond := [Cond.codeWith yL_version cL_version 5 (some .int) [(0, 10, 13, 13), (0, 10, 17, 15), (0, 10, 21, 17)], Cond.classLink RL 13 "java/lang/IndexOutOfBoundsException", Cond.classLink RL 15 "java/lang/IllegalArgumentException", Cond.classLink RL 17 "java/lang/IllegalStateException", Cond.methodLink RL 7 yX8_version, Cond.instanceMethod yX8_version, Cond.selects RX8 yX8_version yX8_version, Cond.code yX8_version cX8_version 3 (some .int), Cond.classLink RX8 37 "java/lang/IllegalArgumentException", Cond.initialized "java/lang/IllegalArgumentException", Cond.classLink RX8 54 "java/lang/IllegalStateException", Cond.initialized "java/lang/IllegalStateException", Cond.fieldLink RX8 44 "Approvalyard$Desk" "parts" "LApprovalyard$Parts;", Cond.methodLink RX8 33 yX8_checkPart, Cond.static yX8_checkPart, Cond.code yX8_checkPart cX8_checkPart 1 none, Cond.classLink RX8 178 "java/lang/IndexOutOfBoundsException", Cond.initialized "java/lang/IndexOutOfBoundsException", Cond.methodLink RX8 48 yX3_countOf, Cond.instanceMethod yX3_countOf, Cond.selects RX3 yX3_countOf yX3_countOf, Cond.code yX3_countOf cX3_countOf 2 (some .int), Cond.methodLink RX3 38 yX6_at, Cond.instanceMethod yX6_at]
def wsL_law0_r8 : List Cond := [Cond.selects RX6 yX6_at yX6_at, Cond.code yX6_at cX6_at 2 (some .int), Cond.methodLink RX8 59 yX8_tell, Cond.instanceMethod yX8_tell, Cond.selects RX8 yX8_tell yX8_tell, Cond.code yX8_tell cX8_tell 5 (some .int), Cond.methodLink RX8 80 yX0_write, Cond.instanceMethod yX0_write, Cond.selects RX0 yX0_write yX0_write, Cond.code yX0_write cX0_write 8 (some .int), Cond.fieldLink RX0 20 "Approvalyard$Book" "number" "I", Cond.methodLink RX0 24 yX6_put, Cond.instanceMethod yX6_put, Cond.selects RX6 yX6_put yX6_put, Cond.code yX6_put cX6_put 3 none, Cond.methodLink RX8 84 yX2_apply, Cond.instanceMethod yX2_apply, Cond.selects RX2 yX2_apply yX2_apply, Cond.code yX2_apply cX2_apply 6 (some .int), Cond.methodLink RX2 38 yX0_wordOf, Cond.instanceMethod yX0_wordOf, Cond.selects RX0 yX0_wordOf yX0_wordOf, Cond.code yX0_wordOf cX0_wordOf 3 (some .int), Cond.methodLink RX0 28 yX6_at]
def wsL_law0_r9 : List Cond := [Cond.methodLink RX2 44 yX3_addVersion, Cond.instanceMethod yX3_addVersion, Cond.selects RX3 yX3_addVersion yX3_addVersion, Cond.code yX3_addVersion cX3_addVersion 5 (some .int), Cond.methodLink RX3 42 yX3_placeOf, Cond.static yX3_placeOf, Cond.code yX3_placeOf cX3_placeOf 2 (some .int), Cond.methodLink RX3 46 yX6_put, Cond.methodLink RX2 47 yX3_addNeed, Cond.instanceMethod yX3_addNeed, Cond.selects RX3 yX3_addNeed yX3_addNeed, Cond.code yX3_addNeed cX3_addNeed 8 (some .int), Cond.methodLink RX3 50 yX3_versionSet, Cond.static yX3_versionSet, Cond.code yX3_versionSet cX3_versionSet 2 (some .int), Cond.methodLink RX2 51 yX3_markReplaced, Cond.instanceMethod yX3_markReplaced, Cond.selects RX3 yX3_markReplaced yX3_markReplaced, Cond.code yX3_markReplaced cX3_markReplaced 3 none, Cond.methodLink RX2 55 yX4_today, Cond.instanceMethod yX4_today, Cond.selects RX4 yX4_today yX4_today, Cond.code yX4_today cX4_today 1 (some .int), Cond.methodLink RX2 59 yX5_loseVersion]
def wsL_law0_r10 : List Cond := [Cond.instanceMethod yX5_loseVersion, Cond.selects RX5 yX5_loseVersion yX5_loseVersion, Cond.code yX5_loseVersion cX5_loseVersion 6 (some .int), Cond.methodLink RX5 52 yX6_at, Cond.methodLink RX5 60 yX1_versionOf, Cond.static yX1_versionOf, Cond.initialized RX1, Cond.code yX1_versionOf cX1_versionOf 2 (some .int), Cond.methodLink RX5 66 yX5_approvalsOf, Cond.instanceMethod yX5_approvalsOf, Cond.selects RX5 yX5_approvalsOf yX5_approvalsOf, Cond.code yX5_approvalsOf cX5_approvalsOf 5 (some .int), Cond.methodLink RX5 56 yX5_hasApproval, Cond.instanceMethod yX5_hasApproval, Cond.selects RX5 yX5_hasApproval yX5_hasApproval, Cond.code yX5_hasApproval cX5_hasApproval 4 (some .boolean), Cond.methodLink RX5 49 yX5_endApprovals, Cond.instanceMethod yX5_endApprovals, Cond.selects RX5 yX5_endApprovals yX5_endApprovals, Cond.code yX5_endApprovals cX5_endApprovals 3 none, Cond.methodLink RX5 42 yX6_put, Cond.methodLink RX5 46 yX5_reopen, Cond.instanceMethod yX5_reopen, Cond.selects RX5 yX5_reopen yX5_reopen]
def wsL_law0_r11 : List Cond := [Cond.code yX5_reopen cX5_reopen 2 none, Cond.methodLink RX2 63 yX5_add, Cond.instanceMethod yX5_add, Cond.selects RX5 yX5_add yX5_add, Cond.code yX5_add cX5_add 5 (some .int), Cond.methodLink RX2 66 yX3_costOf, Cond.instanceMethod yX3_costOf, Cond.selects RX3 yX3_costOf yX3_costOf, Cond.code yX3_costOf cX3_costOf 5 (some .int), Cond.methodLink RX3 57 yX1_versionOf, Cond.methodLink RX2 70 yX5_settle, Cond.instanceMethod yX5_settle, Cond.selects RX5 yX5_settle yX5_settle, Cond.code yX5_settle cX5_settle 4 (some .int), Cond.methodLink RX2 73 yX4_changeLimit, Cond.instanceMethod yX4_changeLimit, Cond.selects RX4 yX4_changeLimit yX4_changeLimit, Cond.code yX4_changeLimit cX4_changeLimit 4 (some .int), Cond.methodLink RX4 33 yX6_at, Cond.methodLink RX4 37 yX6_put, Cond.methodLink RX2 76 yX4_sendOnLeave, Cond.instanceMethod yX4_sendOnLeave, Cond.selects RX4 yX4_sendOnLeave yX4_sendOnLeave, Cond.code yX4_sendOnLeave cX4_sendOnLeave 4 (some .int)]
def wsL_law0_r12 : List Cond := [Cond.methodLink RX2 79 yX2_takeApproval, Cond.instanceMethod yX2_takeApproval, Cond.selects RX2 yX2_takeApproval yX2_takeApproval, Cond.code yX2_takeApproval cX2_takeApproval 5 (some .int), Cond.constant RX2 107 (2147483647), Cond.methodLink RX2 98 yX5_costOf, Cond.instanceMethod yX5_costOf, Cond.selects RX5 yX5_costOf yX5_costOf, Cond.code yX5_costOf cX5_costOf 2 (some .int), Cond.methodLink RX2 99 yX4_principalOf, Cond.instanceMethod yX4_principalOf, Cond.selects RX4 yX4_principalOf yX4_principalOf, Cond.code yX4_principalOf cX4_principalOf 4 (some .int), Cond.methodLink RX4 41 yX4_isAway, Cond.instanceMethod yX4_isAway, Cond.selects RX4 yX4_isAway yX4_isAway, Cond.code yX4_isAway cX4_isAway 2 (some .boolean), Cond.methodLink RX2 108 yX4_backOf, Cond.instanceMethod yX4_backOf, Cond.selects RX4 yX4_backOf yX4_backOf, Cond.code yX4_backOf cX4_backOf 2 (some .int), Cond.methodLink RX2 111 yX5_addApproval, Cond.instanceMethod yX5_addApproval, Cond.selects RX5 yX5_addApproval yX5_addApproval]
def wsL_law0_r13 : List Cond := [Cond.code yX5_addApproval cX5_addApproval 4 none, Cond.methodLink RX2 82 yX5_markReleased, Cond.instanceMethod yX5_markReleased, Cond.selects RX5 yX5_markReleased yX5_markReleased, Cond.code yX5_markReleased cX5_markReleased 2 (some .int), Cond.methodLink RX2 85 yX4_addDays, Cond.instanceMethod yX4_addDays, Cond.selects RX4 yX4_addDays yX4_addDays, Cond.code yX4_addDays cX4_addDays 2 (some .int), Cond.methodLink RL 73 yX9_version, Cond.instanceMethod yX9_version, Cond.selects RX9 yX9_version yX9_version, Cond.code yX9_version cX9_version 3 (some .int), Cond.fieldLink RX9 88 "ApprovalyardModel" "entries" "I", Cond.methodLink RX9 78 yX9_isEight, Cond.instanceMethod yX9_isEight, Cond.selects RX9 yX9_isEight yX9_isEight, Cond.code yX9_isEight cX9_isEight 2 (some .boolean), Cond.methodLink RX9 74 yX9_in, Cond.instanceMethod yX9_in, Cond.selects RX9 yX9_in yX9_in, Cond.code yX9_in cX9_in 4 (some .boolean), Cond.methodLink RX9 85 yX9_holds, Cond.instanceMethod yX9_holds]
def wsL_law0_r14 : List Cond := [Cond.selects RX9 yX9_holds yX9_holds, Cond.code yX9_holds cX9_holds 2 (some .boolean), Cond.fieldLink RX9 70 "ApprovalyardModel" "thrown" "I", Cond.methodLink RL 74 yX9_thrown, Cond.instanceMethod yX9_thrown, Cond.selects RX9 yX9_thrown yX9_thrown, Cond.code yX9_thrown cX9_thrown 1 (some .int), Cond.methodLink RL 78 yL_need, Cond.static yL_need, Cond.codeWith yL_need cL_need 8 (some .int) [(0, 16, 19, 13), (0, 16, 23, 15), (0, 16, 27, 17)], Cond.methodLink RL 19 yX8_need, Cond.instanceMethod yX8_need, Cond.selects RX8 yX8_need yX8_need, Cond.code yX8_need cX8_need 6 (some .int), Cond.methodLink RX8 63 yX8_checkVersion, Cond.instanceMethod yX8_checkVersion, Cond.selects RX8 yX8_checkVersion yX8_checkVersion, Cond.code yX8_checkVersion cX8_checkVersion 3 none, Cond.methodLink RX8 69 yX8_checkLeast, Cond.static yX8_checkLeast, Cond.code yX8_checkLeast cX8_checkLeast 1 none, Cond.methodLink RX8 74 yX3_needsOf, Cond.instanceMethod yX3_needsOf, Cond.selects RX3 yX3_needsOf yX3_needsOf]
def wsL_law0_r15 : List Cond := [Cond.code yX3_needsOf cX3_needsOf 3 (some .int), Cond.methodLink RL 81 yX9_need, Cond.instanceMethod yX9_need, Cond.selects RX9 yX9_need yX9_need, Cond.code yX9_need cX9_need 10 (some .int), Cond.methodLink RX9 91 yX9_isVersion, Cond.instanceMethod yX9_isVersion, Cond.selects RX9 yX9_isVersion yX9_isVersion, Cond.code yX9_isVersion cX9_isVersion 3 (some .boolean), Cond.methodLink RL 82 yL_replace, Cond.static yL_replace, Cond.codeWith yL_replace cL_replace 5 (some .int) [(0, 10, 13, 13), (0, 10, 17, 17)], Cond.methodLink RL 23 yX8_replace, Cond.instanceMethod yX8_replace, Cond.selects RX8 yX8_replace yX8_replace, Cond.code yX8_replace cX8_replace 3 (some .int), Cond.methodLink RX8 88 yX3_isReplaced, Cond.instanceMethod yX3_isReplaced, Cond.selects RX3 yX3_isReplaced yX3_isReplaced, Cond.code yX3_isReplaced cX3_isReplaced 3 (some .boolean), Cond.methodLink RL 84 yX9_replace, Cond.instanceMethod yX9_replace, Cond.selects RX9 yX9_replace yX9_replace, Cond.code yX9_replace cX9_replace 6 (some .int)]
def wsL_law0_r16 : List Cond := [Cond.fieldLink RX9 82 "ApprovalyardModel" "requests" "I", Cond.methodLink RX9 95 yX9_ends, Cond.instanceMethod yX9_ends, Cond.selects RX9 yX9_ends yX9_ends, Cond.code yX9_ends cX9_ends 4 (some .int), Cond.methodLink RX9 99 yX9_empty, Cond.instanceMethod yX9_empty, Cond.selects RX9 yX9_empty yX9_empty, Cond.code yX9_empty cX9_empty 3 none, Cond.methodLink RL 85 yL_request, Cond.static yL_request, Cond.codeWith yL_request cL_request 6 (some .int) [(0, 12, 15, 13), (0, 12, 19, 15), (0, 12, 23, 17)], Cond.methodLink RL 26 yX8_request, Cond.instanceMethod yX8_request, Cond.selects RX8 yX8_request yX8_request, Cond.code yX8_request cX8_request 4 (some .int), Cond.fieldLink RX8 97 "Approvalyard$Desk" "requests" "LApprovalyard$Requests;", Cond.methodLink RX8 94 yX8_checkPerson, Cond.static yX8_checkPerson, Cond.code yX8_checkPerson cX8_checkPerson 1 none, Cond.methodLink RX8 101 yX5_count, Cond.instanceMethod yX5_count, Cond.selects RX5 yX5_count yX5_count, Cond.code yX5_count cX5_count 1 (some .int)]
def wsL_law0_r17 : List Cond := [Cond.methodLink RL 88 yX9_request, Cond.instanceMethod yX9_request, Cond.selects RX9 yX9_request yX9_request, Cond.code yX9_request cX9_request 4 (some .int), Cond.methodLink RL 89 yL_resolve, Cond.static yL_resolve, Cond.codeWith yL_resolve cL_resolve 4 (some .int) [(0, 9, 12, 13), (0, 9, 15, 17)], Cond.methodLink RL 30 yX8_resolve, Cond.instanceMethod yX8_resolve, Cond.selects RX8 yX8_resolve yX8_resolve, Cond.code yX8_resolve cX8_resolve 3 (some .int), Cond.methodLink RX8 109 yX8_checkRequest, Cond.instanceMethod yX8_checkRequest, Cond.selects RX8 yX8_checkRequest yX8_checkRequest, Cond.code yX8_checkRequest cX8_checkRequest 2 none, Cond.methodLink RX8 112 yX5_stateOf, Cond.instanceMethod yX5_stateOf, Cond.selects RX5 yX5_stateOf yX5_stateOf, Cond.code yX5_stateOf cX5_stateOf 2 (some .int), Cond.methodLink RX8 117 yX5_partOf, Cond.instanceMethod yX5_partOf, Cond.selects RX5 yX5_partOf yX5_partOf, Cond.code yX5_partOf cX5_partOf 2 (some .int), Cond.methodLink RX8 120 yX5_leastOf]
def wsL_law0_r18 : List Cond := [Cond.instanceMethod yX5_leastOf, Cond.selects RX5 yX5_leastOf yX5_leastOf, Cond.code yX5_leastOf cX5_leastOf 2 (some .int), Cond.methodLink RX8 123 yX7_find, Cond.instanceMethod yX7_find, Cond.selects RX7 yX7_find yX7_find, Cond.code yX7_find cX7_find 5 (some .int), Cond.fieldLink RX7 40 "Approvalyard$Search" "number" "I", Cond.fieldLink RX7 46 "Approvalyard$Search" "choice" "I", Cond.methodLink RX7 23 yX3_current, Cond.instanceMethod yX3_current, Cond.selects RX3 yX3_current yX3_current, Cond.code yX3_current cX3_current 4 (some .int), Cond.methodLink RX3 53 yX3_isReplaced, Cond.methodLink RX7 29 yX6_put, Cond.methodLink RX7 33 yX6_at, Cond.methodLink RX7 36 yX3_versionSet, Cond.methodLink RX7 49 yX7_fill, Cond.instanceMethod yX7_fill, Cond.selects RX7 yX7_fill yX7_fill, Cond.code yX7_fill cX7_fill 8 (some .boolean), Cond.methodLink RX7 53 yX7_take, Cond.instanceMethod yX7_take, Cond.selects RX7 yX7_take yX7_take]
def wsL_law0_r19 : List Cond := [Cond.code yX7_take cX7_take 10 (some .boolean), Cond.methodLink RX7 61 yX3_needsOf, Cond.methodLink RX7 64 yX3_neededPart, Cond.instanceMethod yX3_neededPart, Cond.selects RX3 yX3_neededPart yX3_neededPart, Cond.code yX3_neededPart cX3_neededPart 4 (some .int), Cond.methodLink RX7 67 yX3_neededVersions, Cond.instanceMethod yX3_neededVersions, Cond.selects RX3 yX3_neededVersions yX3_neededVersions, Cond.code yX3_neededVersions cX3_neededVersions 4 (some .int), Cond.methodLink RX7 70 yX7_await, Cond.instanceMethod yX7_await, Cond.selects RX7 yX7_await yX7_await, Cond.code yX7_await cX7_await 3 none, Cond.methodLink RX7 57 yX1_with, Cond.static yX1_with, Cond.code yX1_with cX1_with 3 (some .int), Cond.methodLink RL 92 yX9_resolve, Cond.instanceMethod yX9_resolve, Cond.selects RX9 yX9_resolve yX9_resolve, Cond.code yX9_resolve cX9_resolve 5 (some .int), Cond.methodLink RX9 113 yX9_isRequest, Cond.instanceMethod yX9_isRequest, Cond.selects RX9 yX9_isRequest yX9_isRequest]
def wsL_law0_r20 : List Cond := [Cond.code yX9_isRequest cX9_isRequest 2 (some .boolean), Cond.methodLink RX9 116 yX9_search, Cond.instanceMethod yX9_search, Cond.selects RX9 yX9_search yX9_search, Cond.code yX9_search cX9_search 6 (some .int), Cond.methodLink RX9 103 yX9_forget, Cond.instanceMethod yX9_forget, Cond.selects RX9 yX9_forget yX9_forget, Cond.code yX9_forget cX9_forget 3 none, Cond.methodLink RX9 106 yX9_goes, Cond.instanceMethod yX9_goes, Cond.selects RX9 yX9_goes yX9_goes, Cond.code yX9_goes cX9_goes 9 (some .boolean), Cond.methodLink RX9 109 yX9_comes, Cond.instanceMethod yX9_comes, Cond.selects RX9 yX9_comes yX9_comes, Cond.code yX9_comes cX9_comes 7 (some .int), Cond.methodLink RL 93 yL_chosen, Cond.static yL_chosen, Cond.codeWith yL_chosen cL_chosen 5 (some .int) [(0, 10, 13, 13)], Cond.methodLink RL 34 yX8_chosen, Cond.instanceMethod yX8_chosen, Cond.selects RX8 yX8_chosen yX8_chosen, Cond.code yX8_chosen cX8_chosen 4 (some .int)]
def wsL_law0_r21 : List Cond := [Cond.methodLink RX8 127 yX5_choiceOf, Cond.instanceMethod yX5_choiceOf, Cond.selects RX5 yX5_choiceOf yX5_choiceOf, Cond.code yX5_choiceOf cX5_choiceOf 2 (some .int), Cond.methodLink RX8 130 yX1_versionOf, Cond.methodLink RL 95 yX9_chosen, Cond.instanceMethod yX9_chosen, Cond.selects RX9 yX9_chosen yX9_chosen, Cond.code yX9_chosen cX9_chosen 3 (some .int), Cond.methodLink RL 96 yL_limit, Cond.static yL_limit, Cond.codeWith yL_limit cL_limit 5 (some .int) [(0, 10, 13, 13), (0, 10, 17, 15)], Cond.methodLink RL 37 yX8_limit, Cond.instanceMethod yX8_limit, Cond.selects RX8 yX8_limit yX8_limit, Cond.code yX8_limit cX8_limit 3 (some .int), Cond.methodLink RL 98 yX9_limit, Cond.instanceMethod yX9_limit, Cond.selects RX9 yX9_limit yX9_limit, Cond.code yX9_limit cX9_limit 4 (some .int), Cond.methodLink RL 99 yL_leave, Cond.static yL_leave, Cond.codeWith yL_leave cL_leave 6 (some .int) [(0, 12, 15, 13), (0, 12, 19, 15)], Cond.methodLink RL 40 yX8_leave]
def wsL_law0_r22 : List Cond := [Cond.instanceMethod yX8_leave, Cond.selects RX8 yX8_leave yX8_leave, Cond.code yX8_leave cX8_leave 4 (some .int), Cond.methodLink RX8 139 yX8_checkDays, Cond.static yX8_checkDays, Cond.code yX8_checkDays cX8_checkDays 1 none, Cond.methodLink RL 101 yX9_leave, Cond.instanceMethod yX9_leave, Cond.selects RX9 yX9_leave yX9_leave, Cond.code yX9_leave cX9_leave 4 (some .int), Cond.fieldLink RX9 119 "ApprovalyardModel" "day" "I", Cond.methodLink RL 102 yL_approve, Cond.static yL_approve, Cond.codeWith yL_approve cL_approve 5 (some .int) [(0, 10, 13, 13), (0, 10, 17, 17)], Cond.methodLink RL 43 yX8_approve, Cond.instanceMethod yX8_approve, Cond.selects RX8 yX8_approve yX8_approve, Cond.code yX8_approve cX8_approve 3 (some .int), Cond.methodLink RX8 142 yX2_principalFor, Cond.instanceMethod yX2_principalFor, Cond.selects RX2 yX2_principalFor yX2_principalFor, Cond.code yX2_principalFor cX2_principalFor 4 (some .int), Cond.methodLink RX2 88 yX5_stateOf, Cond.methodLink RX2 91 yX5_personOf]
def wsL_law0_r23 : List Cond := [Cond.instanceMethod yX5_personOf, Cond.selects RX5 yX5_personOf yX5_personOf, Cond.code yX5_personOf cX5_personOf 2 (some .int), Cond.methodLink RX2 94 yX5_hasApproval, Cond.methodLink RL 104 yX9_approve, Cond.instanceMethod yX9_approve, Cond.selects RX9 yX9_approve yX9_approve, Cond.code yX9_approve cX9_approve 6 (some .int), Cond.methodLink RX9 125 yX9_forWhom, Cond.instanceMethod yX9_forWhom, Cond.selects RX9 yX9_forWhom yX9_forWhom, Cond.code yX9_forWhom cX9_forWhom 4 (some .int), Cond.methodLink RX9 122 yX9_isAway, Cond.instanceMethod yX9_isAway, Cond.selects RX9 yX9_isAway yX9_isAway, Cond.code yX9_isAway cX9_isAway 2 (some .boolean), Cond.methodLink RL 105 yL_release, Cond.static yL_release, Cond.codeWith yL_release cL_release 3 (some .int) [(0, 5, 8, 13), (0, 5, 11, 17)], Cond.methodLink RL 46 yX8_release, Cond.instanceMethod yX8_release, Cond.selects RX8 yX8_release yX8_release, Cond.code yX8_release cX8_release 2 none, Cond.methodLink RX8 147 yX2_isCovered]
def wsL_law0_r24 : List Cond := [Cond.instanceMethod yX2_isCovered, Cond.selects RX2 yX2_isCovered yX2_isCovered, Cond.code yX2_isCovered cX2_isCovered 3 (some .boolean), Cond.methodLink RX2 105 yX2_approvalsOf, Cond.instanceMethod yX2_approvalsOf, Cond.selects RX2 yX2_approvalsOf yX2_approvalsOf, Cond.code yX2_approvalsOf cX2_approvalsOf 2 (some .int), Cond.methodLink RX2 102 yX5_approvalsOf, Cond.methodLink RL 108 yX9_release, Cond.instanceMethod yX9_release, Cond.selects RX9 yX9_release yX9_release, Cond.code yX9_release cX9_release 2 none, Cond.methodLink RX9 131 yX9_covered, Cond.instanceMethod yX9_covered, Cond.selects RX9 yX9_covered yX9_covered, Cond.code yX9_covered cX9_covered 2 (some .boolean), Cond.methodLink RX9 128 yX9_approvals, Cond.instanceMethod yX9_approvals, Cond.selects RX9 yX9_approvals yX9_approvals, Cond.code yX9_approvals cX9_approvals 4 (some .int), Cond.methodLink RL 109 yL_pass, Cond.static yL_pass, Cond.codeWith yL_pass cL_pass 4 (some .int) [(0, 9, 12, 15)], Cond.methodLink RL 50 yX8_pass]
def wsL_law0_r25 : List Cond := [Cond.instanceMethod yX8_pass, Cond.selects RX8 yX8_pass yX8_pass, Cond.code yX8_pass cX8_pass 2 (some .int), Cond.methodLink RL 111 yX9_pass, Cond.instanceMethod yX9_pass, Cond.selects RX9 yX9_pass yX9_pass, Cond.code yX9_pass cX9_pass 3 (some .int), Cond.methodLink RL 112 yL_ofRequest, Cond.static yL_ofRequest, Cond.codeWith yL_ofRequest cL_ofRequest 5 (some .int) [(0, 10, 13, 13), (0, 10, 17, 15)], Cond.methodLink RL 53 yX8_ofRequest, Cond.instanceMethod yX8_ofRequest, Cond.selects RX8 yX8_ofRequest yX8_ofRequest, Cond.code yX8_ofRequest cX8_ofRequest 3 (some .int), Cond.methodLink RX8 153 yX5_costOf, Cond.methodLink RX8 156 yX2_approvalsOf, Cond.methodLink RL 114 yX9_ofRequest, Cond.instanceMethod yX9_ofRequest, Cond.selects RX9 yX9_ofRequest yX9_ofRequest, Cond.code yX9_ofRequest cX9_ofRequest 3 (some .int), Cond.methodLink RL 115 yL_isCoveredAnew, Cond.static yL_isCoveredAnew, Cond.codeWith yL_isCoveredAnew cL_isCoveredAnew 4 (some .int) [(0, 16, 19, 13)], Cond.methodLink RL 56 yX8_isCoveredAnew]
def wsL_law0_r26 : List Cond := [Cond.instanceMethod yX8_isCoveredAnew, Cond.selects RX8 yX8_isCoveredAnew yX8_isCoveredAnew, Cond.code yX8_isCoveredAnew cX8_isCoveredAnew 4 (some .boolean), Cond.methodLink RX8 161 yX0_count, Cond.instanceMethod yX0_count, Cond.selects RX0 yX0_count yX0_count, Cond.code yX0_count cX0_count 1 (some .int), Cond.methodLink RX8 162 yX2_clear, Cond.methodLink RL 117 yX9_isCoveredAnew, Cond.instanceMethod yX9_isCoveredAnew, Cond.selects RX9 yX9_isCoveredAnew yX9_isCoveredAnew, Cond.code yX9_isCoveredAnew cX9_isCoveredAnew 2 (some .boolean), Cond.methodLink RL 118 yL_strain, Cond.static yL_strain, Cond.codeWith yL_strain cL_strain 4 (some .int) [(0, 9, 12, 13)], Cond.methodLink RL 60 yX8_strain, Cond.instanceMethod yX8_strain, Cond.selects RX8 yX8_strain yX8_strain, Cond.code yX8_strain cX8_strain 4 (some .float), Cond.constantFloat RX8 165 (3212836864), Cond.fieldLink RX8 166 "Approvalyard$Desk" "people" "LApprovalyard$People;", Cond.methodLink RX8 170 yX5_personOf, Cond.methodLink RX8 173 yX4_greatestLimit, Cond.instanceMethod yX4_greatestLimit]
def wsL_law0_r27 : List Cond := [Cond.selects RX4 yX4_greatestLimit yX4_greatestLimit, Cond.code yX4_greatestLimit cX4_greatestLimit 6 (some .int), Cond.methodLink RL 121 yX9_strain, Cond.instanceMethod yX9_strain, Cond.selects RX9 yX9_strain yX9_strain, Cond.code yX9_strain cX9_strain 5 (some .float), Cond.constantFloat RX9 134 (3212836864), Cond.methodLink RL 122 yX8_entries, Cond.instanceMethod yX8_entries, Cond.selects RX8 yX8_entries yX8_entries, Cond.code yX8_entries cX8_entries 1 (some .int), Cond.methodLink RL 125 yX9_entries, Cond.instanceMethod yX9_entries, Cond.selects RX9 yX9_entries yX9_entries, Cond.code yX9_entries cX9_entries 1 (some .int)]
def wsL_law0 : List Cond := (wsL_law0_r1 ++ (wsL_law0_r2 ++ (wsL_law0_r3 ++ (wsL_law0_r4 ++ (wsL_law0_r5 ++ (wsL_law0_r6 ++ (wsL_law0_r7 ++ (wsL_law0_r8 ++ (wsL_law0_r9 ++ (wsL_law0_r10 ++ (wsL_law0_r11 ++ (wsL_law0_r12 ++ (wsL_law0_r13 ++ (wsL_law0_r14 ++ (wsL_law0_r15 ++ (wsL_law0_r16 ++ (wsL_law0_r17 ++ (wsL_law0_r18 ++ (wsL_law0_r19 ++ (wsL_law0_r20 ++ (wsL_law0_r21 ++ (wsL_law0_r22 ++ (wsL_law0_r23 ++ (wsL_law0_r24 ++ (wsL_law0_r25 ++ (wsL_law0_r26 ++ wsL_law0_r27)))))))))))))))))))))))))) ++ wsX80 ++ wsX90 ++ wsX00 ++ wsX20 ++ wsX70 ++ wsX60 ++ wsX30 ++ wsX40 ++ wsX50 ++ ([] : List Cond)
def wsL_law : List Cond := wsL_law0 ++ (vx_atS RX8 41 "java/lang/IllegalArgumentException" ["java/lang/RuntimeException", "java/lang/Exception"]).filter goodWord ++ (vx_atS RX8 58 "java/lang/IllegalStateException" ["java/lang/RuntimeException", "java/lang/Exception"]).filter goodWord ++ (vx_atS RX8 182 "java/lang/IndexOutOfBoundsException" ["java/lang/RuntimeException", "java/lang/Exception"]).filter goodWord
abbrev vwCl : List vw_C := [(RX0, TX0, 2), (RX2, TX2, 3), (RX3, TX3, 6), (RX4, TX4, 4), (RX5, TX5, 8), (RX6, TX6, 1), (RX7, TX7, 4), (RX8, TX8, 4), (RX9, TX9, 24)]
end
section
theorem dX6_init_0 : decode cX6_init 0 = .ok (.aload_n 0, 1) := by decide +kernel
theorem dX6_init_1 : decode cX6_init 1 = .ok (.invokespecial 1, 3) := by decide +kernel
theorem dX6_init_4 : decode cX6_init 4 = .ok (.aload_n 0, 1) := by decide +kernel
theorem dX6_init_5 : decode cX6_init 5 = .ok (.iload_n 1, 1) := by decide +kernel
theorem dX6_init_6 : decode cX6_init 6 = .ok (.ifCond .ge 7, 3) := by decide +kernel
theorem dX6_init_9 : decode cX6_init 9 = .ok (.iconst 0, 1) := by decide +kernel
theorem dX6_init_10 : decode cX6_init 10 = .ok (.goto 4, 3) := by decide +kernel
theorem dX6_init_13 : decode cX6_init 13 = .ok (.iload_n 1, 1) := by decide +kernel
theorem dX6_init_14 : decode cX6_init 14 = .ok (.newarray .int, 2) := by decide +kernel
theorem dX6_init_16 : decode cX6_init 16 = .ok (.putfield 7, 3) := by decide +kernel
theorem dX6_init_19 : decode cX6_init 19 = .ok (.return_, 1) := by decide +kernel
theorem dX6_at_0 : decode cX6_at 0 = .ok (.iload_n 1, 1) := by decide +kernel
theorem dX6_at_1 : decode cX6_at 1 = .ok (.ifCond .lt 21, 3) := by decide +kernel
theorem dX6_at_4 : decode cX6_at 4 = .ok (.iload_n 1, 1) := by decide +kernel
theorem dX6_at_5 : decode cX6_at 5 = .ok (.aload_n 0, 1) := by decide +kernel
theorem dX6_at_6 : decode cX6_at 6 = .ok (.getfield 7, 3) := by decide +kernel
theorem dX6_at_9 : decode cX6_at 9 = .ok (.arraylength, 1) := by decide +kernel
theorem dX6_at_10 : decode cX6_at 10 = .ok (.if_icmp .ge 12, 3) := by decide +kernel
theorem dX6_at_13 : decode cX6_at 13 = .ok (.aload_n 0, 1) := by decide +kernel
theorem dX6_at_14 : decode cX6_at 14 = .ok (.getfield 7, 3) := by decide +kernel
theorem dX6_at_17 : decode cX6_at 17 = .ok (.iload_n 1, 1) := by decide +kernel
theorem dX6_at_18 : decode cX6_at 18 = .ok (.iaload, 1) := by decide +kernel
theorem dX6_at_19 : decode cX6_at 19 = .ok (.goto 4, 3) := by decide +kernel
theorem dX6_at_22 : decode cX6_at 22 = .ok (.iconst 0, 1) := by decide +kernel
theorem dX6_at_23 : decode cX6_at 23 = .ok (.ireturn, 1) := by decide +kernel
theorem dX6_put_0 : decode cX6_put 0 = .ok (.iload_n 1, 1) := by decide +kernel
theorem dX6_put_1 : decode cX6_put 1 = .ok (.ifCond .lt 19, 3) := by decide +kernel
theorem dX6_put_4 : decode cX6_put 4 = .ok (.iload_n 1, 1) := by decide +kernel
theorem dX6_put_5 : decode cX6_put 5 = .ok (.aload_n 0, 1) := by decide +kernel
theorem dX6_put_6 : decode cX6_put 6 = .ok (.getfield 7, 3) := by decide +kernel
theorem dX6_put_9 : decode cX6_put 9 = .ok (.arraylength, 1) := by decide +kernel
theorem dX6_put_10 : decode cX6_put 10 = .ok (.if_icmp .ge 10, 3) := by decide +kernel
theorem dX6_put_13 : decode cX6_put 13 = .ok (.aload_n 0, 1) := by decide +kernel
theorem dX6_put_14 : decode cX6_put 14 = .ok (.getfield 7, 3) := by decide +kernel
theorem dX6_put_17 : decode cX6_put 17 = .ok (.iload_n 1, 1) := by decide +kernel
theorem dX6_put_18 : decode cX6_put 18 = .ok (.iload_n 2, 1) := by decide +kernel
theorem dX6_put_19 : decode cX6_put 19 = .ok (.iastore, 1) := by decide +kernel
theorem dX6_put_20 : decode cX6_put 20 = .ok (.return_, 1) := by decide +kernel
theorem dX6_fill_0 : decode cX6_fill 0 = .ok (.iconst 0, 1) := by decide +kernel
theorem dX6_fill_1 : decode cX6_fill 1 = .ok (.istore_n 2, 1) := by decide +kernel
theorem dX6_fill_2 : decode cX6_fill 2 = .ok (.iload_n 2, 1) := by decide +kernel
theorem dX6_fill_3 : decode cX6_fill 3 = .ok (.aload_n 0, 1) := by decide +kernel
theorem dX6_fill_4 : decode cX6_fill 4 = .ok (.getfield 7, 3) := by decide +kernel
theorem dX6_fill_7 : decode cX6_fill 7 = .ok (.arraylength, 1) := by decide +kernel
theorem dX6_fill_8 : decode cX6_fill 8 = .ok (.if_icmp .ge 16, 3) := by decide +kernel
theorem dX6_fill_11 : decode cX6_fill 11 = .ok (.aload_n 0, 1) := by decide +kernel
theorem dX6_fill_12 : decode cX6_fill 12 = .ok (.getfield 7, 3) := by decide +kernel
theorem dX6_fill_15 : decode cX6_fill 15 = .ok (.iload_n 2, 1) := by decide +kernel
theorem dX6_fill_16 : decode cX6_fill 16 = .ok (.iload_n 1, 1) := by decide +kernel
theorem dX6_fill_17 : decode cX6_fill 17 = .ok (.iastore, 1) := by decide +kernel
theorem dX6_fill_18 : decode cX6_fill 18 = .ok (.iinc 2 1, 3) := by decide +kernel
theorem dX6_fill_21 : decode cX6_fill 21 = .ok (.goto (-19), 3) := by decide +kernel
theorem dX6_fill_24 : decode cX6_fill 24 = .ok (.return_, 1) := by decide +kernel
set_option maxRecDepth 20000 in
theorem ggX0_init_X6_init : GoodIn wsX0_init wsX6_init := goodIn_r _ [10, 11, 2, 3, 12, 13, 14] (by decide +kernel) (by decide +kernel)
set_option maxRecDepth 20000 in
theorem gX0_init_X6_init : GoodIn wsX0_init (wsX6_init) := ggX0_init_X6_init
theorem dX0_init_0 : decode cX0_init 0 = .ok (.aload_n 0, 1) := by decide +kernel
theorem dX0_init_1 : decode cX0_init 1 = .ok (.invokespecial 3, 3) := by decide +kernel
theorem dX0_init_4 : decode cX0_init 4 = .ok (.aload_n 0, 1) := by decide +kernel
theorem dX0_init_5 : decode cX0_init 5 = .ok (.new 9, 3) := by decide +kernel
theorem dX0_init_8 : decode cX0_init 8 = .ok (.dup, 1) := by decide +kernel
theorem dX0_init_9 : decode cX0_init 9 = .ok (.sipush 3072, 3) := by decide +kernel
theorem dX0_init_12 : decode cX0_init 12 = .ok (.invokespecial 13, 3) := by decide +kernel
theorem dX0_init_15 : decode cX0_init 15 = .ok (.putfield 16, 3) := by decide +kernel
theorem dX0_init_18 : decode cX0_init 18 = .ok (.return_, 1) := by decide +kernel
theorem dX0_count_0 : decode cX0_count 0 = .ok (.aload_n 0, 1) := by decide +kernel
theorem dX0_count_1 : decode cX0_count 1 = .ok (.getfield 20, 3) := by decide +kernel
theorem dX0_count_4 : decode cX0_count 4 = .ok (.ireturn, 1) := by decide +kernel
set_option maxRecDepth 20000 in
theorem ggX0_write_X6_put : GoodIn wsX0_write wsX6_put := goodIn_r _ [7, 8, 11] (by decide +kernel) (by decide +kernel)
set_option maxRecDepth 20000 in
theorem gX0_write_X6_put : GoodIn wsX0_write (wsV RX0 24 RX6 yX6_put wsX6_put) := goodIn_app (goodIn_of _ (by decide +kernel)) ggX0_write_X6_put
theorem dX0_write_0 : decode cX0_write 0 = .ok (.aload_n 0, 1) := by decide +kernel
theorem dX0_write_1 : decode cX0_write 1 = .ok (.getfield 20, 3) := by decide +kernel
theorem dX0_write_4 : decode cX0_write 4 = .ok (.sipush 512, 3) := by decide +kernel
theorem dX0_write_7 : decode cX0_write 7 = .ok (.if_icmp .lt 5, 3) := by decide +kernel
theorem dX0_write_10 : decode cX0_write 10 = .ok (.iconst (-1), 1) := by decide +kernel
theorem dX0_write_11 : decode cX0_write 11 = .ok (.ireturn, 1) := by decide +kernel
theorem dX0_write_12 : decode cX0_write 12 = .ok (.aload_n 0, 1) := by decide +kernel
theorem dX0_write_13 : decode cX0_write 13 = .ok (.getfield 20, 3) := by decide +kernel
theorem dX0_write_16 : decode cX0_write 16 = .ok (.bipush 6, 2) := by decide +kernel
theorem dX0_write_18 : decode cX0_write 18 = .ok (.imul, 1) := by decide +kernel
theorem dX0_write_19 : decode cX0_write 19 = .ok (.istore 7, 2) := by decide +kernel
theorem dX0_write_21 : decode cX0_write 21 = .ok (.aload_n 0, 1) := by decide +kernel
theorem dX0_write_22 : decode cX0_write 22 = .ok (.getfield 16, 3) := by decide +kernel
theorem dX0_write_25 : decode cX0_write 25 = .ok (.iload 7, 2) := by decide +kernel
theorem dX0_write_27 : decode cX0_write 27 = .ok (.iload_n 1, 1) := by decide +kernel
theorem dX0_write_28 : decode cX0_write 28 = .ok (.invokevirtual 24, 3) := by decide +kernel
theorem dX0_write_31 : decode cX0_write 31 = .ok (.aload_n 0, 1) := by decide +kernel
theorem dX0_write_32 : decode cX0_write 32 = .ok (.getfield 16, 3) := by decide +kernel
theorem dX0_write_35 : decode cX0_write 35 = .ok (.iload 7, 2) := by decide +kernel
theorem dX0_write_37 : decode cX0_write 37 = .ok (.iconst 1, 1) := by decide +kernel
theorem dX0_write_38 : decode cX0_write 38 = .ok (.iadd, 1) := by decide +kernel
theorem dX0_write_39 : decode cX0_write 39 = .ok (.iload_n 2, 1) := by decide +kernel
theorem dX0_write_40 : decode cX0_write 40 = .ok (.invokevirtual 24, 3) := by decide +kernel
theorem dX0_write_43 : decode cX0_write 43 = .ok (.aload_n 0, 1) := by decide +kernel
theorem dX0_write_44 : decode cX0_write 44 = .ok (.getfield 16, 3) := by decide +kernel
theorem dX0_write_47 : decode cX0_write 47 = .ok (.iload 7, 2) := by decide +kernel
theorem dX0_write_49 : decode cX0_write 49 = .ok (.iconst 2, 1) := by decide +kernel
theorem dX0_write_50 : decode cX0_write 50 = .ok (.iadd, 1) := by decide +kernel
theorem dX0_write_51 : decode cX0_write 51 = .ok (.iload_n 3, 1) := by decide +kernel
theorem dX0_write_52 : decode cX0_write 52 = .ok (.invokevirtual 24, 3) := by decide +kernel
theorem dX0_write_55 : decode cX0_write 55 = .ok (.aload_n 0, 1) := by decide +kernel
theorem dX0_write_56 : decode cX0_write 56 = .ok (.getfield 16, 3) := by decide +kernel
theorem dX0_write_59 : decode cX0_write 59 = .ok (.iload 7, 2) := by decide +kernel
theorem dX0_write_61 : decode cX0_write 61 = .ok (.iconst 3, 1) := by decide +kernel
theorem dX0_write_62 : decode cX0_write 62 = .ok (.iadd, 1) := by decide +kernel
theorem dX0_write_63 : decode cX0_write 63 = .ok (.iload 4, 2) := by decide +kernel
theorem dX0_write_65 : decode cX0_write 65 = .ok (.invokevirtual 24, 3) := by decide +kernel
theorem dX0_write_68 : decode cX0_write 68 = .ok (.aload_n 0, 1) := by decide +kernel
theorem dX0_write_69 : decode cX0_write 69 = .ok (.getfield 16, 3) := by decide +kernel
theorem dX0_write_72 : decode cX0_write 72 = .ok (.iload 7, 2) := by decide +kernel
theorem dX0_write_74 : decode cX0_write 74 = .ok (.iconst 4, 1) := by decide +kernel
theorem dX0_write_75 : decode cX0_write 75 = .ok (.iadd, 1) := by decide +kernel
theorem dX0_write_76 : decode cX0_write 76 = .ok (.iload 5, 2) := by decide +kernel
theorem dX0_write_78 : decode cX0_write 78 = .ok (.invokevirtual 24, 3) := by decide +kernel
theorem dX0_write_81 : decode cX0_write 81 = .ok (.aload_n 0, 1) := by decide +kernel
theorem dX0_write_82 : decode cX0_write 82 = .ok (.getfield 16, 3) := by decide +kernel
theorem dX0_write_85 : decode cX0_write 85 = .ok (.iload 7, 2) := by decide +kernel
theorem dX0_write_87 : decode cX0_write 87 = .ok (.iconst 5, 1) := by decide +kernel
theorem dX0_write_88 : decode cX0_write 88 = .ok (.iadd, 1) := by decide +kernel
theorem dX0_write_89 : decode cX0_write 89 = .ok (.iload 6, 2) := by decide +kernel
theorem dX0_write_91 : decode cX0_write 91 = .ok (.invokevirtual 24, 3) := by decide +kernel
theorem dX0_write_94 : decode cX0_write 94 = .ok (.aload_n 0, 1) := by decide +kernel
theorem dX0_write_95 : decode cX0_write 95 = .ok (.dup, 1) := by decide +kernel
theorem dX0_write_96 : decode cX0_write 96 = .ok (.getfield 20, 3) := by decide +kernel
theorem dX0_write_99 : decode cX0_write 99 = .ok (.iconst 1, 1) := by decide +kernel
theorem dX0_write_100 : decode cX0_write 100 = .ok (.iadd, 1) := by decide +kernel
theorem dX0_write_101 : decode cX0_write 101 = .ok (.putfield 20, 3) := by decide +kernel
theorem dX0_write_104 : decode cX0_write 104 = .ok (.aload_n 0, 1) := by decide +kernel
theorem dX0_write_105 : decode cX0_write 105 = .ok (.getfield 20, 3) := by decide +kernel
theorem dX0_write_108 : decode cX0_write 108 = .ok (.iconst 1, 1) := by decide +kernel
theorem dX0_write_109 : decode cX0_write 109 = .ok (.isub, 1) := by decide +kernel
theorem dX0_write_110 : decode cX0_write 110 = .ok (.ireturn, 1) := by decide +kernel
set_option maxRecDepth 20000 in
theorem ggX0_wordOf_X6_at : GoodIn wsX0_wordOf wsX6_at := goodIn_r _ [6, 7, 10] (by decide +kernel) (by decide +kernel)
set_option maxRecDepth 20000 in
theorem gX0_wordOf_X6_at : GoodIn wsX0_wordOf (wsV RX0 28 RX6 yX6_at wsX6_at) := goodIn_app (goodIn_of _ (by decide +kernel)) ggX0_wordOf_X6_at
theorem dX0_wordOf_0 : decode cX0_wordOf 0 = .ok (.aload_n 0, 1) := by decide +kernel
theorem dX0_wordOf_1 : decode cX0_wordOf 1 = .ok (.getfield 16, 3) := by decide +kernel
theorem dX0_wordOf_4 : decode cX0_wordOf 4 = .ok (.iload_n 1, 1) := by decide +kernel
theorem dX0_wordOf_5 : decode cX0_wordOf 5 = .ok (.bipush 6, 2) := by decide +kernel
theorem dX0_wordOf_7 : decode cX0_wordOf 7 = .ok (.imul, 1) := by decide +kernel
theorem dX0_wordOf_8 : decode cX0_wordOf 8 = .ok (.iload_n 2, 1) := by decide +kernel
theorem dX0_wordOf_9 : decode cX0_wordOf 9 = .ok (.iadd, 1) := by decide +kernel
theorem dX0_wordOf_10 : decode cX0_wordOf 10 = .ok (.invokevirtual 28, 3) := by decide +kernel
theorem dX0_wordOf_13 : decode cX0_wordOf 13 = .ok (.ireturn, 1) := by decide +kernel
theorem dX1_versionOf_0 : decode cX1_versionOf 0 = .ok (.iload_n 0, 1) := by decide +kernel
theorem dX1_versionOf_1 : decode cX1_versionOf 1 = .ok (.iconst 2, 1) := by decide +kernel
theorem dX1_versionOf_2 : decode cX1_versionOf 2 = .ok (.iload_n 1, 1) := by decide +kernel
theorem dX1_versionOf_3 : decode cX1_versionOf 3 = .ok (.imul, 1) := by decide +kernel
theorem dX1_versionOf_4 : decode cX1_versionOf 4 = .ok (.ishr, 1) := by decide +kernel
theorem dX1_versionOf_5 : decode cX1_versionOf 5 = .ok (.iconst 3, 1) := by decide +kernel
theorem dX1_versionOf_6 : decode cX1_versionOf 6 = .ok (.iand, 1) := by decide +kernel
theorem dX1_versionOf_7 : decode cX1_versionOf 7 = .ok (.ireturn, 1) := by decide +kernel
theorem dX1_with_0 : decode cX1_with 0 = .ok (.iload_n 0, 1) := by decide +kernel
theorem dX1_with_1 : decode cX1_with 1 = .ok (.iload_n 2, 1) := by decide +kernel
theorem dX1_with_2 : decode cX1_with 2 = .ok (.iconst 2, 1) := by decide +kernel
theorem dX1_with_3 : decode cX1_with 3 = .ok (.iload_n 1, 1) := by decide +kernel
theorem dX1_with_4 : decode cX1_with 4 = .ok (.imul, 1) := by decide +kernel
theorem dX1_with_5 : decode cX1_with 5 = .ok (.ishl, 1) := by decide +kernel
theorem dX1_with_6 : decode cX1_with 6 = .ok (.ior, 1) := by decide +kernel
theorem dX1_with_7 : decode cX1_with 7 = .ok (.ireturn, 1) := by decide +kernel
set_option maxRecDepth 20000 in
theorem ggX3_init_X6_init : GoodIn wsX3_init wsX6_init := goodIn_r _ [15, 16, 2, 3, 17, 18, 19] (by decide +kernel) (by decide +kernel)
set_option maxRecDepth 20000 in
theorem gX3_init_X6_init : GoodIn wsX3_init (wsX6_init) := ggX3_init_X6_init
theorem dX3_init_0 : decode cX3_init 0 = .ok (.aload_n 0, 1) := by decide +kernel
theorem dX3_init_1 : decode cX3_init 1 = .ok (.invokespecial 3, 3) := by decide +kernel
theorem dX3_init_4 : decode cX3_init 4 = .ok (.aload_n 0, 1) := by decide +kernel
theorem dX3_init_5 : decode cX3_init 5 = .ok (.new 9, 3) := by decide +kernel
theorem dX3_init_8 : decode cX3_init 8 = .ok (.dup, 1) := by decide +kernel
theorem dX3_init_9 : decode cX3_init 9 = .ok (.bipush 8, 2) := by decide +kernel
theorem dX3_init_11 : decode cX3_init 11 = .ok (.invokespecial 11, 3) := by decide +kernel
theorem dX3_init_14 : decode cX3_init 14 = .ok (.putfield 14, 3) := by decide +kernel
theorem dX3_init_17 : decode cX3_init 17 = .ok (.aload_n 0, 1) := by decide +kernel
theorem dX3_init_18 : decode cX3_init 18 = .ok (.new 9, 3) := by decide +kernel
theorem dX3_init_21 : decode cX3_init 21 = .ok (.dup, 1) := by decide +kernel
theorem dX3_init_22 : decode cX3_init 22 = .ok (.bipush 24, 2) := by decide +kernel
theorem dX3_init_24 : decode cX3_init 24 = .ok (.invokespecial 11, 3) := by decide +kernel
theorem dX3_init_27 : decode cX3_init 27 = .ok (.putfield 20, 3) := by decide +kernel
theorem dX3_init_30 : decode cX3_init 30 = .ok (.aload_n 0, 1) := by decide +kernel
theorem dX3_init_31 : decode cX3_init 31 = .ok (.new 9, 3) := by decide +kernel
theorem dX3_init_34 : decode cX3_init 34 = .ok (.dup, 1) := by decide +kernel
theorem dX3_init_35 : decode cX3_init 35 = .ok (.bipush 24, 2) := by decide +kernel
theorem dX3_init_37 : decode cX3_init 37 = .ok (.invokespecial 11, 3) := by decide +kernel
theorem dX3_init_40 : decode cX3_init 40 = .ok (.putfield 23, 3) := by decide +kernel
theorem dX3_init_43 : decode cX3_init 43 = .ok (.aload_n 0, 1) := by decide +kernel
theorem dX3_init_44 : decode cX3_init 44 = .ok (.new 9, 3) := by decide +kernel
theorem dX3_init_47 : decode cX3_init 47 = .ok (.dup, 1) := by decide +kernel
theorem dX3_init_48 : decode cX3_init 48 = .ok (.bipush 24, 2) := by decide +kernel
theorem dX3_init_50 : decode cX3_init 50 = .ok (.invokespecial 11, 3) := by decide +kernel
theorem dX3_init_53 : decode cX3_init 53 = .ok (.putfield 26, 3) := by decide +kernel
theorem dX3_init_56 : decode cX3_init 56 = .ok (.aload_n 0, 1) := by decide +kernel
theorem dX3_init_57 : decode cX3_init 57 = .ok (.new 9, 3) := by decide +kernel
theorem dX3_init_60 : decode cX3_init 60 = .ok (.dup, 1) := by decide +kernel
theorem dX3_init_61 : decode cX3_init 61 = .ok (.bipush 96, 2) := by decide +kernel
theorem dX3_init_63 : decode cX3_init 63 = .ok (.invokespecial 11, 3) := by decide +kernel
theorem dX3_init_66 : decode cX3_init 66 = .ok (.putfield 29, 3) := by decide +kernel
theorem dX3_init_69 : decode cX3_init 69 = .ok (.aload_n 0, 1) := by decide +kernel
theorem dX3_init_70 : decode cX3_init 70 = .ok (.new 9, 3) := by decide +kernel
theorem dX3_init_73 : decode cX3_init 73 = .ok (.dup, 1) := by decide +kernel
theorem dX3_init_74 : decode cX3_init 74 = .ok (.bipush 96, 2) := by decide +kernel
theorem dX3_init_76 : decode cX3_init 76 = .ok (.invokespecial 11, 3) := by decide +kernel
theorem dX3_init_79 : decode cX3_init 79 = .ok (.putfield 32, 3) := by decide +kernel
theorem dX3_init_82 : decode cX3_init 82 = .ok (.return_, 1) := by decide +kernel
set_option maxRecDepth 20000 in
theorem ggX3_clear_X6_fill : GoodIn wsX3_clear wsX6_fill := goodIn_r _ [6, 7, 14] (by decide +kernel) (by decide +kernel)
set_option maxRecDepth 20000 in
theorem gX3_clear_X6_fill : GoodIn wsX3_clear (wsV RX3 35 RX6 yX6_fill wsX6_fill) := goodIn_app (goodIn_of _ (by decide +kernel)) ggX3_clear_X6_fill
theorem dX3_clear_0 : decode cX3_clear 0 = .ok (.aload_n 0, 1) := by decide +kernel
theorem dX3_clear_1 : decode cX3_clear 1 = .ok (.getfield 14, 3) := by decide +kernel
theorem dX3_clear_4 : decode cX3_clear 4 = .ok (.iconst 0, 1) := by decide +kernel
theorem dX3_clear_5 : decode cX3_clear 5 = .ok (.invokevirtual 35, 3) := by decide +kernel
theorem dX3_clear_8 : decode cX3_clear 8 = .ok (.return_, 1) := by decide +kernel
set_option maxRecDepth 20000 in
theorem ggX3_countOf_X6_at : GoodIn wsX3_countOf wsX6_at := goodIn_r _ [6, 7, 14] (by decide +kernel) (by decide +kernel)
set_option maxRecDepth 20000 in
theorem gX3_countOf_X6_at : GoodIn wsX3_countOf (wsV RX3 38 RX6 yX6_at wsX6_at) := goodIn_app (goodIn_of _ (by decide +kernel)) ggX3_countOf_X6_at
theorem dX3_countOf_0 : decode cX3_countOf 0 = .ok (.aload_n 0, 1) := by decide +kernel
theorem dX3_countOf_1 : decode cX3_countOf 1 = .ok (.getfield 14, 3) := by decide +kernel
theorem dX3_countOf_4 : decode cX3_countOf 4 = .ok (.iload_n 1, 1) := by decide +kernel
theorem dX3_countOf_5 : decode cX3_countOf 5 = .ok (.invokevirtual 38, 3) := by decide +kernel
theorem dX3_countOf_8 : decode cX3_countOf 8 = .ok (.ireturn, 1) := by decide +kernel
set_option maxRecDepth 20000 in
theorem ggX3_addVersion_X6_at : GoodIn wsX3_addVersion wsX6_at := goodIn_r _ [9, 10, 25] (by decide +kernel) (by decide +kernel)
set_option maxRecDepth 20000 in
theorem gX3_addVersion_X6_at : GoodIn wsX3_addVersion (wsV RX3 38 RX6 yX6_at wsX6_at) := goodIn_app (goodIn_of _ (by decide +kernel)) ggX3_addVersion_X6_at
set_option maxRecDepth 20000 in
theorem ggX3_addVersion_X3_placeOf : GoodIn wsX3_addVersion wsX3_placeOf := goodIn_r _ [14] (by decide +kernel) (by decide +kernel)
set_option maxRecDepth 20000 in
theorem gX3_addVersion_X3_placeOf : GoodIn wsX3_addVersion (va_wsS RX3 42 yX3_placeOf wsX3_placeOf) := goodIn_app (goodIn_of _ (by decide +kernel)) ggX3_addVersion_X3_placeOf
set_option maxRecDepth 20000 in
theorem ggX3_addVersion_X6_put : GoodIn wsX3_addVersion wsX6_put := goodIn_r _ [18, 10, 25] (by decide +kernel) (by decide +kernel)
set_option maxRecDepth 20000 in
theorem gX3_addVersion_X6_put : GoodIn wsX3_addVersion (wsV RX3 46 RX6 yX6_put wsX6_put) := goodIn_app (goodIn_of _ (by decide +kernel)) ggX3_addVersion_X6_put
theorem dX3_addVersion_0 : decode cX3_addVersion 0 = .ok (.aload_n 0, 1) := by decide +kernel
theorem dX3_addVersion_1 : decode cX3_addVersion 1 = .ok (.getfield 14, 3) := by decide +kernel
theorem dX3_addVersion_4 : decode cX3_addVersion 4 = .ok (.iload_n 1, 1) := by decide +kernel
theorem dX3_addVersion_5 : decode cX3_addVersion 5 = .ok (.invokevirtual 38, 3) := by decide +kernel
theorem dX3_addVersion_8 : decode cX3_addVersion 8 = .ok (.iconst 1, 1) := by decide +kernel
theorem dX3_addVersion_9 : decode cX3_addVersion 9 = .ok (.iadd, 1) := by decide +kernel
theorem dX3_addVersion_10 : decode cX3_addVersion 10 = .ok (.istore_n 3, 1) := by decide +kernel
theorem dX3_addVersion_11 : decode cX3_addVersion 11 = .ok (.iload_n 1, 1) := by decide +kernel
theorem dX3_addVersion_12 : decode cX3_addVersion 12 = .ok (.iload_n 3, 1) := by decide +kernel
theorem dX3_addVersion_13 : decode cX3_addVersion 13 = .ok (.invokestatic 42, 3) := by decide +kernel
theorem dX3_addVersion_16 : decode cX3_addVersion 16 = .ok (.istore 4, 2) := by decide +kernel
theorem dX3_addVersion_18 : decode cX3_addVersion 18 = .ok (.aload_n 0, 1) := by decide +kernel
theorem dX3_addVersion_19 : decode cX3_addVersion 19 = .ok (.getfield 14, 3) := by decide +kernel
theorem dX3_addVersion_22 : decode cX3_addVersion 22 = .ok (.iload_n 1, 1) := by decide +kernel
theorem dX3_addVersion_23 : decode cX3_addVersion 23 = .ok (.iload_n 3, 1) := by decide +kernel
theorem dX3_addVersion_24 : decode cX3_addVersion 24 = .ok (.invokevirtual 46, 3) := by decide +kernel
theorem dX3_addVersion_27 : decode cX3_addVersion 27 = .ok (.aload_n 0, 1) := by decide +kernel
theorem dX3_addVersion_28 : decode cX3_addVersion 28 = .ok (.getfield 20, 3) := by decide +kernel
theorem dX3_addVersion_31 : decode cX3_addVersion 31 = .ok (.iload 4, 2) := by decide +kernel
theorem dX3_addVersion_33 : decode cX3_addVersion 33 = .ok (.iload_n 2, 1) := by decide +kernel
theorem dX3_addVersion_34 : decode cX3_addVersion 34 = .ok (.invokevirtual 46, 3) := by decide +kernel
theorem dX3_addVersion_37 : decode cX3_addVersion 37 = .ok (.aload_n 0, 1) := by decide +kernel
theorem dX3_addVersion_38 : decode cX3_addVersion 38 = .ok (.getfield 23, 3) := by decide +kernel
theorem dX3_addVersion_41 : decode cX3_addVersion 41 = .ok (.iload 4, 2) := by decide +kernel
theorem dX3_addVersion_43 : decode cX3_addVersion 43 = .ok (.iconst 0, 1) := by decide +kernel
theorem dX3_addVersion_44 : decode cX3_addVersion 44 = .ok (.invokevirtual 46, 3) := by decide +kernel
theorem dX3_addVersion_47 : decode cX3_addVersion 47 = .ok (.aload_n 0, 1) := by decide +kernel
theorem dX3_addVersion_48 : decode cX3_addVersion 48 = .ok (.getfield 26, 3) := by decide +kernel
theorem dX3_addVersion_51 : decode cX3_addVersion 51 = .ok (.iload 4, 2) := by decide +kernel
theorem dX3_addVersion_53 : decode cX3_addVersion 53 = .ok (.iconst 0, 1) := by decide +kernel
theorem dX3_addVersion_54 : decode cX3_addVersion 54 = .ok (.invokevirtual 46, 3) := by decide +kernel
theorem dX3_addVersion_57 : decode cX3_addVersion 57 = .ok (.iload_n 3, 1) := by decide +kernel
theorem dX3_addVersion_58 : decode cX3_addVersion 58 = .ok (.ireturn, 1) := by decide +kernel
set_option maxRecDepth 20000 in
theorem ggX3_needsOf_X3_placeOf : GoodIn wsX3_needsOf wsX3_placeOf := goodIn_r _ [5] (by decide +kernel) (by decide +kernel)
set_option maxRecDepth 20000 in
theorem gX3_needsOf_X3_placeOf : GoodIn wsX3_needsOf (va_wsS RX3 42 yX3_placeOf wsX3_placeOf) := goodIn_app (goodIn_of _ (by decide +kernel)) ggX3_needsOf_X3_placeOf
set_option maxRecDepth 20000 in
theorem ggX3_needsOf_X6_at : GoodIn wsX3_needsOf wsX6_at := goodIn_r _ [10, 11, 18] (by decide +kernel) (by decide +kernel)
set_option maxRecDepth 20000 in
theorem gX3_needsOf_X6_at : GoodIn wsX3_needsOf (wsV RX3 38 RX6 yX6_at wsX6_at) := goodIn_app (goodIn_of _ (by decide +kernel)) ggX3_needsOf_X6_at
theorem dX3_needsOf_0 : decode cX3_needsOf 0 = .ok (.aload_n 0, 1) := by decide +kernel
theorem dX3_needsOf_1 : decode cX3_needsOf 1 = .ok (.getfield 26, 3) := by decide +kernel
theorem dX3_needsOf_4 : decode cX3_needsOf 4 = .ok (.iload_n 1, 1) := by decide +kernel
theorem dX3_needsOf_5 : decode cX3_needsOf 5 = .ok (.iload_n 2, 1) := by decide +kernel
theorem dX3_needsOf_6 : decode cX3_needsOf 6 = .ok (.invokestatic 42, 3) := by decide +kernel
theorem dX3_needsOf_9 : decode cX3_needsOf 9 = .ok (.invokevirtual 38, 3) := by decide +kernel
theorem dX3_needsOf_12 : decode cX3_needsOf 12 = .ok (.ireturn, 1) := by decide +kernel
set_option maxRecDepth 20000 in
theorem ggX3_addNeed_X3_placeOf : GoodIn wsX3_addNeed wsX3_placeOf := goodIn_r _ [7] (by decide +kernel) (by decide +kernel)
set_option maxRecDepth 20000 in
theorem gX3_addNeed_X3_placeOf : GoodIn wsX3_addNeed (va_wsS RX3 42 yX3_placeOf wsX3_placeOf) := goodIn_app (goodIn_of _ (by decide +kernel)) ggX3_addNeed_X3_placeOf
set_option maxRecDepth 20000 in
theorem ggX3_addNeed_X6_at : GoodIn wsX3_addNeed wsX6_at := goodIn_r _ [12, 13, 27] (by decide +kernel) (by decide +kernel)
set_option maxRecDepth 20000 in
theorem gX3_addNeed_X6_at : GoodIn wsX3_addNeed (wsV RX3 38 RX6 yX6_at wsX6_at) := goodIn_app (goodIn_of _ (by decide +kernel)) ggX3_addNeed_X6_at
set_option maxRecDepth 20000 in
theorem ggX3_addNeed_X6_put : GoodIn wsX3_addNeed wsX6_put := goodIn_r _ [17, 13, 27] (by decide +kernel) (by decide +kernel)
set_option maxRecDepth 20000 in
theorem gX3_addNeed_X6_put : GoodIn wsX3_addNeed (wsV RX3 46 RX6 yX6_put wsX6_put) := goodIn_app (goodIn_of _ (by decide +kernel)) ggX3_addNeed_X6_put
set_option maxRecDepth 20000 in
theorem ggX3_addNeed_X3_versionSet : GoodIn wsX3_addNeed wsX3_versionSet := goodIn_r _ [20] (by decide +kernel) (by decide +kernel)
set_option maxRecDepth 20000 in
theorem gX3_addNeed_X3_versionSet : GoodIn wsX3_addNeed (va_wsS RX3 50 yX3_versionSet wsX3_versionSet) := goodIn_app (goodIn_of _ (by decide +kernel)) ggX3_addNeed_X3_versionSet
theorem dX3_addNeed_0 : decode cX3_addNeed 0 = .ok (.iload_n 1, 1) := by decide +kernel
theorem dX3_addNeed_1 : decode cX3_addNeed 1 = .ok (.iload_n 2, 1) := by decide +kernel
theorem dX3_addNeed_2 : decode cX3_addNeed 2 = .ok (.invokestatic 42, 3) := by decide +kernel
theorem dX3_addNeed_5 : decode cX3_addNeed 5 = .ok (.istore 6, 2) := by decide +kernel
theorem dX3_addNeed_7 : decode cX3_addNeed 7 = .ok (.aload_n 0, 1) := by decide +kernel
theorem dX3_addNeed_8 : decode cX3_addNeed 8 = .ok (.getfield 26, 3) := by decide +kernel
theorem dX3_addNeed_11 : decode cX3_addNeed 11 = .ok (.iload 6, 2) := by decide +kernel
theorem dX3_addNeed_13 : decode cX3_addNeed 13 = .ok (.invokevirtual 38, 3) := by decide +kernel
theorem dX3_addNeed_16 : decode cX3_addNeed 16 = .ok (.istore 7, 2) := by decide +kernel
theorem dX3_addNeed_18 : decode cX3_addNeed 18 = .ok (.aload_n 0, 1) := by decide +kernel
theorem dX3_addNeed_19 : decode cX3_addNeed 19 = .ok (.getfield 29, 3) := by decide +kernel
theorem dX3_addNeed_22 : decode cX3_addNeed 22 = .ok (.iload 6, 2) := by decide +kernel
theorem dX3_addNeed_24 : decode cX3_addNeed 24 = .ok (.iconst 4, 1) := by decide +kernel
theorem dX3_addNeed_25 : decode cX3_addNeed 25 = .ok (.imul, 1) := by decide +kernel
theorem dX3_addNeed_26 : decode cX3_addNeed 26 = .ok (.iload 7, 2) := by decide +kernel
theorem dX3_addNeed_28 : decode cX3_addNeed 28 = .ok (.iadd, 1) := by decide +kernel
theorem dX3_addNeed_29 : decode cX3_addNeed 29 = .ok (.iload_n 3, 1) := by decide +kernel
theorem dX3_addNeed_30 : decode cX3_addNeed 30 = .ok (.invokevirtual 46, 3) := by decide +kernel
theorem dX3_addNeed_33 : decode cX3_addNeed 33 = .ok (.aload_n 0, 1) := by decide +kernel
theorem dX3_addNeed_34 : decode cX3_addNeed 34 = .ok (.getfield 32, 3) := by decide +kernel
theorem dX3_addNeed_37 : decode cX3_addNeed 37 = .ok (.iload 6, 2) := by decide +kernel
theorem dX3_addNeed_39 : decode cX3_addNeed 39 = .ok (.iconst 4, 1) := by decide +kernel
theorem dX3_addNeed_40 : decode cX3_addNeed 40 = .ok (.imul, 1) := by decide +kernel
theorem dX3_addNeed_41 : decode cX3_addNeed 41 = .ok (.iload 7, 2) := by decide +kernel
theorem dX3_addNeed_43 : decode cX3_addNeed 43 = .ok (.iadd, 1) := by decide +kernel
theorem dX3_addNeed_44 : decode cX3_addNeed 44 = .ok (.iload 4, 2) := by decide +kernel
theorem dX3_addNeed_46 : decode cX3_addNeed 46 = .ok (.iload 5, 2) := by decide +kernel
theorem dX3_addNeed_48 : decode cX3_addNeed 48 = .ok (.invokestatic 50, 3) := by decide +kernel
theorem dX3_addNeed_51 : decode cX3_addNeed 51 = .ok (.invokevirtual 46, 3) := by decide +kernel
theorem dX3_addNeed_54 : decode cX3_addNeed 54 = .ok (.aload_n 0, 1) := by decide +kernel
theorem dX3_addNeed_55 : decode cX3_addNeed 55 = .ok (.getfield 26, 3) := by decide +kernel
theorem dX3_addNeed_58 : decode cX3_addNeed 58 = .ok (.iload 6, 2) := by decide +kernel
theorem dX3_addNeed_60 : decode cX3_addNeed 60 = .ok (.iload 7, 2) := by decide +kernel
theorem dX3_addNeed_62 : decode cX3_addNeed 62 = .ok (.iconst 1, 1) := by decide +kernel
theorem dX3_addNeed_63 : decode cX3_addNeed 63 = .ok (.iadd, 1) := by decide +kernel
theorem dX3_addNeed_64 : decode cX3_addNeed 64 = .ok (.invokevirtual 46, 3) := by decide +kernel
theorem dX3_addNeed_67 : decode cX3_addNeed 67 = .ok (.iload 7, 2) := by decide +kernel
theorem dX3_addNeed_69 : decode cX3_addNeed 69 = .ok (.iconst 1, 1) := by decide +kernel
theorem dX3_addNeed_70 : decode cX3_addNeed 70 = .ok (.iadd, 1) := by decide +kernel
theorem dX3_addNeed_71 : decode cX3_addNeed 71 = .ok (.ireturn, 1) := by decide +kernel
set_option maxRecDepth 20000 in
theorem ggX3_neededPart_X3_placeOf : GoodIn wsX3_neededPart wsX3_placeOf := goodIn_r _ [5] (by decide +kernel) (by decide +kernel)
set_option maxRecDepth 20000 in
theorem gX3_neededPart_X3_placeOf : GoodIn wsX3_neededPart (va_wsS RX3 42 yX3_placeOf wsX3_placeOf) := goodIn_app (goodIn_of _ (by decide +kernel)) ggX3_neededPart_X3_placeOf
set_option maxRecDepth 20000 in
theorem ggX3_neededPart_X6_at : GoodIn wsX3_neededPart wsX6_at := goodIn_r _ [10, 11, 18] (by decide +kernel) (by decide +kernel)
set_option maxRecDepth 20000 in
theorem gX3_neededPart_X6_at : GoodIn wsX3_neededPart (wsV RX3 38 RX6 yX6_at wsX6_at) := goodIn_app (goodIn_of _ (by decide +kernel)) ggX3_neededPart_X6_at
theorem dX3_neededPart_0 : decode cX3_neededPart 0 = .ok (.aload_n 0, 1) := by decide +kernel
theorem dX3_neededPart_1 : decode cX3_neededPart 1 = .ok (.getfield 29, 3) := by decide +kernel
theorem dX3_neededPart_4 : decode cX3_neededPart 4 = .ok (.iload_n 1, 1) := by decide +kernel
theorem dX3_neededPart_5 : decode cX3_neededPart 5 = .ok (.iload_n 2, 1) := by decide +kernel
theorem dX3_neededPart_6 : decode cX3_neededPart 6 = .ok (.invokestatic 42, 3) := by decide +kernel
theorem dX3_neededPart_9 : decode cX3_neededPart 9 = .ok (.iconst 4, 1) := by decide +kernel
theorem dX3_neededPart_10 : decode cX3_neededPart 10 = .ok (.imul, 1) := by decide +kernel
theorem dX3_neededPart_11 : decode cX3_neededPart 11 = .ok (.iload_n 3, 1) := by decide +kernel
theorem dX3_neededPart_12 : decode cX3_neededPart 12 = .ok (.iadd, 1) := by decide +kernel
theorem dX3_neededPart_13 : decode cX3_neededPart 13 = .ok (.invokevirtual 38, 3) := by decide +kernel
theorem dX3_neededPart_16 : decode cX3_neededPart 16 = .ok (.ireturn, 1) := by decide +kernel
set_option maxRecDepth 20000 in
theorem ggX3_neededVersions_X3_placeOf : GoodIn wsX3_neededVersions wsX3_placeOf := goodIn_r _ [5] (by decide +kernel) (by decide +kernel)
set_option maxRecDepth 20000 in
theorem gX3_neededVersions_X3_placeOf : GoodIn wsX3_neededVersions (va_wsS RX3 42 yX3_placeOf wsX3_placeOf) := goodIn_app (goodIn_of _ (by decide +kernel)) ggX3_neededVersions_X3_placeOf
set_option maxRecDepth 20000 in
theorem ggX3_neededVersions_X6_at : GoodIn wsX3_neededVersions wsX6_at := goodIn_r _ [10, 11, 18] (by decide +kernel) (by decide +kernel)
set_option maxRecDepth 20000 in
theorem gX3_neededVersions_X6_at : GoodIn wsX3_neededVersions (wsV RX3 38 RX6 yX6_at wsX6_at) := goodIn_app (goodIn_of _ (by decide +kernel)) ggX3_neededVersions_X6_at
theorem dX3_neededVersions_0 : decode cX3_neededVersions 0 = .ok (.aload_n 0, 1) := by decide +kernel
theorem dX3_neededVersions_1 : decode cX3_neededVersions 1 = .ok (.getfield 32, 3) := by decide +kernel
theorem dX3_neededVersions_4 : decode cX3_neededVersions 4 = .ok (.iload_n 1, 1) := by decide +kernel
theorem dX3_neededVersions_5 : decode cX3_neededVersions 5 = .ok (.iload_n 2, 1) := by decide +kernel
theorem dX3_neededVersions_6 : decode cX3_neededVersions 6 = .ok (.invokestatic 42, 3) := by decide +kernel
theorem dX3_neededVersions_9 : decode cX3_neededVersions 9 = .ok (.iconst 4, 1) := by decide +kernel
theorem dX3_neededVersions_10 : decode cX3_neededVersions 10 = .ok (.imul, 1) := by decide +kernel
theorem dX3_neededVersions_11 : decode cX3_neededVersions 11 = .ok (.iload_n 3, 1) := by decide +kernel
theorem dX3_neededVersions_12 : decode cX3_neededVersions 12 = .ok (.iadd, 1) := by decide +kernel
theorem dX3_neededVersions_13 : decode cX3_neededVersions 13 = .ok (.invokevirtual 38, 3) := by decide +kernel
theorem dX3_neededVersions_16 : decode cX3_neededVersions 16 = .ok (.ireturn, 1) := by decide +kernel
set_option maxRecDepth 20000 in
theorem ggX3_markReplaced_X3_placeOf : GoodIn wsX3_markReplaced wsX3_placeOf := goodIn_r _ [5] (by decide +kernel) (by decide +kernel)
set_option maxRecDepth 20000 in
theorem gX3_markReplaced_X3_placeOf : GoodIn wsX3_markReplaced (va_wsS RX3 42 yX3_placeOf wsX3_placeOf) := goodIn_app (goodIn_of _ (by decide +kernel)) ggX3_markReplaced_X3_placeOf
set_option maxRecDepth 20000 in
theorem ggX3_markReplaced_X6_put : GoodIn wsX3_markReplaced wsX6_put := goodIn_r _ [10, 11, 18] (by decide +kernel) (by decide +kernel)
set_option maxRecDepth 20000 in
theorem gX3_markReplaced_X6_put : GoodIn wsX3_markReplaced (wsV RX3 46 RX6 yX6_put wsX6_put) := goodIn_app (goodIn_of _ (by decide +kernel)) ggX3_markReplaced_X6_put
theorem dX3_markReplaced_0 : decode cX3_markReplaced 0 = .ok (.aload_n 0, 1) := by decide +kernel
theorem dX3_markReplaced_1 : decode cX3_markReplaced 1 = .ok (.getfield 23, 3) := by decide +kernel
theorem dX3_markReplaced_4 : decode cX3_markReplaced 4 = .ok (.iload_n 1, 1) := by decide +kernel
theorem dX3_markReplaced_5 : decode cX3_markReplaced 5 = .ok (.iload_n 2, 1) := by decide +kernel
theorem dX3_markReplaced_6 : decode cX3_markReplaced 6 = .ok (.invokestatic 42, 3) := by decide +kernel
theorem dX3_markReplaced_9 : decode cX3_markReplaced 9 = .ok (.iconst 1, 1) := by decide +kernel
theorem dX3_markReplaced_10 : decode cX3_markReplaced 10 = .ok (.invokevirtual 46, 3) := by decide +kernel
theorem dX3_markReplaced_13 : decode cX3_markReplaced 13 = .ok (.return_, 1) := by decide +kernel
set_option maxRecDepth 20000 in
theorem ggX3_isReplaced_X3_placeOf : GoodIn wsX3_isReplaced wsX3_placeOf := goodIn_r _ [5] (by decide +kernel) (by decide +kernel)
set_option maxRecDepth 20000 in
theorem gX3_isReplaced_X3_placeOf : GoodIn wsX3_isReplaced (va_wsS RX3 42 yX3_placeOf wsX3_placeOf) := goodIn_app (goodIn_of _ (by decide +kernel)) ggX3_isReplaced_X3_placeOf
set_option maxRecDepth 20000 in
theorem ggX3_isReplaced_X6_at : GoodIn wsX3_isReplaced wsX6_at := goodIn_r _ [10, 11, 18] (by decide +kernel) (by decide +kernel)
set_option maxRecDepth 20000 in
theorem gX3_isReplaced_X6_at : GoodIn wsX3_isReplaced (wsV RX3 38 RX6 yX6_at wsX6_at) := goodIn_app (goodIn_of _ (by decide +kernel)) ggX3_isReplaced_X6_at
theorem dX3_isReplaced_0 : decode cX3_isReplaced 0 = .ok (.aload_n 0, 1) := by decide +kernel
theorem dX3_isReplaced_1 : decode cX3_isReplaced 1 = .ok (.getfield 23, 3) := by decide +kernel
theorem dX3_isReplaced_4 : decode cX3_isReplaced 4 = .ok (.iload_n 1, 1) := by decide +kernel
theorem dX3_isReplaced_5 : decode cX3_isReplaced 5 = .ok (.iload_n 2, 1) := by decide +kernel
theorem dX3_isReplaced_6 : decode cX3_isReplaced 6 = .ok (.invokestatic 42, 3) := by decide +kernel
theorem dX3_isReplaced_9 : decode cX3_isReplaced 9 = .ok (.invokevirtual 38, 3) := by decide +kernel
theorem dX3_isReplaced_12 : decode cX3_isReplaced 12 = .ok (.ifCond .eq 7, 3) := by decide +kernel
theorem dX3_isReplaced_15 : decode cX3_isReplaced 15 = .ok (.iconst 1, 1) := by decide +kernel
theorem dX3_isReplaced_16 : decode cX3_isReplaced 16 = .ok (.goto 4, 3) := by decide +kernel
theorem dX3_isReplaced_19 : decode cX3_isReplaced 19 = .ok (.iconst 0, 1) := by decide +kernel
theorem dX3_isReplaced_20 : decode cX3_isReplaced 20 = .ok (.ireturn, 1) := by decide +kernel
set_option maxRecDepth 20000 in
theorem ggX3_current_X6_at : GoodIn wsX3_current wsX6_at := goodIn_r _ [6, 7, 26] (by decide +kernel) (by decide +kernel)
set_option maxRecDepth 20000 in
theorem gX3_current_X6_at : GoodIn wsX3_current (wsV RX3 38 RX6 yX6_at wsX6_at) := goodIn_app (goodIn_of _ (by decide +kernel)) ggX3_current_X6_at
set_option maxRecDepth 20000 in
theorem ggX3_current_X3_isReplaced : GoodIn wsX3_current wsX3_isReplaced := goodIn_r _ [12, 13, 14, 15, 11, 16, 2, 3, 4, 5, 6, 7, 20, 21, 22, 23, 24, 25, 26] (by decide +kernel) (by decide +kernel)
set_option maxRecDepth 20000 in
theorem gX3_current_X3_isReplaced : GoodIn wsX3_current (wsV RX3 53 RX3 yX3_isReplaced wsX3_isReplaced) := goodIn_app (goodIn_of _ (by decide +kernel)) ggX3_current_X3_isReplaced
set_option maxRecDepth 20000 in
theorem ggX3_current_X3_versionSet : GoodIn wsX3_current wsX3_versionSet := goodIn_r _ [19] (by decide +kernel) (by decide +kernel)
set_option maxRecDepth 20000 in
theorem gX3_current_X3_versionSet : GoodIn wsX3_current (va_wsS RX3 50 yX3_versionSet wsX3_versionSet) := goodIn_app (goodIn_of _ (by decide +kernel)) ggX3_current_X3_versionSet
theorem dX3_current_0 : decode cX3_current 0 = .ok (.iconst 0, 1) := by decide +kernel
theorem dX3_current_1 : decode cX3_current 1 = .ok (.istore_n 2, 1) := by decide +kernel
theorem dX3_current_2 : decode cX3_current 2 = .ok (.iconst 1, 1) := by decide +kernel
theorem dX3_current_3 : decode cX3_current 3 = .ok (.istore_n 3, 1) := by decide +kernel
theorem dX3_current_4 : decode cX3_current 4 = .ok (.iload_n 3, 1) := by decide +kernel
theorem dX3_current_5 : decode cX3_current 5 = .ok (.aload_n 0, 1) := by decide +kernel
theorem dX3_current_6 : decode cX3_current 6 = .ok (.getfield 14, 3) := by decide +kernel
theorem dX3_current_9 : decode cX3_current 9 = .ok (.iload_n 1, 1) := by decide +kernel
theorem dX3_current_10 : decode cX3_current 10 = .ok (.invokevirtual 38, 3) := by decide +kernel
theorem dX3_current_13 : decode cX3_current 13 = .ok (.if_icmp .gt 31, 3) := by decide +kernel
theorem dX3_current_16 : decode cX3_current 16 = .ok (.iload_n 3, 1) := by decide +kernel
theorem dX3_current_17 : decode cX3_current 17 = .ok (.iconst 3, 1) := by decide +kernel
theorem dX3_current_18 : decode cX3_current 18 = .ok (.if_icmp .gt 26, 3) := by decide +kernel
theorem dX3_current_21 : decode cX3_current 21 = .ok (.aload_n 0, 1) := by decide +kernel
theorem dX3_current_22 : decode cX3_current 22 = .ok (.iload_n 1, 1) := by decide +kernel
theorem dX3_current_23 : decode cX3_current 23 = .ok (.iload_n 3, 1) := by decide +kernel
theorem dX3_current_24 : decode cX3_current 24 = .ok (.invokevirtual 53, 3) := by decide +kernel
theorem dX3_current_27 : decode cX3_current 27 = .ok (.ifCond .ne 11, 3) := by decide +kernel
theorem dX3_current_30 : decode cX3_current 30 = .ok (.iload_n 2, 1) := by decide +kernel
theorem dX3_current_31 : decode cX3_current 31 = .ok (.iload_n 3, 1) := by decide +kernel
theorem dX3_current_32 : decode cX3_current 32 = .ok (.iload_n 3, 1) := by decide +kernel
theorem dX3_current_33 : decode cX3_current 33 = .ok (.invokestatic 50, 3) := by decide +kernel
theorem dX3_current_36 : decode cX3_current 36 = .ok (.ior, 1) := by decide +kernel
theorem dX3_current_37 : decode cX3_current 37 = .ok (.istore_n 2, 1) := by decide +kernel
theorem dX3_current_38 : decode cX3_current 38 = .ok (.iinc 3 1, 3) := by decide +kernel
theorem dX3_current_41 : decode cX3_current 41 = .ok (.goto (-37), 3) := by decide +kernel
theorem dX3_current_44 : decode cX3_current 44 = .ok (.iload_n 2, 1) := by decide +kernel
theorem dX3_current_45 : decode cX3_current 45 = .ok (.ireturn, 1) := by decide +kernel
set_option maxRecDepth 20000 in
theorem ggX3_costOf_X1_versionOf : GoodIn wsX3_costOf wsX1_versionOf := goodIn_r _ [5] (by decide +kernel) (by decide +kernel)
set_option maxRecDepth 20000 in
theorem gX3_costOf_X1_versionOf : GoodIn wsX3_costOf (va_wsS RX3 57 yX1_versionOf wsX1_versionOf) := goodIn_app (goodIn_of _ (by decide +kernel)) ggX3_costOf_X1_versionOf
set_option maxRecDepth 20000 in
theorem ggX3_costOf_X3_placeOf : GoodIn wsX3_costOf wsX3_placeOf := goodIn_r _ [9] (by decide +kernel) (by decide +kernel)
set_option maxRecDepth 20000 in
theorem gX3_costOf_X3_placeOf : GoodIn wsX3_costOf (va_wsS RX3 42 yX3_placeOf wsX3_placeOf) := goodIn_app (goodIn_of _ (by decide +kernel)) ggX3_costOf_X3_placeOf
set_option maxRecDepth 20000 in
theorem ggX3_costOf_X6_at : GoodIn wsX3_costOf wsX6_at := goodIn_r _ [14, 15, 22] (by decide +kernel) (by decide +kernel)
set_option maxRecDepth 20000 in
theorem gX3_costOf_X6_at : GoodIn wsX3_costOf (wsV RX3 38 RX6 yX6_at wsX6_at) := goodIn_app (goodIn_of _ (by decide +kernel)) ggX3_costOf_X6_at
theorem dX3_costOf_0 : decode cX3_costOf 0 = .ok (.iconst 0, 1) := by decide +kernel
theorem dX3_costOf_1 : decode cX3_costOf 1 = .ok (.istore_n 2, 1) := by decide +kernel
theorem dX3_costOf_2 : decode cX3_costOf 2 = .ok (.iconst 0, 1) := by decide +kernel
theorem dX3_costOf_3 : decode cX3_costOf 3 = .ok (.istore_n 3, 1) := by decide +kernel
theorem dX3_costOf_4 : decode cX3_costOf 4 = .ok (.iload_n 3, 1) := by decide +kernel
theorem dX3_costOf_5 : decode cX3_costOf 5 = .ok (.bipush 8, 2) := by decide +kernel
theorem dX3_costOf_7 : decode cX3_costOf 7 = .ok (.if_icmp .ge 37, 3) := by decide +kernel
theorem dX3_costOf_10 : decode cX3_costOf 10 = .ok (.iload_n 1, 1) := by decide +kernel
theorem dX3_costOf_11 : decode cX3_costOf 11 = .ok (.iload_n 3, 1) := by decide +kernel
theorem dX3_costOf_12 : decode cX3_costOf 12 = .ok (.invokestatic 57, 3) := by decide +kernel
theorem dX3_costOf_15 : decode cX3_costOf 15 = .ok (.istore 4, 2) := by decide +kernel
theorem dX3_costOf_17 : decode cX3_costOf 17 = .ok (.iload 4, 2) := by decide +kernel
theorem dX3_costOf_19 : decode cX3_costOf 19 = .ok (.ifCond .eq 19, 3) := by decide +kernel
theorem dX3_costOf_22 : decode cX3_costOf 22 = .ok (.iload_n 2, 1) := by decide +kernel
theorem dX3_costOf_23 : decode cX3_costOf 23 = .ok (.aload_n 0, 1) := by decide +kernel
theorem dX3_costOf_24 : decode cX3_costOf 24 = .ok (.getfield 20, 3) := by decide +kernel
theorem dX3_costOf_27 : decode cX3_costOf 27 = .ok (.iload_n 3, 1) := by decide +kernel
theorem dX3_costOf_28 : decode cX3_costOf 28 = .ok (.iload 4, 2) := by decide +kernel
theorem dX3_costOf_30 : decode cX3_costOf 30 = .ok (.invokestatic 42, 3) := by decide +kernel
theorem dX3_costOf_33 : decode cX3_costOf 33 = .ok (.invokevirtual 38, 3) := by decide +kernel
theorem dX3_costOf_36 : decode cX3_costOf 36 = .ok (.iadd, 1) := by decide +kernel
theorem dX3_costOf_37 : decode cX3_costOf 37 = .ok (.istore_n 2, 1) := by decide +kernel
theorem dX3_costOf_38 : decode cX3_costOf 38 = .ok (.iinc 3 1, 3) := by decide +kernel
theorem dX3_costOf_41 : decode cX3_costOf 41 = .ok (.goto (-37), 3) := by decide +kernel
theorem dX3_costOf_44 : decode cX3_costOf 44 = .ok (.iload_n 2, 1) := by decide +kernel
theorem dX3_costOf_45 : decode cX3_costOf 45 = .ok (.ireturn, 1) := by decide +kernel
theorem dX3_versionSet_0 : decode cX3_versionSet 0 = .ok (.iconst 2, 1) := by decide +kernel
theorem dX3_versionSet_1 : decode cX3_versionSet 1 = .ok (.iload_n 1, 1) := by decide +kernel
theorem dX3_versionSet_2 : decode cX3_versionSet 2 = .ok (.ishl, 1) := by decide +kernel
theorem dX3_versionSet_3 : decode cX3_versionSet 3 = .ok (.iconst 1, 1) := by decide +kernel
theorem dX3_versionSet_4 : decode cX3_versionSet 4 = .ok (.iload_n 0, 1) := by decide +kernel
theorem dX3_versionSet_5 : decode cX3_versionSet 5 = .ok (.ishl, 1) := by decide +kernel
theorem dX3_versionSet_6 : decode cX3_versionSet 6 = .ok (.isub, 1) := by decide +kernel
theorem dX3_versionSet_7 : decode cX3_versionSet 7 = .ok (.ireturn, 1) := by decide +kernel
theorem dX3_placeOf_0 : decode cX3_placeOf 0 = .ok (.iload_n 0, 1) := by decide +kernel
theorem dX3_placeOf_1 : decode cX3_placeOf 1 = .ok (.iconst 3, 1) := by decide +kernel
theorem dX3_placeOf_2 : decode cX3_placeOf 2 = .ok (.imul, 1) := by decide +kernel
theorem dX3_placeOf_3 : decode cX3_placeOf 3 = .ok (.iload_n 1, 1) := by decide +kernel
theorem dX3_placeOf_4 : decode cX3_placeOf 4 = .ok (.iadd, 1) := by decide +kernel
theorem dX3_placeOf_5 : decode cX3_placeOf 5 = .ok (.iconst 1, 1) := by decide +kernel
theorem dX3_placeOf_6 : decode cX3_placeOf 6 = .ok (.isub, 1) := by decide +kernel
theorem dX3_placeOf_7 : decode cX3_placeOf 7 = .ok (.ireturn, 1) := by decide +kernel
end
section
set_option maxRecDepth 20000 in
theorem ggX4_init_X6_init : GoodIn wsX4_init wsX6_init := goodIn_r _ [12, 13, 2, 3, 14, 15, 16] (by decide +kernel) (by decide +kernel)
set_option maxRecDepth 20000 in
theorem gX4_init_X6_init : GoodIn wsX4_init (wsX6_init) := ggX4_init_X6_init
theorem dX4_init_0 : decode cX4_init 0 = .ok (.aload_n 0, 1) := by decide +kernel
theorem dX4_init_1 : decode cX4_init 1 = .ok (.invokespecial 3, 3) := by decide +kernel
theorem dX4_init_4 : decode cX4_init 4 = .ok (.aload_n 0, 1) := by decide +kernel
theorem dX4_init_5 : decode cX4_init 5 = .ok (.new 9, 3) := by decide +kernel
theorem dX4_init_8 : decode cX4_init 8 = .ok (.dup, 1) := by decide +kernel
theorem dX4_init_9 : decode cX4_init 9 = .ok (.bipush 8, 2) := by decide +kernel
theorem dX4_init_11 : decode cX4_init 11 = .ok (.invokespecial 11, 3) := by decide +kernel
theorem dX4_init_14 : decode cX4_init 14 = .ok (.putfield 14, 3) := by decide +kernel
theorem dX4_init_17 : decode cX4_init 17 = .ok (.aload_n 0, 1) := by decide +kernel
theorem dX4_init_18 : decode cX4_init 18 = .ok (.new 9, 3) := by decide +kernel
theorem dX4_init_21 : decode cX4_init 21 = .ok (.dup, 1) := by decide +kernel
theorem dX4_init_22 : decode cX4_init 22 = .ok (.bipush 8, 2) := by decide +kernel
theorem dX4_init_24 : decode cX4_init 24 = .ok (.invokespecial 11, 3) := by decide +kernel
theorem dX4_init_27 : decode cX4_init 27 = .ok (.putfield 20, 3) := by decide +kernel
theorem dX4_init_30 : decode cX4_init 30 = .ok (.aload_n 0, 1) := by decide +kernel
theorem dX4_init_31 : decode cX4_init 31 = .ok (.new 9, 3) := by decide +kernel
theorem dX4_init_34 : decode cX4_init 34 = .ok (.dup, 1) := by decide +kernel
theorem dX4_init_35 : decode cX4_init 35 = .ok (.bipush 8, 2) := by decide +kernel
theorem dX4_init_37 : decode cX4_init 37 = .ok (.invokespecial 11, 3) := by decide +kernel
theorem dX4_init_40 : decode cX4_init 40 = .ok (.putfield 23, 3) := by decide +kernel
theorem dX4_init_43 : decode cX4_init 43 = .ok (.return_, 1) := by decide +kernel
set_option maxRecDepth 20000 in
theorem ggX4_clear_X6_fill : GoodIn wsX4_clear wsX6_fill := goodIn_r _ [8, 9, 14] (by decide +kernel) (by decide +kernel)
set_option maxRecDepth 20000 in
theorem gX4_clear_X6_fill : GoodIn wsX4_clear (wsV RX4 26 RX6 yX6_fill wsX6_fill) := goodIn_app (goodIn_of _ (by decide +kernel)) ggX4_clear_X6_fill
theorem dX4_clear_0 : decode cX4_clear 0 = .ok (.aload_n 0, 1) := by decide +kernel
theorem dX4_clear_1 : decode cX4_clear 1 = .ok (.getfield 14, 3) := by decide +kernel
theorem dX4_clear_4 : decode cX4_clear 4 = .ok (.bipush 100, 2) := by decide +kernel
theorem dX4_clear_6 : decode cX4_clear 6 = .ok (.invokevirtual 26, 3) := by decide +kernel
theorem dX4_clear_9 : decode cX4_clear 9 = .ok (.aload_n 0, 1) := by decide +kernel
theorem dX4_clear_10 : decode cX4_clear 10 = .ok (.getfield 23, 3) := by decide +kernel
theorem dX4_clear_13 : decode cX4_clear 13 = .ok (.iconst 0, 1) := by decide +kernel
theorem dX4_clear_14 : decode cX4_clear 14 = .ok (.invokevirtual 26, 3) := by decide +kernel
theorem dX4_clear_17 : decode cX4_clear 17 = .ok (.aload_n 0, 1) := by decide +kernel
theorem dX4_clear_18 : decode cX4_clear 18 = .ok (.iconst 0, 1) := by decide +kernel
theorem dX4_clear_19 : decode cX4_clear 19 = .ok (.putfield 29, 3) := by decide +kernel
theorem dX4_clear_22 : decode cX4_clear 22 = .ok (.return_, 1) := by decide +kernel
theorem dX4_today_0 : decode cX4_today 0 = .ok (.aload_n 0, 1) := by decide +kernel
theorem dX4_today_1 : decode cX4_today 1 = .ok (.getfield 29, 3) := by decide +kernel
theorem dX4_today_4 : decode cX4_today 4 = .ok (.ireturn, 1) := by decide +kernel
theorem dX4_addDays_0 : decode cX4_addDays 0 = .ok (.aload_n 0, 1) := by decide +kernel
theorem dX4_addDays_1 : decode cX4_addDays 1 = .ok (.dup, 1) := by decide +kernel
theorem dX4_addDays_2 : decode cX4_addDays 2 = .ok (.getfield 29, 3) := by decide +kernel
theorem dX4_addDays_5 : decode cX4_addDays 5 = .ok (.iload_n 1, 1) := by decide +kernel
theorem dX4_addDays_6 : decode cX4_addDays 6 = .ok (.iadd, 1) := by decide +kernel
theorem dX4_addDays_7 : decode cX4_addDays 7 = .ok (.putfield 29, 3) := by decide +kernel
theorem dX4_addDays_10 : decode cX4_addDays 10 = .ok (.aload_n 0, 1) := by decide +kernel
theorem dX4_addDays_11 : decode cX4_addDays 11 = .ok (.getfield 29, 3) := by decide +kernel
theorem dX4_addDays_14 : decode cX4_addDays 14 = .ok (.ireturn, 1) := by decide +kernel
set_option maxRecDepth 20000 in
theorem ggX4_changeLimit_X6_at : GoodIn wsX4_changeLimit wsX6_at := goodIn_r _ [6, 7, 16] (by decide +kernel) (by decide +kernel)
set_option maxRecDepth 20000 in
theorem gX4_changeLimit_X6_at : GoodIn wsX4_changeLimit (wsV RX4 33 RX6 yX6_at wsX6_at) := goodIn_app (goodIn_of _ (by decide +kernel)) ggX4_changeLimit_X6_at
set_option maxRecDepth 20000 in
theorem ggX4_changeLimit_X6_put : GoodIn wsX4_changeLimit wsX6_put := goodIn_r _ [11, 7, 16] (by decide +kernel) (by decide +kernel)
set_option maxRecDepth 20000 in
theorem gX4_changeLimit_X6_put : GoodIn wsX4_changeLimit (wsV RX4 37 RX6 yX6_put wsX6_put) := goodIn_app (goodIn_of _ (by decide +kernel)) ggX4_changeLimit_X6_put
theorem dX4_changeLimit_0 : decode cX4_changeLimit 0 = .ok (.aload_n 0, 1) := by decide +kernel
theorem dX4_changeLimit_1 : decode cX4_changeLimit 1 = .ok (.getfield 14, 3) := by decide +kernel
theorem dX4_changeLimit_4 : decode cX4_changeLimit 4 = .ok (.iload_n 1, 1) := by decide +kernel
theorem dX4_changeLimit_5 : decode cX4_changeLimit 5 = .ok (.invokevirtual 33, 3) := by decide +kernel
theorem dX4_changeLimit_8 : decode cX4_changeLimit 8 = .ok (.istore_n 3, 1) := by decide +kernel
theorem dX4_changeLimit_9 : decode cX4_changeLimit 9 = .ok (.aload_n 0, 1) := by decide +kernel
theorem dX4_changeLimit_10 : decode cX4_changeLimit 10 = .ok (.getfield 14, 3) := by decide +kernel
theorem dX4_changeLimit_13 : decode cX4_changeLimit 13 = .ok (.iload_n 1, 1) := by decide +kernel
theorem dX4_changeLimit_14 : decode cX4_changeLimit 14 = .ok (.iload_n 2, 1) := by decide +kernel
theorem dX4_changeLimit_15 : decode cX4_changeLimit 15 = .ok (.invokevirtual 37, 3) := by decide +kernel
theorem dX4_changeLimit_18 : decode cX4_changeLimit 18 = .ok (.iload_n 3, 1) := by decide +kernel
theorem dX4_changeLimit_19 : decode cX4_changeLimit 19 = .ok (.ireturn, 1) := by decide +kernel
set_option maxRecDepth 20000 in
theorem ggX4_sendOnLeave_X6_put : GoodIn wsX4_sendOnLeave wsX6_put := goodIn_r _ [8, 9, 18] (by decide +kernel) (by decide +kernel)
set_option maxRecDepth 20000 in
theorem gX4_sendOnLeave_X6_put : GoodIn wsX4_sendOnLeave (wsV RX4 37 RX6 yX6_put wsX6_put) := goodIn_app (goodIn_of _ (by decide +kernel)) ggX4_sendOnLeave_X6_put
set_option maxRecDepth 20000 in
theorem ggX4_sendOnLeave_X6_at : GoodIn wsX4_sendOnLeave wsX6_at := goodIn_r _ [13, 9, 18] (by decide +kernel) (by decide +kernel)
set_option maxRecDepth 20000 in
theorem gX4_sendOnLeave_X6_at : GoodIn wsX4_sendOnLeave (wsV RX4 33 RX6 yX6_at wsX6_at) := goodIn_app (goodIn_of _ (by decide +kernel)) ggX4_sendOnLeave_X6_at
theorem dX4_sendOnLeave_0 : decode cX4_sendOnLeave 0 = .ok (.aload_n 0, 1) := by decide +kernel
theorem dX4_sendOnLeave_1 : decode cX4_sendOnLeave 1 = .ok (.getfield 20, 3) := by decide +kernel
theorem dX4_sendOnLeave_4 : decode cX4_sendOnLeave 4 = .ok (.iload_n 1, 1) := by decide +kernel
theorem dX4_sendOnLeave_5 : decode cX4_sendOnLeave 5 = .ok (.iload_n 2, 1) := by decide +kernel
theorem dX4_sendOnLeave_6 : decode cX4_sendOnLeave 6 = .ok (.invokevirtual 37, 3) := by decide +kernel
theorem dX4_sendOnLeave_9 : decode cX4_sendOnLeave 9 = .ok (.aload_n 0, 1) := by decide +kernel
theorem dX4_sendOnLeave_10 : decode cX4_sendOnLeave 10 = .ok (.getfield 23, 3) := by decide +kernel
theorem dX4_sendOnLeave_13 : decode cX4_sendOnLeave 13 = .ok (.iload_n 1, 1) := by decide +kernel
theorem dX4_sendOnLeave_14 : decode cX4_sendOnLeave 14 = .ok (.aload_n 0, 1) := by decide +kernel
theorem dX4_sendOnLeave_15 : decode cX4_sendOnLeave 15 = .ok (.getfield 29, 3) := by decide +kernel
theorem dX4_sendOnLeave_18 : decode cX4_sendOnLeave 18 = .ok (.iload_n 3, 1) := by decide +kernel
theorem dX4_sendOnLeave_19 : decode cX4_sendOnLeave 19 = .ok (.iadd, 1) := by decide +kernel
theorem dX4_sendOnLeave_20 : decode cX4_sendOnLeave 20 = .ok (.invokevirtual 37, 3) := by decide +kernel
theorem dX4_sendOnLeave_23 : decode cX4_sendOnLeave 23 = .ok (.aload_n 0, 1) := by decide +kernel
theorem dX4_sendOnLeave_24 : decode cX4_sendOnLeave 24 = .ok (.getfield 23, 3) := by decide +kernel
theorem dX4_sendOnLeave_27 : decode cX4_sendOnLeave 27 = .ok (.iload_n 1, 1) := by decide +kernel
theorem dX4_sendOnLeave_28 : decode cX4_sendOnLeave 28 = .ok (.invokevirtual 33, 3) := by decide +kernel
theorem dX4_sendOnLeave_31 : decode cX4_sendOnLeave 31 = .ok (.ireturn, 1) := by decide +kernel
set_option maxRecDepth 20000 in
theorem ggX4_backOf_X6_at : GoodIn wsX4_backOf wsX6_at := goodIn_r _ [6, 7, 12] (by decide +kernel) (by decide +kernel)
set_option maxRecDepth 20000 in
theorem gX4_backOf_X6_at : GoodIn wsX4_backOf (wsV RX4 33 RX6 yX6_at wsX6_at) := goodIn_app (goodIn_of _ (by decide +kernel)) ggX4_backOf_X6_at
theorem dX4_backOf_0 : decode cX4_backOf 0 = .ok (.aload_n 0, 1) := by decide +kernel
theorem dX4_backOf_1 : decode cX4_backOf 1 = .ok (.getfield 23, 3) := by decide +kernel
theorem dX4_backOf_4 : decode cX4_backOf 4 = .ok (.iload_n 1, 1) := by decide +kernel
theorem dX4_backOf_5 : decode cX4_backOf 5 = .ok (.invokevirtual 33, 3) := by decide +kernel
theorem dX4_backOf_8 : decode cX4_backOf 8 = .ok (.ireturn, 1) := by decide +kernel
set_option maxRecDepth 20000 in
theorem ggX4_isAway_X6_at : GoodIn wsX4_isAway wsX6_at := goodIn_r _ [7, 8, 13] (by decide +kernel) (by decide +kernel)
set_option maxRecDepth 20000 in
theorem gX4_isAway_X6_at : GoodIn wsX4_isAway (wsV RX4 33 RX6 yX6_at wsX6_at) := goodIn_app (goodIn_of _ (by decide +kernel)) ggX4_isAway_X6_at
theorem dX4_isAway_0 : decode cX4_isAway 0 = .ok (.aload_n 0, 1) := by decide +kernel
theorem dX4_isAway_1 : decode cX4_isAway 1 = .ok (.getfield 29, 3) := by decide +kernel
theorem dX4_isAway_4 : decode cX4_isAway 4 = .ok (.aload_n 0, 1) := by decide +kernel
theorem dX4_isAway_5 : decode cX4_isAway 5 = .ok (.getfield 23, 3) := by decide +kernel
theorem dX4_isAway_8 : decode cX4_isAway 8 = .ok (.iload_n 1, 1) := by decide +kernel
theorem dX4_isAway_9 : decode cX4_isAway 9 = .ok (.invokevirtual 33, 3) := by decide +kernel
theorem dX4_isAway_12 : decode cX4_isAway 12 = .ok (.if_icmp .ge 7, 3) := by decide +kernel
theorem dX4_isAway_15 : decode cX4_isAway 15 = .ok (.iconst 1, 1) := by decide +kernel
theorem dX4_isAway_16 : decode cX4_isAway 16 = .ok (.goto 4, 3) := by decide +kernel
theorem dX4_isAway_19 : decode cX4_isAway 19 = .ok (.iconst 0, 1) := by decide +kernel
theorem dX4_isAway_20 : decode cX4_isAway 20 = .ok (.ireturn, 1) := by decide +kernel
set_option maxRecDepth 20000 in
theorem ggX4_principalOf_X4_isAway : GoodIn wsX4_principalOf wsX4_isAway := goodIn_r _ [7, 8, 9, 10, 11, 12, 13, 14, 15, 16, 17, 18, 19, 20] (by decide +kernel) (by decide +kernel)
set_option maxRecDepth 20000 in
theorem gX4_principalOf_X4_isAway : GoodIn wsX4_principalOf (wsV RX4 41 RX4 yX4_isAway wsX4_isAway) := goodIn_app (goodIn_of _ (by decide +kernel)) ggX4_principalOf_X4_isAway
set_option maxRecDepth 20000 in
theorem ggX4_principalOf_X6_at : GoodIn wsX4_principalOf wsX6_at := goodIn_r _ [14, 15, 20] (by decide +kernel) (by decide +kernel)
set_option maxRecDepth 20000 in
theorem gX4_principalOf_X6_at : GoodIn wsX4_principalOf (wsV RX4 33 RX6 yX6_at wsX6_at) := goodIn_app (goodIn_of _ (by decide +kernel)) ggX4_principalOf_X6_at
theorem dX4_principalOf_0 : decode cX4_principalOf 0 = .ok (.aload_n 0, 1) := by decide +kernel
theorem dX4_principalOf_1 : decode cX4_principalOf 1 = .ok (.iload_n 1, 1) := by decide +kernel
theorem dX4_principalOf_2 : decode cX4_principalOf 2 = .ok (.invokevirtual 41, 3) := by decide +kernel
theorem dX4_principalOf_5 : decode cX4_principalOf 5 = .ok (.ifCond .eq 5, 3) := by decide +kernel
theorem dX4_principalOf_8 : decode cX4_principalOf 8 = .ok (.iconst (-1), 1) := by decide +kernel
theorem dX4_principalOf_9 : decode cX4_principalOf 9 = .ok (.ireturn, 1) := by decide +kernel
theorem dX4_principalOf_10 : decode cX4_principalOf 10 = .ok (.aload_n 0, 1) := by decide +kernel
theorem dX4_principalOf_11 : decode cX4_principalOf 11 = .ok (.getfield 14, 3) := by decide +kernel
theorem dX4_principalOf_14 : decode cX4_principalOf 14 = .ok (.iload_n 1, 1) := by decide +kernel
theorem dX4_principalOf_15 : decode cX4_principalOf 15 = .ok (.invokevirtual 33, 3) := by decide +kernel
theorem dX4_principalOf_18 : decode cX4_principalOf 18 = .ok (.iload_n 2, 1) := by decide +kernel
theorem dX4_principalOf_19 : decode cX4_principalOf 19 = .ok (.if_icmp .lt 5, 3) := by decide +kernel
theorem dX4_principalOf_22 : decode cX4_principalOf 22 = .ok (.iload_n 1, 1) := by decide +kernel
theorem dX4_principalOf_23 : decode cX4_principalOf 23 = .ok (.ireturn, 1) := by decide +kernel
theorem dX4_principalOf_24 : decode cX4_principalOf 24 = .ok (.iload_n 2, 1) := by decide +kernel
theorem dX4_principalOf_25 : decode cX4_principalOf 25 = .ok (.iconst 2, 1) := by decide +kernel
theorem dX4_principalOf_26 : decode cX4_principalOf 26 = .ok (.aload_n 0, 1) := by decide +kernel
theorem dX4_principalOf_27 : decode cX4_principalOf 27 = .ok (.getfield 14, 3) := by decide +kernel
theorem dX4_principalOf_30 : decode cX4_principalOf 30 = .ok (.iload_n 1, 1) := by decide +kernel
theorem dX4_principalOf_31 : decode cX4_principalOf 31 = .ok (.invokevirtual 33, 3) := by decide +kernel
theorem dX4_principalOf_34 : decode cX4_principalOf 34 = .ok (.imul, 1) := by decide +kernel
theorem dX4_principalOf_35 : decode cX4_principalOf 35 = .ok (.if_icmp .le 5, 3) := by decide +kernel
theorem dX4_principalOf_38 : decode cX4_principalOf 38 = .ok (.iconst (-1), 1) := by decide +kernel
theorem dX4_principalOf_39 : decode cX4_principalOf 39 = .ok (.ireturn, 1) := by decide +kernel
theorem dX4_principalOf_40 : decode cX4_principalOf 40 = .ok (.iconst 0, 1) := by decide +kernel
theorem dX4_principalOf_41 : decode cX4_principalOf 41 = .ok (.istore_n 3, 1) := by decide +kernel
theorem dX4_principalOf_42 : decode cX4_principalOf 42 = .ok (.iload_n 3, 1) := by decide +kernel
theorem dX4_principalOf_43 : decode cX4_principalOf 43 = .ok (.bipush 8, 2) := by decide +kernel
theorem dX4_principalOf_45 : decode cX4_principalOf 45 = .ok (.if_icmp .ge 43, 3) := by decide +kernel
theorem dX4_principalOf_48 : decode cX4_principalOf 48 = .ok (.aload_n 0, 1) := by decide +kernel
theorem dX4_principalOf_49 : decode cX4_principalOf 49 = .ok (.iload_n 3, 1) := by decide +kernel
theorem dX4_principalOf_50 : decode cX4_principalOf 50 = .ok (.invokevirtual 41, 3) := by decide +kernel
theorem dX4_principalOf_53 : decode cX4_principalOf 53 = .ok (.ifCond .eq 29, 3) := by decide +kernel
theorem dX4_principalOf_56 : decode cX4_principalOf 56 = .ok (.aload_n 0, 1) := by decide +kernel
theorem dX4_principalOf_57 : decode cX4_principalOf 57 = .ok (.getfield 20, 3) := by decide +kernel
theorem dX4_principalOf_60 : decode cX4_principalOf 60 = .ok (.iload_n 3, 1) := by decide +kernel
theorem dX4_principalOf_61 : decode cX4_principalOf 61 = .ok (.invokevirtual 33, 3) := by decide +kernel
theorem dX4_principalOf_64 : decode cX4_principalOf 64 = .ok (.iload_n 1, 1) := by decide +kernel
theorem dX4_principalOf_65 : decode cX4_principalOf 65 = .ok (.if_icmp .ne 17, 3) := by decide +kernel
theorem dX4_principalOf_68 : decode cX4_principalOf 68 = .ok (.aload_n 0, 1) := by decide +kernel
theorem dX4_principalOf_69 : decode cX4_principalOf 69 = .ok (.getfield 14, 3) := by decide +kernel
theorem dX4_principalOf_72 : decode cX4_principalOf 72 = .ok (.iload_n 3, 1) := by decide +kernel
theorem dX4_principalOf_73 : decode cX4_principalOf 73 = .ok (.invokevirtual 33, 3) := by decide +kernel
theorem dX4_principalOf_76 : decode cX4_principalOf 76 = .ok (.iload_n 2, 1) := by decide +kernel
theorem dX4_principalOf_77 : decode cX4_principalOf 77 = .ok (.if_icmp .lt 5, 3) := by decide +kernel
theorem dX4_principalOf_80 : decode cX4_principalOf 80 = .ok (.iload_n 3, 1) := by decide +kernel
theorem dX4_principalOf_81 : decode cX4_principalOf 81 = .ok (.ireturn, 1) := by decide +kernel
theorem dX4_principalOf_82 : decode cX4_principalOf 82 = .ok (.iinc 3 1, 3) := by decide +kernel
theorem dX4_principalOf_85 : decode cX4_principalOf 85 = .ok (.goto (-43), 3) := by decide +kernel
theorem dX4_principalOf_88 : decode cX4_principalOf 88 = .ok (.iconst (-1), 1) := by decide +kernel
theorem dX4_principalOf_89 : decode cX4_principalOf 89 = .ok (.ireturn, 1) := by decide +kernel
set_option maxRecDepth 20000 in
theorem ggX4_greatestLimit_X6_at : GoodIn wsX4_greatestLimit wsX6_at := goodIn_r _ [6, 7, 19] (by decide +kernel) (by decide +kernel)
set_option maxRecDepth 20000 in
theorem gX4_greatestLimit_X6_at : GoodIn wsX4_greatestLimit (wsV RX4 33 RX6 yX6_at wsX6_at) := goodIn_app (goodIn_of _ (by decide +kernel)) ggX4_greatestLimit_X6_at
set_option maxRecDepth 20000 in
theorem ggX4_greatestLimit_X4_isAway : GoodIn wsX4_greatestLimit wsX4_isAway := goodIn_r _ [12, 13, 14, 2, 3, 4, 5, 6, 7, 15, 16, 17, 18, 19] (by decide +kernel) (by decide +kernel)
set_option maxRecDepth 20000 in
theorem gX4_greatestLimit_X4_isAway : GoodIn wsX4_greatestLimit (wsV RX4 41 RX4 yX4_isAway wsX4_isAway) := goodIn_app (goodIn_of _ (by decide +kernel)) ggX4_greatestLimit_X4_isAway
theorem dX4_greatestLimit_0 : decode cX4_greatestLimit 0 = .ok (.iconst (-1), 1) := by decide +kernel
theorem dX4_greatestLimit_1 : decode cX4_greatestLimit 1 = .ok (.istore_n 3, 1) := by decide +kernel
theorem dX4_greatestLimit_2 : decode cX4_greatestLimit 2 = .ok (.iconst 0, 1) := by decide +kernel
theorem dX4_greatestLimit_3 : decode cX4_greatestLimit 3 = .ok (.istore 4, 2) := by decide +kernel
theorem dX4_greatestLimit_5 : decode cX4_greatestLimit 5 = .ok (.iload 4, 2) := by decide +kernel
theorem dX4_greatestLimit_7 : decode cX4_greatestLimit 7 = .ok (.bipush 8, 2) := by decide +kernel
theorem dX4_greatestLimit_9 : decode cX4_greatestLimit 9 = .ok (.if_icmp .ge 50, 3) := by decide +kernel
theorem dX4_greatestLimit_12 : decode cX4_greatestLimit 12 = .ok (.aload_n 0, 1) := by decide +kernel
theorem dX4_greatestLimit_13 : decode cX4_greatestLimit 13 = .ok (.getfield 14, 3) := by decide +kernel
theorem dX4_greatestLimit_16 : decode cX4_greatestLimit 16 = .ok (.iload 4, 2) := by decide +kernel
theorem dX4_greatestLimit_18 : decode cX4_greatestLimit 18 = .ok (.invokevirtual 33, 3) := by decide +kernel
theorem dX4_greatestLimit_21 : decode cX4_greatestLimit 21 = .ok (.istore 5, 2) := by decide +kernel
theorem dX4_greatestLimit_23 : decode cX4_greatestLimit 23 = .ok (.iload 4, 2) := by decide +kernel
theorem dX4_greatestLimit_25 : decode cX4_greatestLimit 25 = .ok (.iload_n 1, 1) := by decide +kernel
theorem dX4_greatestLimit_26 : decode cX4_greatestLimit 26 = .ok (.if_icmp .eq 27, 3) := by decide +kernel
theorem dX4_greatestLimit_29 : decode cX4_greatestLimit 29 = .ok (.aload_n 0, 1) := by decide +kernel
theorem dX4_greatestLimit_30 : decode cX4_greatestLimit 30 = .ok (.iload 4, 2) := by decide +kernel
theorem dX4_greatestLimit_32 : decode cX4_greatestLimit 32 = .ok (.invokevirtual 41, 3) := by decide +kernel
theorem dX4_greatestLimit_35 : decode cX4_greatestLimit 35 = .ok (.ifCond .ne 18, 3) := by decide +kernel
theorem dX4_greatestLimit_38 : decode cX4_greatestLimit 38 = .ok (.iload 5, 2) := by decide +kernel
theorem dX4_greatestLimit_40 : decode cX4_greatestLimit 40 = .ok (.iload_n 2, 1) := by decide +kernel
theorem dX4_greatestLimit_41 : decode cX4_greatestLimit 41 = .ok (.if_icmp .lt 12, 3) := by decide +kernel
theorem dX4_greatestLimit_44 : decode cX4_greatestLimit 44 = .ok (.iload 5, 2) := by decide +kernel
theorem dX4_greatestLimit_46 : decode cX4_greatestLimit 46 = .ok (.iload_n 3, 1) := by decide +kernel
theorem dX4_greatestLimit_47 : decode cX4_greatestLimit 47 = .ok (.if_icmp .le 6, 3) := by decide +kernel
theorem dX4_greatestLimit_50 : decode cX4_greatestLimit 50 = .ok (.iload 5, 2) := by decide +kernel
theorem dX4_greatestLimit_52 : decode cX4_greatestLimit 52 = .ok (.istore_n 3, 1) := by decide +kernel
theorem dX4_greatestLimit_53 : decode cX4_greatestLimit 53 = .ok (.iinc 4 1, 3) := by decide +kernel
theorem dX4_greatestLimit_56 : decode cX4_greatestLimit 56 = .ok (.goto (-51), 3) := by decide +kernel
theorem dX4_greatestLimit_59 : decode cX4_greatestLimit 59 = .ok (.iload_n 3, 1) := by decide +kernel
theorem dX4_greatestLimit_60 : decode cX4_greatestLimit 60 = .ok (.ireturn, 1) := by decide +kernel
set_option maxRecDepth 20000 in
theorem ggX5_init_X6_init : GoodIn wsX5_init wsX6_init := goodIn_r _ [16, 17, 2, 3, 18, 19, 20] (by decide +kernel) (by decide +kernel)
set_option maxRecDepth 20000 in
theorem gX5_init_X6_init : GoodIn wsX5_init (wsX6_init) := ggX5_init_X6_init
theorem dX5_init_0 : decode cX5_init 0 = .ok (.aload_n 0, 1) := by decide +kernel
theorem dX5_init_1 : decode cX5_init 1 = .ok (.invokespecial 3, 3) := by decide +kernel
theorem dX5_init_4 : decode cX5_init 4 = .ok (.aload_n 0, 1) := by decide +kernel
theorem dX5_init_5 : decode cX5_init 5 = .ok (.new 9, 3) := by decide +kernel
theorem dX5_init_8 : decode cX5_init 8 = .ok (.dup, 1) := by decide +kernel
theorem dX5_init_9 : decode cX5_init 9 = .ok (.bipush 30, 2) := by decide +kernel
theorem dX5_init_11 : decode cX5_init 11 = .ok (.invokespecial 11, 3) := by decide +kernel
theorem dX5_init_14 : decode cX5_init 14 = .ok (.putfield 14, 3) := by decide +kernel
theorem dX5_init_17 : decode cX5_init 17 = .ok (.aload_n 0, 1) := by decide +kernel
theorem dX5_init_18 : decode cX5_init 18 = .ok (.new 9, 3) := by decide +kernel
theorem dX5_init_21 : decode cX5_init 21 = .ok (.dup, 1) := by decide +kernel
theorem dX5_init_22 : decode cX5_init 22 = .ok (.bipush 30, 2) := by decide +kernel
theorem dX5_init_24 : decode cX5_init 24 = .ok (.invokespecial 11, 3) := by decide +kernel
theorem dX5_init_27 : decode cX5_init 27 = .ok (.putfield 20, 3) := by decide +kernel
theorem dX5_init_30 : decode cX5_init 30 = .ok (.aload_n 0, 1) := by decide +kernel
theorem dX5_init_31 : decode cX5_init 31 = .ok (.new 9, 3) := by decide +kernel
theorem dX5_init_34 : decode cX5_init 34 = .ok (.dup, 1) := by decide +kernel
theorem dX5_init_35 : decode cX5_init 35 = .ok (.bipush 30, 2) := by decide +kernel
theorem dX5_init_37 : decode cX5_init 37 = .ok (.invokespecial 11, 3) := by decide +kernel
theorem dX5_init_40 : decode cX5_init 40 = .ok (.putfield 23, 3) := by decide +kernel
theorem dX5_init_43 : decode cX5_init 43 = .ok (.aload_n 0, 1) := by decide +kernel
theorem dX5_init_44 : decode cX5_init 44 = .ok (.new 9, 3) := by decide +kernel
theorem dX5_init_47 : decode cX5_init 47 = .ok (.dup, 1) := by decide +kernel
theorem dX5_init_48 : decode cX5_init 48 = .ok (.bipush 30, 2) := by decide +kernel
theorem dX5_init_50 : decode cX5_init 50 = .ok (.invokespecial 11, 3) := by decide +kernel
theorem dX5_init_53 : decode cX5_init 53 = .ok (.putfield 26, 3) := by decide +kernel
theorem dX5_init_56 : decode cX5_init 56 = .ok (.aload_n 0, 1) := by decide +kernel
theorem dX5_init_57 : decode cX5_init 57 = .ok (.new 9, 3) := by decide +kernel
theorem dX5_init_60 : decode cX5_init 60 = .ok (.dup, 1) := by decide +kernel
theorem dX5_init_61 : decode cX5_init 61 = .ok (.bipush 30, 2) := by decide +kernel
theorem dX5_init_63 : decode cX5_init 63 = .ok (.invokespecial 11, 3) := by decide +kernel
theorem dX5_init_66 : decode cX5_init 66 = .ok (.putfield 29, 3) := by decide +kernel
theorem dX5_init_69 : decode cX5_init 69 = .ok (.aload_n 0, 1) := by decide +kernel
theorem dX5_init_70 : decode cX5_init 70 = .ok (.new 9, 3) := by decide +kernel
theorem dX5_init_73 : decode cX5_init 73 = .ok (.dup, 1) := by decide +kernel
theorem dX5_init_74 : decode cX5_init 74 = .ok (.bipush 30, 2) := by decide +kernel
theorem dX5_init_76 : decode cX5_init 76 = .ok (.invokespecial 11, 3) := by decide +kernel
theorem dX5_init_79 : decode cX5_init 79 = .ok (.putfield 32, 3) := by decide +kernel
theorem dX5_init_82 : decode cX5_init 82 = .ok (.aload_n 0, 1) := by decide +kernel
theorem dX5_init_83 : decode cX5_init 83 = .ok (.new 9, 3) := by decide +kernel
theorem dX5_init_86 : decode cX5_init 86 = .ok (.dup, 1) := by decide +kernel
theorem dX5_init_87 : decode cX5_init 87 = .ok (.sipush 240, 3) := by decide +kernel
theorem dX5_init_90 : decode cX5_init 90 = .ok (.invokespecial 11, 3) := by decide +kernel
theorem dX5_init_93 : decode cX5_init 93 = .ok (.putfield 35, 3) := by decide +kernel
theorem dX5_init_96 : decode cX5_init 96 = .ok (.return_, 1) := by decide +kernel
theorem dX5_clear_0 : decode cX5_clear 0 = .ok (.aload_n 0, 1) := by decide +kernel
theorem dX5_clear_1 : decode cX5_clear 1 = .ok (.iconst 0, 1) := by decide +kernel
theorem dX5_clear_2 : decode cX5_clear 2 = .ok (.putfield 38, 3) := by decide +kernel
theorem dX5_clear_5 : decode cX5_clear 5 = .ok (.return_, 1) := by decide +kernel
theorem dX5_count_0 : decode cX5_count 0 = .ok (.aload_n 0, 1) := by decide +kernel
theorem dX5_count_1 : decode cX5_count 1 = .ok (.getfield 38, 3) := by decide +kernel
theorem dX5_count_4 : decode cX5_count 4 = .ok (.ireturn, 1) := by decide +kernel
set_option maxRecDepth 20000 in
theorem ggX5_add_X6_put : GoodIn wsX5_add wsX6_put := goodIn_r _ [9, 10, 32] (by decide +kernel) (by decide +kernel)
set_option maxRecDepth 20000 in
theorem gX5_add_X6_put : GoodIn wsX5_add (wsV RX5 42 RX6 yX6_put wsX6_put) := goodIn_app (goodIn_of _ (by decide +kernel)) ggX5_add_X6_put
set_option maxRecDepth 20000 in
theorem ggX5_add_X5_reopen : GoodIn wsX5_add wsX5_reopen := goodIn_r _ [15, 16, 17, 18, 5, 6, 7, 8, 9, 10, 24, 25, 26, 27, 28, 29, 30, 31, 32] (by decide +kernel) (by decide +kernel)
set_option maxRecDepth 20000 in
theorem gX5_add_X5_reopen : GoodIn wsX5_add (wsV RX5 46 RX5 yX5_reopen wsX5_reopen) := goodIn_app (goodIn_of _ (by decide +kernel)) ggX5_add_X5_reopen
set_option maxRecDepth 20000 in
theorem ggX5_add_X5_endApprovals : GoodIn wsX5_add wsX5_endApprovals := goodIn_r _ [22, 23, 5, 6, 7, 8, 9, 10, 24, 25, 26, 27, 28, 29, 30, 31, 32] (by decide +kernel) (by decide +kernel)
set_option maxRecDepth 20000 in
theorem gX5_add_X5_endApprovals : GoodIn wsX5_add (wsV RX5 49 RX5 yX5_endApprovals wsX5_endApprovals) := goodIn_app (goodIn_of _ (by decide +kernel)) ggX5_add_X5_endApprovals
theorem dX5_add_0 : decode cX5_add 0 = .ok (.aload_n 0, 1) := by decide +kernel
theorem dX5_add_1 : decode cX5_add 1 = .ok (.getfield 38, 3) := by decide +kernel
theorem dX5_add_4 : decode cX5_add 4 = .ok (.istore 4, 2) := by decide +kernel
theorem dX5_add_6 : decode cX5_add 6 = .ok (.aload_n 0, 1) := by decide +kernel
theorem dX5_add_7 : decode cX5_add 7 = .ok (.dup, 1) := by decide +kernel
theorem dX5_add_8 : decode cX5_add 8 = .ok (.getfield 38, 3) := by decide +kernel
theorem dX5_add_11 : decode cX5_add 11 = .ok (.iconst 1, 1) := by decide +kernel
theorem dX5_add_12 : decode cX5_add 12 = .ok (.iadd, 1) := by decide +kernel
theorem dX5_add_13 : decode cX5_add 13 = .ok (.putfield 38, 3) := by decide +kernel
theorem dX5_add_16 : decode cX5_add 16 = .ok (.aload_n 0, 1) := by decide +kernel
theorem dX5_add_17 : decode cX5_add 17 = .ok (.getfield 14, 3) := by decide +kernel
theorem dX5_add_20 : decode cX5_add 20 = .ok (.iload 4, 2) := by decide +kernel
theorem dX5_add_22 : decode cX5_add 22 = .ok (.iload_n 1, 1) := by decide +kernel
theorem dX5_add_23 : decode cX5_add 23 = .ok (.invokevirtual 42, 3) := by decide +kernel
theorem dX5_add_26 : decode cX5_add 26 = .ok (.aload_n 0, 1) := by decide +kernel
theorem dX5_add_27 : decode cX5_add 27 = .ok (.getfield 20, 3) := by decide +kernel
theorem dX5_add_30 : decode cX5_add 30 = .ok (.iload 4, 2) := by decide +kernel
theorem dX5_add_32 : decode cX5_add 32 = .ok (.iload_n 2, 1) := by decide +kernel
theorem dX5_add_33 : decode cX5_add 33 = .ok (.invokevirtual 42, 3) := by decide +kernel
theorem dX5_add_36 : decode cX5_add 36 = .ok (.aload_n 0, 1) := by decide +kernel
theorem dX5_add_37 : decode cX5_add 37 = .ok (.getfield 23, 3) := by decide +kernel
theorem dX5_add_40 : decode cX5_add 40 = .ok (.iload 4, 2) := by decide +kernel
theorem dX5_add_42 : decode cX5_add 42 = .ok (.iload_n 3, 1) := by decide +kernel
theorem dX5_add_43 : decode cX5_add 43 = .ok (.invokevirtual 42, 3) := by decide +kernel
theorem dX5_add_46 : decode cX5_add 46 = .ok (.aload_n 0, 1) := by decide +kernel
theorem dX5_add_47 : decode cX5_add 47 = .ok (.iload 4, 2) := by decide +kernel
theorem dX5_add_49 : decode cX5_add 49 = .ok (.invokevirtual 46, 3) := by decide +kernel
theorem dX5_add_52 : decode cX5_add 52 = .ok (.aload_n 0, 1) := by decide +kernel
theorem dX5_add_53 : decode cX5_add 53 = .ok (.iload 4, 2) := by decide +kernel
theorem dX5_add_55 : decode cX5_add 55 = .ok (.invokevirtual 49, 3) := by decide +kernel
theorem dX5_add_58 : decode cX5_add 58 = .ok (.iload 4, 2) := by decide +kernel
theorem dX5_add_60 : decode cX5_add 60 = .ok (.ireturn, 1) := by decide +kernel
set_option maxRecDepth 20000 in
theorem ggX5_personOf_X6_at : GoodIn wsX5_personOf wsX6_at := goodIn_r _ [6, 7, 16] (by decide +kernel) (by decide +kernel)
set_option maxRecDepth 20000 in
theorem gX5_personOf_X6_at : GoodIn wsX5_personOf (wsV RX5 52 RX6 yX6_at wsX6_at) := goodIn_app (goodIn_of _ (by decide +kernel)) ggX5_personOf_X6_at
theorem dX5_personOf_0 : decode cX5_personOf 0 = .ok (.aload_n 0, 1) := by decide +kernel
theorem dX5_personOf_1 : decode cX5_personOf 1 = .ok (.getfield 14, 3) := by decide +kernel
theorem dX5_personOf_4 : decode cX5_personOf 4 = .ok (.iload_n 1, 1) := by decide +kernel
theorem dX5_personOf_5 : decode cX5_personOf 5 = .ok (.invokevirtual 52, 3) := by decide +kernel
theorem dX5_personOf_8 : decode cX5_personOf 8 = .ok (.ireturn, 1) := by decide +kernel
set_option maxRecDepth 20000 in
theorem ggX5_partOf_X6_at : GoodIn wsX5_partOf wsX6_at := goodIn_r _ [6, 7, 16] (by decide +kernel) (by decide +kernel)
set_option maxRecDepth 20000 in
theorem gX5_partOf_X6_at : GoodIn wsX5_partOf (wsV RX5 52 RX6 yX6_at wsX6_at) := goodIn_app (goodIn_of _ (by decide +kernel)) ggX5_partOf_X6_at
theorem dX5_partOf_0 : decode cX5_partOf 0 = .ok (.aload_n 0, 1) := by decide +kernel
theorem dX5_partOf_1 : decode cX5_partOf 1 = .ok (.getfield 20, 3) := by decide +kernel
theorem dX5_partOf_4 : decode cX5_partOf 4 = .ok (.iload_n 1, 1) := by decide +kernel
theorem dX5_partOf_5 : decode cX5_partOf 5 = .ok (.invokevirtual 52, 3) := by decide +kernel
theorem dX5_partOf_8 : decode cX5_partOf 8 = .ok (.ireturn, 1) := by decide +kernel
set_option maxRecDepth 20000 in
theorem ggX5_leastOf_X6_at : GoodIn wsX5_leastOf wsX6_at := goodIn_r _ [6, 7, 16] (by decide +kernel) (by decide +kernel)
set_option maxRecDepth 20000 in
theorem gX5_leastOf_X6_at : GoodIn wsX5_leastOf (wsV RX5 52 RX6 yX6_at wsX6_at) := goodIn_app (goodIn_of _ (by decide +kernel)) ggX5_leastOf_X6_at
theorem dX5_leastOf_0 : decode cX5_leastOf 0 = .ok (.aload_n 0, 1) := by decide +kernel
theorem dX5_leastOf_1 : decode cX5_leastOf 1 = .ok (.getfield 23, 3) := by decide +kernel
theorem dX5_leastOf_4 : decode cX5_leastOf 4 = .ok (.iload_n 1, 1) := by decide +kernel
theorem dX5_leastOf_5 : decode cX5_leastOf 5 = .ok (.invokevirtual 52, 3) := by decide +kernel
theorem dX5_leastOf_8 : decode cX5_leastOf 8 = .ok (.ireturn, 1) := by decide +kernel
set_option maxRecDepth 20000 in
theorem ggX5_stateOf_X6_at : GoodIn wsX5_stateOf wsX6_at := goodIn_r _ [6, 7, 16] (by decide +kernel) (by decide +kernel)
set_option maxRecDepth 20000 in
theorem gX5_stateOf_X6_at : GoodIn wsX5_stateOf (wsV RX5 52 RX6 yX6_at wsX6_at) := goodIn_app (goodIn_of _ (by decide +kernel)) ggX5_stateOf_X6_at
theorem dX5_stateOf_0 : decode cX5_stateOf 0 = .ok (.aload_n 0, 1) := by decide +kernel
theorem dX5_stateOf_1 : decode cX5_stateOf 1 = .ok (.getfield 26, 3) := by decide +kernel
theorem dX5_stateOf_4 : decode cX5_stateOf 4 = .ok (.iload_n 1, 1) := by decide +kernel
theorem dX5_stateOf_5 : decode cX5_stateOf 5 = .ok (.invokevirtual 52, 3) := by decide +kernel
theorem dX5_stateOf_8 : decode cX5_stateOf 8 = .ok (.ireturn, 1) := by decide +kernel
set_option maxRecDepth 20000 in
theorem ggX5_choiceOf_X6_at : GoodIn wsX5_choiceOf wsX6_at := goodIn_r _ [6, 7, 16] (by decide +kernel) (by decide +kernel)
set_option maxRecDepth 20000 in
theorem gX5_choiceOf_X6_at : GoodIn wsX5_choiceOf (wsV RX5 52 RX6 yX6_at wsX6_at) := goodIn_app (goodIn_of _ (by decide +kernel)) ggX5_choiceOf_X6_at
theorem dX5_choiceOf_0 : decode cX5_choiceOf 0 = .ok (.aload_n 0, 1) := by decide +kernel
theorem dX5_choiceOf_1 : decode cX5_choiceOf 1 = .ok (.getfield 29, 3) := by decide +kernel
theorem dX5_choiceOf_4 : decode cX5_choiceOf 4 = .ok (.iload_n 1, 1) := by decide +kernel
theorem dX5_choiceOf_5 : decode cX5_choiceOf 5 = .ok (.invokevirtual 52, 3) := by decide +kernel
theorem dX5_choiceOf_8 : decode cX5_choiceOf 8 = .ok (.ireturn, 1) := by decide +kernel
set_option maxRecDepth 20000 in
theorem ggX5_costOf_X6_at : GoodIn wsX5_costOf wsX6_at := goodIn_r _ [6, 7, 16] (by decide +kernel) (by decide +kernel)
set_option maxRecDepth 20000 in
theorem gX5_costOf_X6_at : GoodIn wsX5_costOf (wsV RX5 52 RX6 yX6_at wsX6_at) := goodIn_app (goodIn_of _ (by decide +kernel)) ggX5_costOf_X6_at
theorem dX5_costOf_0 : decode cX5_costOf 0 = .ok (.aload_n 0, 1) := by decide +kernel
theorem dX5_costOf_1 : decode cX5_costOf 1 = .ok (.getfield 32, 3) := by decide +kernel
theorem dX5_costOf_4 : decode cX5_costOf 4 = .ok (.iload_n 1, 1) := by decide +kernel
theorem dX5_costOf_5 : decode cX5_costOf 5 = .ok (.invokevirtual 52, 3) := by decide +kernel
theorem dX5_costOf_8 : decode cX5_costOf 8 = .ok (.ireturn, 1) := by decide +kernel
set_option maxRecDepth 20000 in
theorem ggX5_settle_X6_put : GoodIn wsX5_settle wsX6_put := goodIn_r _ [8, 9, 24] (by decide +kernel) (by decide +kernel)
set_option maxRecDepth 20000 in
theorem gX5_settle_X6_put : GoodIn wsX5_settle (wsV RX5 42 RX6 yX6_put wsX6_put) := goodIn_app (goodIn_of _ (by decide +kernel)) ggX5_settle_X6_put
set_option maxRecDepth 20000 in
theorem ggX5_settle_X5_endApprovals : GoodIn wsX5_settle wsX5_endApprovals := goodIn_r _ [14, 15, 4, 5, 6, 7, 8, 9, 16, 17, 18, 19, 20, 21, 22, 23, 24] (by decide +kernel) (by decide +kernel)
set_option maxRecDepth 20000 in
theorem gX5_settle_X5_endApprovals : GoodIn wsX5_settle (wsV RX5 49 RX5 yX5_endApprovals wsX5_endApprovals) := goodIn_app (goodIn_of _ (by decide +kernel)) ggX5_settle_X5_endApprovals
theorem dX5_settle_0 : decode cX5_settle 0 = .ok (.aload_n 0, 1) := by decide +kernel
theorem dX5_settle_1 : decode cX5_settle 1 = .ok (.getfield 26, 3) := by decide +kernel
theorem dX5_settle_4 : decode cX5_settle 4 = .ok (.iload_n 1, 1) := by decide +kernel
theorem dX5_settle_5 : decode cX5_settle 5 = .ok (.iconst 1, 1) := by decide +kernel
theorem dX5_settle_6 : decode cX5_settle 6 = .ok (.invokevirtual 42, 3) := by decide +kernel
theorem dX5_settle_9 : decode cX5_settle 9 = .ok (.aload_n 0, 1) := by decide +kernel
theorem dX5_settle_10 : decode cX5_settle 10 = .ok (.getfield 29, 3) := by decide +kernel
theorem dX5_settle_13 : decode cX5_settle 13 = .ok (.iload_n 1, 1) := by decide +kernel
theorem dX5_settle_14 : decode cX5_settle 14 = .ok (.iload_n 2, 1) := by decide +kernel
theorem dX5_settle_15 : decode cX5_settle 15 = .ok (.invokevirtual 42, 3) := by decide +kernel
theorem dX5_settle_18 : decode cX5_settle 18 = .ok (.aload_n 0, 1) := by decide +kernel
theorem dX5_settle_19 : decode cX5_settle 19 = .ok (.getfield 32, 3) := by decide +kernel
theorem dX5_settle_22 : decode cX5_settle 22 = .ok (.iload_n 1, 1) := by decide +kernel
theorem dX5_settle_23 : decode cX5_settle 23 = .ok (.iload_n 3, 1) := by decide +kernel
theorem dX5_settle_24 : decode cX5_settle 24 = .ok (.invokevirtual 42, 3) := by decide +kernel
theorem dX5_settle_27 : decode cX5_settle 27 = .ok (.aload_n 0, 1) := by decide +kernel
theorem dX5_settle_28 : decode cX5_settle 28 = .ok (.iload_n 1, 1) := by decide +kernel
theorem dX5_settle_29 : decode cX5_settle 29 = .ok (.invokevirtual 49, 3) := by decide +kernel
theorem dX5_settle_32 : decode cX5_settle 32 = .ok (.iload_n 3, 1) := by decide +kernel
theorem dX5_settle_33 : decode cX5_settle 33 = .ok (.ireturn, 1) := by decide +kernel
set_option maxRecDepth 20000 in
theorem ggX5_markReleased_X6_put : GoodIn wsX5_markReleased wsX6_put := goodIn_r _ [6, 7, 16] (by decide +kernel) (by decide +kernel)
set_option maxRecDepth 20000 in
theorem gX5_markReleased_X6_put : GoodIn wsX5_markReleased (wsV RX5 42 RX6 yX6_put wsX6_put) := goodIn_app (goodIn_of _ (by decide +kernel)) ggX5_markReleased_X6_put
theorem dX5_markReleased_0 : decode cX5_markReleased 0 = .ok (.aload_n 0, 1) := by decide +kernel
theorem dX5_markReleased_1 : decode cX5_markReleased 1 = .ok (.getfield 26, 3) := by decide +kernel
theorem dX5_markReleased_4 : decode cX5_markReleased 4 = .ok (.iload_n 1, 1) := by decide +kernel
theorem dX5_markReleased_5 : decode cX5_markReleased 5 = .ok (.iconst 2, 1) := by decide +kernel
theorem dX5_markReleased_6 : decode cX5_markReleased 6 = .ok (.invokevirtual 42, 3) := by decide +kernel
theorem dX5_markReleased_9 : decode cX5_markReleased 9 = .ok (.iconst 2, 1) := by decide +kernel
theorem dX5_markReleased_10 : decode cX5_markReleased 10 = .ok (.ireturn, 1) := by decide +kernel
set_option maxRecDepth 20000 in
theorem ggX5_addApproval_X6_put : GoodIn wsX5_addApproval wsX6_put := goodIn_r _ [6, 7, 16] (by decide +kernel) (by decide +kernel)
set_option maxRecDepth 20000 in
theorem gX5_addApproval_X6_put : GoodIn wsX5_addApproval (wsV RX5 42 RX6 yX6_put wsX6_put) := goodIn_app (goodIn_of _ (by decide +kernel)) ggX5_addApproval_X6_put
theorem dX5_addApproval_0 : decode cX5_addApproval 0 = .ok (.aload_n 0, 1) := by decide +kernel
theorem dX5_addApproval_1 : decode cX5_addApproval 1 = .ok (.getfield 35, 3) := by decide +kernel
theorem dX5_addApproval_4 : decode cX5_addApproval 4 = .ok (.iload_n 1, 1) := by decide +kernel
theorem dX5_addApproval_5 : decode cX5_addApproval 5 = .ok (.bipush 8, 2) := by decide +kernel
theorem dX5_addApproval_7 : decode cX5_addApproval 7 = .ok (.imul, 1) := by decide +kernel
theorem dX5_addApproval_8 : decode cX5_addApproval 8 = .ok (.iload_n 2, 1) := by decide +kernel
theorem dX5_addApproval_9 : decode cX5_addApproval 9 = .ok (.iadd, 1) := by decide +kernel
theorem dX5_addApproval_10 : decode cX5_addApproval 10 = .ok (.iload_n 3, 1) := by decide +kernel
theorem dX5_addApproval_11 : decode cX5_addApproval 11 = .ok (.invokevirtual 42, 3) := by decide +kernel
theorem dX5_addApproval_14 : decode cX5_addApproval 14 = .ok (.return_, 1) := by decide +kernel
set_option maxRecDepth 20000 in
theorem ggX5_hasApproval_X6_at : GoodIn wsX5_hasApproval wsX6_at := goodIn_r _ [6, 7, 16] (by decide +kernel) (by decide +kernel)
set_option maxRecDepth 20000 in
theorem gX5_hasApproval_X6_at : GoodIn wsX5_hasApproval (wsV RX5 52 RX6 yX6_at wsX6_at) := goodIn_app (goodIn_of _ (by decide +kernel)) ggX5_hasApproval_X6_at
theorem dX5_hasApproval_0 : decode cX5_hasApproval 0 = .ok (.iload_n 3, 1) := by decide +kernel
theorem dX5_hasApproval_1 : decode cX5_hasApproval 1 = .ok (.aload_n 0, 1) := by decide +kernel
theorem dX5_hasApproval_2 : decode cX5_hasApproval 2 = .ok (.getfield 35, 3) := by decide +kernel
theorem dX5_hasApproval_5 : decode cX5_hasApproval 5 = .ok (.iload_n 1, 1) := by decide +kernel
theorem dX5_hasApproval_6 : decode cX5_hasApproval 6 = .ok (.bipush 8, 2) := by decide +kernel
theorem dX5_hasApproval_8 : decode cX5_hasApproval 8 = .ok (.imul, 1) := by decide +kernel
theorem dX5_hasApproval_9 : decode cX5_hasApproval 9 = .ok (.iload_n 2, 1) := by decide +kernel
theorem dX5_hasApproval_10 : decode cX5_hasApproval 10 = .ok (.iadd, 1) := by decide +kernel
theorem dX5_hasApproval_11 : decode cX5_hasApproval 11 = .ok (.invokevirtual 52, 3) := by decide +kernel
theorem dX5_hasApproval_14 : decode cX5_hasApproval 14 = .ok (.if_icmp .ge 7, 3) := by decide +kernel
theorem dX5_hasApproval_17 : decode cX5_hasApproval 17 = .ok (.iconst 1, 1) := by decide +kernel
theorem dX5_hasApproval_18 : decode cX5_hasApproval 18 = .ok (.goto 4, 3) := by decide +kernel
theorem dX5_hasApproval_21 : decode cX5_hasApproval 21 = .ok (.iconst 0, 1) := by decide +kernel
theorem dX5_hasApproval_22 : decode cX5_hasApproval 22 = .ok (.ireturn, 1) := by decide +kernel
set_option maxRecDepth 20000 in
theorem ggX5_approvalsOf_X5_hasApproval : GoodIn wsX5_approvalsOf wsX5_hasApproval := goodIn_r _ [5, 6, 7, 8, 9, 10, 11, 12, 13, 14, 15, 16, 17, 18, 19, 20, 21] (by decide +kernel) (by decide +kernel)
set_option maxRecDepth 20000 in
theorem gX5_approvalsOf_X5_hasApproval : GoodIn wsX5_approvalsOf (wsV RX5 56 RX5 yX5_hasApproval wsX5_hasApproval) := goodIn_app (goodIn_of _ (by decide +kernel)) ggX5_approvalsOf_X5_hasApproval
theorem dX5_approvalsOf_0 : decode cX5_approvalsOf 0 = .ok (.iconst 0, 1) := by decide +kernel
theorem dX5_approvalsOf_1 : decode cX5_approvalsOf 1 = .ok (.istore_n 3, 1) := by decide +kernel
theorem dX5_approvalsOf_2 : decode cX5_approvalsOf 2 = .ok (.iconst 0, 1) := by decide +kernel
theorem dX5_approvalsOf_3 : decode cX5_approvalsOf 3 = .ok (.istore 4, 2) := by decide +kernel
theorem dX5_approvalsOf_5 : decode cX5_approvalsOf 5 = .ok (.iload 4, 2) := by decide +kernel
theorem dX5_approvalsOf_7 : decode cX5_approvalsOf 7 = .ok (.bipush 8, 2) := by decide +kernel
theorem dX5_approvalsOf_9 : decode cX5_approvalsOf 9 = .ok (.if_icmp .ge 23, 3) := by decide +kernel
theorem dX5_approvalsOf_12 : decode cX5_approvalsOf 12 = .ok (.aload_n 0, 1) := by decide +kernel
theorem dX5_approvalsOf_13 : decode cX5_approvalsOf 13 = .ok (.iload_n 1, 1) := by decide +kernel
theorem dX5_approvalsOf_14 : decode cX5_approvalsOf 14 = .ok (.iload 4, 2) := by decide +kernel
theorem dX5_approvalsOf_16 : decode cX5_approvalsOf 16 = .ok (.iload_n 2, 1) := by decide +kernel
theorem dX5_approvalsOf_17 : decode cX5_approvalsOf 17 = .ok (.invokevirtual 56, 3) := by decide +kernel
theorem dX5_approvalsOf_20 : decode cX5_approvalsOf 20 = .ok (.ifCond .eq 6, 3) := by decide +kernel
theorem dX5_approvalsOf_23 : decode cX5_approvalsOf 23 = .ok (.iinc 3 1, 3) := by decide +kernel
theorem dX5_approvalsOf_26 : decode cX5_approvalsOf 26 = .ok (.iinc 4 1, 3) := by decide +kernel
theorem dX5_approvalsOf_29 : decode cX5_approvalsOf 29 = .ok (.goto (-24), 3) := by decide +kernel
theorem dX5_approvalsOf_32 : decode cX5_approvalsOf 32 = .ok (.iload_n 3, 1) := by decide +kernel
theorem dX5_approvalsOf_33 : decode cX5_approvalsOf 33 = .ok (.ireturn, 1) := by decide +kernel
set_option maxRecDepth 20000 in
theorem ggX5_loseVersion_X6_at : GoodIn wsX5_loseVersion wsX6_at := goodIn_r _ [8, 9, 45] (by decide +kernel) (by decide +kernel)
set_option maxRecDepth 20000 in
theorem gX5_loseVersion_X6_at : GoodIn wsX5_loseVersion (wsV RX5 52 RX6 yX6_at wsX6_at) := goodIn_app (goodIn_of _ (by decide +kernel)) ggX5_loseVersion_X6_at
set_option maxRecDepth 20000 in
theorem ggX5_loseVersion_X1_versionOf : GoodIn wsX5_loseVersion wsX1_versionOf := goodIn_r _ [13] (by decide +kernel) (by decide +kernel)
set_option maxRecDepth 20000 in
theorem gX5_loseVersion_X1_versionOf : GoodIn wsX5_loseVersion (va_wsS RX5 60 yX1_versionOf wsX1_versionOf) := goodIn_app (goodIn_of _ (by decide +kernel)) ggX5_loseVersion_X1_versionOf
set_option maxRecDepth 20000 in
theorem ggX5_loseVersion_X5_approvalsOf : GoodIn wsX5_loseVersion wsX5_approvalsOf := goodIn_r _ [18, 19, 20, 21, 17, 22, 23, 4, 5, 6, 7, 8, 9, 37, 38, 39, 40, 41, 42, 43, 44, 45] (by decide +kernel) (by decide +kernel)
set_option maxRecDepth 20000 in
theorem gX5_loseVersion_X5_approvalsOf : GoodIn wsX5_loseVersion (wsV RX5 66 RX5 yX5_approvalsOf wsX5_approvalsOf) := goodIn_app (goodIn_of _ (by decide +kernel)) ggX5_loseVersion_X5_approvalsOf
set_option maxRecDepth 20000 in
theorem ggX5_loseVersion_X5_endApprovals : GoodIn wsX5_loseVersion wsX5_endApprovals := goodIn_r _ [27, 23, 28, 29, 30, 7, 31, 9, 37, 38, 39, 40, 41, 42, 43, 44, 45] (by decide +kernel) (by decide +kernel)
set_option maxRecDepth 20000 in
theorem gX5_loseVersion_X5_endApprovals : GoodIn wsX5_loseVersion (wsV RX5 49 RX5 yX5_endApprovals wsX5_endApprovals) := goodIn_app (goodIn_of _ (by decide +kernel)) ggX5_loseVersion_X5_endApprovals
set_option maxRecDepth 20000 in
theorem ggX5_loseVersion_X5_reopen : GoodIn wsX5_loseVersion wsX5_reopen := goodIn_r _ [35, 3, 2, 36, 28, 29, 30, 7, 31, 9, 37, 38, 39, 40, 41, 42, 43, 44, 45] (by decide +kernel) (by decide +kernel)
set_option maxRecDepth 20000 in
theorem gX5_loseVersion_X5_reopen : GoodIn wsX5_loseVersion (wsV RX5 46 RX5 yX5_reopen wsX5_reopen) := goodIn_app (goodIn_of _ (by decide +kernel)) ggX5_loseVersion_X5_reopen
theorem dX5_loseVersion_0 : decode cX5_loseVersion 0 = .ok (.iconst 0, 1) := by decide +kernel
theorem dX5_loseVersion_1 : decode cX5_loseVersion 1 = .ok (.istore 4, 2) := by decide +kernel
theorem dX5_loseVersion_3 : decode cX5_loseVersion 3 = .ok (.iconst 0, 1) := by decide +kernel
theorem dX5_loseVersion_4 : decode cX5_loseVersion 4 = .ok (.istore 5, 2) := by decide +kernel
theorem dX5_loseVersion_6 : decode cX5_loseVersion 6 = .ok (.iload 5, 2) := by decide +kernel
theorem dX5_loseVersion_8 : decode cX5_loseVersion 8 = .ok (.aload_n 0, 1) := by decide +kernel
theorem dX5_loseVersion_9 : decode cX5_loseVersion 9 = .ok (.getfield 38, 3) := by decide +kernel
theorem dX5_loseVersion_12 : decode cX5_loseVersion 12 = .ok (.if_icmp .ge 63, 3) := by decide +kernel
theorem dX5_loseVersion_15 : decode cX5_loseVersion 15 = .ok (.aload_n 0, 1) := by decide +kernel
theorem dX5_loseVersion_16 : decode cX5_loseVersion 16 = .ok (.getfield 29, 3) := by decide +kernel
theorem dX5_loseVersion_19 : decode cX5_loseVersion 19 = .ok (.iload 5, 2) := by decide +kernel
theorem dX5_loseVersion_21 : decode cX5_loseVersion 21 = .ok (.invokevirtual 52, 3) := by decide +kernel
theorem dX5_loseVersion_24 : decode cX5_loseVersion 24 = .ok (.iload_n 1, 1) := by decide +kernel
theorem dX5_loseVersion_25 : decode cX5_loseVersion 25 = .ok (.invokestatic 60, 3) := by decide +kernel
theorem dX5_loseVersion_28 : decode cX5_loseVersion 28 = .ok (.iload_n 2, 1) := by decide +kernel
theorem dX5_loseVersion_29 : decode cX5_loseVersion 29 = .ok (.if_icmp .ne 40, 3) := by decide +kernel
theorem dX5_loseVersion_32 : decode cX5_loseVersion 32 = .ok (.iload 4, 2) := by decide +kernel
theorem dX5_loseVersion_34 : decode cX5_loseVersion 34 = .ok (.aload_n 0, 1) := by decide +kernel
theorem dX5_loseVersion_35 : decode cX5_loseVersion 35 = .ok (.iload 5, 2) := by decide +kernel
theorem dX5_loseVersion_37 : decode cX5_loseVersion 37 = .ok (.iload_n 3, 1) := by decide +kernel
theorem dX5_loseVersion_38 : decode cX5_loseVersion 38 = .ok (.invokevirtual 66, 3) := by decide +kernel
theorem dX5_loseVersion_41 : decode cX5_loseVersion 41 = .ok (.iadd, 1) := by decide +kernel
theorem dX5_loseVersion_42 : decode cX5_loseVersion 42 = .ok (.istore 4, 2) := by decide +kernel
theorem dX5_loseVersion_44 : decode cX5_loseVersion 44 = .ok (.aload_n 0, 1) := by decide +kernel
theorem dX5_loseVersion_45 : decode cX5_loseVersion 45 = .ok (.iload 5, 2) := by decide +kernel
theorem dX5_loseVersion_47 : decode cX5_loseVersion 47 = .ok (.invokevirtual 49, 3) := by decide +kernel
theorem dX5_loseVersion_50 : decode cX5_loseVersion 50 = .ok (.aload_n 0, 1) := by decide +kernel
theorem dX5_loseVersion_51 : decode cX5_loseVersion 51 = .ok (.getfield 26, 3) := by decide +kernel
theorem dX5_loseVersion_54 : decode cX5_loseVersion 54 = .ok (.iload 5, 2) := by decide +kernel
theorem dX5_loseVersion_56 : decode cX5_loseVersion 56 = .ok (.invokevirtual 52, 3) := by decide +kernel
theorem dX5_loseVersion_59 : decode cX5_loseVersion 59 = .ok (.iconst 1, 1) := by decide +kernel
theorem dX5_loseVersion_60 : decode cX5_loseVersion 60 = .ok (.if_icmp .ne 9, 3) := by decide +kernel
theorem dX5_loseVersion_63 : decode cX5_loseVersion 63 = .ok (.aload_n 0, 1) := by decide +kernel
theorem dX5_loseVersion_64 : decode cX5_loseVersion 64 = .ok (.iload 5, 2) := by decide +kernel
theorem dX5_loseVersion_66 : decode cX5_loseVersion 66 = .ok (.invokevirtual 46, 3) := by decide +kernel
theorem dX5_loseVersion_69 : decode cX5_loseVersion 69 = .ok (.iinc 5 1, 3) := by decide +kernel
theorem dX5_loseVersion_72 : decode cX5_loseVersion 72 = .ok (.goto (-66), 3) := by decide +kernel
theorem dX5_loseVersion_75 : decode cX5_loseVersion 75 = .ok (.iload 4, 2) := by decide +kernel
theorem dX5_loseVersion_77 : decode cX5_loseVersion 77 = .ok (.ireturn, 1) := by decide +kernel
set_option maxRecDepth 20000 in
theorem ggX5_reopen_X6_put : GoodIn wsX5_reopen wsX6_put := goodIn_r _ [8, 9, 18] (by decide +kernel) (by decide +kernel)
set_option maxRecDepth 20000 in
theorem gX5_reopen_X6_put : GoodIn wsX5_reopen (wsV RX5 42 RX6 yX6_put wsX6_put) := goodIn_app (goodIn_of _ (by decide +kernel)) ggX5_reopen_X6_put
theorem dX5_reopen_0 : decode cX5_reopen 0 = .ok (.aload_n 0, 1) := by decide +kernel
theorem dX5_reopen_1 : decode cX5_reopen 1 = .ok (.getfield 26, 3) := by decide +kernel
theorem dX5_reopen_4 : decode cX5_reopen 4 = .ok (.iload_n 1, 1) := by decide +kernel
theorem dX5_reopen_5 : decode cX5_reopen 5 = .ok (.iconst 0, 1) := by decide +kernel
theorem dX5_reopen_6 : decode cX5_reopen 6 = .ok (.invokevirtual 42, 3) := by decide +kernel
theorem dX5_reopen_9 : decode cX5_reopen 9 = .ok (.aload_n 0, 1) := by decide +kernel
theorem dX5_reopen_10 : decode cX5_reopen 10 = .ok (.getfield 29, 3) := by decide +kernel
theorem dX5_reopen_13 : decode cX5_reopen 13 = .ok (.iload_n 1, 1) := by decide +kernel
theorem dX5_reopen_14 : decode cX5_reopen 14 = .ok (.iconst 0, 1) := by decide +kernel
theorem dX5_reopen_15 : decode cX5_reopen 15 = .ok (.invokevirtual 42, 3) := by decide +kernel
theorem dX5_reopen_18 : decode cX5_reopen 18 = .ok (.aload_n 0, 1) := by decide +kernel
theorem dX5_reopen_19 : decode cX5_reopen 19 = .ok (.getfield 32, 3) := by decide +kernel
theorem dX5_reopen_22 : decode cX5_reopen 22 = .ok (.iload_n 1, 1) := by decide +kernel
theorem dX5_reopen_23 : decode cX5_reopen 23 = .ok (.iconst 0, 1) := by decide +kernel
theorem dX5_reopen_24 : decode cX5_reopen 24 = .ok (.invokevirtual 42, 3) := by decide +kernel
theorem dX5_reopen_27 : decode cX5_reopen 27 = .ok (.return_, 1) := by decide +kernel
set_option maxRecDepth 20000 in
theorem ggX5_endApprovals_X6_put : GoodIn wsX5_endApprovals wsX6_put := goodIn_r _ [6, 7, 16] (by decide +kernel) (by decide +kernel)
set_option maxRecDepth 20000 in
theorem gX5_endApprovals_X6_put : GoodIn wsX5_endApprovals (wsV RX5 42 RX6 yX6_put wsX6_put) := goodIn_app (goodIn_of _ (by decide +kernel)) ggX5_endApprovals_X6_put
theorem dX5_endApprovals_0 : decode cX5_endApprovals 0 = .ok (.iconst 0, 1) := by decide +kernel
theorem dX5_endApprovals_1 : decode cX5_endApprovals 1 = .ok (.istore_n 2, 1) := by decide +kernel
theorem dX5_endApprovals_2 : decode cX5_endApprovals 2 = .ok (.iload_n 2, 1) := by decide +kernel
theorem dX5_endApprovals_3 : decode cX5_endApprovals 3 = .ok (.bipush 8, 2) := by decide +kernel
theorem dX5_endApprovals_5 : decode cX5_endApprovals 5 = .ok (.if_icmp .ge 23, 3) := by decide +kernel
theorem dX5_endApprovals_8 : decode cX5_endApprovals 8 = .ok (.aload_n 0, 1) := by decide +kernel
theorem dX5_endApprovals_9 : decode cX5_endApprovals 9 = .ok (.getfield 35, 3) := by decide +kernel
theorem dX5_endApprovals_12 : decode cX5_endApprovals 12 = .ok (.iload_n 1, 1) := by decide +kernel
theorem dX5_endApprovals_13 : decode cX5_endApprovals 13 = .ok (.bipush 8, 2) := by decide +kernel
theorem dX5_endApprovals_15 : decode cX5_endApprovals 15 = .ok (.imul, 1) := by decide +kernel
theorem dX5_endApprovals_16 : decode cX5_endApprovals 16 = .ok (.iload_n 2, 1) := by decide +kernel
theorem dX5_endApprovals_17 : decode cX5_endApprovals 17 = .ok (.iadd, 1) := by decide +kernel
theorem dX5_endApprovals_18 : decode cX5_endApprovals 18 = .ok (.iconst 0, 1) := by decide +kernel
theorem dX5_endApprovals_19 : decode cX5_endApprovals 19 = .ok (.invokevirtual 42, 3) := by decide +kernel
theorem dX5_endApprovals_22 : decode cX5_endApprovals 22 = .ok (.iinc 2 1, 3) := by decide +kernel
theorem dX5_endApprovals_25 : decode cX5_endApprovals 25 = .ok (.goto (-23), 3) := by decide +kernel
theorem dX5_endApprovals_28 : decode cX5_endApprovals 28 = .ok (.return_, 1) := by decide +kernel
set_option maxRecDepth 20000 in
theorem ggX2_init_X3_init : GoodIn wsX2_init wsX3_init := goodIn_r _ [17, 18, 2, 3, 19, 20, 21, 22, 23, 24, 25, 26, 27, 28, 29, 30, 31, 32, 33, 99, 78, 79, 80, 81, 82, 83] (by decide +kernel) (by decide +kernel)
set_option maxRecDepth 20000 in
theorem gX2_init_X3_init_n11 : GoodIn wsX2_init (wsX3_init) := ggX2_init_X3_init
set_option maxRecDepth 20000 in
theorem ggX2_init_X4_init : GoodIn wsX2_init wsX4_init := goodIn_r _ [35, 36, 2, 3, 37, 20, 21, 38, 39, 40, 41, 29, 30, 31, 32, 33, 99, 87, 88, 89, 90] (by decide +kernel) (by decide +kernel)
set_option maxRecDepth 20000 in
theorem gX2_init_X4_init_n20 : GoodIn wsX2_init (wsX4_init) := ggX2_init_X4_init
set_option maxRecDepth 20000 in
theorem ggX2_init_X5_init : GoodIn wsX2_init wsX5_init := goodIn_r _ [43, 44, 2, 3, 45, 20, 21, 46, 47, 48, 49, 50, 51, 52, 53, 29, 30, 31, 32, 33, 99, 91, 92, 93, 94, 95, 96, 97, 98] (by decide +kernel) (by decide +kernel)
set_option maxRecDepth 20000 in
theorem gX2_init_X5_init_n27 : GoodIn wsX2_init (wsX5_init) := ggX2_init_X5_init
set_option maxRecDepth 20000 in
theorem ggX2_init_X2_clear : GoodIn wsX2_init wsX2_clear := goodIn_r _ [58, 7, 11, 15, 59, 60, 61, 6, 62, 22, 63, 64, 65, 21, 66, 33, 67, 68, 69, 10, 70, 38, 40, 71, 72, 73, 74, 75, 14, 76, 77, 84, 85, 86, 78, 79, 80, 81, 82, 83, 99, 87, 88, 89, 90, 91, 92, 93, 94, 95, 96, 97, 98] (by decide +kernel) (by decide +kernel)
set_option maxRecDepth 20000 in
theorem gX2_init_X2_clear : GoodIn wsX2_init (wsV RX2 32 RX2 yX2_clear wsX2_clear) := goodIn_app (goodIn_of _ (by decide +kernel)) ggX2_init_X2_clear
theorem dX2_init_0 : decode cX2_init 0 = .ok (.aload_n 0, 1) := by decide +kernel
theorem dX2_init_1 : decode cX2_init 1 = .ok (.invokespecial 3, 3) := by decide +kernel
theorem dX2_init_4 : decode cX2_init 4 = .ok (.aload_n 0, 1) := by decide +kernel
theorem dX2_init_5 : decode cX2_init 5 = .ok (.new 9, 3) := by decide +kernel
theorem dX2_init_8 : decode cX2_init 8 = .ok (.dup, 1) := by decide +kernel
theorem dX2_init_9 : decode cX2_init 9 = .ok (.invokespecial 11, 3) := by decide +kernel
theorem dX2_init_12 : decode cX2_init 12 = .ok (.putfield 12, 3) := by decide +kernel
theorem dX2_init_15 : decode cX2_init 15 = .ok (.aload_n 0, 1) := by decide +kernel
theorem dX2_init_16 : decode cX2_init 16 = .ok (.new 18, 3) := by decide +kernel
theorem dX2_init_19 : decode cX2_init 19 = .ok (.dup, 1) := by decide +kernel
theorem dX2_init_20 : decode cX2_init 20 = .ok (.invokespecial 20, 3) := by decide +kernel
theorem dX2_init_23 : decode cX2_init 23 = .ok (.putfield 21, 3) := by decide +kernel
theorem dX2_init_26 : decode cX2_init 26 = .ok (.aload_n 0, 1) := by decide +kernel
theorem dX2_init_27 : decode cX2_init 27 = .ok (.new 25, 3) := by decide +kernel
theorem dX2_init_30 : decode cX2_init 30 = .ok (.dup, 1) := by decide +kernel
theorem dX2_init_31 : decode cX2_init 31 = .ok (.invokespecial 27, 3) := by decide +kernel
theorem dX2_init_34 : decode cX2_init 34 = .ok (.putfield 28, 3) := by decide +kernel
theorem dX2_init_37 : decode cX2_init 37 = .ok (.aload_n 0, 1) := by decide +kernel
theorem dX2_init_38 : decode cX2_init 38 = .ok (.invokevirtual 32, 3) := by decide +kernel
theorem dX2_init_41 : decode cX2_init 41 = .ok (.return_, 1) := by decide +kernel
set_option maxRecDepth 20000 in
theorem ggX2_clear_X3_clear : GoodIn wsX2_clear wsX3_clear := goodIn_r _ [8, 9, 10, 11, 12, 13, 14, 15, 34, 35, 36, 37, 38, 39, 40] (by decide +kernel) (by decide +kernel)
set_option maxRecDepth 20000 in
theorem gX2_clear_X3_clear : GoodIn wsX2_clear (wsV RX2 35 RX3 yX3_clear wsX3_clear) := goodIn_app (goodIn_of _ (by decide +kernel)) ggX2_clear_X3_clear
set_option maxRecDepth 20000 in
theorem ggX2_clear_X4_clear : GoodIn wsX2_clear wsX4_clear := goodIn_r _ [20, 21, 22, 23, 24, 11, 12, 13, 14, 15, 41, 42, 43, 44, 40] (by decide +kernel) (by decide +kernel)
set_option maxRecDepth 20000 in
theorem gX2_clear_X4_clear : GoodIn wsX2_clear (wsV RX2 36 RX4 yX4_clear wsX4_clear) := goodIn_app (goodIn_of _ (by decide +kernel)) ggX2_clear_X4_clear
set_option maxRecDepth 20000 in
theorem ggX2_clear_X5_clear : GoodIn wsX2_clear wsX5_clear := goodIn_r _ [29, 30, 45, 46, 47, 48, 49, 50, 51, 52] (by decide +kernel) (by decide +kernel)
set_option maxRecDepth 20000 in
theorem gX2_clear_X5_clear : GoodIn wsX2_clear (wsV RX2 37 RX5 yX5_clear wsX5_clear) := goodIn_app (goodIn_of _ (by decide +kernel)) ggX2_clear_X5_clear
theorem dX2_clear_0 : decode cX2_clear 0 = .ok (.aload_n 0, 1) := by decide +kernel
theorem dX2_clear_1 : decode cX2_clear 1 = .ok (.getfield 12, 3) := by decide +kernel
theorem dX2_clear_4 : decode cX2_clear 4 = .ok (.invokevirtual 35, 3) := by decide +kernel
theorem dX2_clear_7 : decode cX2_clear 7 = .ok (.aload_n 0, 1) := by decide +kernel
theorem dX2_clear_8 : decode cX2_clear 8 = .ok (.getfield 21, 3) := by decide +kernel
theorem dX2_clear_11 : decode cX2_clear 11 = .ok (.invokevirtual 36, 3) := by decide +kernel
theorem dX2_clear_14 : decode cX2_clear 14 = .ok (.aload_n 0, 1) := by decide +kernel
theorem dX2_clear_15 : decode cX2_clear 15 = .ok (.getfield 28, 3) := by decide +kernel
theorem dX2_clear_18 : decode cX2_clear 18 = .ok (.invokevirtual 37, 3) := by decide +kernel
theorem dX2_clear_21 : decode cX2_clear 21 = .ok (.return_, 1) := by decide +kernel
set_option maxRecDepth 20000 in
theorem ggX2_apply_X0_wordOf : GoodIn wsX2_apply wsX0_wordOf := goodIn_r _ [8, 9, 10, 11, 12, 13, 14, 15, 150, 151, 152] (by decide +kernel) (by decide +kernel)
set_option maxRecDepth 20000 in
theorem gX2_apply_X0_wordOf : GoodIn wsX2_apply (wsV RX2 38 RX0 yX0_wordOf wsX0_wordOf) := goodIn_app (goodIn_of _ (by decide +kernel)) ggX2_apply_X0_wordOf
set_option maxRecDepth 20000 in
theorem ggX2_apply_X3_addVersion : GoodIn wsX2_apply wsX3_addVersion := goodIn_r _ [20, 21, 22, 23, 24, 25, 11, 12, 13, 14, 15, 26, 27, 19, 28, 29, 30, 31, 32, 153, 154, 155, 156, 157, 158, 152] (by decide +kernel) (by decide +kernel)
set_option maxRecDepth 20000 in
theorem gX2_apply_X3_addVersion : GoodIn wsX2_apply (wsV RX2 44 RX3 yX3_addVersion wsX3_addVersion) := goodIn_app (goodIn_of _ (by decide +kernel)) ggX2_apply_X3_addVersion
set_option maxRecDepth 20000 in
theorem ggX2_apply_X3_addNeed : GoodIn wsX2_apply wsX3_addNeed := goodIn_r _ [36, 24, 37, 38, 26, 27, 19, 28, 25, 11, 12, 13, 14, 15, 29, 30, 31, 32, 39, 40, 41, 153, 154, 155, 156, 157, 158, 152] (by decide +kernel) (by decide +kernel)
set_option maxRecDepth 20000 in
theorem gX2_apply_X3_addNeed : GoodIn wsX2_apply (wsV RX2 47 RX3 yX3_addNeed wsX3_addNeed) := goodIn_app (goodIn_of _ (by decide +kernel)) ggX2_apply_X3_addNeed
set_option maxRecDepth 20000 in
theorem ggX2_apply_X3_markReplaced : GoodIn wsX2_apply wsX3_markReplaced := goodIn_r _ [45, 23, 26, 27, 19, 28, 29, 30, 31, 13, 32, 15, 153, 154, 155, 156, 157, 158, 152] (by decide +kernel) (by decide +kernel)
set_option maxRecDepth 20000 in
theorem gX2_apply_X3_markReplaced : GoodIn wsX2_apply (wsV RX2 51 RX3 yX3_markReplaced wsX3_markReplaced) := goodIn_app (goodIn_of _ (by decide +kernel)) ggX2_apply_X3_markReplaced
set_option maxRecDepth 20000 in
theorem ggX2_apply_X4_today : GoodIn wsX2_apply wsX4_today := goodIn_r _ [50, 51, 159, 160, 161, 162] (by decide +kernel) (by decide +kernel)
set_option maxRecDepth 20000 in
theorem gX2_apply_X4_today : GoodIn wsX2_apply (wsV RX2 55 RX4 yX4_today wsX4_today) := goodIn_app (goodIn_of _ (by decide +kernel)) ggX2_apply_X4_today
set_option maxRecDepth 20000 in
theorem ggX2_apply_X5_loseVersion : GoodIn wsX2_apply wsX5_loseVersion := goodIn_r _ [56, 57, 58, 59, 60, 11, 12, 13, 14, 15, 61, 62, 63, 64, 65, 66, 67, 55, 68, 69, 70, 71, 72, 73, 74, 75, 76, 77, 78, 30, 31, 32, 79, 80, 81, 82, 83, 163, 164, 165, 166, 167, 168, 169, 170, 152] (by decide +kernel) (by decide +kernel)
set_option maxRecDepth 20000 in
theorem gX2_apply_X5_loseVersion : GoodIn wsX2_apply (wsV RX2 59 RX5 yX5_loseVersion wsX5_loseVersion) := goodIn_app (goodIn_of _ (by decide +kernel)) ggX2_apply_X5_loseVersion
set_option maxRecDepth 20000 in
theorem ggX2_apply_X5_add : GoodIn wsX2_apply wsX5_add := goodIn_r _ [87, 57, 88, 89, 90, 78, 30, 31, 13, 32, 15, 79, 80, 81, 55, 82, 59, 58, 83, 74, 75, 76, 77, 73, 163, 164, 165, 166, 167, 168, 169, 170, 152] (by decide +kernel) (by decide +kernel)
set_option maxRecDepth 20000 in
theorem gX2_apply_X5_add : GoodIn wsX2_apply (wsV RX2 63 RX5 yX5_add wsX5_add) := goodIn_app (goodIn_of _ (by decide +kernel)) ggX2_apply_X5_add
set_option maxRecDepth 20000 in
theorem ggX2_apply_X3_costOf : GoodIn wsX2_apply wsX3_costOf := goodIn_r _ [94, 22, 95, 62, 63, 64, 26, 27, 19, 28, 25, 11, 12, 13, 14, 15, 153, 154, 155, 156, 157, 158, 152] (by decide +kernel) (by decide +kernel)
set_option maxRecDepth 20000 in
theorem gX2_apply_X3_costOf : GoodIn wsX2_apply (wsV RX2 66 RX3 yX3_costOf wsX3_costOf) := goodIn_app (goodIn_of _ (by decide +kernel)) ggX2_apply_X3_costOf
set_option maxRecDepth 20000 in
theorem ggX2_apply_X5_settle : GoodIn wsX2_apply wsX5_settle := goodIn_r _ [99, 59, 58, 83, 78, 30, 31, 13, 32, 15, 74, 75, 76, 55, 77, 73, 163, 164, 165, 166, 167, 168, 169, 170, 152] (by decide +kernel) (by decide +kernel)
set_option maxRecDepth 20000 in
theorem gX2_apply_X5_settle : GoodIn wsX2_apply (wsV RX2 70 RX5 yX5_settle wsX5_settle) := goodIn_app (goodIn_of _ (by decide +kernel)) ggX2_apply_X5_settle
set_option maxRecDepth 20000 in
theorem ggX2_apply_X4_changeLimit : GoodIn wsX2_apply wsX4_changeLimit := goodIn_r _ [103, 104, 105, 11, 12, 13, 14, 15, 106, 30, 31, 32, 159, 160, 161, 162, 152] (by decide +kernel) (by decide +kernel)
set_option maxRecDepth 20000 in
theorem gX2_apply_X4_changeLimit : GoodIn wsX2_apply (wsV RX2 73 RX4 yX4_changeLimit wsX4_changeLimit) := goodIn_app (goodIn_of _ (by decide +kernel)) ggX2_apply_X4_changeLimit
set_option maxRecDepth 20000 in
theorem ggX2_apply_X4_sendOnLeave : GoodIn wsX2_apply wsX4_sendOnLeave := goodIn_r _ [110, 111, 112, 51, 106, 30, 31, 13, 32, 15, 105, 11, 12, 14, 159, 160, 161, 162, 152] (by decide +kernel) (by decide +kernel)
set_option maxRecDepth 20000 in
theorem gX2_apply_X4_sendOnLeave : GoodIn wsX2_apply (wsV RX2 76 RX4 yX4_sendOnLeave wsX4_sendOnLeave) := goodIn_app (goodIn_of _ (by decide +kernel)) ggX2_apply_X4_sendOnLeave
set_option maxRecDepth 20000 in
theorem ggX2_apply_X2_takeApproval : GoodIn wsX2_apply wsX2_takeApproval := goodIn_r _ [117, 3, 2, 118, 119, 120, 121, 55, 122, 83, 60, 11, 12, 13, 14, 15, 123, 124, 125, 49, 126, 104, 111, 127, 128, 129, 130, 51, 112, 105, 131, 132, 133, 134, 135, 136, 137, 138, 73, 78, 30, 31, 32, 147, 148, 149, 163, 164, 165, 166, 167, 168, 169, 170, 152, 159, 160, 161, 162] (by decide +kernel) (by decide +kernel)
set_option maxRecDepth 20000 in
theorem gX2_apply_X2_takeApproval : GoodIn wsX2_apply (wsV RX2 79 RX2 yX2_takeApproval wsX2_takeApproval) := goodIn_app (goodIn_of _ (by decide +kernel)) ggX2_apply_X2_takeApproval
set_option maxRecDepth 20000 in
theorem ggX2_apply_X5_markReleased : GoodIn wsX2_apply wsX5_markReleased := goodIn_r _ [142, 59, 78, 30, 31, 13, 32, 15, 163, 164, 165, 166, 167, 168, 169, 170, 152] (by decide +kernel) (by decide +kernel)
set_option maxRecDepth 20000 in
theorem gX2_apply_X5_markReleased : GoodIn wsX2_apply (wsV RX2 82 RX5 yX5_markReleased wsX5_markReleased) := goodIn_app (goodIn_of _ (by decide +kernel)) ggX2_apply_X5_markReleased
set_option maxRecDepth 20000 in
theorem ggX2_apply_X4_addDays : GoodIn wsX2_apply wsX4_addDays := goodIn_r _ [146, 51, 159, 160, 161, 162] (by decide +kernel) (by decide +kernel)
set_option maxRecDepth 20000 in
theorem gX2_apply_X4_addDays : GoodIn wsX2_apply (wsV RX2 85 RX4 yX4_addDays wsX4_addDays) := goodIn_app (goodIn_of _ (by decide +kernel)) ggX2_apply_X4_addDays
theorem dX2_apply_0 : decode cX2_apply 0 = .ok (.iload_n 2, 1) := by decide +kernel
theorem dX2_apply_1 : decode cX2_apply 1 = .ok (.iconst (-1), 1) := by decide +kernel
theorem dX2_apply_2 : decode cX2_apply 2 = .ok (.if_icmp .ne 5, 3) := by decide +kernel
theorem dX2_apply_5 : decode cX2_apply 5 = .ok (.iconst (-1), 1) := by decide +kernel
theorem dX2_apply_6 : decode cX2_apply 6 = .ok (.ireturn, 1) := by decide +kernel
theorem dX2_apply_7 : decode cX2_apply 7 = .ok (.aload_n 1, 1) := by decide +kernel
theorem dX2_apply_8 : decode cX2_apply 8 = .ok (.iload_n 2, 1) := by decide +kernel
theorem dX2_apply_9 : decode cX2_apply 9 = .ok (.iconst 1, 1) := by decide +kernel
theorem dX2_apply_10 : decode cX2_apply 10 = .ok (.invokevirtual 38, 3) := by decide +kernel
theorem dX2_apply_13 : decode cX2_apply 13 = .ok (.istore_n 3, 1) := by decide +kernel
theorem dX2_apply_14 : decode cX2_apply 14 = .ok (.aload_n 1, 1) := by decide +kernel
theorem dX2_apply_15 : decode cX2_apply 15 = .ok (.iload_n 2, 1) := by decide +kernel
theorem dX2_apply_16 : decode cX2_apply 16 = .ok (.iconst 2, 1) := by decide +kernel
theorem dX2_apply_17 : decode cX2_apply 17 = .ok (.invokevirtual 38, 3) := by decide +kernel
theorem dX2_apply_20 : decode cX2_apply 20 = .ok (.istore 4, 2) := by decide +kernel
theorem dX2_apply_22 : decode cX2_apply 22 = .ok (.aload_n 1, 1) := by decide +kernel
theorem dX2_apply_23 : decode cX2_apply 23 = .ok (.iload_n 2, 1) := by decide +kernel
theorem dX2_apply_24 : decode cX2_apply 24 = .ok (.iconst 3, 1) := by decide +kernel
theorem dX2_apply_25 : decode cX2_apply 25 = .ok (.invokevirtual 38, 3) := by decide +kernel
theorem dX2_apply_28 : decode cX2_apply 28 = .ok (.istore 5, 2) := by decide +kernel
theorem dX2_apply_30 : decode cX2_apply 30 = .ok (.aload_n 1, 1) := by decide +kernel
theorem dX2_apply_31 : decode cX2_apply 31 = .ok (.iload_n 2, 1) := by decide +kernel
theorem dX2_apply_32 : decode cX2_apply 32 = .ok (.iconst 0, 1) := by decide +kernel
theorem dX2_apply_33 : decode cX2_apply 33 = .ok (.invokevirtual 38, 3) := by decide +kernel
theorem dX2_apply_36 : decode cX2_apply 36 = .ok (.tableswitch 203 1 10 #[56, 67, 92, 120, 133, 153, 164, 177, 185, 194], 56) := by decide +kernel
theorem dX2_apply_92 : decode cX2_apply 92 = .ok (.aload_n 0, 1) := by decide +kernel
theorem dX2_apply_93 : decode cX2_apply 93 = .ok (.getfield 12, 3) := by decide +kernel
theorem dX2_apply_96 : decode cX2_apply 96 = .ok (.iload_n 3, 1) := by decide +kernel
theorem dX2_apply_97 : decode cX2_apply 97 = .ok (.iload 4, 2) := by decide +kernel
theorem dX2_apply_99 : decode cX2_apply 99 = .ok (.invokevirtual 44, 3) := by decide +kernel
theorem dX2_apply_102 : decode cX2_apply 102 = .ok (.ireturn, 1) := by decide +kernel
theorem dX2_apply_103 : decode cX2_apply 103 = .ok (.aload_n 0, 1) := by decide +kernel
theorem dX2_apply_104 : decode cX2_apply 104 = .ok (.getfield 12, 3) := by decide +kernel
theorem dX2_apply_107 : decode cX2_apply 107 = .ok (.iload_n 3, 1) := by decide +kernel
theorem dX2_apply_108 : decode cX2_apply 108 = .ok (.iload 4, 2) := by decide +kernel
theorem dX2_apply_110 : decode cX2_apply 110 = .ok (.iload 5, 2) := by decide +kernel
theorem dX2_apply_112 : decode cX2_apply 112 = .ok (.aload_n 1, 1) := by decide +kernel
theorem dX2_apply_113 : decode cX2_apply 113 = .ok (.iload_n 2, 1) := by decide +kernel
theorem dX2_apply_114 : decode cX2_apply 114 = .ok (.iconst 4, 1) := by decide +kernel
theorem dX2_apply_115 : decode cX2_apply 115 = .ok (.invokevirtual 38, 3) := by decide +kernel
theorem dX2_apply_118 : decode cX2_apply 118 = .ok (.aload_n 1, 1) := by decide +kernel
theorem dX2_apply_119 : decode cX2_apply 119 = .ok (.iload_n 2, 1) := by decide +kernel
theorem dX2_apply_120 : decode cX2_apply 120 = .ok (.iconst 5, 1) := by decide +kernel
theorem dX2_apply_121 : decode cX2_apply 121 = .ok (.invokevirtual 38, 3) := by decide +kernel
theorem dX2_apply_124 : decode cX2_apply 124 = .ok (.invokevirtual 47, 3) := by decide +kernel
theorem dX2_apply_127 : decode cX2_apply 127 = .ok (.ireturn, 1) := by decide +kernel
theorem dX2_apply_128 : decode cX2_apply 128 = .ok (.aload_n 0, 1) := by decide +kernel
theorem dX2_apply_129 : decode cX2_apply 129 = .ok (.getfield 12, 3) := by decide +kernel
theorem dX2_apply_132 : decode cX2_apply 132 = .ok (.iload_n 3, 1) := by decide +kernel
theorem dX2_apply_133 : decode cX2_apply 133 = .ok (.iload 4, 2) := by decide +kernel
theorem dX2_apply_135 : decode cX2_apply 135 = .ok (.invokevirtual 51, 3) := by decide +kernel
theorem dX2_apply_138 : decode cX2_apply 138 = .ok (.aload_n 0, 1) := by decide +kernel
theorem dX2_apply_139 : decode cX2_apply 139 = .ok (.getfield 28, 3) := by decide +kernel
theorem dX2_apply_142 : decode cX2_apply 142 = .ok (.iload_n 3, 1) := by decide +kernel
theorem dX2_apply_143 : decode cX2_apply 143 = .ok (.iload 4, 2) := by decide +kernel
theorem dX2_apply_145 : decode cX2_apply 145 = .ok (.aload_n 0, 1) := by decide +kernel
theorem dX2_apply_146 : decode cX2_apply 146 = .ok (.getfield 21, 3) := by decide +kernel
theorem dX2_apply_149 : decode cX2_apply 149 = .ok (.invokevirtual 55, 3) := by decide +kernel
theorem dX2_apply_152 : decode cX2_apply 152 = .ok (.invokevirtual 59, 3) := by decide +kernel
theorem dX2_apply_155 : decode cX2_apply 155 = .ok (.ireturn, 1) := by decide +kernel
theorem dX2_apply_156 : decode cX2_apply 156 = .ok (.aload_n 0, 1) := by decide +kernel
theorem dX2_apply_157 : decode cX2_apply 157 = .ok (.getfield 28, 3) := by decide +kernel
theorem dX2_apply_160 : decode cX2_apply 160 = .ok (.iload_n 3, 1) := by decide +kernel
theorem dX2_apply_161 : decode cX2_apply 161 = .ok (.iload 4, 2) := by decide +kernel
theorem dX2_apply_163 : decode cX2_apply 163 = .ok (.iload 5, 2) := by decide +kernel
theorem dX2_apply_165 : decode cX2_apply 165 = .ok (.invokevirtual 63, 3) := by decide +kernel
theorem dX2_apply_168 : decode cX2_apply 168 = .ok (.ireturn, 1) := by decide +kernel
theorem dX2_apply_169 : decode cX2_apply 169 = .ok (.aload_n 0, 1) := by decide +kernel
theorem dX2_apply_170 : decode cX2_apply 170 = .ok (.getfield 28, 3) := by decide +kernel
theorem dX2_apply_173 : decode cX2_apply 173 = .ok (.iload_n 3, 1) := by decide +kernel
theorem dX2_apply_174 : decode cX2_apply 174 = .ok (.iload 4, 2) := by decide +kernel
theorem dX2_apply_176 : decode cX2_apply 176 = .ok (.aload_n 0, 1) := by decide +kernel
theorem dX2_apply_177 : decode cX2_apply 177 = .ok (.getfield 12, 3) := by decide +kernel
theorem dX2_apply_180 : decode cX2_apply 180 = .ok (.iload 4, 2) := by decide +kernel
theorem dX2_apply_182 : decode cX2_apply 182 = .ok (.invokevirtual 66, 3) := by decide +kernel
theorem dX2_apply_185 : decode cX2_apply 185 = .ok (.invokevirtual 70, 3) := by decide +kernel
theorem dX2_apply_188 : decode cX2_apply 188 = .ok (.ireturn, 1) := by decide +kernel
theorem dX2_apply_189 : decode cX2_apply 189 = .ok (.aload_n 0, 1) := by decide +kernel
theorem dX2_apply_190 : decode cX2_apply 190 = .ok (.getfield 21, 3) := by decide +kernel
theorem dX2_apply_193 : decode cX2_apply 193 = .ok (.iload_n 3, 1) := by decide +kernel
theorem dX2_apply_194 : decode cX2_apply 194 = .ok (.iload 4, 2) := by decide +kernel
theorem dX2_apply_196 : decode cX2_apply 196 = .ok (.invokevirtual 73, 3) := by decide +kernel
theorem dX2_apply_199 : decode cX2_apply 199 = .ok (.ireturn, 1) := by decide +kernel
theorem dX2_apply_200 : decode cX2_apply 200 = .ok (.aload_n 0, 1) := by decide +kernel
theorem dX2_apply_201 : decode cX2_apply 201 = .ok (.getfield 21, 3) := by decide +kernel
theorem dX2_apply_204 : decode cX2_apply 204 = .ok (.iload_n 3, 1) := by decide +kernel
theorem dX2_apply_205 : decode cX2_apply 205 = .ok (.iload 4, 2) := by decide +kernel
theorem dX2_apply_207 : decode cX2_apply 207 = .ok (.iload 5, 2) := by decide +kernel
theorem dX2_apply_209 : decode cX2_apply 209 = .ok (.invokevirtual 76, 3) := by decide +kernel
theorem dX2_apply_212 : decode cX2_apply 212 = .ok (.ireturn, 1) := by decide +kernel
theorem dX2_apply_213 : decode cX2_apply 213 = .ok (.aload_n 0, 1) := by decide +kernel
theorem dX2_apply_214 : decode cX2_apply 214 = .ok (.iload_n 3, 1) := by decide +kernel
theorem dX2_apply_215 : decode cX2_apply 215 = .ok (.iload 4, 2) := by decide +kernel
theorem dX2_apply_217 : decode cX2_apply 217 = .ok (.invokevirtual 79, 3) := by decide +kernel
theorem dX2_apply_220 : decode cX2_apply 220 = .ok (.ireturn, 1) := by decide +kernel
theorem dX2_apply_221 : decode cX2_apply 221 = .ok (.aload_n 0, 1) := by decide +kernel
theorem dX2_apply_222 : decode cX2_apply 222 = .ok (.getfield 28, 3) := by decide +kernel
theorem dX2_apply_225 : decode cX2_apply 225 = .ok (.iload_n 3, 1) := by decide +kernel
theorem dX2_apply_226 : decode cX2_apply 226 = .ok (.invokevirtual 82, 3) := by decide +kernel
theorem dX2_apply_229 : decode cX2_apply 229 = .ok (.ireturn, 1) := by decide +kernel
theorem dX2_apply_230 : decode cX2_apply 230 = .ok (.aload_n 0, 1) := by decide +kernel
theorem dX2_apply_231 : decode cX2_apply 231 = .ok (.getfield 21, 3) := by decide +kernel
theorem dX2_apply_234 : decode cX2_apply 234 = .ok (.iload_n 3, 1) := by decide +kernel
theorem dX2_apply_235 : decode cX2_apply 235 = .ok (.invokevirtual 85, 3) := by decide +kernel
theorem dX2_apply_238 : decode cX2_apply 238 = .ok (.ireturn, 1) := by decide +kernel
theorem dX2_apply_239 : decode cX2_apply 239 = .ok (.iconst (-1), 1) := by decide +kernel
theorem dX2_apply_240 : decode cX2_apply 240 = .ok (.ireturn, 1) := by decide +kernel
set_option maxRecDepth 20000 in
theorem ggX2_principalFor_X5_stateOf : GoodIn wsX2_principalFor wsX5_stateOf := goodIn_r _ [7, 8, 9, 10, 11, 12, 13, 14, 51, 52, 53, 54, 55, 56, 57, 58, 59] (by decide +kernel) (by decide +kernel)
set_option maxRecDepth 20000 in
theorem gX2_principalFor_X5_stateOf : GoodIn wsX2_principalFor (wsV RX2 88 RX5 yX5_stateOf wsX5_stateOf) := goodIn_app (goodIn_of _ (by decide +kernel)) ggX2_principalFor_X5_stateOf
set_option maxRecDepth 20000 in
theorem ggX2_principalFor_X5_personOf : GoodIn wsX2_principalFor wsX5_personOf := goodIn_r _ [18, 19, 9, 10, 11, 12, 13, 14, 51, 52, 53, 54, 55, 56, 57, 58, 59] (by decide +kernel) (by decide +kernel)
set_option maxRecDepth 20000 in
theorem gX2_principalFor_X5_personOf : GoodIn wsX2_principalFor (wsV RX2 91 RX5 yX5_personOf wsX5_personOf) := goodIn_app (goodIn_of _ (by decide +kernel)) ggX2_principalFor_X5_personOf
set_option maxRecDepth 20000 in
theorem ggX2_principalFor_X4_today : GoodIn wsX2_principalFor wsX4_today := goodIn_r _ [24, 25, 60, 61, 62, 63] (by decide +kernel) (by decide +kernel)
set_option maxRecDepth 20000 in
theorem gX2_principalFor_X4_today : GoodIn wsX2_principalFor (wsV RX2 55 RX4 yX4_today wsX4_today) := goodIn_app (goodIn_of _ (by decide +kernel)) ggX2_principalFor_X4_today
set_option maxRecDepth 20000 in
theorem ggX2_principalFor_X5_hasApproval : GoodIn wsX2_principalFor wsX5_hasApproval := goodIn_r _ [29, 30, 9, 10, 11, 12, 13, 14, 51, 52, 53, 54, 55, 56, 57, 58, 59] (by decide +kernel) (by decide +kernel)
set_option maxRecDepth 20000 in
theorem gX2_principalFor_X5_hasApproval : GoodIn wsX2_principalFor (wsV RX2 94 RX5 yX5_hasApproval wsX5_hasApproval) := goodIn_app (goodIn_of _ (by decide +kernel)) ggX2_principalFor_X5_hasApproval
set_option maxRecDepth 20000 in
theorem ggX2_principalFor_X5_costOf : GoodIn wsX2_principalFor wsX5_costOf := goodIn_r _ [34, 35, 9, 10, 11, 12, 13, 14, 51, 52, 53, 54, 55, 56, 57, 58, 59] (by decide +kernel) (by decide +kernel)
set_option maxRecDepth 20000 in
theorem gX2_principalFor_X5_costOf : GoodIn wsX2_principalFor (wsV RX2 98 RX5 yX5_costOf wsX5_costOf) := goodIn_app (goodIn_of _ (by decide +kernel)) ggX2_principalFor_X5_costOf
set_option maxRecDepth 20000 in
theorem ggX2_principalFor_X4_principalOf : GoodIn wsX2_principalFor wsX4_principalOf := goodIn_r _ [39, 40, 41, 42, 43, 44, 23, 45, 25, 46, 47, 10, 11, 12, 13, 14, 60, 61, 62, 63, 59] (by decide +kernel) (by decide +kernel)
set_option maxRecDepth 20000 in
theorem gX2_principalFor_X4_principalOf : GoodIn wsX2_principalFor (wsV RX2 99 RX4 yX4_principalOf wsX4_principalOf) := goodIn_app (goodIn_of _ (by decide +kernel)) ggX2_principalFor_X4_principalOf
theorem dX2_principalFor_0 : decode cX2_principalFor 0 = .ok (.aload_n 0, 1) := by decide +kernel
theorem dX2_principalFor_1 : decode cX2_principalFor 1 = .ok (.getfield 28, 3) := by decide +kernel
theorem dX2_principalFor_4 : decode cX2_principalFor 4 = .ok (.iload_n 1, 1) := by decide +kernel
theorem dX2_principalFor_5 : decode cX2_principalFor 5 = .ok (.invokevirtual 88, 3) := by decide +kernel
theorem dX2_principalFor_8 : decode cX2_principalFor 8 = .ok (.iconst 1, 1) := by decide +kernel
theorem dX2_principalFor_9 : decode cX2_principalFor 9 = .ok (.if_icmp .ne 38, 3) := by decide +kernel
theorem dX2_principalFor_12 : decode cX2_principalFor 12 = .ok (.iload_n 2, 1) := by decide +kernel
theorem dX2_principalFor_13 : decode cX2_principalFor 13 = .ok (.aload_n 0, 1) := by decide +kernel
theorem dX2_principalFor_14 : decode cX2_principalFor 14 = .ok (.getfield 28, 3) := by decide +kernel
theorem dX2_principalFor_17 : decode cX2_principalFor 17 = .ok (.iload_n 1, 1) := by decide +kernel
theorem dX2_principalFor_18 : decode cX2_principalFor 18 = .ok (.invokevirtual 91, 3) := by decide +kernel
theorem dX2_principalFor_21 : decode cX2_principalFor 21 = .ok (.if_icmp .eq 26, 3) := by decide +kernel
theorem dX2_principalFor_24 : decode cX2_principalFor 24 = .ok (.aload_n 0, 1) := by decide +kernel
theorem dX2_principalFor_25 : decode cX2_principalFor 25 = .ok (.getfield 28, 3) := by decide +kernel
theorem dX2_principalFor_28 : decode cX2_principalFor 28 = .ok (.iload_n 1, 1) := by decide +kernel
theorem dX2_principalFor_29 : decode cX2_principalFor 29 = .ok (.iload_n 2, 1) := by decide +kernel
theorem dX2_principalFor_30 : decode cX2_principalFor 30 = .ok (.aload_n 0, 1) := by decide +kernel
theorem dX2_principalFor_31 : decode cX2_principalFor 31 = .ok (.getfield 21, 3) := by decide +kernel
theorem dX2_principalFor_34 : decode cX2_principalFor 34 = .ok (.invokevirtual 55, 3) := by decide +kernel
theorem dX2_principalFor_37 : decode cX2_principalFor 37 = .ok (.invokevirtual 94, 3) := by decide +kernel
theorem dX2_principalFor_40 : decode cX2_principalFor 40 = .ok (.ifCond .ne 7, 3) := by decide +kernel
theorem dX2_principalFor_43 : decode cX2_principalFor 43 = .ok (.iconst 1, 1) := by decide +kernel
theorem dX2_principalFor_44 : decode cX2_principalFor 44 = .ok (.goto 4, 3) := by decide +kernel
theorem dX2_principalFor_47 : decode cX2_principalFor 47 = .ok (.iconst 0, 1) := by decide +kernel
theorem dX2_principalFor_48 : decode cX2_principalFor 48 = .ok (.istore_n 3, 1) := by decide +kernel
theorem dX2_principalFor_49 : decode cX2_principalFor 49 = .ok (.iload_n 3, 1) := by decide +kernel
theorem dX2_principalFor_50 : decode cX2_principalFor 50 = .ok (.ifCond .eq 22, 3) := by decide +kernel
theorem dX2_principalFor_53 : decode cX2_principalFor 53 = .ok (.aload_n 0, 1) := by decide +kernel
theorem dX2_principalFor_54 : decode cX2_principalFor 54 = .ok (.getfield 21, 3) := by decide +kernel
theorem dX2_principalFor_57 : decode cX2_principalFor 57 = .ok (.iload_n 2, 1) := by decide +kernel
theorem dX2_principalFor_58 : decode cX2_principalFor 58 = .ok (.aload_n 0, 1) := by decide +kernel
theorem dX2_principalFor_59 : decode cX2_principalFor 59 = .ok (.getfield 28, 3) := by decide +kernel
theorem dX2_principalFor_62 : decode cX2_principalFor 62 = .ok (.iload_n 1, 1) := by decide +kernel
theorem dX2_principalFor_63 : decode cX2_principalFor 63 = .ok (.invokevirtual 98, 3) := by decide +kernel
theorem dX2_principalFor_66 : decode cX2_principalFor 66 = .ok (.invokevirtual 99, 3) := by decide +kernel
theorem dX2_principalFor_69 : decode cX2_principalFor 69 = .ok (.goto 4, 3) := by decide +kernel
theorem dX2_principalFor_72 : decode cX2_principalFor 72 = .ok (.iconst (-1), 1) := by decide +kernel
theorem dX2_principalFor_73 : decode cX2_principalFor 73 = .ok (.ireturn, 1) := by decide +kernel
set_option maxRecDepth 20000 in
theorem ggX2_approvalsOf_X4_today : GoodIn wsX2_approvalsOf wsX4_today := goodIn_r _ [7, 8, 28, 29, 30, 31] (by decide +kernel) (by decide +kernel)
set_option maxRecDepth 20000 in
theorem gX2_approvalsOf_X4_today : GoodIn wsX2_approvalsOf (wsV RX2 55 RX4 yX4_today wsX4_today) := goodIn_app (goodIn_of _ (by decide +kernel)) ggX2_approvalsOf_X4_today
set_option maxRecDepth 20000 in
theorem ggX2_approvalsOf_X5_approvalsOf : GoodIn wsX2_approvalsOf wsX5_approvalsOf := goodIn_r _ [13, 14, 15, 16, 12, 17, 18, 19, 20, 21, 22, 23, 24, 32, 33, 34, 35, 36, 37, 38, 39, 40] (by decide +kernel) (by decide +kernel)
set_option maxRecDepth 20000 in
theorem gX2_approvalsOf_X5_approvalsOf : GoodIn wsX2_approvalsOf (wsV RX2 102 RX5 yX5_approvalsOf wsX5_approvalsOf) := goodIn_app (goodIn_of _ (by decide +kernel)) ggX2_approvalsOf_X5_approvalsOf
theorem dX2_approvalsOf_0 : decode cX2_approvalsOf 0 = .ok (.aload_n 0, 1) := by decide +kernel
theorem dX2_approvalsOf_1 : decode cX2_approvalsOf 1 = .ok (.getfield 28, 3) := by decide +kernel
theorem dX2_approvalsOf_4 : decode cX2_approvalsOf 4 = .ok (.iload_n 1, 1) := by decide +kernel
theorem dX2_approvalsOf_5 : decode cX2_approvalsOf 5 = .ok (.aload_n 0, 1) := by decide +kernel
theorem dX2_approvalsOf_6 : decode cX2_approvalsOf 6 = .ok (.getfield 21, 3) := by decide +kernel
theorem dX2_approvalsOf_9 : decode cX2_approvalsOf 9 = .ok (.invokevirtual 55, 3) := by decide +kernel
theorem dX2_approvalsOf_12 : decode cX2_approvalsOf 12 = .ok (.invokevirtual 102, 3) := by decide +kernel
theorem dX2_approvalsOf_15 : decode cX2_approvalsOf 15 = .ok (.ireturn, 1) := by decide +kernel
set_option maxRecDepth 20000 in
theorem ggX2_isCovered_X5_costOf : GoodIn wsX2_isCovered wsX5_costOf := goodIn_r _ [6, 7, 8, 9, 10, 11, 12, 13, 38, 39, 40, 41, 42, 43, 44, 45, 46] (by decide +kernel) (by decide +kernel)
set_option maxRecDepth 20000 in
theorem gX2_isCovered_X5_costOf : GoodIn wsX2_isCovered (wsV RX2 98 RX5 yX5_costOf wsX5_costOf) := goodIn_app (goodIn_of _ (by decide +kernel)) ggX2_isCovered_X5_costOf
set_option maxRecDepth 20000 in
theorem ggX2_isCovered_X2_approvalsOf : GoodIn wsX2_isCovered wsX2_approvalsOf := goodIn_r _ [18, 1, 19, 20, 21, 22, 23, 24, 25, 26, 27, 28, 5, 29, 30, 31, 32, 33, 34, 8, 9, 10, 11, 12, 13, 35, 36, 37, 47, 48, 49, 50, 38, 39, 40, 41, 42, 43, 44, 45, 46] (by decide +kernel) (by decide +kernel)
set_option maxRecDepth 20000 in
theorem gX2_isCovered_X2_approvalsOf : GoodIn wsX2_isCovered (wsV RX2 105 RX2 yX2_approvalsOf wsX2_approvalsOf) := goodIn_app (goodIn_of _ (by decide +kernel)) ggX2_isCovered_X2_approvalsOf
theorem dX2_isCovered_0 : decode cX2_isCovered 0 = .ok (.aload_n 0, 1) := by decide +kernel
theorem dX2_isCovered_1 : decode cX2_isCovered 1 = .ok (.getfield 28, 3) := by decide +kernel
theorem dX2_isCovered_4 : decode cX2_isCovered 4 = .ok (.iload_n 1, 1) := by decide +kernel
theorem dX2_isCovered_5 : decode cX2_isCovered 5 = .ok (.invokevirtual 98, 3) := by decide +kernel
theorem dX2_isCovered_8 : decode cX2_isCovered 8 = .ok (.sipush 500, 3) := by decide +kernel
theorem dX2_isCovered_11 : decode cX2_isCovered 11 = .ok (.if_icmp .le 7, 3) := by decide +kernel
theorem dX2_isCovered_14 : decode cX2_isCovered 14 = .ok (.iconst 2, 1) := by decide +kernel
theorem dX2_isCovered_15 : decode cX2_isCovered 15 = .ok (.goto 4, 3) := by decide +kernel
theorem dX2_isCovered_18 : decode cX2_isCovered 18 = .ok (.iconst 1, 1) := by decide +kernel
theorem dX2_isCovered_19 : decode cX2_isCovered 19 = .ok (.istore_n 2, 1) := by decide +kernel
theorem dX2_isCovered_20 : decode cX2_isCovered 20 = .ok (.aload_n 0, 1) := by decide +kernel
theorem dX2_isCovered_21 : decode cX2_isCovered 21 = .ok (.iload_n 1, 1) := by decide +kernel
theorem dX2_isCovered_22 : decode cX2_isCovered 22 = .ok (.invokevirtual 105, 3) := by decide +kernel
theorem dX2_isCovered_25 : decode cX2_isCovered 25 = .ok (.iload_n 2, 1) := by decide +kernel
theorem dX2_isCovered_26 : decode cX2_isCovered 26 = .ok (.if_icmp .lt 7, 3) := by decide +kernel
theorem dX2_isCovered_29 : decode cX2_isCovered 29 = .ok (.iconst 1, 1) := by decide +kernel
theorem dX2_isCovered_30 : decode cX2_isCovered 30 = .ok (.goto 4, 3) := by decide +kernel
theorem dX2_isCovered_33 : decode cX2_isCovered 33 = .ok (.iconst 0, 1) := by decide +kernel
theorem dX2_isCovered_34 : decode cX2_isCovered 34 = .ok (.ireturn, 1) := by decide +kernel
set_option maxRecDepth 20000 in
theorem ggX2_takeApproval_X5_costOf : GoodIn wsX2_takeApproval wsX5_costOf := goodIn_r _ [8, 9, 10, 11, 12, 13, 14, 15, 46, 47, 48, 49, 50, 51, 52, 53, 54] (by decide +kernel) (by decide +kernel)
set_option maxRecDepth 20000 in
theorem gX2_takeApproval_X5_costOf : GoodIn wsX2_takeApproval (wsV RX2 98 RX5 yX5_costOf wsX5_costOf) := goodIn_app (goodIn_of _ (by decide +kernel)) ggX2_takeApproval_X5_costOf
set_option maxRecDepth 20000 in
theorem ggX2_takeApproval_X4_principalOf : GoodIn wsX2_takeApproval wsX4_principalOf := goodIn_r _ [20, 21, 22, 23, 24, 25, 19, 26, 27, 28, 29, 11, 12, 13, 14, 15, 55, 56, 57, 58, 54] (by decide +kernel) (by decide +kernel)
set_option maxRecDepth 20000 in
theorem gX2_takeApproval_X4_principalOf : GoodIn wsX2_takeApproval (wsV RX2 99 RX4 yX4_principalOf wsX4_principalOf) := goodIn_app (goodIn_of _ (by decide +kernel)) ggX2_takeApproval_X4_principalOf
set_option maxRecDepth 20000 in
theorem ggX2_takeApproval_X4_backOf : GoodIn wsX2_takeApproval wsX4_backOf := goodIn_r _ [33, 28, 29, 11, 12, 13, 14, 15, 55, 56, 57, 58, 54] (by decide +kernel) (by decide +kernel)
set_option maxRecDepth 20000 in
theorem gX2_takeApproval_X4_backOf : GoodIn wsX2_takeApproval (wsV RX2 108 RX4 yX4_backOf wsX4_backOf) := goodIn_app (goodIn_of _ (by decide +kernel)) ggX2_takeApproval_X4_backOf
set_option maxRecDepth 20000 in
theorem ggX2_takeApproval_X5_addApproval : GoodIn wsX2_takeApproval wsX5_addApproval := goodIn_r _ [37, 38, 39, 40, 41, 13, 42, 15, 46, 47, 48, 49, 50, 51, 52, 53, 54] (by decide +kernel) (by decide +kernel)
set_option maxRecDepth 20000 in
theorem gX2_takeApproval_X5_addApproval : GoodIn wsX2_takeApproval (wsV RX2 111 RX5 yX5_addApproval wsX5_addApproval) := goodIn_app (goodIn_of _ (by decide +kernel)) ggX2_takeApproval_X5_addApproval
theorem dX2_takeApproval_0 : decode cX2_takeApproval 0 = .ok (.aload_n 0, 1) := by decide +kernel
theorem dX2_takeApproval_1 : decode cX2_takeApproval 1 = .ok (.getfield 21, 3) := by decide +kernel
theorem dX2_takeApproval_4 : decode cX2_takeApproval 4 = .ok (.iload_n 2, 1) := by decide +kernel
theorem dX2_takeApproval_5 : decode cX2_takeApproval 5 = .ok (.aload_n 0, 1) := by decide +kernel
theorem dX2_takeApproval_6 : decode cX2_takeApproval 6 = .ok (.getfield 28, 3) := by decide +kernel
theorem dX2_takeApproval_9 : decode cX2_takeApproval 9 = .ok (.iload_n 1, 1) := by decide +kernel
theorem dX2_takeApproval_10 : decode cX2_takeApproval 10 = .ok (.invokevirtual 98, 3) := by decide +kernel
theorem dX2_takeApproval_13 : decode cX2_takeApproval 13 = .ok (.invokevirtual 99, 3) := by decide +kernel
theorem dX2_takeApproval_16 : decode cX2_takeApproval 16 = .ok (.istore_n 3, 1) := by decide +kernel
theorem dX2_takeApproval_17 : decode cX2_takeApproval 17 = .ok (.iload_n 3, 1) := by decide +kernel
theorem dX2_takeApproval_18 : decode cX2_takeApproval 18 = .ok (.iload_n 2, 1) := by decide +kernel
theorem dX2_takeApproval_19 : decode cX2_takeApproval 19 = .ok (.if_icmp .ne 8, 3) := by decide +kernel
theorem dX2_takeApproval_22 : decode cX2_takeApproval 22 = .ok (.ldc 107, 2) := by decide +kernel
theorem dX2_takeApproval_24 : decode cX2_takeApproval 24 = .ok (.goto 11, 3) := by decide +kernel
theorem dX2_takeApproval_27 : decode cX2_takeApproval 27 = .ok (.aload_n 0, 1) := by decide +kernel
theorem dX2_takeApproval_28 : decode cX2_takeApproval 28 = .ok (.getfield 21, 3) := by decide +kernel
theorem dX2_takeApproval_31 : decode cX2_takeApproval 31 = .ok (.iload_n 3, 1) := by decide +kernel
theorem dX2_takeApproval_32 : decode cX2_takeApproval 32 = .ok (.invokevirtual 108, 3) := by decide +kernel
theorem dX2_takeApproval_35 : decode cX2_takeApproval 35 = .ok (.istore 4, 2) := by decide +kernel
theorem dX2_takeApproval_37 : decode cX2_takeApproval 37 = .ok (.aload_n 0, 1) := by decide +kernel
theorem dX2_takeApproval_38 : decode cX2_takeApproval 38 = .ok (.getfield 28, 3) := by decide +kernel
theorem dX2_takeApproval_41 : decode cX2_takeApproval 41 = .ok (.iload_n 1, 1) := by decide +kernel
theorem dX2_takeApproval_42 : decode cX2_takeApproval 42 = .ok (.iload_n 2, 1) := by decide +kernel
theorem dX2_takeApproval_43 : decode cX2_takeApproval 43 = .ok (.iload 4, 2) := by decide +kernel
theorem dX2_takeApproval_45 : decode cX2_takeApproval 45 = .ok (.invokevirtual 111, 3) := by decide +kernel
theorem dX2_takeApproval_48 : decode cX2_takeApproval 48 = .ok (.iload_n 3, 1) := by decide +kernel
theorem dX2_takeApproval_49 : decode cX2_takeApproval 49 = .ok (.ireturn, 1) := by decide +kernel
end
section
set_option maxRecDepth 20000 in
theorem ggX7_init_X6_init : GoodIn wsX7_init wsX6_init := goodIn_r _ [11, 12, 2, 3, 13, 14, 15] (by decide +kernel) (by decide +kernel)
set_option maxRecDepth 20000 in
theorem gX7_init_X6_init : GoodIn wsX7_init (wsX6_init) := ggX7_init_X6_init
theorem dX7_init_0 : decode cX7_init 0 = .ok (.aload_n 0, 1) := by decide +kernel
theorem dX7_init_1 : decode cX7_init 1 = .ok (.invokespecial 3, 3) := by decide +kernel
theorem dX7_init_4 : decode cX7_init 4 = .ok (.aload_n 0, 1) := by decide +kernel
theorem dX7_init_5 : decode cX7_init 5 = .ok (.new 9, 3) := by decide +kernel
theorem dX7_init_8 : decode cX7_init 8 = .ok (.dup, 1) := by decide +kernel
theorem dX7_init_9 : decode cX7_init 9 = .ok (.bipush 8, 2) := by decide +kernel
theorem dX7_init_11 : decode cX7_init 11 = .ok (.invokespecial 11, 3) := by decide +kernel
theorem dX7_init_14 : decode cX7_init 14 = .ok (.putfield 14, 3) := by decide +kernel
theorem dX7_init_17 : decode cX7_init 17 = .ok (.aload_n 0, 1) := by decide +kernel
theorem dX7_init_18 : decode cX7_init 18 = .ok (.new 9, 3) := by decide +kernel
theorem dX7_init_21 : decode cX7_init 21 = .ok (.dup, 1) := by decide +kernel
theorem dX7_init_22 : decode cX7_init 22 = .ok (.bipush 72, 2) := by decide +kernel
theorem dX7_init_24 : decode cX7_init 24 = .ok (.invokespecial 11, 3) := by decide +kernel
theorem dX7_init_27 : decode cX7_init 27 = .ok (.putfield 20, 3) := by decide +kernel
theorem dX7_init_30 : decode cX7_init 30 = .ok (.return_, 1) := by decide +kernel
set_option maxRecDepth 20000 in
theorem ggX7_find_X3_current : GoodIn wsX7_find wsX3_current := goodIn_r _ [9, 10, 11, 12, 13, 14, 15, 16, 17, 18, 19, 8, 20, 21, 22, 23, 24, 25, 26, 27, 70, 71, 72, 73, 74, 75, 76] (by decide +kernel) (by decide +kernel)
set_option maxRecDepth 20000 in
theorem gX7_find_X3_current : GoodIn wsX7_find (wsV RX7 23 RX3 yX3_current wsX3_current) := goodIn_app (goodIn_of _ (by decide +kernel)) ggX7_find_X3_current
set_option maxRecDepth 20000 in
theorem ggX7_find_X6_put : GoodIn wsX7_find wsX6_put := goodIn_r _ [31, 16, 76] (by decide +kernel) (by decide +kernel)
set_option maxRecDepth 20000 in
theorem gX7_find_X6_put : GoodIn wsX7_find (wsV RX7 29 RX6 yX6_put wsX6_put) := goodIn_app (goodIn_of _ (by decide +kernel)) ggX7_find_X6_put
set_option maxRecDepth 20000 in
theorem ggX7_find_X6_at : GoodIn wsX7_find wsX6_at := goodIn_r _ [15, 16, 76] (by decide +kernel) (by decide +kernel)
set_option maxRecDepth 20000 in
theorem gX7_find_X6_at : GoodIn wsX7_find (wsV RX7 33 RX6 yX6_at wsX6_at) := goodIn_app (goodIn_of _ (by decide +kernel)) ggX7_find_X6_at
set_option maxRecDepth 20000 in
theorem ggX7_find_X3_versionSet : GoodIn wsX7_find wsX3_versionSet := goodIn_r _ [27] (by decide +kernel) (by decide +kernel)
set_option maxRecDepth 20000 in
theorem gX7_find_X3_versionSet : GoodIn wsX7_find (va_wsS RX7 36 yX3_versionSet wsX3_versionSet) := goodIn_app (goodIn_of _ (by decide +kernel)) ggX7_find_X3_versionSet
set_option maxRecDepth 20000 in
theorem ggX7_find_X7_fill : GoodIn wsX7_find wsX7_fill := goodIn_r _ [38, 3, 2, 1, 4, 32, 12, 13, 14, 15, 16, 33, 26, 8, 27, 39, 40, 41, 37, 42, 28, 29, 30, 31, 43, 44, 45, 46, 47, 22, 23, 24, 11, 48, 49, 50, 51, 52, 53, 54, 55, 56, 57, 58, 59, 60, 61, 34, 35, 36, 62, 63, 64, 65, 66, 67, 68, 69, 76, 70, 71, 72, 73, 74, 75] (by decide +kernel) (by decide +kernel)
set_option maxRecDepth 20000 in
theorem gX7_find_X7_fill : GoodIn wsX7_find (wsV RX7 49 RX7 yX7_fill wsX7_fill) := goodIn_app (goodIn_of _ (by decide +kernel)) ggX7_find_X7_fill
theorem dX7_find_0 : decode cX7_find 0 = .ok (.iconst 0, 1) := by decide +kernel
theorem dX7_find_1 : decode cX7_find 1 = .ok (.istore 4, 2) := by decide +kernel
theorem dX7_find_3 : decode cX7_find 3 = .ok (.iload 4, 2) := by decide +kernel
theorem dX7_find_5 : decode cX7_find 5 = .ok (.bipush 8, 2) := by decide +kernel
theorem dX7_find_7 : decode cX7_find 7 = .ok (.if_icmp .ge 24, 3) := by decide +kernel
theorem dX7_find_10 : decode cX7_find 10 = .ok (.aload_n 0, 1) := by decide +kernel
theorem dX7_find_11 : decode cX7_find 11 = .ok (.getfield 20, 3) := by decide +kernel
theorem dX7_find_14 : decode cX7_find 14 = .ok (.iload 4, 2) := by decide +kernel
theorem dX7_find_16 : decode cX7_find 16 = .ok (.aload_n 1, 1) := by decide +kernel
theorem dX7_find_17 : decode cX7_find 17 = .ok (.iload 4, 2) := by decide +kernel
theorem dX7_find_19 : decode cX7_find 19 = .ok (.invokevirtual 23, 3) := by decide +kernel
theorem dX7_find_22 : decode cX7_find 22 = .ok (.invokevirtual 29, 3) := by decide +kernel
theorem dX7_find_25 : decode cX7_find 25 = .ok (.iinc 4 1, 3) := by decide +kernel
theorem dX7_find_28 : decode cX7_find 28 = .ok (.goto (-25), 3) := by decide +kernel
theorem dX7_find_31 : decode cX7_find 31 = .ok (.aload_n 0, 1) := by decide +kernel
theorem dX7_find_32 : decode cX7_find 32 = .ok (.getfield 20, 3) := by decide +kernel
theorem dX7_find_35 : decode cX7_find 35 = .ok (.iload_n 2, 1) := by decide +kernel
theorem dX7_find_36 : decode cX7_find 36 = .ok (.aload_n 0, 1) := by decide +kernel
theorem dX7_find_37 : decode cX7_find 37 = .ok (.getfield 20, 3) := by decide +kernel
theorem dX7_find_40 : decode cX7_find 40 = .ok (.iload_n 2, 1) := by decide +kernel
theorem dX7_find_41 : decode cX7_find 41 = .ok (.invokevirtual 33, 3) := by decide +kernel
theorem dX7_find_44 : decode cX7_find 44 = .ok (.iload_n 3, 1) := by decide +kernel
theorem dX7_find_45 : decode cX7_find 45 = .ok (.iconst 3, 1) := by decide +kernel
theorem dX7_find_46 : decode cX7_find 46 = .ok (.invokestatic 36, 3) := by decide +kernel
theorem dX7_find_49 : decode cX7_find 49 = .ok (.iand, 1) := by decide +kernel
theorem dX7_find_50 : decode cX7_find 50 = .ok (.invokevirtual 29, 3) := by decide +kernel
theorem dX7_find_53 : decode cX7_find 53 = .ok (.aload_n 0, 1) := by decide +kernel
theorem dX7_find_54 : decode cX7_find 54 = .ok (.getfield 14, 3) := by decide +kernel
theorem dX7_find_57 : decode cX7_find 57 = .ok (.iconst 0, 1) := by decide +kernel
theorem dX7_find_58 : decode cX7_find 58 = .ok (.iload_n 2, 1) := by decide +kernel
theorem dX7_find_59 : decode cX7_find 59 = .ok (.invokevirtual 29, 3) := by decide +kernel
theorem dX7_find_62 : decode cX7_find 62 = .ok (.aload_n 0, 1) := by decide +kernel
theorem dX7_find_63 : decode cX7_find 63 = .ok (.iconst 1, 1) := by decide +kernel
theorem dX7_find_64 : decode cX7_find 64 = .ok (.putfield 40, 3) := by decide +kernel
theorem dX7_find_67 : decode cX7_find 67 = .ok (.aload_n 0, 1) := by decide +kernel
theorem dX7_find_68 : decode cX7_find 68 = .ok (.iconst 0, 1) := by decide +kernel
theorem dX7_find_69 : decode cX7_find 69 = .ok (.putfield 46, 3) := by decide +kernel
theorem dX7_find_72 : decode cX7_find 72 = .ok (.aload_n 0, 1) := by decide +kernel
theorem dX7_find_73 : decode cX7_find 73 = .ok (.aload_n 1, 1) := by decide +kernel
theorem dX7_find_74 : decode cX7_find 74 = .ok (.iconst 0, 1) := by decide +kernel
theorem dX7_find_75 : decode cX7_find 75 = .ok (.invokevirtual 49, 3) := by decide +kernel
theorem dX7_find_78 : decode cX7_find 78 = .ok (.pop, 1) := by decide +kernel
theorem dX7_find_79 : decode cX7_find 79 = .ok (.aload_n 0, 1) := by decide +kernel
theorem dX7_find_80 : decode cX7_find 80 = .ok (.getfield 46, 3) := by decide +kernel
theorem dX7_find_83 : decode cX7_find 83 = .ok (.ireturn, 1) := by decide +kernel
set_option maxRecDepth 20000 in
theorem ggX7_fill_X6_at : GoodIn wsX7_fill wsX6_at := goodIn_r _ [9, 10, 58] (by decide +kernel) (by decide +kernel)
set_option maxRecDepth 20000 in
theorem gX7_fill_X6_at : GoodIn wsX7_fill (wsV RX7 33 RX6 yX6_at wsX6_at) := goodIn_app (goodIn_of _ (by decide +kernel)) ggX7_fill_X6_at
set_option maxRecDepth 20000 in
theorem ggX7_fill_X3_versionSet : GoodIn wsX7_fill wsX3_versionSet := goodIn_r _ [14] (by decide +kernel) (by decide +kernel)
set_option maxRecDepth 20000 in
theorem gX7_fill_X3_versionSet : GoodIn wsX7_fill (va_wsS RX7 36 yX3_versionSet wsX3_versionSet) := goodIn_app (goodIn_of _ (by decide +kernel)) ggX7_fill_X3_versionSet
set_option maxRecDepth 20000 in
theorem ggX7_fill_X7_take : GoodIn wsX7_fill wsX7_take := goodIn_r _ [19, 2, 3, 5, 6, 7, 8, 9, 10, 20, 21, 22, 23, 11, 12, 13, 14, 24, 25, 26, 27, 28, 29, 30, 31, 32, 33, 34, 35, 36, 37, 38, 39, 40, 41, 42, 43, 44, 45, 18, 46, 1, 54, 55, 56, 57, 58, 59, 60, 61, 62, 63, 64] (by decide +kernel) (by decide +kernel)
set_option maxRecDepth 20000 in
theorem gX7_fill_X7_take : GoodIn wsX7_fill (wsV RX7 53 RX7 yX7_take wsX7_take) := goodIn_app (goodIn_of _ (by decide +kernel)) ggX7_fill_X7_take
set_option maxRecDepth 20000 in
theorem ggX7_fill_X7_fill : GoodIn wsX7_fill wsX7_fill := goodIn_r _ [0, 1, 2, 3, 4, 5, 6, 7, 8, 9, 10, 11, 12, 13, 14, 15, 16, 17, 18, 19, 20, 21, 22, 23, 24, 25, 26, 27, 28, 29, 30, 31, 32, 33, 34, 35, 36, 37, 38, 39, 40, 41, 42, 43, 44, 45, 46, 47, 48, 49, 50, 51, 52, 53, 54, 55, 56, 57, 58, 59, 60, 61, 62, 63, 64] (by decide +kernel) (by decide +kernel)
set_option maxRecDepth 20000 in
theorem gX7_fill_X7_fill : GoodIn wsX7_fill (wsV RX7 49 RX7 yX7_fill wsX7_fill) := goodIn_app (goodIn_of _ (by decide +kernel)) ggX7_fill_X7_fill
set_option maxRecDepth 20000 in
theorem ggX7_fill_X1_with : GoodIn wsX7_fill wsX1_with := goodIn_r _ [53] (by decide +kernel) (by decide +kernel)
set_option maxRecDepth 20000 in
theorem gX7_fill_X1_with : GoodIn wsX7_fill (va_wsS RX7 57 yX1_with wsX1_with) := goodIn_app (goodIn_of _ (by decide +kernel)) ggX7_fill_X1_with
theorem dX7_fill_0 : decode cX7_fill 0 = .ok (.iload_n 2, 1) := by decide +kernel
theorem dX7_fill_1 : decode cX7_fill 1 = .ok (.aload_n 0, 1) := by decide +kernel
theorem dX7_fill_2 : decode cX7_fill 2 = .ok (.getfield 40, 3) := by decide +kernel
theorem dX7_fill_5 : decode cX7_fill 5 = .ok (.if_icmp .ge 9, 3) := by decide +kernel
theorem dX7_fill_8 : decode cX7_fill 8 = .ok (.iload_n 2, 1) := by decide +kernel
theorem dX7_fill_9 : decode cX7_fill 9 = .ok (.bipush 8, 2) := by decide +kernel
theorem dX7_fill_11 : decode cX7_fill 11 = .ok (.if_icmp .lt 5, 3) := by decide +kernel
theorem dX7_fill_14 : decode cX7_fill 14 = .ok (.iconst 1, 1) := by decide +kernel
theorem dX7_fill_15 : decode cX7_fill 15 = .ok (.ireturn, 1) := by decide +kernel
theorem dX7_fill_16 : decode cX7_fill 16 = .ok (.aload_n 0, 1) := by decide +kernel
theorem dX7_fill_17 : decode cX7_fill 17 = .ok (.getfield 14, 3) := by decide +kernel
theorem dX7_fill_20 : decode cX7_fill 20 = .ok (.iload_n 2, 1) := by decide +kernel
theorem dX7_fill_21 : decode cX7_fill 21 = .ok (.invokevirtual 33, 3) := by decide +kernel
theorem dX7_fill_24 : decode cX7_fill 24 = .ok (.istore_n 3, 1) := by decide +kernel
theorem dX7_fill_25 : decode cX7_fill 25 = .ok (.aload_n 0, 1) := by decide +kernel
theorem dX7_fill_26 : decode cX7_fill 26 = .ok (.getfield 20, 3) := by decide +kernel
theorem dX7_fill_29 : decode cX7_fill 29 = .ok (.iload_n 2, 1) := by decide +kernel
theorem dX7_fill_30 : decode cX7_fill 30 = .ok (.bipush 8, 2) := by decide +kernel
theorem dX7_fill_32 : decode cX7_fill 32 = .ok (.imul, 1) := by decide +kernel
theorem dX7_fill_33 : decode cX7_fill 33 = .ok (.iload_n 3, 1) := by decide +kernel
theorem dX7_fill_34 : decode cX7_fill 34 = .ok (.iadd, 1) := by decide +kernel
theorem dX7_fill_35 : decode cX7_fill 35 = .ok (.invokevirtual 33, 3) := by decide +kernel
theorem dX7_fill_38 : decode cX7_fill 38 = .ok (.istore 4, 2) := by decide +kernel
theorem dX7_fill_40 : decode cX7_fill 40 = .ok (.aload_n 0, 1) := by decide +kernel
theorem dX7_fill_41 : decode cX7_fill 41 = .ok (.getfield 40, 3) := by decide +kernel
theorem dX7_fill_44 : decode cX7_fill 44 = .ok (.istore 5, 2) := by decide +kernel
theorem dX7_fill_46 : decode cX7_fill 46 = .ok (.iconst 3, 1) := by decide +kernel
theorem dX7_fill_47 : decode cX7_fill 47 = .ok (.istore 6, 2) := by decide +kernel
theorem dX7_fill_49 : decode cX7_fill 49 = .ok (.iload 6, 2) := by decide +kernel
theorem dX7_fill_51 : decode cX7_fill 51 = .ok (.iconst 1, 1) := by decide +kernel
theorem dX7_fill_52 : decode cX7_fill 52 = .ok (.if_icmp .lt 78, 3) := by decide +kernel
theorem dX7_fill_55 : decode cX7_fill 55 = .ok (.iload 4, 2) := by decide +kernel
theorem dX7_fill_57 : decode cX7_fill 57 = .ok (.iload 6, 2) := by decide +kernel
theorem dX7_fill_59 : decode cX7_fill 59 = .ok (.iload 6, 2) := by decide +kernel
theorem dX7_fill_61 : decode cX7_fill 61 = .ok (.invokestatic 36, 3) := by decide +kernel
theorem dX7_fill_64 : decode cX7_fill 64 = .ok (.iand, 1) := by decide +kernel
theorem dX7_fill_65 : decode cX7_fill 65 = .ok (.ifCond .eq 7, 3) := by decide +kernel
theorem dX7_fill_68 : decode cX7_fill 68 = .ok (.iconst 1, 1) := by decide +kernel
theorem dX7_fill_69 : decode cX7_fill 69 = .ok (.goto 4, 3) := by decide +kernel
theorem dX7_fill_72 : decode cX7_fill 72 = .ok (.iconst 0, 1) := by decide +kernel
theorem dX7_fill_73 : decode cX7_fill 73 = .ok (.istore 7, 2) := by decide +kernel
theorem dX7_fill_75 : decode cX7_fill 75 = .ok (.iload 7, 2) := by decide +kernel
theorem dX7_fill_77 : decode cX7_fill 77 = .ok (.ifCond .eq 41, 3) := by decide +kernel
theorem dX7_fill_80 : decode cX7_fill 80 = .ok (.aload_n 0, 1) := by decide +kernel
theorem dX7_fill_81 : decode cX7_fill 81 = .ok (.aload_n 1, 1) := by decide +kernel
theorem dX7_fill_82 : decode cX7_fill 82 = .ok (.iload_n 2, 1) := by decide +kernel
theorem dX7_fill_83 : decode cX7_fill 83 = .ok (.iload 6, 2) := by decide +kernel
theorem dX7_fill_85 : decode cX7_fill 85 = .ok (.invokevirtual 53, 3) := by decide +kernel
theorem dX7_fill_88 : decode cX7_fill 88 = .ok (.ifCond .eq 30, 3) := by decide +kernel
theorem dX7_fill_91 : decode cX7_fill 91 = .ok (.aload_n 0, 1) := by decide +kernel
theorem dX7_fill_92 : decode cX7_fill 92 = .ok (.aload_n 1, 1) := by decide +kernel
theorem dX7_fill_93 : decode cX7_fill 93 = .ok (.iload_n 2, 1) := by decide +kernel
theorem dX7_fill_94 : decode cX7_fill 94 = .ok (.iconst 1, 1) := by decide +kernel
theorem dX7_fill_95 : decode cX7_fill 95 = .ok (.iadd, 1) := by decide +kernel
theorem dX7_fill_96 : decode cX7_fill 96 = .ok (.invokevirtual 49, 3) := by decide +kernel
theorem dX7_fill_99 : decode cX7_fill 99 = .ok (.ifCond .eq 19, 3) := by decide +kernel
theorem dX7_fill_102 : decode cX7_fill 102 = .ok (.aload_n 0, 1) := by decide +kernel
theorem dX7_fill_103 : decode cX7_fill 103 = .ok (.aload_n 0, 1) := by decide +kernel
theorem dX7_fill_104 : decode cX7_fill 104 = .ok (.getfield 46, 3) := by decide +kernel
theorem dX7_fill_107 : decode cX7_fill 107 = .ok (.iload_n 3, 1) := by decide +kernel
theorem dX7_fill_108 : decode cX7_fill 108 = .ok (.iload 6, 2) := by decide +kernel
theorem dX7_fill_110 : decode cX7_fill 110 = .ok (.invokestatic 57, 3) := by decide +kernel
theorem dX7_fill_113 : decode cX7_fill 113 = .ok (.putfield 46, 3) := by decide +kernel
theorem dX7_fill_116 : decode cX7_fill 116 = .ok (.iconst 1, 1) := by decide +kernel
theorem dX7_fill_117 : decode cX7_fill 117 = .ok (.ireturn, 1) := by decide +kernel
theorem dX7_fill_118 : decode cX7_fill 118 = .ok (.aload_n 0, 1) := by decide +kernel
theorem dX7_fill_119 : decode cX7_fill 119 = .ok (.iload 5, 2) := by decide +kernel
theorem dX7_fill_121 : decode cX7_fill 121 = .ok (.putfield 40, 3) := by decide +kernel
theorem dX7_fill_124 : decode cX7_fill 124 = .ok (.iinc 6 (-1), 3) := by decide +kernel
theorem dX7_fill_127 : decode cX7_fill 127 = .ok (.goto (-78), 3) := by decide +kernel
theorem dX7_fill_130 : decode cX7_fill 130 = .ok (.iconst 0, 1) := by decide +kernel
theorem dX7_fill_131 : decode cX7_fill 131 = .ok (.ireturn, 1) := by decide +kernel
set_option maxRecDepth 20000 in
theorem ggX7_take_X6_at : GoodIn wsX7_take wsX6_at := goodIn_r _ [7, 8, 46] (by decide +kernel) (by decide +kernel)
set_option maxRecDepth 20000 in
theorem gX7_take_X6_at : GoodIn wsX7_take (wsV RX7 33 RX6 yX6_at wsX6_at) := goodIn_app (goodIn_of _ (by decide +kernel)) ggX7_take_X6_at
set_option maxRecDepth 20000 in
theorem ggX7_take_X6_put : GoodIn wsX7_take wsX6_put := goodIn_r _ [12, 8, 46] (by decide +kernel) (by decide +kernel)
set_option maxRecDepth 20000 in
theorem gX7_take_X6_put : GoodIn wsX7_take (wsV RX7 29 RX6 yX6_put wsX6_put) := goodIn_app (goodIn_of _ (by decide +kernel)) ggX7_take_X6_put
set_option maxRecDepth 20000 in
theorem ggX7_take_X3_versionSet : GoodIn wsX7_take wsX3_versionSet := goodIn_r _ [16] (by decide +kernel) (by decide +kernel)
set_option maxRecDepth 20000 in
theorem gX7_take_X3_versionSet : GoodIn wsX7_take (va_wsS RX7 36 yX3_versionSet wsX3_versionSet) := goodIn_app (goodIn_of _ (by decide +kernel)) ggX7_take_X3_versionSet
set_option maxRecDepth 20000 in
theorem ggX7_take_X3_needsOf : GoodIn wsX7_take wsX3_needsOf := goodIn_r _ [20, 21, 22, 23, 15, 24, 25, 4, 5, 6, 7, 8, 47, 48, 49, 50, 51, 52, 46] (by decide +kernel) (by decide +kernel)
set_option maxRecDepth 20000 in
theorem gX7_take_X3_needsOf : GoodIn wsX7_take (wsV RX7 61 RX3 yX3_needsOf wsX3_needsOf) := goodIn_app (goodIn_of _ (by decide +kernel)) ggX7_take_X3_needsOf
set_option maxRecDepth 20000 in
theorem ggX7_take_X3_neededPart : GoodIn wsX7_take wsX3_neededPart := goodIn_r _ [29, 30, 22, 23, 15, 24, 25, 4, 5, 6, 7, 8, 47, 48, 49, 50, 51, 52, 46] (by decide +kernel) (by decide +kernel)
set_option maxRecDepth 20000 in
theorem gX7_take_X3_neededPart : GoodIn wsX7_take (wsV RX7 64 RX3 yX3_neededPart wsX3_neededPart) := goodIn_app (goodIn_of _ (by decide +kernel)) ggX7_take_X3_neededPart
set_option maxRecDepth 20000 in
theorem ggX7_take_X3_neededVersions : GoodIn wsX7_take wsX3_neededVersions := goodIn_r _ [34, 35, 22, 23, 15, 24, 25, 4, 5, 6, 7, 8, 47, 48, 49, 50, 51, 52, 46] (by decide +kernel) (by decide +kernel)
set_option maxRecDepth 20000 in
theorem gX7_take_X3_neededVersions : GoodIn wsX7_take (wsV RX7 67 RX3 yX3_neededVersions wsX3_neededVersions) := goodIn_app (goodIn_of _ (by decide +kernel)) ggX7_take_X3_neededVersions
set_option maxRecDepth 20000 in
theorem ggX7_take_X7_await : GoodIn wsX7_take wsX7_await := goodIn_r _ [40, 41, 1, 3, 4, 5, 6, 7, 8, 9, 10, 11, 12, 42, 43, 44, 45, 46] (by decide +kernel) (by decide +kernel)
set_option maxRecDepth 20000 in
theorem gX7_take_X7_await : GoodIn wsX7_take (wsV RX7 70 RX7 yX7_await wsX7_await) := goodIn_app (goodIn_of _ (by decide +kernel)) ggX7_take_X7_await
theorem dX7_take_0 : decode cX7_take 0 = .ok (.aload_n 0, 1) := by decide +kernel
theorem dX7_take_1 : decode cX7_take 1 = .ok (.getfield 14, 3) := by decide +kernel
theorem dX7_take_4 : decode cX7_take 4 = .ok (.iload_n 2, 1) := by decide +kernel
theorem dX7_take_5 : decode cX7_take 5 = .ok (.invokevirtual 33, 3) := by decide +kernel
theorem dX7_take_8 : decode cX7_take 8 = .ok (.istore 4, 2) := by decide +kernel
theorem dX7_take_10 : decode cX7_take 10 = .ok (.iload_n 2, 1) := by decide +kernel
theorem dX7_take_11 : decode cX7_take 11 = .ok (.iconst 1, 1) := by decide +kernel
theorem dX7_take_12 : decode cX7_take 12 = .ok (.iadd, 1) := by decide +kernel
theorem dX7_take_13 : decode cX7_take 13 = .ok (.bipush 8, 2) := by decide +kernel
theorem dX7_take_15 : decode cX7_take 15 = .ok (.imul, 1) := by decide +kernel
theorem dX7_take_16 : decode cX7_take 16 = .ok (.istore 5, 2) := by decide +kernel
theorem dX7_take_18 : decode cX7_take 18 = .ok (.iconst 0, 1) := by decide +kernel
theorem dX7_take_19 : decode cX7_take 19 = .ok (.istore 6, 2) := by decide +kernel
theorem dX7_take_21 : decode cX7_take 21 = .ok (.iload 6, 2) := by decide +kernel
theorem dX7_take_23 : decode cX7_take 23 = .ok (.bipush 8, 2) := by decide +kernel
theorem dX7_take_25 : decode cX7_take 25 = .ok (.if_icmp .ge 35, 3) := by decide +kernel
theorem dX7_take_28 : decode cX7_take 28 = .ok (.aload_n 0, 1) := by decide +kernel
theorem dX7_take_29 : decode cX7_take 29 = .ok (.getfield 20, 3) := by decide +kernel
theorem dX7_take_32 : decode cX7_take 32 = .ok (.iload 5, 2) := by decide +kernel
theorem dX7_take_34 : decode cX7_take 34 = .ok (.iload 6, 2) := by decide +kernel
theorem dX7_take_36 : decode cX7_take 36 = .ok (.iadd, 1) := by decide +kernel
theorem dX7_take_37 : decode cX7_take 37 = .ok (.aload_n 0, 1) := by decide +kernel
theorem dX7_take_38 : decode cX7_take 38 = .ok (.getfield 20, 3) := by decide +kernel
theorem dX7_take_41 : decode cX7_take 41 = .ok (.iload_n 2, 1) := by decide +kernel
theorem dX7_take_42 : decode cX7_take 42 = .ok (.bipush 8, 2) := by decide +kernel
theorem dX7_take_44 : decode cX7_take 44 = .ok (.imul, 1) := by decide +kernel
theorem dX7_take_45 : decode cX7_take 45 = .ok (.iload 6, 2) := by decide +kernel
theorem dX7_take_47 : decode cX7_take 47 = .ok (.iadd, 1) := by decide +kernel
theorem dX7_take_48 : decode cX7_take 48 = .ok (.invokevirtual 33, 3) := by decide +kernel
theorem dX7_take_51 : decode cX7_take 51 = .ok (.invokevirtual 29, 3) := by decide +kernel
theorem dX7_take_54 : decode cX7_take 54 = .ok (.iinc 6 1, 3) := by decide +kernel
theorem dX7_take_57 : decode cX7_take 57 = .ok (.goto (-36), 3) := by decide +kernel
theorem dX7_take_60 : decode cX7_take 60 = .ok (.aload_n 0, 1) := by decide +kernel
theorem dX7_take_61 : decode cX7_take 61 = .ok (.getfield 20, 3) := by decide +kernel
theorem dX7_take_64 : decode cX7_take 64 = .ok (.iload 5, 2) := by decide +kernel
theorem dX7_take_66 : decode cX7_take 66 = .ok (.iload 4, 2) := by decide +kernel
theorem dX7_take_68 : decode cX7_take 68 = .ok (.iadd, 1) := by decide +kernel
theorem dX7_take_69 : decode cX7_take 69 = .ok (.iload_n 3, 1) := by decide +kernel
theorem dX7_take_70 : decode cX7_take 70 = .ok (.iload_n 3, 1) := by decide +kernel
theorem dX7_take_71 : decode cX7_take 71 = .ok (.invokestatic 36, 3) := by decide +kernel
theorem dX7_take_74 : decode cX7_take 74 = .ok (.invokevirtual 29, 3) := by decide +kernel
theorem dX7_take_77 : decode cX7_take 77 = .ok (.aload_n 1, 1) := by decide +kernel
theorem dX7_take_78 : decode cX7_take 78 = .ok (.iload 4, 2) := by decide +kernel
theorem dX7_take_80 : decode cX7_take 80 = .ok (.iload_n 3, 1) := by decide +kernel
theorem dX7_take_81 : decode cX7_take 81 = .ok (.invokevirtual 61, 3) := by decide +kernel
theorem dX7_take_84 : decode cX7_take 84 = .ok (.istore 6, 2) := by decide +kernel
theorem dX7_take_86 : decode cX7_take 86 = .ok (.iconst 0, 1) := by decide +kernel
theorem dX7_take_87 : decode cX7_take 87 = .ok (.istore 7, 2) := by decide +kernel
theorem dX7_take_89 : decode cX7_take 89 = .ok (.iload 7, 2) := by decide +kernel
theorem dX7_take_91 : decode cX7_take 91 = .ok (.iload 6, 2) := by decide +kernel
theorem dX7_take_93 : decode cX7_take 93 = .ok (.if_icmp .ge 71, 3) := by decide +kernel
theorem dX7_take_96 : decode cX7_take 96 = .ok (.aload_n 1, 1) := by decide +kernel
theorem dX7_take_97 : decode cX7_take 97 = .ok (.iload 4, 2) := by decide +kernel
theorem dX7_take_99 : decode cX7_take 99 = .ok (.iload_n 3, 1) := by decide +kernel
theorem dX7_take_100 : decode cX7_take 100 = .ok (.iload 7, 2) := by decide +kernel
theorem dX7_take_102 : decode cX7_take 102 = .ok (.invokevirtual 64, 3) := by decide +kernel
theorem dX7_take_105 : decode cX7_take 105 = .ok (.istore 8, 2) := by decide +kernel
theorem dX7_take_107 : decode cX7_take 107 = .ok (.aload_n 0, 1) := by decide +kernel
theorem dX7_take_108 : decode cX7_take 108 = .ok (.getfield 20, 3) := by decide +kernel
theorem dX7_take_111 : decode cX7_take 111 = .ok (.iload 5, 2) := by decide +kernel
theorem dX7_take_113 : decode cX7_take 113 = .ok (.iload 8, 2) := by decide +kernel
theorem dX7_take_115 : decode cX7_take 115 = .ok (.iadd, 1) := by decide +kernel
theorem dX7_take_116 : decode cX7_take 116 = .ok (.invokevirtual 33, 3) := by decide +kernel
theorem dX7_take_119 : decode cX7_take 119 = .ok (.aload_n 1, 1) := by decide +kernel
theorem dX7_take_120 : decode cX7_take 120 = .ok (.iload 4, 2) := by decide +kernel
theorem dX7_take_122 : decode cX7_take 122 = .ok (.iload_n 3, 1) := by decide +kernel
theorem dX7_take_123 : decode cX7_take 123 = .ok (.iload 7, 2) := by decide +kernel
theorem dX7_take_125 : decode cX7_take 125 = .ok (.invokevirtual 67, 3) := by decide +kernel
theorem dX7_take_128 : decode cX7_take 128 = .ok (.iand, 1) := by decide +kernel
theorem dX7_take_129 : decode cX7_take 129 = .ok (.istore 9, 2) := by decide +kernel
theorem dX7_take_131 : decode cX7_take 131 = .ok (.iload 9, 2) := by decide +kernel
theorem dX7_take_133 : decode cX7_take 133 = .ok (.ifCond .ne 5, 3) := by decide +kernel
theorem dX7_take_136 : decode cX7_take 136 = .ok (.iconst 0, 1) := by decide +kernel
theorem dX7_take_137 : decode cX7_take 137 = .ok (.ireturn, 1) := by decide +kernel
theorem dX7_take_138 : decode cX7_take 138 = .ok (.aload_n 0, 1) := by decide +kernel
theorem dX7_take_139 : decode cX7_take 139 = .ok (.getfield 20, 3) := by decide +kernel
theorem dX7_take_142 : decode cX7_take 142 = .ok (.iload 5, 2) := by decide +kernel
theorem dX7_take_144 : decode cX7_take 144 = .ok (.iload 8, 2) := by decide +kernel
theorem dX7_take_146 : decode cX7_take 146 = .ok (.iadd, 1) := by decide +kernel
theorem dX7_take_147 : decode cX7_take 147 = .ok (.iload 9, 2) := by decide +kernel
theorem dX7_take_149 : decode cX7_take 149 = .ok (.invokevirtual 29, 3) := by decide +kernel
theorem dX7_take_152 : decode cX7_take 152 = .ok (.aload_n 0, 1) := by decide +kernel
theorem dX7_take_153 : decode cX7_take 153 = .ok (.iload 8, 2) := by decide +kernel
theorem dX7_take_155 : decode cX7_take 155 = .ok (.invokevirtual 70, 3) := by decide +kernel
theorem dX7_take_158 : decode cX7_take 158 = .ok (.iinc 7 1, 3) := by decide +kernel
theorem dX7_take_161 : decode cX7_take 161 = .ok (.goto (-72), 3) := by decide +kernel
theorem dX7_take_164 : decode cX7_take 164 = .ok (.iconst 1, 1) := by decide +kernel
theorem dX7_take_165 : decode cX7_take 165 = .ok (.ireturn, 1) := by decide +kernel
set_option maxRecDepth 20000 in
theorem ggX7_await_X6_at : GoodIn wsX7_await wsX6_at := goodIn_r _ [7, 8, 17] (by decide +kernel) (by decide +kernel)
set_option maxRecDepth 20000 in
theorem gX7_await_X6_at : GoodIn wsX7_await (wsV RX7 33 RX6 yX6_at wsX6_at) := goodIn_app (goodIn_of _ (by decide +kernel)) ggX7_await_X6_at
set_option maxRecDepth 20000 in
theorem ggX7_await_X6_put : GoodIn wsX7_await wsX6_put := goodIn_r _ [12, 8, 17] (by decide +kernel) (by decide +kernel)
set_option maxRecDepth 20000 in
theorem gX7_await_X6_put : GoodIn wsX7_await (wsV RX7 29 RX6 yX6_put wsX6_put) := goodIn_app (goodIn_of _ (by decide +kernel)) ggX7_await_X6_put
theorem dX7_await_0 : decode cX7_await 0 = .ok (.iconst 0, 1) := by decide +kernel
theorem dX7_await_1 : decode cX7_await 1 = .ok (.istore_n 2, 1) := by decide +kernel
theorem dX7_await_2 : decode cX7_await 2 = .ok (.iload_n 2, 1) := by decide +kernel
theorem dX7_await_3 : decode cX7_await 3 = .ok (.aload_n 0, 1) := by decide +kernel
theorem dX7_await_4 : decode cX7_await 4 = .ok (.getfield 40, 3) := by decide +kernel
theorem dX7_await_7 : decode cX7_await 7 = .ok (.if_icmp .ge 22, 3) := by decide +kernel
theorem dX7_await_10 : decode cX7_await 10 = .ok (.aload_n 0, 1) := by decide +kernel
theorem dX7_await_11 : decode cX7_await 11 = .ok (.getfield 14, 3) := by decide +kernel
theorem dX7_await_14 : decode cX7_await 14 = .ok (.iload_n 2, 1) := by decide +kernel
theorem dX7_await_15 : decode cX7_await 15 = .ok (.invokevirtual 33, 3) := by decide +kernel
theorem dX7_await_18 : decode cX7_await 18 = .ok (.iload_n 1, 1) := by decide +kernel
theorem dX7_await_19 : decode cX7_await 19 = .ok (.if_icmp .ne 4, 3) := by decide +kernel
theorem dX7_await_22 : decode cX7_await 22 = .ok (.return_, 1) := by decide +kernel
theorem dX7_await_23 : decode cX7_await 23 = .ok (.iinc 2 1, 3) := by decide +kernel
theorem dX7_await_26 : decode cX7_await 26 = .ok (.goto (-24), 3) := by decide +kernel
theorem dX7_await_29 : decode cX7_await 29 = .ok (.aload_n 0, 1) := by decide +kernel
theorem dX7_await_30 : decode cX7_await 30 = .ok (.getfield 14, 3) := by decide +kernel
theorem dX7_await_33 : decode cX7_await 33 = .ok (.aload_n 0, 1) := by decide +kernel
theorem dX7_await_34 : decode cX7_await 34 = .ok (.getfield 40, 3) := by decide +kernel
theorem dX7_await_37 : decode cX7_await 37 = .ok (.iload_n 1, 1) := by decide +kernel
theorem dX7_await_38 : decode cX7_await 38 = .ok (.invokevirtual 29, 3) := by decide +kernel
theorem dX7_await_41 : decode cX7_await 41 = .ok (.aload_n 0, 1) := by decide +kernel
theorem dX7_await_42 : decode cX7_await 42 = .ok (.dup, 1) := by decide +kernel
theorem dX7_await_43 : decode cX7_await 43 = .ok (.getfield 40, 3) := by decide +kernel
theorem dX7_await_46 : decode cX7_await 46 = .ok (.iconst 1, 1) := by decide +kernel
theorem dX7_await_47 : decode cX7_await 47 = .ok (.iadd, 1) := by decide +kernel
theorem dX7_await_48 : decode cX7_await 48 = .ok (.putfield 40, 3) := by decide +kernel
theorem dX7_await_51 : decode cX7_await 51 = .ok (.return_, 1) := by decide +kernel
set_option maxRecDepth 20000 in
theorem ggX8_init_X0_init : GoodIn wsX8_init wsX0_init := goodIn_r _ [18, 19, 2, 3, 20, 21, 22, 23, 24, 25, 26, 27, 28, 29, 120, 107, 108] (by decide +kernel) (by decide +kernel)
set_option maxRecDepth 20000 in
theorem gX8_init_X0_init_n9 : GoodIn wsX8_init (wsX0_init) := ggX8_init_X0_init
set_option maxRecDepth 20000 in
theorem ggX8_init_X2_init : GoodIn wsX8_init wsX2_init := goodIn_r _ [32, 33, 2, 3, 34, 35, 36, 37, 38, 39, 40, 41, 42, 43, 44, 45, 46, 47, 48, 49, 21, 22, 50, 51, 52, 53, 54, 55, 56, 25, 26, 27, 28, 29, 57, 58, 59, 60, 61, 62, 63, 64, 65, 66, 67, 68, 69, 70, 71, 72, 73, 74, 75, 76, 77, 78, 79, 10, 80, 81, 82, 83, 84, 85, 86, 87, 88, 89, 90, 91, 92, 93, 94, 95, 96, 97, 98, 99, 121, 122, 123, 124, 125, 126, 113, 114, 115, 127, 128, 129, 130, 131, 132, 133, 134, 135, 136, 137, 138, 120] (by decide +kernel) (by decide +kernel)
set_option maxRecDepth 20000 in
theorem gX8_init_X2_init : GoodIn wsX8_init (wsX2_init) := ggX8_init_X2_init
set_option maxRecDepth 20000 in
theorem ggX8_init_X7_init : GoodIn wsX8_init wsX7_init := goodIn_r _ [101, 102, 2, 3, 103, 21, 22, 104, 105, 106, 25, 26, 27, 28, 29, 120, 116, 117, 118, 119] (by decide +kernel) (by decide +kernel)
set_option maxRecDepth 20000 in
theorem gX8_init_X7_init_n28 : GoodIn wsX8_init (wsX7_init) := ggX8_init_X7_init
theorem dX8_init_0 : decode cX8_init 0 = .ok (.aload_n 0, 1) := by decide +kernel
theorem dX8_init_1 : decode cX8_init 1 = .ok (.invokespecial 1, 3) := by decide +kernel
theorem dX8_init_4 : decode cX8_init 4 = .ok (.aload_n 0, 1) := by decide +kernel
theorem dX8_init_5 : decode cX8_init 5 = .ok (.new 7, 3) := by decide +kernel
theorem dX8_init_8 : decode cX8_init 8 = .ok (.dup, 1) := by decide +kernel
theorem dX8_init_9 : decode cX8_init 9 = .ok (.invokespecial 9, 3) := by decide +kernel
theorem dX8_init_12 : decode cX8_init 12 = .ok (.putfield 10, 3) := by decide +kernel
theorem dX8_init_15 : decode cX8_init 15 = .ok (.aload_n 0, 1) := by decide +kernel
theorem dX8_init_16 : decode cX8_init 16 = .ok (.new 16, 3) := by decide +kernel
theorem dX8_init_19 : decode cX8_init 19 = .ok (.dup, 1) := by decide +kernel
theorem dX8_init_20 : decode cX8_init 20 = .ok (.invokespecial 18, 3) := by decide +kernel
theorem dX8_init_23 : decode cX8_init 23 = .ok (.putfield 19, 3) := by decide +kernel
theorem dX8_init_26 : decode cX8_init 26 = .ok (.aload_n 0, 1) := by decide +kernel
theorem dX8_init_27 : decode cX8_init 27 = .ok (.new 16, 3) := by decide +kernel
theorem dX8_init_30 : decode cX8_init 30 = .ok (.dup, 1) := by decide +kernel
theorem dX8_init_31 : decode cX8_init 31 = .ok (.invokespecial 18, 3) := by decide +kernel
theorem dX8_init_34 : decode cX8_init 34 = .ok (.putfield 23, 3) := by decide +kernel
theorem dX8_init_37 : decode cX8_init 37 = .ok (.aload_n 0, 1) := by decide +kernel
theorem dX8_init_38 : decode cX8_init 38 = .ok (.new 26, 3) := by decide +kernel
theorem dX8_init_41 : decode cX8_init 41 = .ok (.dup, 1) := by decide +kernel
theorem dX8_init_42 : decode cX8_init 42 = .ok (.invokespecial 28, 3) := by decide +kernel
theorem dX8_init_45 : decode cX8_init 45 = .ok (.putfield 29, 3) := by decide +kernel
theorem dX8_init_48 : decode cX8_init 48 = .ok (.return_, 1) := by decide +kernel
set_option maxRecDepth 20000 in
theorem ggX8_version_X8_checkPart : GoodIn wsX8_version wsX8_checkPart := goodIn_ca (goodIn_r _ [10, 11, 12] (by decide +kernel) (by decide +kernel)) (goodIn_sub (fun _ h => List.mem_cons_of_mem _ (List.mem_append_right _ h)) (by decide +kernel))
set_option maxRecDepth 20000 in
theorem gX8_version_X8_checkPart : GoodIn wsX8_version (va_wsS RX8 33 yX8_checkPart wsX8_checkPart) := goodIn_app (goodIn_of _ (by decide +kernel)) ggX8_version_X8_checkPart
set_option maxRecDepth 20000 in
theorem ggX8_version_X3_countOf : GoodIn wsX8_version wsX3_countOf := goodIn_r _ [17, 18, 19, 20, 21, 22, 23, 24, 185, 186, 187, 188, 189, 190, 191] (by decide +kernel) (by decide +kernel)
set_option maxRecDepth 20000 in
theorem gX8_version_X3_countOf : GoodIn wsX8_version (wsV RX8 48 RX3 yX3_countOf wsX3_countOf) := goodIn_app (goodIn_of _ (by decide +kernel)) ggX8_version_X3_countOf
set_option maxRecDepth 20000 in
theorem ggX8_version_X8_tell : GoodIn wsX8_version wsX8_tell := goodIn_r _ [28, 5, 29, 30, 31, 32, 33, 34, 35, 36, 37, 38, 39, 22, 40, 24, 41, 42, 43, 44, 45, 46, 47, 48, 49, 50, 51, 52, 53, 20, 21, 23, 54, 55, 56, 16, 57, 18, 58, 59, 60, 19, 61, 62, 63, 64, 65, 66, 67, 68, 69, 70, 71, 72, 73, 74, 75, 76, 77, 78, 79, 80, 81, 82, 83, 84, 85, 86, 87, 88, 89, 90, 91, 92, 93, 94, 95, 96, 97, 98, 99, 100, 101, 102, 103, 104, 105, 106, 107, 108, 109, 110, 111, 112, 113, 114, 115, 116, 117, 118, 119, 120, 121, 122, 123, 124, 125, 126, 127, 128, 129, 130, 131, 132, 133, 134, 135, 136, 137, 138, 139, 140, 141, 142, 143, 144, 145, 146, 147, 148, 149, 150, 151, 152, 153, 154, 155, 156, 157, 158, 159, 160, 161, 162, 163, 164, 165, 166, 167, 168, 169, 170, 171, 172, 173, 174, 175, 176, 177, 178, 179, 180, 181, 192, 193, 191, 182, 183, 184, 185, 186, 187, 188, 189, 190, 194, 195, 196, 197, 198, 199, 200, 201, 202, 203, 204, 205] (by decide +kernel) (by decide +kernel)
set_option maxRecDepth 20000 in
theorem gX8_version_X8_tell : GoodIn wsX8_version (wsV RX8 59 RX8 yX8_tell wsX8_tell) := goodIn_app (goodIn_of _ (by decide +kernel)) ggX8_version_X8_tell
theorem dX8_version_0 : decode cX8_version 0 = .ok (.iload_n 1, 1) := by decide +kernel
theorem dX8_version_1 : decode cX8_version 1 = .ok (.invokestatic 33, 3) := by decide +kernel
theorem dX8_version_4 : decode cX8_version 4 = .ok (.iload_n 2, 1) := by decide +kernel
theorem dX8_version_5 : decode cX8_version 5 = .ok (.ifCond .lt 10, 3) := by decide +kernel
theorem dX8_version_8 : decode cX8_version 8 = .ok (.iload_n 2, 1) := by decide +kernel
theorem dX8_version_9 : decode cX8_version 9 = .ok (.sipush 1000, 3) := by decide +kernel
theorem dX8_version_12 : decode cX8_version 12 = .ok (.if_icmp .le 13, 3) := by decide +kernel
theorem dX8_version_15 : decode cX8_version 15 = .ok (.new 37, 3) := by decide +kernel
theorem dX8_version_18 : decode cX8_version 18 = .ok (.dup, 1) := by decide +kernel
theorem dX8_version_19 : decode cX8_version 19 = .ok (.ldc 39, 2) := by decide +kernel
theorem dX8_version_21 : decode cX8_version 21 = .ok (.invokespecial 41, 3) := by decide +kernel
theorem dX8_version_24 : decode cX8_version 24 = .ok (.athrow, 1) := by decide +kernel
theorem dX8_version_25 : decode cX8_version 25 = .ok (.aload_n 0, 1) := by decide +kernel
theorem dX8_version_26 : decode cX8_version 26 = .ok (.getfield 19, 3) := by decide +kernel
theorem dX8_version_29 : decode cX8_version 29 = .ok (.getfield 44, 3) := by decide +kernel
theorem dX8_version_32 : decode cX8_version 32 = .ok (.iload_n 1, 1) := by decide +kernel
theorem dX8_version_33 : decode cX8_version 33 = .ok (.invokevirtual 48, 3) := by decide +kernel
theorem dX8_version_36 : decode cX8_version 36 = .ok (.iconst 3, 1) := by decide +kernel
theorem dX8_version_37 : decode cX8_version 37 = .ok (.if_icmp .lt 13, 3) := by decide +kernel
theorem dX8_version_40 : decode cX8_version 40 = .ok (.new 54, 3) := by decide +kernel
theorem dX8_version_43 : decode cX8_version 43 = .ok (.dup, 1) := by decide +kernel
theorem dX8_version_44 : decode cX8_version 44 = .ok (.ldc 56, 2) := by decide +kernel
theorem dX8_version_46 : decode cX8_version 46 = .ok (.invokespecial 58, 3) := by decide +kernel
theorem dX8_version_49 : decode cX8_version 49 = .ok (.athrow, 1) := by decide +kernel
theorem dX8_version_50 : decode cX8_version 50 = .ok (.aload_n 0, 1) := by decide +kernel
theorem dX8_version_51 : decode cX8_version 51 = .ok (.iconst 1, 1) := by decide +kernel
theorem dX8_version_52 : decode cX8_version 52 = .ok (.iload_n 1, 1) := by decide +kernel
theorem dX8_version_53 : decode cX8_version 53 = .ok (.iload_n 2, 1) := by decide +kernel
theorem dX8_version_54 : decode cX8_version 54 = .ok (.iconst 0, 1) := by decide +kernel
theorem dX8_version_55 : decode cX8_version 55 = .ok (.invokevirtual 59, 3) := by decide +kernel
theorem dX8_version_58 : decode cX8_version 58 = .ok (.ireturn, 1) := by decide +kernel
set_option maxRecDepth 20000 in
theorem ggX8_need_X8_checkPart : GoodIn wsX8_need wsX8_checkPart := goodIn_ca (goodIn_r _ [11, 12, 13] (by decide +kernel) (by decide +kernel)) (goodIn_sub (fun _ h => List.mem_cons_of_mem _ (List.mem_append_right _ h)) (by decide +kernel))
set_option maxRecDepth 20000 in
theorem gX8_need_X8_checkPart : GoodIn wsX8_need (va_wsS RX8 33 yX8_checkPart wsX8_checkPart) := goodIn_app (goodIn_of _ (by decide +kernel)) ggX8_need_X8_checkPart
set_option maxRecDepth 20000 in
theorem ggX8_need_X8_checkVersion : GoodIn wsX8_need wsX8_checkVersion := goodIn_ca (goodIn_r _ [17, 12, 13, 5, 6, 18, 19, 20, 21, 22, 23, 24, 25, 26, 27, 28, 29, 185, 186, 187, 188, 189, 190, 191, 192, 193, 194, 195, 196, 197, 198] (by decide +kernel) (by decide +kernel)) (goodIn_sub (fun _ h => List.mem_cons_of_mem _ (List.mem_append_right _ h)) (by decide +kernel))
set_option maxRecDepth 20000 in
theorem gX8_need_X8_checkVersion : GoodIn wsX8_need (wsV RX8 63 RX8 yX8_checkVersion wsX8_checkVersion) := goodIn_app (goodIn_of _ (by decide +kernel)) ggX8_need_X8_checkVersion
set_option maxRecDepth 20000 in
theorem ggX8_need_X8_checkLeast : GoodIn wsX8_need wsX8_checkLeast := goodIn_ca (goodIn_r _ [32, 1, 2] (by decide +kernel) (by decide +kernel)) (goodIn_sub (fun _ h => List.mem_cons_of_mem _ (List.mem_append_left _ (List.mem_append_left _ (List.mem_append_right _ h)))) (by decide +kernel))
set_option maxRecDepth 20000 in
theorem gX8_need_X8_checkLeast : GoodIn wsX8_need (va_wsS RX8 69 yX8_checkLeast wsX8_checkLeast) := goodIn_app (goodIn_of _ (by decide +kernel)) ggX8_need_X8_checkLeast
set_option maxRecDepth 20000 in
theorem ggX8_need_X3_needsOf : GoodIn wsX8_need wsX3_needsOf := goodIn_r _ [36, 37, 38, 39, 21, 40, 24, 25, 26, 27, 28, 29, 192, 193, 194, 195, 196, 197, 198] (by decide +kernel) (by decide +kernel)
set_option maxRecDepth 20000 in
theorem gX8_need_X3_needsOf : GoodIn wsX8_need (wsV RX8 74 RX3 yX3_needsOf wsX3_needsOf) := goodIn_app (goodIn_of _ (by decide +kernel)) ggX8_need_X3_needsOf
set_option maxRecDepth 20000 in
theorem ggX8_need_X0_write : GoodIn wsX8_need wsX0_write := goodIn_r _ [45, 46, 47, 48, 49, 50, 27, 51, 29, 199, 200, 198] (by decide +kernel) (by decide +kernel)
set_option maxRecDepth 20000 in
theorem gX8_need_X0_write : GoodIn wsX8_need (wsV RX8 80 RX0 yX0_write wsX0_write) := goodIn_app (goodIn_of _ (by decide +kernel)) ggX8_need_X0_write
set_option maxRecDepth 20000 in
theorem ggX8_need_X2_apply : GoodIn wsX8_need wsX2_apply := goodIn_r _ [56, 57, 58, 59, 60, 61, 62, 44, 63, 47, 64, 25, 26, 27, 28, 29, 65, 66, 67, 21, 68, 23, 69, 70, 37, 24, 38, 39, 40, 71, 49, 50, 51, 72, 73, 74, 75, 76, 77, 78, 79, 80, 81, 82, 83, 84, 85, 86, 87, 88, 89, 90, 91, 92, 93, 94, 95, 96, 97, 98, 99, 100, 101, 102, 103, 104, 105, 106, 107, 108, 109, 110, 111, 112, 113, 114, 115, 116, 117, 118, 119, 120, 121, 122, 123, 124, 125, 126, 127, 128, 129, 130, 131, 132, 133, 134, 135, 136, 137, 138, 139, 140, 141, 142, 143, 144, 145, 146, 147, 148, 149, 150, 151, 152, 153, 154, 55, 155, 156, 157, 158, 159, 160, 161, 162, 163, 164, 165, 166, 167, 168, 169, 170, 171, 172, 173, 174, 175, 176, 177, 178, 179, 180, 181, 182, 183, 184, 189, 190, 191, 199, 200, 198, 192, 193, 194, 195, 196, 197, 201, 202, 203, 204, 205, 206, 207, 208, 209, 210, 211, 212] (by decide +kernel) (by decide +kernel)
set_option maxRecDepth 20000 in
theorem gX8_need_X2_apply : GoodIn wsX8_need (wsV RX8 84 RX2 yX2_apply wsX2_apply) := goodIn_app (goodIn_of _ (by decide +kernel)) ggX8_need_X2_apply
theorem dX8_need_0 : decode cX8_need 0 = .ok (.iload_n 1, 1) := by decide +kernel
theorem dX8_need_1 : decode cX8_need 1 = .ok (.invokestatic 33, 3) := by decide +kernel
theorem dX8_need_4 : decode cX8_need 4 = .ok (.iload_n 3, 1) := by decide +kernel
theorem dX8_need_5 : decode cX8_need 5 = .ok (.invokestatic 33, 3) := by decide +kernel
theorem dX8_need_8 : decode cX8_need 8 = .ok (.aload_n 0, 1) := by decide +kernel
theorem dX8_need_9 : decode cX8_need 9 = .ok (.iload_n 1, 1) := by decide +kernel
theorem dX8_need_10 : decode cX8_need 10 = .ok (.iload_n 2, 1) := by decide +kernel
theorem dX8_need_11 : decode cX8_need 11 = .ok (.invokevirtual 63, 3) := by decide +kernel
theorem dX8_need_14 : decode cX8_need 14 = .ok (.iload_n 1, 1) := by decide +kernel
theorem dX8_need_15 : decode cX8_need 15 = .ok (.iload_n 3, 1) := by decide +kernel
theorem dX8_need_16 : decode cX8_need 16 = .ok (.if_icmp .ne 13, 3) := by decide +kernel
theorem dX8_need_19 : decode cX8_need 19 = .ok (.new 37, 3) := by decide +kernel
theorem dX8_need_22 : decode cX8_need 22 = .ok (.dup, 1) := by decide +kernel
theorem dX8_need_23 : decode cX8_need 23 = .ok (.ldc 67, 2) := by decide +kernel
theorem dX8_need_25 : decode cX8_need 25 = .ok (.invokespecial 41, 3) := by decide +kernel
theorem dX8_need_28 : decode cX8_need 28 = .ok (.athrow, 1) := by decide +kernel
theorem dX8_need_29 : decode cX8_need 29 = .ok (.iload 4, 2) := by decide +kernel
theorem dX8_need_31 : decode cX8_need 31 = .ok (.invokestatic 69, 3) := by decide +kernel
theorem dX8_need_34 : decode cX8_need 34 = .ok (.iload 5, 2) := by decide +kernel
theorem dX8_need_36 : decode cX8_need 36 = .ok (.iload 4, 2) := by decide +kernel
theorem dX8_need_38 : decode cX8_need 38 = .ok (.if_icmp .lt 9, 3) := by decide +kernel
theorem dX8_need_41 : decode cX8_need 41 = .ok (.iload 5, 2) := by decide +kernel
theorem dX8_need_43 : decode cX8_need 43 = .ok (.iconst 3, 1) := by decide +kernel
theorem dX8_need_44 : decode cX8_need 44 = .ok (.if_icmp .le 13, 3) := by decide +kernel
theorem dX8_need_47 : decode cX8_need 47 = .ok (.new 37, 3) := by decide +kernel
theorem dX8_need_50 : decode cX8_need 50 = .ok (.dup, 1) := by decide +kernel
theorem dX8_need_51 : decode cX8_need 51 = .ok (.ldc 72, 2) := by decide +kernel
theorem dX8_need_53 : decode cX8_need 53 = .ok (.invokespecial 41, 3) := by decide +kernel
theorem dX8_need_56 : decode cX8_need 56 = .ok (.athrow, 1) := by decide +kernel
theorem dX8_need_57 : decode cX8_need 57 = .ok (.aload_n 0, 1) := by decide +kernel
theorem dX8_need_58 : decode cX8_need 58 = .ok (.getfield 19, 3) := by decide +kernel
theorem dX8_need_61 : decode cX8_need 61 = .ok (.getfield 44, 3) := by decide +kernel
theorem dX8_need_64 : decode cX8_need 64 = .ok (.iload_n 1, 1) := by decide +kernel
theorem dX8_need_65 : decode cX8_need 65 = .ok (.iload_n 2, 1) := by decide +kernel
theorem dX8_need_66 : decode cX8_need 66 = .ok (.invokevirtual 74, 3) := by decide +kernel
theorem dX8_need_69 : decode cX8_need 69 = .ok (.iconst 4, 1) := by decide +kernel
theorem dX8_need_70 : decode cX8_need 70 = .ok (.if_icmp .lt 13, 3) := by decide +kernel
theorem dX8_need_73 : decode cX8_need 73 = .ok (.new 54, 3) := by decide +kernel
theorem dX8_need_76 : decode cX8_need 76 = .ok (.dup, 1) := by decide +kernel
theorem dX8_need_77 : decode cX8_need 77 = .ok (.ldc 78, 2) := by decide +kernel
theorem dX8_need_79 : decode cX8_need 79 = .ok (.invokespecial 58, 3) := by decide +kernel
theorem dX8_need_82 : decode cX8_need 82 = .ok (.athrow, 1) := by decide +kernel
theorem dX8_need_83 : decode cX8_need 83 = .ok (.aload_n 0, 1) := by decide +kernel
theorem dX8_need_84 : decode cX8_need 84 = .ok (.getfield 19, 3) := by decide +kernel
theorem dX8_need_87 : decode cX8_need 87 = .ok (.aload_n 0, 1) := by decide +kernel
theorem dX8_need_88 : decode cX8_need 88 = .ok (.getfield 10, 3) := by decide +kernel
theorem dX8_need_91 : decode cX8_need 91 = .ok (.aload_n 0, 1) := by decide +kernel
theorem dX8_need_92 : decode cX8_need 92 = .ok (.getfield 10, 3) := by decide +kernel
theorem dX8_need_95 : decode cX8_need 95 = .ok (.iconst 2, 1) := by decide +kernel
theorem dX8_need_96 : decode cX8_need 96 = .ok (.iload_n 1, 1) := by decide +kernel
theorem dX8_need_97 : decode cX8_need 97 = .ok (.iload_n 2, 1) := by decide +kernel
theorem dX8_need_98 : decode cX8_need 98 = .ok (.iload_n 3, 1) := by decide +kernel
theorem dX8_need_99 : decode cX8_need 99 = .ok (.iload 4, 2) := by decide +kernel
theorem dX8_need_101 : decode cX8_need 101 = .ok (.iload 5, 2) := by decide +kernel
theorem dX8_need_103 : decode cX8_need 103 = .ok (.invokevirtual 80, 3) := by decide +kernel
theorem dX8_need_106 : decode cX8_need 106 = .ok (.invokevirtual 84, 3) := by decide +kernel
theorem dX8_need_109 : decode cX8_need 109 = .ok (.ireturn, 1) := by decide +kernel
set_option maxRecDepth 20000 in
theorem ggX8_replace_X8_checkPart : GoodIn wsX8_replace wsX8_checkPart := goodIn_ca (goodIn_r _ [8, 9, 10] (by decide +kernel) (by decide +kernel)) (goodIn_sub (fun _ h => List.mem_cons_of_mem _ (List.mem_append_right _ h)) (by decide +kernel))
set_option maxRecDepth 20000 in
theorem gX8_replace_X8_checkPart : GoodIn wsX8_replace (va_wsS RX8 33 yX8_checkPart wsX8_checkPart) := goodIn_app (goodIn_of _ (by decide +kernel)) ggX8_replace_X8_checkPart
set_option maxRecDepth 20000 in
theorem ggX8_replace_X8_checkVersion : GoodIn wsX8_replace wsX8_checkVersion := goodIn_ca (goodIn_r _ [14, 9, 10, 3, 4, 15, 16, 17, 18, 19, 20, 21, 22, 23, 24, 25, 26, 184, 185, 186, 187, 188, 189, 190, 191, 192, 193, 194, 195, 196, 197] (by decide +kernel) (by decide +kernel)) (goodIn_sub (fun _ h => List.mem_cons_of_mem _ (List.mem_append_right _ h)) (by decide +kernel))
set_option maxRecDepth 20000 in
theorem gX8_replace_X8_checkVersion : GoodIn wsX8_replace (wsV RX8 63 RX8 yX8_checkVersion wsX8_checkVersion) := goodIn_app (goodIn_of _ (by decide +kernel)) ggX8_replace_X8_checkVersion
set_option maxRecDepth 20000 in
theorem ggX8_replace_X3_isReplaced : GoodIn wsX8_replace wsX3_isReplaced := goodIn_r _ [30, 31, 32, 33, 18, 34, 21, 22, 23, 24, 25, 26, 191, 192, 193, 194, 195, 196, 197] (by decide +kernel) (by decide +kernel)
set_option maxRecDepth 20000 in
theorem gX8_replace_X3_isReplaced : GoodIn wsX8_replace (wsV RX8 88 RX3 yX3_isReplaced wsX3_isReplaced) := goodIn_app (goodIn_of _ (by decide +kernel)) ggX8_replace_X3_isReplaced
set_option maxRecDepth 20000 in
theorem ggX8_replace_X8_tell : GoodIn wsX8_replace wsX8_tell := goodIn_r _ [38, 3, 39, 40, 41, 42, 43, 44, 45, 46, 47, 48, 49, 24, 50, 26, 51, 52, 53, 54, 55, 56, 57, 58, 59, 60, 61, 62, 63, 22, 23, 25, 64, 65, 66, 18, 67, 20, 68, 31, 69, 21, 32, 33, 34, 70, 71, 72, 73, 74, 75, 76, 77, 78, 79, 80, 81, 82, 83, 84, 85, 86, 87, 88, 89, 90, 91, 92, 93, 94, 95, 96, 97, 98, 99, 100, 101, 102, 103, 104, 105, 106, 107, 108, 109, 110, 111, 112, 113, 114, 115, 116, 117, 118, 119, 120, 121, 122, 123, 124, 125, 126, 127, 128, 129, 130, 131, 132, 133, 134, 135, 136, 137, 138, 139, 140, 141, 142, 143, 144, 145, 146, 147, 148, 149, 150, 151, 152, 153, 154, 155, 156, 157, 158, 159, 160, 161, 162, 163, 164, 165, 166, 167, 168, 169, 170, 171, 172, 173, 174, 175, 176, 177, 178, 179, 180, 181, 182, 183, 184, 185, 186, 187, 198, 199, 197, 188, 189, 190, 191, 192, 193, 194, 195, 196, 200, 201, 202, 203, 204, 205, 206, 207, 208, 209, 210, 211] (by decide +kernel) (by decide +kernel)
set_option maxRecDepth 20000 in
theorem gX8_replace_X8_tell : GoodIn wsX8_replace (wsV RX8 59 RX8 yX8_tell wsX8_tell) := goodIn_app (goodIn_of _ (by decide +kernel)) ggX8_replace_X8_tell
theorem dX8_replace_0 : decode cX8_replace 0 = .ok (.iload_n 1, 1) := by decide +kernel
theorem dX8_replace_1 : decode cX8_replace 1 = .ok (.invokestatic 33, 3) := by decide +kernel
theorem dX8_replace_4 : decode cX8_replace 4 = .ok (.aload_n 0, 1) := by decide +kernel
theorem dX8_replace_5 : decode cX8_replace 5 = .ok (.iload_n 1, 1) := by decide +kernel
theorem dX8_replace_6 : decode cX8_replace 6 = .ok (.iload_n 2, 1) := by decide +kernel
theorem dX8_replace_7 : decode cX8_replace 7 = .ok (.invokevirtual 63, 3) := by decide +kernel
theorem dX8_replace_10 : decode cX8_replace 10 = .ok (.aload_n 0, 1) := by decide +kernel
theorem dX8_replace_11 : decode cX8_replace 11 = .ok (.getfield 19, 3) := by decide +kernel
theorem dX8_replace_14 : decode cX8_replace 14 = .ok (.getfield 44, 3) := by decide +kernel
theorem dX8_replace_17 : decode cX8_replace 17 = .ok (.iload_n 1, 1) := by decide +kernel
theorem dX8_replace_18 : decode cX8_replace 18 = .ok (.iload_n 2, 1) := by decide +kernel
theorem dX8_replace_19 : decode cX8_replace 19 = .ok (.invokevirtual 88, 3) := by decide +kernel
theorem dX8_replace_22 : decode cX8_replace 22 = .ok (.ifCond .eq 13, 3) := by decide +kernel
theorem dX8_replace_25 : decode cX8_replace 25 = .ok (.new 54, 3) := by decide +kernel
theorem dX8_replace_28 : decode cX8_replace 28 = .ok (.dup, 1) := by decide +kernel
theorem dX8_replace_29 : decode cX8_replace 29 = .ok (.ldc 92, 2) := by decide +kernel
theorem dX8_replace_31 : decode cX8_replace 31 = .ok (.invokespecial 58, 3) := by decide +kernel
theorem dX8_replace_34 : decode cX8_replace 34 = .ok (.athrow, 1) := by decide +kernel
theorem dX8_replace_35 : decode cX8_replace 35 = .ok (.aload_n 0, 1) := by decide +kernel
theorem dX8_replace_36 : decode cX8_replace 36 = .ok (.iconst 3, 1) := by decide +kernel
theorem dX8_replace_37 : decode cX8_replace 37 = .ok (.iload_n 1, 1) := by decide +kernel
theorem dX8_replace_38 : decode cX8_replace 38 = .ok (.iload_n 2, 1) := by decide +kernel
theorem dX8_replace_39 : decode cX8_replace 39 = .ok (.iconst 0, 1) := by decide +kernel
theorem dX8_replace_40 : decode cX8_replace 40 = .ok (.invokevirtual 59, 3) := by decide +kernel
theorem dX8_replace_43 : decode cX8_replace 43 = .ok (.ireturn, 1) := by decide +kernel
set_option maxRecDepth 20000 in
theorem ggX8_request_X8_checkPerson : GoodIn wsX8_request wsX8_checkPerson := goodIn_ca (goodIn_r _ [8, 9, 10] (by decide +kernel) (by decide +kernel)) (goodIn_sub (fun _ h => List.mem_cons_of_mem _ (List.mem_append_left _ (List.mem_append_right _ h))) (by decide +kernel))
set_option maxRecDepth 20000 in
theorem gX8_request_X8_checkPerson : GoodIn wsX8_request (va_wsS RX8 94 yX8_checkPerson wsX8_checkPerson) := goodIn_app (goodIn_of _ (by decide +kernel)) ggX8_request_X8_checkPerson
set_option maxRecDepth 20000 in
theorem ggX8_request_X8_checkPart : GoodIn wsX8_request wsX8_checkPart := goodIn_ca (goodIn_r _ [13, 9, 10] (by decide +kernel) (by decide +kernel)) (goodIn_sub (fun _ h => List.mem_cons_of_mem _ (List.mem_append_left _ (List.mem_append_right _ h))) (by decide +kernel))
set_option maxRecDepth 20000 in
theorem gX8_request_X8_checkPart : GoodIn wsX8_request (va_wsS RX8 33 yX8_checkPart wsX8_checkPart) := goodIn_app (goodIn_of _ (by decide +kernel)) ggX8_request_X8_checkPart
set_option maxRecDepth 20000 in
theorem ggX8_request_X8_checkLeast : GoodIn wsX8_request wsX8_checkLeast := goodIn_ca (goodIn_r _ [16, 17, 18] (by decide +kernel) (by decide +kernel)) (goodIn_sub (fun _ h => List.mem_cons_of_mem _ (List.mem_append_right _ h)) (by decide +kernel))
set_option maxRecDepth 20000 in
theorem gX8_request_X8_checkLeast : GoodIn wsX8_request (va_wsS RX8 69 yX8_checkLeast wsX8_checkLeast) := goodIn_app (goodIn_of _ (by decide +kernel)) ggX8_request_X8_checkLeast
set_option maxRecDepth 20000 in
theorem ggX8_request_X5_count : GoodIn wsX8_request wsX5_count := goodIn_r _ [23, 24, 191, 192, 193, 194, 195, 196, 197, 198] (by decide +kernel) (by decide +kernel)
set_option maxRecDepth 20000 in
theorem gX8_request_X5_count : GoodIn wsX8_request (wsV RX8 101 RX5 yX5_count wsX5_count) := goodIn_app (goodIn_of _ (by decide +kernel)) ggX8_request_X5_count
set_option maxRecDepth 20000 in
theorem ggX8_request_X8_tell : GoodIn wsX8_request wsX8_tell := goodIn_r _ [28, 3, 29, 30, 31, 32, 33, 34, 35, 36, 37, 38, 39, 40, 41, 42, 43, 44, 45, 46, 47, 48, 49, 50, 51, 52, 53, 54, 55, 56, 57, 58, 59, 60, 61, 62, 63, 64, 65, 66, 67, 68, 69, 70, 71, 72, 73, 74, 75, 76, 77, 78, 79, 80, 81, 82, 83, 84, 85, 86, 87, 88, 89, 90, 91, 92, 93, 94, 22, 95, 24, 96, 97, 98, 99, 100, 101, 102, 103, 104, 105, 106, 107, 108, 109, 110, 111, 112, 113, 114, 115, 116, 117, 118, 119, 120, 121, 122, 123, 124, 125, 126, 127, 128, 129, 130, 131, 132, 133, 134, 135, 136, 137, 138, 139, 140, 141, 142, 143, 144, 145, 146, 147, 148, 149, 150, 151, 152, 153, 154, 155, 156, 157, 158, 159, 160, 161, 162, 163, 164, 165, 166, 167, 168, 169, 170, 171, 172, 173, 174, 175, 176, 177, 178, 179, 180, 181, 182, 183, 184, 185, 186, 187, 199, 200, 201, 188, 189, 190, 202, 203, 204, 205, 206, 207, 208, 209, 210, 211, 191, 192, 193, 194, 195, 196, 197, 198] (by decide +kernel) (by decide +kernel)
set_option maxRecDepth 20000 in
theorem gX8_request_X8_tell : GoodIn wsX8_request (wsV RX8 59 RX8 yX8_tell wsX8_tell) := goodIn_app (goodIn_of _ (by decide +kernel)) ggX8_request_X8_tell
theorem dX8_request_0 : decode cX8_request 0 = .ok (.iload_n 1, 1) := by decide +kernel
theorem dX8_request_1 : decode cX8_request 1 = .ok (.invokestatic 94, 3) := by decide +kernel
theorem dX8_request_4 : decode cX8_request 4 = .ok (.iload_n 2, 1) := by decide +kernel
theorem dX8_request_5 : decode cX8_request 5 = .ok (.invokestatic 33, 3) := by decide +kernel
theorem dX8_request_8 : decode cX8_request 8 = .ok (.iload_n 3, 1) := by decide +kernel
theorem dX8_request_9 : decode cX8_request 9 = .ok (.invokestatic 69, 3) := by decide +kernel
theorem dX8_request_12 : decode cX8_request 12 = .ok (.aload_n 0, 1) := by decide +kernel
theorem dX8_request_13 : decode cX8_request 13 = .ok (.getfield 19, 3) := by decide +kernel
theorem dX8_request_16 : decode cX8_request 16 = .ok (.getfield 97, 3) := by decide +kernel
theorem dX8_request_19 : decode cX8_request 19 = .ok (.invokevirtual 101, 3) := by decide +kernel
theorem dX8_request_22 : decode cX8_request 22 = .ok (.bipush 30, 2) := by decide +kernel
theorem dX8_request_24 : decode cX8_request 24 = .ok (.if_icmp .lt 13, 3) := by decide +kernel
theorem dX8_request_27 : decode cX8_request 27 = .ok (.new 54, 3) := by decide +kernel
theorem dX8_request_30 : decode cX8_request 30 = .ok (.dup, 1) := by decide +kernel
theorem dX8_request_31 : decode cX8_request 31 = .ok (.ldc 107, 2) := by decide +kernel
theorem dX8_request_33 : decode cX8_request 33 = .ok (.invokespecial 58, 3) := by decide +kernel
theorem dX8_request_36 : decode cX8_request 36 = .ok (.athrow, 1) := by decide +kernel
theorem dX8_request_37 : decode cX8_request 37 = .ok (.aload_n 0, 1) := by decide +kernel
theorem dX8_request_38 : decode cX8_request 38 = .ok (.iconst 4, 1) := by decide +kernel
theorem dX8_request_39 : decode cX8_request 39 = .ok (.iload_n 1, 1) := by decide +kernel
theorem dX8_request_40 : decode cX8_request 40 = .ok (.iload_n 2, 1) := by decide +kernel
theorem dX8_request_41 : decode cX8_request 41 = .ok (.iload_n 3, 1) := by decide +kernel
theorem dX8_request_42 : decode cX8_request 42 = .ok (.invokevirtual 59, 3) := by decide +kernel
theorem dX8_request_45 : decode cX8_request 45 = .ok (.ireturn, 1) := by decide +kernel
set_option maxRecDepth 20000 in
theorem ggX8_resolve_X8_checkRequest : GoodIn wsX8_resolve wsX8_checkRequest := goodIn_ca (goodIn_r _ [11, 12, 13, 3, 4, 14, 15, 16, 17, 18, 19, 238, 239, 240, 241, 242, 243, 244, 245, 246, 247, 248, 249, 250, 251, 252] (by decide +kernel) (by decide +kernel)) (goodIn_sub (fun _ h => List.mem_cons_of_mem _ (List.mem_append_right _ h)) (by decide +kernel))
set_option maxRecDepth 20000 in
theorem gX8_resolve_X8_checkRequest : GoodIn wsX8_resolve (wsV RX8 109 RX8 yX8_checkRequest wsX8_checkRequest) := goodIn_app (goodIn_of _ (by decide +kernel)) ggX8_resolve_X8_checkRequest
set_option maxRecDepth 20000 in
theorem ggX8_resolve_X5_stateOf : GoodIn wsX8_resolve wsX5_stateOf := goodIn_r _ [23, 24, 25, 26, 27, 28, 29, 30, 245, 246, 247, 248, 249, 250, 251, 252, 253] (by decide +kernel) (by decide +kernel)
set_option maxRecDepth 20000 in
theorem gX8_resolve_X5_stateOf : GoodIn wsX8_resolve (wsV RX8 112 RX5 yX5_stateOf wsX5_stateOf) := goodIn_app (goodIn_of _ (by decide +kernel)) ggX8_resolve_X5_stateOf
set_option maxRecDepth 20000 in
theorem ggX8_resolve_X5_partOf : GoodIn wsX8_resolve wsX5_partOf := goodIn_r _ [34, 35, 25, 26, 27, 28, 29, 30, 245, 246, 247, 248, 249, 250, 251, 252, 253] (by decide +kernel) (by decide +kernel)
set_option maxRecDepth 20000 in
theorem gX8_resolve_X5_partOf : GoodIn wsX8_resolve (wsV RX8 117 RX5 yX5_partOf wsX5_partOf) := goodIn_app (goodIn_of _ (by decide +kernel)) ggX8_resolve_X5_partOf
set_option maxRecDepth 20000 in
theorem ggX8_resolve_X5_leastOf : GoodIn wsX8_resolve wsX5_leastOf := goodIn_r _ [39, 40, 25, 26, 27, 28, 29, 30, 245, 246, 247, 248, 249, 250, 251, 252, 253] (by decide +kernel) (by decide +kernel)
set_option maxRecDepth 20000 in
theorem gX8_resolve_X5_leastOf : GoodIn wsX8_resolve (wsV RX8 120 RX5 yX5_leastOf wsX5_leastOf) := goodIn_app (goodIn_of _ (by decide +kernel)) ggX8_resolve_X5_leastOf
set_option maxRecDepth 20000 in
theorem ggX8_resolve_X7_find : GoodIn wsX8_resolve wsX7_find := goodIn_r _ [45, 46, 47, 48, 49, 50, 51, 52, 53, 54, 55, 56, 26, 27, 28, 29, 30, 57, 58, 59, 60, 61, 62, 63, 64, 65, 66, 67, 68, 69, 70, 71, 72, 73, 74, 75, 76, 44, 77, 78, 79, 80, 81, 82, 83, 84, 85, 86, 87, 88, 89, 90, 91, 92, 93, 94, 95, 96, 97, 98, 99, 100, 101, 102, 103, 104, 254, 255, 256, 257, 258, 259, 260, 261, 262, 263, 253] (by decide +kernel) (by decide +kernel)
set_option maxRecDepth 20000 in
theorem gX8_resolve_X7_find : GoodIn wsX8_resolve (wsV RX8 123 RX7 yX7_find wsX7_find) := goodIn_app (goodIn_of _ (by decide +kernel)) ggX8_resolve_X7_find
set_option maxRecDepth 20000 in
theorem ggX8_resolve_X8_tell : GoodIn wsX8_resolve wsX8_tell := goodIn_r _ [108, 3, 109, 110, 111, 112, 113, 114, 115, 116, 117, 69, 70, 28, 71, 30, 118, 119, 120, 121, 122, 123, 124, 125, 126, 127, 128, 129, 130, 26, 27, 29, 131, 132, 133, 53, 134, 55, 135, 61, 86, 56, 62, 63, 64, 136, 137, 138, 139, 140, 91, 96, 65, 66, 67, 141, 142, 143, 144, 145, 146, 147, 148, 149, 150, 151, 152, 153, 17, 154, 19, 155, 24, 25, 156, 157, 103, 158, 159, 160, 161, 162, 163, 164, 165, 166, 167, 168, 169, 170, 171, 172, 173, 174, 175, 176, 177, 178, 179, 180, 181, 182, 35, 40, 183, 184, 185, 186, 187, 188, 189, 190, 191, 192, 193, 194, 195, 196, 197, 198, 199, 200, 201, 202, 203, 204, 205, 206, 207, 208, 209, 210, 211, 212, 213, 214, 215, 216, 217, 218, 219, 220, 221, 222, 223, 224, 225, 226, 227, 228, 229, 230, 231, 232, 233, 234, 235, 236, 237, 238, 239, 240, 241, 264, 265, 253, 242, 243, 244, 258, 259, 260, 261, 262, 263, 266, 267, 268, 269, 245, 246, 247, 248, 249, 250, 251, 252] (by decide +kernel) (by decide +kernel)
set_option maxRecDepth 20000 in
theorem gX8_resolve_X8_tell : GoodIn wsX8_resolve (wsV RX8 59 RX8 yX8_tell wsX8_tell) := goodIn_app (goodIn_of _ (by decide +kernel)) ggX8_resolve_X8_tell
theorem dX8_resolve_0 : decode cX8_resolve 0 = .ok (.aload_n 0, 1) := by decide +kernel
theorem dX8_resolve_1 : decode cX8_resolve 1 = .ok (.iload_n 1, 1) := by decide +kernel
theorem dX8_resolve_2 : decode cX8_resolve 2 = .ok (.invokevirtual 109, 3) := by decide +kernel
theorem dX8_resolve_5 : decode cX8_resolve 5 = .ok (.aload_n 0, 1) := by decide +kernel
theorem dX8_resolve_6 : decode cX8_resolve 6 = .ok (.getfield 19, 3) := by decide +kernel
theorem dX8_resolve_9 : decode cX8_resolve 9 = .ok (.getfield 97, 3) := by decide +kernel
theorem dX8_resolve_12 : decode cX8_resolve 12 = .ok (.iload_n 1, 1) := by decide +kernel
theorem dX8_resolve_13 : decode cX8_resolve 13 = .ok (.invokevirtual 112, 3) := by decide +kernel
theorem dX8_resolve_16 : decode cX8_resolve 16 = .ok (.iconst 2, 1) := by decide +kernel
theorem dX8_resolve_17 : decode cX8_resolve 17 = .ok (.if_icmp .ne 13, 3) := by decide +kernel
theorem dX8_resolve_20 : decode cX8_resolve 20 = .ok (.new 54, 3) := by decide +kernel
theorem dX8_resolve_23 : decode cX8_resolve 23 = .ok (.dup, 1) := by decide +kernel
theorem dX8_resolve_24 : decode cX8_resolve 24 = .ok (.ldc 115, 2) := by decide +kernel
theorem dX8_resolve_26 : decode cX8_resolve 26 = .ok (.invokespecial 58, 3) := by decide +kernel
theorem dX8_resolve_29 : decode cX8_resolve 29 = .ok (.athrow, 1) := by decide +kernel
theorem dX8_resolve_30 : decode cX8_resolve 30 = .ok (.aload_n 0, 1) := by decide +kernel
theorem dX8_resolve_31 : decode cX8_resolve 31 = .ok (.getfield 29, 3) := by decide +kernel
theorem dX8_resolve_34 : decode cX8_resolve 34 = .ok (.aload_n 0, 1) := by decide +kernel
theorem dX8_resolve_35 : decode cX8_resolve 35 = .ok (.getfield 19, 3) := by decide +kernel
theorem dX8_resolve_38 : decode cX8_resolve 38 = .ok (.getfield 44, 3) := by decide +kernel
theorem dX8_resolve_41 : decode cX8_resolve 41 = .ok (.aload_n 0, 1) := by decide +kernel
theorem dX8_resolve_42 : decode cX8_resolve 42 = .ok (.getfield 19, 3) := by decide +kernel
theorem dX8_resolve_45 : decode cX8_resolve 45 = .ok (.getfield 97, 3) := by decide +kernel
theorem dX8_resolve_48 : decode cX8_resolve 48 = .ok (.iload_n 1, 1) := by decide +kernel
theorem dX8_resolve_49 : decode cX8_resolve 49 = .ok (.invokevirtual 117, 3) := by decide +kernel
theorem dX8_resolve_52 : decode cX8_resolve 52 = .ok (.aload_n 0, 1) := by decide +kernel
theorem dX8_resolve_53 : decode cX8_resolve 53 = .ok (.getfield 19, 3) := by decide +kernel
theorem dX8_resolve_56 : decode cX8_resolve 56 = .ok (.getfield 97, 3) := by decide +kernel
theorem dX8_resolve_59 : decode cX8_resolve 59 = .ok (.iload_n 1, 1) := by decide +kernel
theorem dX8_resolve_60 : decode cX8_resolve 60 = .ok (.invokevirtual 120, 3) := by decide +kernel
theorem dX8_resolve_63 : decode cX8_resolve 63 = .ok (.invokevirtual 123, 3) := by decide +kernel
theorem dX8_resolve_66 : decode cX8_resolve 66 = .ok (.istore_n 2, 1) := by decide +kernel
theorem dX8_resolve_67 : decode cX8_resolve 67 = .ok (.iload_n 2, 1) := by decide +kernel
theorem dX8_resolve_68 : decode cX8_resolve 68 = .ok (.ifCond .ne 5, 3) := by decide +kernel
theorem dX8_resolve_71 : decode cX8_resolve 71 = .ok (.iconst (-1), 1) := by decide +kernel
theorem dX8_resolve_72 : decode cX8_resolve 72 = .ok (.ireturn, 1) := by decide +kernel
theorem dX8_resolve_73 : decode cX8_resolve 73 = .ok (.aload_n 0, 1) := by decide +kernel
theorem dX8_resolve_74 : decode cX8_resolve 74 = .ok (.iconst 5, 1) := by decide +kernel
theorem dX8_resolve_75 : decode cX8_resolve 75 = .ok (.iload_n 1, 1) := by decide +kernel
theorem dX8_resolve_76 : decode cX8_resolve 76 = .ok (.iload_n 2, 1) := by decide +kernel
theorem dX8_resolve_77 : decode cX8_resolve 77 = .ok (.iconst 0, 1) := by decide +kernel
theorem dX8_resolve_78 : decode cX8_resolve 78 = .ok (.invokevirtual 59, 3) := by decide +kernel
theorem dX8_resolve_81 : decode cX8_resolve 81 = .ok (.ireturn, 1) := by decide +kernel
set_option maxRecDepth 20000 in
theorem ggX8_chosen_X8_checkRequest : GoodIn wsX8_chosen wsX8_checkRequest := goodIn_ca (goodIn_r _ [7, 8, 9, 1, 2, 10, 11, 12, 13, 14, 15, 34, 35, 36, 37, 38, 39, 40, 41, 42, 43, 44, 45, 46, 47, 48] (by decide +kernel) (by decide +kernel)) (goodIn_sub (fun _ h => List.mem_cons_of_mem _ (List.mem_append_right _ h)) (by decide +kernel))
set_option maxRecDepth 20000 in
theorem gX8_chosen_X8_checkRequest : GoodIn wsX8_chosen (wsV RX8 109 RX8 yX8_checkRequest wsX8_checkRequest) := goodIn_app (goodIn_of _ (by decide +kernel)) ggX8_chosen_X8_checkRequest
set_option maxRecDepth 20000 in
theorem ggX8_chosen_X8_checkPart : GoodIn wsX8_chosen wsX8_checkPart := goodIn_ca (goodIn_r _ [18, 8, 9] (by decide +kernel) (by decide +kernel)) (goodIn_sub (fun _ h => List.mem_cons_of_mem _ (List.mem_append_right _ h)) (by decide +kernel))
set_option maxRecDepth 20000 in
theorem gX8_chosen_X8_checkPart : GoodIn wsX8_chosen (va_wsS RX8 33 yX8_checkPart wsX8_checkPart) := goodIn_app (goodIn_of _ (by decide +kernel)) ggX8_chosen_X8_checkPart
set_option maxRecDepth 20000 in
theorem ggX8_chosen_X5_choiceOf : GoodIn wsX8_chosen wsX5_choiceOf := goodIn_r _ [22, 23, 24, 25, 26, 27, 28, 29, 41, 42, 43, 44, 45, 46, 47, 48, 49] (by decide +kernel) (by decide +kernel)
set_option maxRecDepth 20000 in
theorem gX8_chosen_X5_choiceOf : GoodIn wsX8_chosen (wsV RX8 127 RX5 yX5_choiceOf wsX5_choiceOf) := goodIn_app (goodIn_of _ (by decide +kernel)) ggX8_chosen_X5_choiceOf
set_option maxRecDepth 20000 in
theorem ggX8_chosen_X1_versionOf : GoodIn wsX8_chosen wsX1_versionOf := goodIn_r _ [33] (by decide +kernel) (by decide +kernel)
set_option maxRecDepth 20000 in
theorem gX8_chosen_X1_versionOf : GoodIn wsX8_chosen (va_wsS RX8 130 yX1_versionOf wsX1_versionOf) := goodIn_app (goodIn_of _ (by decide +kernel)) ggX8_chosen_X1_versionOf
theorem dX8_chosen_0 : decode cX8_chosen 0 = .ok (.aload_n 0, 1) := by decide +kernel
theorem dX8_chosen_1 : decode cX8_chosen 1 = .ok (.iload_n 1, 1) := by decide +kernel
theorem dX8_chosen_2 : decode cX8_chosen 2 = .ok (.invokevirtual 109, 3) := by decide +kernel
theorem dX8_chosen_5 : decode cX8_chosen 5 = .ok (.iload_n 2, 1) := by decide +kernel
theorem dX8_chosen_6 : decode cX8_chosen 6 = .ok (.invokestatic 33, 3) := by decide +kernel
theorem dX8_chosen_9 : decode cX8_chosen 9 = .ok (.aload_n 0, 1) := by decide +kernel
theorem dX8_chosen_10 : decode cX8_chosen 10 = .ok (.getfield 19, 3) := by decide +kernel
theorem dX8_chosen_13 : decode cX8_chosen 13 = .ok (.getfield 97, 3) := by decide +kernel
theorem dX8_chosen_16 : decode cX8_chosen 16 = .ok (.iload_n 1, 1) := by decide +kernel
theorem dX8_chosen_17 : decode cX8_chosen 17 = .ok (.invokevirtual 127, 3) := by decide +kernel
theorem dX8_chosen_20 : decode cX8_chosen 20 = .ok (.iload_n 2, 1) := by decide +kernel
theorem dX8_chosen_21 : decode cX8_chosen 21 = .ok (.invokestatic 130, 3) := by decide +kernel
theorem dX8_chosen_24 : decode cX8_chosen 24 = .ok (.istore_n 3, 1) := by decide +kernel
theorem dX8_chosen_25 : decode cX8_chosen 25 = .ok (.iload_n 3, 1) := by decide +kernel
theorem dX8_chosen_26 : decode cX8_chosen 26 = .ok (.ifCond .ne 7, 3) := by decide +kernel
theorem dX8_chosen_29 : decode cX8_chosen 29 = .ok (.iconst (-1), 1) := by decide +kernel
theorem dX8_chosen_30 : decode cX8_chosen 30 = .ok (.goto 4, 3) := by decide +kernel
theorem dX8_chosen_33 : decode cX8_chosen 33 = .ok (.iload_n 3, 1) := by decide +kernel
theorem dX8_chosen_34 : decode cX8_chosen 34 = .ok (.ireturn, 1) := by decide +kernel
set_option maxRecDepth 20000 in
theorem ggX8_limit_X8_checkPerson : GoodIn wsX8_limit wsX8_checkPerson := goodIn_ca (goodIn_r _ [6, 7, 8] (by decide +kernel) (by decide +kernel)) (goodIn_sub (fun _ h => List.mem_cons_of_mem _ (List.mem_append_right _ h)) (by decide +kernel))
set_option maxRecDepth 20000 in
theorem gX8_limit_X8_checkPerson : GoodIn wsX8_limit (va_wsS RX8 94 yX8_checkPerson wsX8_checkPerson) := goodIn_app (goodIn_of _ (by decide +kernel)) ggX8_limit_X8_checkPerson
set_option maxRecDepth 20000 in
theorem ggX8_limit_X8_tell : GoodIn wsX8_limit wsX8_tell := goodIn_r _ [12, 13, 14, 15, 16, 17, 18, 19, 20, 21, 22, 23, 24, 25, 26, 27, 28, 29, 30, 31, 32, 33, 34, 35, 36, 37, 38, 39, 40, 41, 42, 43, 44, 45, 46, 47, 48, 49, 50, 51, 52, 53, 54, 55, 56, 57, 58, 59, 60, 61, 62, 63, 64, 65, 66, 67, 68, 69, 70, 71, 72, 73, 74, 75, 76, 77, 78, 79, 80, 81, 82, 83, 84, 85, 86, 87, 88, 89, 90, 91, 92, 93, 94, 95, 96, 97, 98, 99, 100, 101, 102, 103, 104, 105, 106, 107, 108, 109, 110, 111, 112, 113, 114, 115, 116, 117, 118, 119, 120, 121, 122, 123, 124, 125, 126, 127, 128, 129, 130, 131, 132, 133, 134, 135, 136, 137, 138, 139, 140, 141, 142, 143, 144, 145, 146, 147, 148, 149, 150, 151, 152, 153, 154, 155, 156, 157, 158, 159, 160, 161, 162, 163, 164, 165, 166, 167, 168, 169, 170, 171, 172, 173, 174, 175, 176, 177, 178, 179, 180, 181, 182, 183, 184, 185, 186, 187, 188, 189, 190, 191, 192, 193, 194, 195, 196, 197, 198] (by decide +kernel) (by decide +kernel)
set_option maxRecDepth 20000 in
theorem gX8_limit_X8_tell : GoodIn wsX8_limit (wsV RX8 59 RX8 yX8_tell wsX8_tell) := goodIn_app (goodIn_of _ (by decide +kernel)) ggX8_limit_X8_tell
theorem dX8_limit_0 : decode cX8_limit 0 = .ok (.iload_n 1, 1) := by decide +kernel
theorem dX8_limit_1 : decode cX8_limit 1 = .ok (.invokestatic 94, 3) := by decide +kernel
theorem dX8_limit_4 : decode cX8_limit 4 = .ok (.iload_n 2, 1) := by decide +kernel
theorem dX8_limit_5 : decode cX8_limit 5 = .ok (.ifCond .lt 10, 3) := by decide +kernel
theorem dX8_limit_8 : decode cX8_limit 8 = .ok (.iload_n 2, 1) := by decide +kernel
theorem dX8_limit_9 : decode cX8_limit 9 = .ok (.sipush 10000, 3) := by decide +kernel
theorem dX8_limit_12 : decode cX8_limit 12 = .ok (.if_icmp .le 13, 3) := by decide +kernel
theorem dX8_limit_15 : decode cX8_limit 15 = .ok (.new 37, 3) := by decide +kernel
theorem dX8_limit_18 : decode cX8_limit 18 = .ok (.dup, 1) := by decide +kernel
theorem dX8_limit_19 : decode cX8_limit 19 = .ok (.ldc 135, 2) := by decide +kernel
theorem dX8_limit_21 : decode cX8_limit 21 = .ok (.invokespecial 41, 3) := by decide +kernel
theorem dX8_limit_24 : decode cX8_limit 24 = .ok (.athrow, 1) := by decide +kernel
theorem dX8_limit_25 : decode cX8_limit 25 = .ok (.aload_n 0, 1) := by decide +kernel
theorem dX8_limit_26 : decode cX8_limit 26 = .ok (.bipush 6, 2) := by decide +kernel
theorem dX8_limit_28 : decode cX8_limit 28 = .ok (.iload_n 1, 1) := by decide +kernel
theorem dX8_limit_29 : decode cX8_limit 29 = .ok (.iload_n 2, 1) := by decide +kernel
theorem dX8_limit_30 : decode cX8_limit 30 = .ok (.iconst 0, 1) := by decide +kernel
theorem dX8_limit_31 : decode cX8_limit 31 = .ok (.invokevirtual 59, 3) := by decide +kernel
theorem dX8_limit_34 : decode cX8_limit 34 = .ok (.ireturn, 1) := by decide +kernel
set_option maxRecDepth 20000 in
theorem ggX8_leave_X8_checkPerson : GoodIn wsX8_leave wsX8_checkPerson := goodIn_ca (goodIn_r _ [6, 7, 8] (by decide +kernel) (by decide +kernel)) (goodIn_sub (fun _ h => List.mem_cons_of_mem _ (List.mem_append_right _ h)) (by decide +kernel))
set_option maxRecDepth 20000 in
theorem gX8_leave_X8_checkPerson : GoodIn wsX8_leave (va_wsS RX8 94 yX8_checkPerson wsX8_checkPerson) := goodIn_app (goodIn_of _ (by decide +kernel)) ggX8_leave_X8_checkPerson
set_option maxRecDepth 20000 in
theorem ggX8_leave_X8_checkDays : GoodIn wsX8_leave wsX8_checkDays := goodIn_ca (goodIn_r _ [11, 1, 2] (by decide +kernel) (by decide +kernel)) (goodIn_sub (fun _ h => List.mem_cons_of_mem _ (List.mem_append_left _ (List.mem_append_right _ h))) (by decide +kernel))
set_option maxRecDepth 20000 in
theorem gX8_leave_X8_checkDays : GoodIn wsX8_leave (va_wsS RX8 139 yX8_checkDays wsX8_checkDays) := goodIn_app (goodIn_of _ (by decide +kernel)) ggX8_leave_X8_checkDays
set_option maxRecDepth 20000 in
theorem ggX8_leave_X8_tell : GoodIn wsX8_leave wsX8_tell := goodIn_r _ [15, 16, 17, 18, 19, 20, 21, 22, 23, 24, 25, 26, 27, 28, 29, 30, 31, 32, 33, 34, 35, 36, 37, 38, 39, 40, 41, 42, 43, 44, 45, 46, 47, 48, 49, 50, 51, 52, 53, 54, 55, 56, 57, 58, 59, 60, 61, 62, 63, 64, 65, 66, 67, 68, 69, 70, 71, 72, 73, 74, 75, 76, 77, 78, 79, 80, 81, 82, 83, 84, 85, 86, 87, 88, 89, 90, 91, 92, 93, 94, 95, 96, 97, 98, 99, 100, 101, 102, 103, 104, 105, 106, 107, 108, 109, 110, 111, 112, 113, 114, 115, 116, 117, 118, 119, 120, 121, 122, 123, 124, 125, 126, 127, 128, 129, 130, 131, 132, 133, 134, 135, 136, 137, 138, 139, 140, 141, 142, 143, 144, 145, 146, 147, 148, 149, 150, 151, 152, 153, 154, 155, 156, 157, 158, 159, 160, 161, 162, 163, 164, 165, 166, 167, 168, 169, 170, 171, 172, 173, 174, 175, 176, 177, 178, 179, 180, 181, 182, 183, 184, 185, 186, 187, 188, 189, 190, 191, 192, 193, 194, 195, 196, 197, 198, 199, 200, 201] (by decide +kernel) (by decide +kernel)
set_option maxRecDepth 20000 in
theorem gX8_leave_X8_tell : GoodIn wsX8_leave (wsV RX8 59 RX8 yX8_tell wsX8_tell) := goodIn_app (goodIn_of _ (by decide +kernel)) ggX8_leave_X8_tell
theorem dX8_leave_0 : decode cX8_leave 0 = .ok (.iload_n 1, 1) := by decide +kernel
theorem dX8_leave_1 : decode cX8_leave 1 = .ok (.invokestatic 94, 3) := by decide +kernel
theorem dX8_leave_4 : decode cX8_leave 4 = .ok (.iload_n 2, 1) := by decide +kernel
theorem dX8_leave_5 : decode cX8_leave 5 = .ok (.invokestatic 94, 3) := by decide +kernel
theorem dX8_leave_8 : decode cX8_leave 8 = .ok (.iload_n 1, 1) := by decide +kernel
theorem dX8_leave_9 : decode cX8_leave 9 = .ok (.iload_n 2, 1) := by decide +kernel
theorem dX8_leave_10 : decode cX8_leave 10 = .ok (.if_icmp .ne 13, 3) := by decide +kernel
theorem dX8_leave_13 : decode cX8_leave 13 = .ok (.new 37, 3) := by decide +kernel
theorem dX8_leave_16 : decode cX8_leave 16 = .ok (.dup, 1) := by decide +kernel
theorem dX8_leave_17 : decode cX8_leave 17 = .ok (.ldc 137, 2) := by decide +kernel
theorem dX8_leave_19 : decode cX8_leave 19 = .ok (.invokespecial 41, 3) := by decide +kernel
theorem dX8_leave_22 : decode cX8_leave 22 = .ok (.athrow, 1) := by decide +kernel
theorem dX8_leave_23 : decode cX8_leave 23 = .ok (.iload_n 3, 1) := by decide +kernel
theorem dX8_leave_24 : decode cX8_leave 24 = .ok (.invokestatic 139, 3) := by decide +kernel
theorem dX8_leave_27 : decode cX8_leave 27 = .ok (.aload_n 0, 1) := by decide +kernel
theorem dX8_leave_28 : decode cX8_leave 28 = .ok (.bipush 7, 2) := by decide +kernel
theorem dX8_leave_30 : decode cX8_leave 30 = .ok (.iload_n 1, 1) := by decide +kernel
theorem dX8_leave_31 : decode cX8_leave 31 = .ok (.iload_n 2, 1) := by decide +kernel
theorem dX8_leave_32 : decode cX8_leave 32 = .ok (.iload_n 3, 1) := by decide +kernel
theorem dX8_leave_33 : decode cX8_leave 33 = .ok (.invokevirtual 59, 3) := by decide +kernel
theorem dX8_leave_36 : decode cX8_leave 36 = .ok (.ireturn, 1) := by decide +kernel
set_option maxRecDepth 20000 in
theorem ggX8_approve_X8_checkRequest : GoodIn wsX8_approve wsX8_checkRequest := goodIn_ca (goodIn_r _ [8, 9, 10, 3, 11, 12, 13, 14, 15, 16, 17, 193, 194, 195, 196, 197, 198, 199, 200, 201, 202, 203, 204, 205, 206, 207] (by decide +kernel) (by decide +kernel)) (goodIn_sub (fun _ h => List.mem_cons_of_mem _ (List.mem_append_right _ h)) (by decide +kernel))
set_option maxRecDepth 20000 in
theorem gX8_approve_X8_checkRequest : GoodIn wsX8_approve (wsV RX8 109 RX8 yX8_checkRequest wsX8_checkRequest) := goodIn_app (goodIn_of _ (by decide +kernel)) ggX8_approve_X8_checkRequest
set_option maxRecDepth 20000 in
theorem ggX8_approve_X8_checkPerson : GoodIn wsX8_approve wsX8_checkPerson := goodIn_ca (goodIn_r _ [20, 9, 10] (by decide +kernel) (by decide +kernel)) (goodIn_sub (fun _ h => List.mem_cons_of_mem _ (List.mem_append_right _ h)) (by decide +kernel))
set_option maxRecDepth 20000 in
theorem gX8_approve_X8_checkPerson : GoodIn wsX8_approve (va_wsS RX8 94 yX8_checkPerson wsX8_checkPerson) := goodIn_app (goodIn_of _ (by decide +kernel)) ggX8_approve_X8_checkPerson
set_option maxRecDepth 20000 in
theorem ggX8_approve_X2_principalFor : GoodIn wsX8_approve wsX2_principalFor := goodIn_r _ [25, 26, 27, 28, 29, 30, 15, 31, 32, 33, 34, 35, 36, 37, 38, 39, 40, 41, 42, 43, 44, 45, 46, 47, 48, 49, 50, 51, 52, 53, 54, 55, 56, 57, 58, 59, 60, 61, 62, 63, 64, 65, 66, 67, 68, 69, 70, 71, 197, 198, 199, 200, 201, 202, 203, 204, 205, 206, 207, 208, 209, 210, 211, 212] (by decide +kernel) (by decide +kernel)
set_option maxRecDepth 20000 in
theorem gX8_approve_X2_principalFor : GoodIn wsX8_approve (wsV RX8 142 RX2 yX2_principalFor wsX2_principalFor) := goodIn_app (goodIn_of _ (by decide +kernel)) ggX8_approve_X2_principalFor
set_option maxRecDepth 20000 in
theorem ggX8_approve_X8_tell : GoodIn wsX8_approve wsX8_tell := goodIn_r _ [75, 3, 76, 77, 78, 79, 80, 81, 82, 83, 84, 85, 86, 36, 87, 38, 88, 89, 90, 24, 91, 92, 26, 27, 93, 94, 95, 96, 97, 34, 35, 37, 98, 99, 100, 101, 102, 103, 104, 105, 106, 107, 108, 109, 110, 111, 112, 113, 114, 115, 116, 117, 118, 119, 120, 121, 122, 123, 124, 44, 45, 46, 47, 48, 49, 125, 126, 127, 15, 128, 17, 129, 32, 33, 130, 131, 132, 133, 134, 135, 136, 137, 138, 51, 52, 53, 54, 139, 140, 141, 142, 143, 144, 145, 146, 147, 59, 148, 149, 150, 151, 43, 152, 153, 154, 155, 156, 157, 158, 159, 160, 161, 162, 163, 164, 165, 166, 64, 71, 167, 168, 169, 170, 171, 65, 70, 172, 173, 174, 175, 176, 55, 56, 57, 58, 60, 61, 62, 63, 66, 67, 68, 69, 177, 178, 179, 180, 181, 182, 183, 184, 185, 186, 187, 188, 189, 190, 191, 192, 193, 194, 195, 196, 213, 214, 208, 197, 198, 199, 215, 216, 217, 218, 219, 220, 209, 210, 211, 212, 200, 201, 202, 203, 204, 205, 206, 207] (by decide +kernel) (by decide +kernel)
set_option maxRecDepth 20000 in
theorem gX8_approve_X8_tell : GoodIn wsX8_approve (wsV RX8 59 RX8 yX8_tell wsX8_tell) := goodIn_app (goodIn_of _ (by decide +kernel)) ggX8_approve_X8_tell
theorem dX8_approve_0 : decode cX8_approve 0 = .ok (.aload_n 0, 1) := by decide +kernel
theorem dX8_approve_1 : decode cX8_approve 1 = .ok (.iload_n 1, 1) := by decide +kernel
theorem dX8_approve_2 : decode cX8_approve 2 = .ok (.invokevirtual 109, 3) := by decide +kernel
theorem dX8_approve_5 : decode cX8_approve 5 = .ok (.iload_n 2, 1) := by decide +kernel
theorem dX8_approve_6 : decode cX8_approve 6 = .ok (.invokestatic 94, 3) := by decide +kernel
theorem dX8_approve_9 : decode cX8_approve 9 = .ok (.aload_n 0, 1) := by decide +kernel
theorem dX8_approve_10 : decode cX8_approve 10 = .ok (.getfield 19, 3) := by decide +kernel
theorem dX8_approve_13 : decode cX8_approve 13 = .ok (.iload_n 1, 1) := by decide +kernel
theorem dX8_approve_14 : decode cX8_approve 14 = .ok (.iload_n 2, 1) := by decide +kernel
theorem dX8_approve_15 : decode cX8_approve 15 = .ok (.invokevirtual 142, 3) := by decide +kernel
theorem dX8_approve_18 : decode cX8_approve 18 = .ok (.iconst (-1), 1) := by decide +kernel
theorem dX8_approve_19 : decode cX8_approve 19 = .ok (.if_icmp .ne 13, 3) := by decide +kernel
theorem dX8_approve_22 : decode cX8_approve 22 = .ok (.new 54, 3) := by decide +kernel
theorem dX8_approve_25 : decode cX8_approve 25 = .ok (.dup, 1) := by decide +kernel
theorem dX8_approve_26 : decode cX8_approve 26 = .ok (.ldc 145, 2) := by decide +kernel
theorem dX8_approve_28 : decode cX8_approve 28 = .ok (.invokespecial 58, 3) := by decide +kernel
theorem dX8_approve_31 : decode cX8_approve 31 = .ok (.athrow, 1) := by decide +kernel
theorem dX8_approve_32 : decode cX8_approve 32 = .ok (.aload_n 0, 1) := by decide +kernel
theorem dX8_approve_33 : decode cX8_approve 33 = .ok (.bipush 8, 2) := by decide +kernel
theorem dX8_approve_35 : decode cX8_approve 35 = .ok (.iload_n 1, 1) := by decide +kernel
theorem dX8_approve_36 : decode cX8_approve 36 = .ok (.iload_n 2, 1) := by decide +kernel
theorem dX8_approve_37 : decode cX8_approve 37 = .ok (.iconst 0, 1) := by decide +kernel
theorem dX8_approve_38 : decode cX8_approve 38 = .ok (.invokevirtual 59, 3) := by decide +kernel
theorem dX8_approve_41 : decode cX8_approve 41 = .ok (.ireturn, 1) := by decide +kernel
set_option maxRecDepth 20000 in
theorem ggX8_release_X8_checkRequest : GoodIn wsX8_release wsX8_checkRequest := goodIn_ca (goodIn_r _ [9, 10, 11, 3, 4, 12, 13, 14, 15, 16, 17, 190, 191, 192, 193, 194, 195, 196, 197, 198, 199, 200, 201, 202, 203, 204] (by decide +kernel) (by decide +kernel)) (goodIn_sub (fun _ h => List.mem_cons_of_mem _ (List.mem_append_right _ h)) (by decide +kernel))
set_option maxRecDepth 20000 in
theorem gX8_release_X8_checkRequest : GoodIn wsX8_release (wsV RX8 109 RX8 yX8_checkRequest wsX8_checkRequest) := goodIn_app (goodIn_of _ (by decide +kernel)) ggX8_release_X8_checkRequest
set_option maxRecDepth 20000 in
theorem ggX8_release_X5_stateOf : GoodIn wsX8_release wsX5_stateOf := goodIn_r _ [21, 22, 23, 24, 25, 26, 27, 28, 197, 198, 199, 200, 201, 202, 203, 204, 205] (by decide +kernel) (by decide +kernel)
set_option maxRecDepth 20000 in
theorem gX8_release_X5_stateOf : GoodIn wsX8_release (wsV RX8 112 RX5 yX5_stateOf wsX5_stateOf) := goodIn_app (goodIn_of _ (by decide +kernel)) ggX8_release_X5_stateOf
set_option maxRecDepth 20000 in
theorem ggX8_release_X2_isCovered : GoodIn wsX8_release wsX2_isCovered := goodIn_r _ [33, 34, 35, 36, 37, 15, 38, 39, 23, 24, 25, 26, 27, 28, 40, 41, 42, 32, 43, 44, 45, 46, 47, 48, 49, 50, 51, 52, 53, 54, 55, 56, 57, 58, 59, 194, 195, 196, 197, 198, 199, 200, 201, 202, 203, 204, 205, 206, 207, 208, 209] (by decide +kernel) (by decide +kernel)
set_option maxRecDepth 20000 in
theorem gX8_release_X2_isCovered : GoodIn wsX8_release (wsV RX8 147 RX2 yX2_isCovered wsX2_isCovered) := goodIn_app (goodIn_of _ (by decide +kernel)) ggX8_release_X2_isCovered
set_option maxRecDepth 20000 in
theorem ggX8_release_X8_tell : GoodIn wsX8_release wsX8_tell := goodIn_r _ [63, 3, 64, 65, 66, 67, 68, 69, 70, 71, 72, 73, 74, 26, 75, 28, 76, 77, 78, 32, 79, 80, 34, 44, 81, 82, 83, 84, 85, 24, 25, 27, 86, 87, 88, 89, 90, 91, 92, 93, 94, 95, 96, 97, 98, 99, 100, 101, 102, 103, 104, 105, 106, 107, 108, 109, 110, 111, 112, 45, 46, 47, 48, 49, 50, 113, 114, 115, 15, 116, 17, 117, 22, 23, 118, 119, 120, 121, 122, 52, 53, 54, 55, 56, 57, 58, 59, 123, 124, 125, 126, 127, 128, 129, 130, 131, 39, 132, 133, 134, 135, 136, 137, 138, 139, 140, 141, 142, 143, 144, 145, 146, 147, 148, 149, 150, 151, 152, 153, 154, 155, 156, 157, 158, 159, 160, 161, 162, 163, 164, 165, 35, 36, 37, 38, 166, 167, 168, 169, 170, 171, 172, 173, 174, 175, 176, 177, 178, 179, 180, 181, 182, 183, 184, 185, 186, 187, 188, 189, 190, 191, 192, 193, 210, 211, 205, 194, 195, 196, 212, 213, 214, 215, 216, 217, 206, 207, 208, 209, 197, 198, 199, 200, 201, 202, 203, 204] (by decide +kernel) (by decide +kernel)
set_option maxRecDepth 20000 in
theorem gX8_release_X8_tell : GoodIn wsX8_release (wsV RX8 59 RX8 yX8_tell wsX8_tell) := goodIn_app (goodIn_of _ (by decide +kernel)) ggX8_release_X8_tell
theorem dX8_release_0 : decode cX8_release 0 = .ok (.aload_n 0, 1) := by decide +kernel
theorem dX8_release_1 : decode cX8_release 1 = .ok (.iload_n 1, 1) := by decide +kernel
theorem dX8_release_2 : decode cX8_release 2 = .ok (.invokevirtual 109, 3) := by decide +kernel
theorem dX8_release_5 : decode cX8_release 5 = .ok (.aload_n 0, 1) := by decide +kernel
theorem dX8_release_6 : decode cX8_release 6 = .ok (.getfield 19, 3) := by decide +kernel
theorem dX8_release_9 : decode cX8_release 9 = .ok (.getfield 97, 3) := by decide +kernel
theorem dX8_release_12 : decode cX8_release 12 = .ok (.iload_n 1, 1) := by decide +kernel
theorem dX8_release_13 : decode cX8_release 13 = .ok (.invokevirtual 112, 3) := by decide +kernel
theorem dX8_release_16 : decode cX8_release 16 = .ok (.iconst 1, 1) := by decide +kernel
theorem dX8_release_17 : decode cX8_release 17 = .ok (.if_icmp .ne 14, 3) := by decide +kernel
theorem dX8_release_20 : decode cX8_release 20 = .ok (.aload_n 0, 1) := by decide +kernel
theorem dX8_release_21 : decode cX8_release 21 = .ok (.getfield 19, 3) := by decide +kernel
theorem dX8_release_24 : decode cX8_release 24 = .ok (.iload_n 1, 1) := by decide +kernel
theorem dX8_release_25 : decode cX8_release 25 = .ok (.invokevirtual 147, 3) := by decide +kernel
theorem dX8_release_28 : decode cX8_release 28 = .ok (.ifCond .ne 13, 3) := by decide +kernel
theorem dX8_release_31 : decode cX8_release 31 = .ok (.new 54, 3) := by decide +kernel
theorem dX8_release_34 : decode cX8_release 34 = .ok (.dup, 1) := by decide +kernel
theorem dX8_release_35 : decode cX8_release 35 = .ok (.ldc 151, 2) := by decide +kernel
theorem dX8_release_37 : decode cX8_release 37 = .ok (.invokespecial 58, 3) := by decide +kernel
theorem dX8_release_40 : decode cX8_release 40 = .ok (.athrow, 1) := by decide +kernel
theorem dX8_release_41 : decode cX8_release 41 = .ok (.aload_n 0, 1) := by decide +kernel
theorem dX8_release_42 : decode cX8_release 42 = .ok (.bipush 9, 2) := by decide +kernel
theorem dX8_release_44 : decode cX8_release 44 = .ok (.iload_n 1, 1) := by decide +kernel
theorem dX8_release_45 : decode cX8_release 45 = .ok (.iconst 0, 1) := by decide +kernel
theorem dX8_release_46 : decode cX8_release 46 = .ok (.iconst 0, 1) := by decide +kernel
theorem dX8_release_47 : decode cX8_release 47 = .ok (.invokevirtual 59, 3) := by decide +kernel
theorem dX8_release_50 : decode cX8_release 50 = .ok (.pop, 1) := by decide +kernel
theorem dX8_release_51 : decode cX8_release 51 = .ok (.return_, 1) := by decide +kernel
set_option maxRecDepth 20000 in
theorem ggX8_pass_X8_checkDays : GoodIn wsX8_pass wsX8_checkDays := goodIn_ca (goodIn_r _ [4, 5, 6] (by decide +kernel) (by decide +kernel)) (goodIn_sub (fun _ h => List.mem_cons_of_mem _ (List.mem_append_right _ h)) (by decide +kernel))
set_option maxRecDepth 20000 in
theorem gX8_pass_X8_checkDays : GoodIn wsX8_pass (va_wsS RX8 139 yX8_checkDays wsX8_checkDays) := goodIn_app (goodIn_of _ (by decide +kernel)) ggX8_pass_X8_checkDays
set_option maxRecDepth 20000 in
theorem ggX8_pass_X8_tell : GoodIn wsX8_pass wsX8_tell := goodIn_r _ [10, 11, 12, 13, 14, 15, 16, 17, 18, 19, 20, 21, 22, 23, 24, 25, 26, 27, 28, 29, 30, 31, 32, 33, 34, 35, 36, 37, 38, 39, 40, 41, 42, 43, 44, 45, 46, 47, 48, 49, 50, 51, 52, 53, 54, 55, 56, 57, 58, 59, 60, 61, 62, 63, 64, 65, 66, 67, 68, 69, 70, 71, 72, 73, 74, 75, 76, 77, 78, 79, 80, 81, 82, 83, 84, 85, 86, 87, 88, 89, 90, 91, 92, 93, 94, 95, 96, 97, 98, 99, 100, 101, 102, 103, 104, 105, 106, 107, 108, 109, 110, 111, 112, 113, 114, 115, 116, 117, 118, 119, 120, 121, 122, 123, 124, 125, 126, 127, 128, 129, 130, 131, 132, 133, 134, 135, 136, 137, 138, 139, 140, 141, 142, 143, 144, 145, 146, 147, 148, 149, 150, 151, 152, 153, 154, 155, 156, 157, 158, 159, 160, 161, 162, 163, 164, 165, 166, 167, 168, 169, 170, 171, 172, 173, 174, 175, 176, 177, 178, 179, 180, 181, 182, 183, 184, 185, 186, 187, 188, 189, 190, 191, 192, 193, 194, 195, 196] (by decide +kernel) (by decide +kernel)
set_option maxRecDepth 20000 in
theorem gX8_pass_X8_tell : GoodIn wsX8_pass (wsV RX8 59 RX8 yX8_tell wsX8_tell) := goodIn_app (goodIn_of _ (by decide +kernel)) ggX8_pass_X8_tell
theorem dX8_pass_0 : decode cX8_pass 0 = .ok (.iload_n 1, 1) := by decide +kernel
theorem dX8_pass_1 : decode cX8_pass 1 = .ok (.invokestatic 139, 3) := by decide +kernel
theorem dX8_pass_4 : decode cX8_pass 4 = .ok (.aload_n 0, 1) := by decide +kernel
theorem dX8_pass_5 : decode cX8_pass 5 = .ok (.bipush 10, 2) := by decide +kernel
theorem dX8_pass_7 : decode cX8_pass 7 = .ok (.iload_n 1, 1) := by decide +kernel
theorem dX8_pass_8 : decode cX8_pass 8 = .ok (.iconst 0, 1) := by decide +kernel
theorem dX8_pass_9 : decode cX8_pass 9 = .ok (.iconst 0, 1) := by decide +kernel
theorem dX8_pass_10 : decode cX8_pass 10 = .ok (.invokevirtual 59, 3) := by decide +kernel
theorem dX8_pass_13 : decode cX8_pass 13 = .ok (.ireturn, 1) := by decide +kernel
set_option maxRecDepth 20000 in
theorem ggX8_ofRequest_X8_checkRequest : GoodIn wsX8_ofRequest wsX8_checkRequest := goodIn_ca (goodIn_r _ [9, 10, 11, 3, 4, 12, 13, 14, 15, 16, 17, 62, 63, 64, 65, 66, 67, 68, 69, 70, 71, 72, 73, 74, 75, 76] (by decide +kernel) (by decide +kernel)) (goodIn_sub (fun _ h => List.mem_cons_of_mem _ (List.mem_append_right _ h)) (by decide +kernel))
set_option maxRecDepth 20000 in
theorem gX8_ofRequest_X8_checkRequest : GoodIn wsX8_ofRequest (wsV RX8 109 RX8 yX8_checkRequest wsX8_checkRequest) := goodIn_app (goodIn_of _ (by decide +kernel)) ggX8_ofRequest_X8_checkRequest
set_option maxRecDepth 20000 in
theorem ggX8_ofRequest_X5_stateOf : GoodIn wsX8_ofRequest wsX5_stateOf := goodIn_r _ [21, 22, 23, 24, 25, 26, 27, 28, 69, 70, 71, 72, 73, 74, 75, 76, 77] (by decide +kernel) (by decide +kernel)
set_option maxRecDepth 20000 in
theorem gX8_ofRequest_X5_stateOf : GoodIn wsX8_ofRequest (wsV RX8 112 RX5 yX5_stateOf wsX5_stateOf) := goodIn_app (goodIn_of _ (by decide +kernel)) ggX8_ofRequest_X5_stateOf
set_option maxRecDepth 20000 in
theorem ggX8_ofRequest_X5_costOf : GoodIn wsX8_ofRequest wsX5_costOf := goodIn_r _ [32, 33, 23, 24, 25, 26, 27, 28, 69, 70, 71, 72, 73, 74, 75, 76, 77] (by decide +kernel) (by decide +kernel)
set_option maxRecDepth 20000 in
theorem gX8_ofRequest_X5_costOf : GoodIn wsX8_ofRequest (wsV RX8 153 RX5 yX5_costOf wsX5_costOf) := goodIn_app (goodIn_of _ (by decide +kernel)) ggX8_ofRequest_X5_costOf
set_option maxRecDepth 20000 in
theorem ggX8_ofRequest_X2_approvalsOf : GoodIn wsX8_ofRequest wsX2_approvalsOf := goodIn_r _ [38, 39, 40, 41, 42, 43, 44, 45, 46, 47, 48, 49, 15, 50, 51, 52, 53, 54, 55, 23, 24, 25, 26, 27, 28, 66, 67, 68, 78, 79, 80, 81, 69, 70, 71, 72, 73, 74, 75, 76, 77] (by decide +kernel) (by decide +kernel)
set_option maxRecDepth 20000 in
theorem gX8_ofRequest_X2_approvalsOf : GoodIn wsX8_ofRequest (wsV RX8 156 RX2 yX2_approvalsOf wsX2_approvalsOf) := goodIn_app (goodIn_of _ (by decide +kernel)) ggX8_ofRequest_X2_approvalsOf
set_option maxRecDepth 20000 in
theorem ggX8_ofRequest_X2_isCovered : GoodIn wsX8_ofRequest wsX2_isCovered := goodIn_r _ [59, 39, 60, 30, 31, 15, 32, 33, 23, 24, 25, 26, 27, 28, 61, 35, 36, 37, 38, 40, 41, 42, 43, 44, 45, 46, 47, 48, 49, 50, 51, 52, 53, 54, 55, 66, 67, 68, 69, 70, 71, 72, 73, 74, 75, 76, 77, 78, 79, 80, 81] (by decide +kernel) (by decide +kernel)
set_option maxRecDepth 20000 in
theorem gX8_ofRequest_X2_isCovered : GoodIn wsX8_ofRequest (wsV RX8 147 RX2 yX2_isCovered wsX2_isCovered) := goodIn_app (goodIn_of _ (by decide +kernel)) ggX8_ofRequest_X2_isCovered
theorem dX8_ofRequest_0 : decode cX8_ofRequest 0 = .ok (.aload_n 0, 1) := by decide +kernel
theorem dX8_ofRequest_1 : decode cX8_ofRequest 1 = .ok (.iload_n 1, 1) := by decide +kernel
theorem dX8_ofRequest_2 : decode cX8_ofRequest 2 = .ok (.invokevirtual 109, 3) := by decide +kernel
theorem dX8_ofRequest_5 : decode cX8_ofRequest 5 = .ok (.iload_n 2, 1) := by decide +kernel
theorem dX8_ofRequest_6 : decode cX8_ofRequest 6 = .ok (.tableswitch 98 0 3 #[30, 42, 72, 81], 30) := by decide +kernel
theorem dX8_ofRequest_36 : decode cX8_ofRequest 36 = .ok (.aload_n 0, 1) := by decide +kernel
theorem dX8_ofRequest_37 : decode cX8_ofRequest 37 = .ok (.getfield 19, 3) := by decide +kernel
theorem dX8_ofRequest_40 : decode cX8_ofRequest 40 = .ok (.getfield 97, 3) := by decide +kernel
theorem dX8_ofRequest_43 : decode cX8_ofRequest 43 = .ok (.iload_n 1, 1) := by decide +kernel
theorem dX8_ofRequest_44 : decode cX8_ofRequest 44 = .ok (.invokevirtual 112, 3) := by decide +kernel
theorem dX8_ofRequest_47 : decode cX8_ofRequest 47 = .ok (.ireturn, 1) := by decide +kernel
theorem dX8_ofRequest_48 : decode cX8_ofRequest 48 = .ok (.aload_n 0, 1) := by decide +kernel
theorem dX8_ofRequest_49 : decode cX8_ofRequest 49 = .ok (.getfield 19, 3) := by decide +kernel
theorem dX8_ofRequest_52 : decode cX8_ofRequest 52 = .ok (.getfield 97, 3) := by decide +kernel
theorem dX8_ofRequest_55 : decode cX8_ofRequest 55 = .ok (.iload_n 1, 1) := by decide +kernel
theorem dX8_ofRequest_56 : decode cX8_ofRequest 56 = .ok (.invokevirtual 112, 3) := by decide +kernel
theorem dX8_ofRequest_59 : decode cX8_ofRequest 59 = .ok (.ifCond .ne 7, 3) := by decide +kernel
theorem dX8_ofRequest_62 : decode cX8_ofRequest 62 = .ok (.iconst (-1), 1) := by decide +kernel
theorem dX8_ofRequest_63 : decode cX8_ofRequest 63 = .ok (.goto 14, 3) := by decide +kernel
theorem dX8_ofRequest_66 : decode cX8_ofRequest 66 = .ok (.aload_n 0, 1) := by decide +kernel
theorem dX8_ofRequest_67 : decode cX8_ofRequest 67 = .ok (.getfield 19, 3) := by decide +kernel
theorem dX8_ofRequest_70 : decode cX8_ofRequest 70 = .ok (.getfield 97, 3) := by decide +kernel
theorem dX8_ofRequest_73 : decode cX8_ofRequest 73 = .ok (.iload_n 1, 1) := by decide +kernel
theorem dX8_ofRequest_74 : decode cX8_ofRequest 74 = .ok (.invokevirtual 153, 3) := by decide +kernel
theorem dX8_ofRequest_77 : decode cX8_ofRequest 77 = .ok (.ireturn, 1) := by decide +kernel
theorem dX8_ofRequest_78 : decode cX8_ofRequest 78 = .ok (.aload_n 0, 1) := by decide +kernel
theorem dX8_ofRequest_79 : decode cX8_ofRequest 79 = .ok (.getfield 19, 3) := by decide +kernel
theorem dX8_ofRequest_82 : decode cX8_ofRequest 82 = .ok (.iload_n 1, 1) := by decide +kernel
theorem dX8_ofRequest_83 : decode cX8_ofRequest 83 = .ok (.invokevirtual 156, 3) := by decide +kernel
theorem dX8_ofRequest_86 : decode cX8_ofRequest 86 = .ok (.ireturn, 1) := by decide +kernel
theorem dX8_ofRequest_87 : decode cX8_ofRequest 87 = .ok (.aload_n 0, 1) := by decide +kernel
theorem dX8_ofRequest_88 : decode cX8_ofRequest 88 = .ok (.getfield 19, 3) := by decide +kernel
theorem dX8_ofRequest_91 : decode cX8_ofRequest 91 = .ok (.iload_n 1, 1) := by decide +kernel
theorem dX8_ofRequest_92 : decode cX8_ofRequest 92 = .ok (.invokevirtual 147, 3) := by decide +kernel
theorem dX8_ofRequest_95 : decode cX8_ofRequest 95 = .ok (.ifCond .eq 7, 3) := by decide +kernel
theorem dX8_ofRequest_98 : decode cX8_ofRequest 98 = .ok (.iconst 1, 1) := by decide +kernel
theorem dX8_ofRequest_99 : decode cX8_ofRequest 99 = .ok (.goto 4, 3) := by decide +kernel
theorem dX8_ofRequest_102 : decode cX8_ofRequest 102 = .ok (.iconst 0, 1) := by decide +kernel
theorem dX8_ofRequest_103 : decode cX8_ofRequest 103 = .ok (.ireturn, 1) := by decide +kernel
theorem dX8_ofRequest_104 : decode cX8_ofRequest 104 = .ok (.new 37, 3) := by decide +kernel
theorem dX8_ofRequest_107 : decode cX8_ofRequest 107 = .ok (.dup, 1) := by decide +kernel
theorem dX8_ofRequest_108 : decode cX8_ofRequest 108 = .ok (.ldc 159, 2) := by decide +kernel
theorem dX8_ofRequest_110 : decode cX8_ofRequest 110 = .ok (.invokespecial 41, 3) := by decide +kernel
theorem dX8_ofRequest_113 : decode cX8_ofRequest 113 = .ok (.athrow, 1) := by decide +kernel
set_option maxRecDepth 20000 in
theorem ggX8_isCoveredAnew_X8_checkRequest : GoodIn wsX8_isCoveredAnew wsX8_checkRequest := goodIn_ca (goodIn_r _ [7, 8, 9, 10, 11, 12, 13, 14, 15, 16, 17, 201, 202, 203, 204, 205, 206, 207, 208, 209, 210, 211, 212, 213, 214, 215] (by decide +kernel) (by decide +kernel)) (goodIn_sub (fun _ h => List.mem_cons_of_mem _ (List.mem_append_right _ h)) (by decide +kernel))
set_option maxRecDepth 20000 in
theorem gX8_isCoveredAnew_X8_checkRequest : GoodIn wsX8_isCoveredAnew (wsV RX8 109 RX8 yX8_checkRequest wsX8_checkRequest) := goodIn_app (goodIn_of _ (by decide +kernel)) ggX8_isCoveredAnew_X8_checkRequest
set_option maxRecDepth 20000 in
theorem ggX8_isCoveredAnew_X0_count : GoodIn wsX8_isCoveredAnew wsX0_count := goodIn_r _ [22, 23, 216, 217] (by decide +kernel) (by decide +kernel)
set_option maxRecDepth 20000 in
theorem gX8_isCoveredAnew_X0_count : GoodIn wsX8_isCoveredAnew (wsV RX8 161 RX0 yX0_count wsX0_count) := goodIn_app (goodIn_of _ (by decide +kernel)) ggX8_isCoveredAnew_X0_count
set_option maxRecDepth 20000 in
theorem ggX8_isCoveredAnew_X2_clear : GoodIn wsX8_isCoveredAnew wsX2_clear := goodIn_r _ [28, 29, 30, 31, 32, 33, 34, 35, 36, 37, 38, 39, 40, 41, 42, 43, 44, 45, 46, 47, 48, 49, 50, 51, 52, 53, 54, 55, 15, 56, 17, 205, 206, 207, 218, 219, 220, 221, 222, 223, 224, 225, 226, 227, 228, 208, 209, 210, 211, 212, 213, 214, 215] (by decide +kernel) (by decide +kernel)
set_option maxRecDepth 20000 in
theorem gX8_isCoveredAnew_X2_clear : GoodIn wsX8_isCoveredAnew (wsV RX8 162 RX2 yX2_clear wsX2_clear) := goodIn_app (goodIn_of _ (by decide +kernel)) ggX8_isCoveredAnew_X2_clear
set_option maxRecDepth 20000 in
theorem ggX8_isCoveredAnew_X2_apply : GoodIn wsX8_isCoveredAnew wsX2_apply := goodIn_r _ [60, 29, 31, 30, 61, 62, 63, 21, 64, 65, 66, 67, 68, 41, 69, 43, 70, 71, 72, 35, 73, 37, 74, 75, 76, 77, 78, 79, 80, 81, 82, 83, 84, 85, 86, 87, 88, 89, 90, 91, 92, 93, 94, 95, 96, 97, 98, 99, 100, 47, 101, 51, 102, 103, 104, 15, 105, 17, 106, 107, 108, 109, 110, 111, 112, 113, 114, 115, 116, 117, 118, 119, 120, 121, 122, 123, 124, 125, 126, 127, 128, 129, 130, 131, 132, 133, 134, 135, 136, 137, 138, 139, 140, 141, 142, 143, 144, 145, 146, 147, 148, 149, 150, 151, 49, 152, 153, 154, 155, 156, 157, 158, 50, 159, 160, 161, 27, 162, 163, 164, 165, 166, 167, 168, 169, 170, 171, 172, 173, 174, 175, 176, 177, 178, 179, 180, 181, 182, 183, 184, 185, 186, 187, 188, 189, 190, 191, 205, 206, 207, 216, 217, 224, 218, 219, 220, 221, 222, 223, 225, 226, 227, 228, 208, 209, 210, 211, 212, 213, 214, 215] (by decide +kernel) (by decide +kernel)
set_option maxRecDepth 20000 in
theorem gX8_isCoveredAnew_X2_apply : GoodIn wsX8_isCoveredAnew (wsV RX8 84 RX2 yX2_apply wsX2_apply) := goodIn_app (goodIn_of _ (by decide +kernel)) ggX8_isCoveredAnew_X2_apply
set_option maxRecDepth 20000 in
theorem ggX8_isCoveredAnew_X2_isCovered : GoodIn wsX8_isCoveredAnew wsX2_isCovered := goodIn_r _ [195, 31, 164, 165, 166, 15, 167, 131, 108, 67, 68, 41, 69, 43, 196, 197, 198, 27, 199, 30, 98, 99, 100, 47, 101, 51, 200, 114, 115, 116, 117, 118, 119, 120, 121, 205, 206, 207, 208, 209, 210, 211, 212, 213, 214, 215, 224, 225, 226, 227, 228] (by decide +kernel) (by decide +kernel)
set_option maxRecDepth 20000 in
theorem gX8_isCoveredAnew_X2_isCovered : GoodIn wsX8_isCoveredAnew (wsV RX8 147 RX2 yX2_isCovered wsX2_isCovered) := goodIn_app (goodIn_of _ (by decide +kernel)) ggX8_isCoveredAnew_X2_isCovered
theorem dX8_isCoveredAnew_0 : decode cX8_isCoveredAnew 0 = .ok (.aload_n 0, 1) := by decide +kernel
theorem dX8_isCoveredAnew_1 : decode cX8_isCoveredAnew 1 = .ok (.iload_n 1, 1) := by decide +kernel
theorem dX8_isCoveredAnew_2 : decode cX8_isCoveredAnew 2 = .ok (.invokevirtual 109, 3) := by decide +kernel
theorem dX8_isCoveredAnew_5 : decode cX8_isCoveredAnew 5 = .ok (.aload_n 0, 1) := by decide +kernel
theorem dX8_isCoveredAnew_6 : decode cX8_isCoveredAnew 6 = .ok (.getfield 10, 3) := by decide +kernel
theorem dX8_isCoveredAnew_9 : decode cX8_isCoveredAnew 9 = .ok (.invokevirtual 161, 3) := by decide +kernel
theorem dX8_isCoveredAnew_12 : decode cX8_isCoveredAnew 12 = .ok (.istore_n 2, 1) := by decide +kernel
theorem dX8_isCoveredAnew_13 : decode cX8_isCoveredAnew 13 = .ok (.aload_n 0, 1) := by decide +kernel
theorem dX8_isCoveredAnew_14 : decode cX8_isCoveredAnew 14 = .ok (.getfield 23, 3) := by decide +kernel
theorem dX8_isCoveredAnew_17 : decode cX8_isCoveredAnew 17 = .ok (.invokevirtual 162, 3) := by decide +kernel
theorem dX8_isCoveredAnew_20 : decode cX8_isCoveredAnew 20 = .ok (.iconst 0, 1) := by decide +kernel
theorem dX8_isCoveredAnew_21 : decode cX8_isCoveredAnew 21 = .ok (.istore_n 3, 1) := by decide +kernel
theorem dX8_isCoveredAnew_22 : decode cX8_isCoveredAnew 22 = .ok (.iload_n 3, 1) := by decide +kernel
theorem dX8_isCoveredAnew_23 : decode cX8_isCoveredAnew 23 = .ok (.iload_n 2, 1) := by decide +kernel
theorem dX8_isCoveredAnew_24 : decode cX8_isCoveredAnew 24 = .ok (.if_icmp .ge 22, 3) := by decide +kernel
theorem dX8_isCoveredAnew_27 : decode cX8_isCoveredAnew 27 = .ok (.aload_n 0, 1) := by decide +kernel
theorem dX8_isCoveredAnew_28 : decode cX8_isCoveredAnew 28 = .ok (.getfield 23, 3) := by decide +kernel
theorem dX8_isCoveredAnew_31 : decode cX8_isCoveredAnew 31 = .ok (.aload_n 0, 1) := by decide +kernel
theorem dX8_isCoveredAnew_32 : decode cX8_isCoveredAnew 32 = .ok (.getfield 10, 3) := by decide +kernel
theorem dX8_isCoveredAnew_35 : decode cX8_isCoveredAnew 35 = .ok (.iload_n 3, 1) := by decide +kernel
theorem dX8_isCoveredAnew_36 : decode cX8_isCoveredAnew 36 = .ok (.invokevirtual 84, 3) := by decide +kernel
theorem dX8_isCoveredAnew_39 : decode cX8_isCoveredAnew 39 = .ok (.pop, 1) := by decide +kernel
theorem dX8_isCoveredAnew_40 : decode cX8_isCoveredAnew 40 = .ok (.iinc 3 1, 3) := by decide +kernel
theorem dX8_isCoveredAnew_43 : decode cX8_isCoveredAnew 43 = .ok (.goto (-21), 3) := by decide +kernel
theorem dX8_isCoveredAnew_46 : decode cX8_isCoveredAnew 46 = .ok (.aload_n 0, 1) := by decide +kernel
theorem dX8_isCoveredAnew_47 : decode cX8_isCoveredAnew 47 = .ok (.getfield 23, 3) := by decide +kernel
theorem dX8_isCoveredAnew_50 : decode cX8_isCoveredAnew 50 = .ok (.iload_n 1, 1) := by decide +kernel
theorem dX8_isCoveredAnew_51 : decode cX8_isCoveredAnew 51 = .ok (.invokevirtual 147, 3) := by decide +kernel
theorem dX8_isCoveredAnew_54 : decode cX8_isCoveredAnew 54 = .ok (.ireturn, 1) := by decide +kernel
set_option maxRecDepth 20000 in
theorem ggX8_strain_X8_checkRequest : GoodIn wsX8_strain wsX8_checkRequest := goodIn_ca (goodIn_r _ [9, 10, 11, 1, 2, 12, 13, 14, 15, 16, 17, 52, 53, 54, 55, 56, 57, 58, 59, 60, 61, 62, 63, 64, 65, 66] (by decide +kernel) (by decide +kernel)) (goodIn_sub (fun _ h => List.mem_cons_of_mem _ (List.mem_append_right _ h)) (by decide +kernel))
set_option maxRecDepth 20000 in
theorem gX8_strain_X8_checkRequest : GoodIn wsX8_strain (wsV RX8 109 RX8 yX8_checkRequest wsX8_checkRequest) := goodIn_app (goodIn_of _ (by decide +kernel)) ggX8_strain_X8_checkRequest
set_option maxRecDepth 20000 in
theorem ggX8_strain_X5_stateOf : GoodIn wsX8_strain wsX5_stateOf := goodIn_r _ [21, 22, 23, 24, 25, 26, 27, 28, 59, 60, 61, 62, 63, 64, 65, 66, 67] (by decide +kernel) (by decide +kernel)
set_option maxRecDepth 20000 in
theorem gX8_strain_X5_stateOf : GoodIn wsX8_strain (wsV RX8 112 RX5 yX5_stateOf wsX5_stateOf) := goodIn_app (goodIn_of _ (by decide +kernel)) ggX8_strain_X5_stateOf
set_option maxRecDepth 20000 in
theorem ggX8_strain_X5_costOf : GoodIn wsX8_strain wsX5_costOf := goodIn_r _ [32, 33, 23, 24, 25, 26, 27, 28, 59, 60, 61, 62, 63, 64, 65, 66, 67] (by decide +kernel) (by decide +kernel)
set_option maxRecDepth 20000 in
theorem gX8_strain_X5_costOf : GoodIn wsX8_strain (wsV RX8 153 RX5 yX5_costOf wsX5_costOf) := goodIn_app (goodIn_of _ (by decide +kernel)) ggX8_strain_X5_costOf
set_option maxRecDepth 20000 in
theorem ggX8_strain_X5_personOf : GoodIn wsX8_strain wsX5_personOf := goodIn_r _ [37, 38, 23, 24, 25, 26, 27, 28, 59, 60, 61, 62, 63, 64, 65, 66, 67] (by decide +kernel) (by decide +kernel)
set_option maxRecDepth 20000 in
theorem gX8_strain_X5_personOf : GoodIn wsX8_strain (wsV RX8 170 RX5 yX5_personOf wsX5_personOf) := goodIn_app (goodIn_of _ (by decide +kernel)) ggX8_strain_X5_personOf
set_option maxRecDepth 20000 in
theorem ggX8_strain_X4_greatestLimit : GoodIn wsX8_strain wsX4_greatestLimit := goodIn_r _ [43, 44, 45, 24, 25, 26, 27, 28, 46, 47, 48, 42, 49, 50, 51, 68, 69, 70, 71, 67] (by decide +kernel) (by decide +kernel)
set_option maxRecDepth 20000 in
theorem gX8_strain_X4_greatestLimit : GoodIn wsX8_strain (wsV RX8 173 RX4 yX4_greatestLimit wsX4_greatestLimit) := goodIn_app (goodIn_of _ (by decide +kernel)) ggX8_strain_X4_greatestLimit
theorem dX8_strain_0 : decode cX8_strain 0 = .ok (.aload_n 0, 1) := by decide +kernel
theorem dX8_strain_1 : decode cX8_strain 1 = .ok (.iload_n 1, 1) := by decide +kernel
theorem dX8_strain_2 : decode cX8_strain 2 = .ok (.invokevirtual 109, 3) := by decide +kernel
theorem dX8_strain_5 : decode cX8_strain 5 = .ok (.aload_n 0, 1) := by decide +kernel
theorem dX8_strain_6 : decode cX8_strain 6 = .ok (.getfield 19, 3) := by decide +kernel
theorem dX8_strain_9 : decode cX8_strain 9 = .ok (.getfield 97, 3) := by decide +kernel
theorem dX8_strain_12 : decode cX8_strain 12 = .ok (.iload_n 1, 1) := by decide +kernel
theorem dX8_strain_13 : decode cX8_strain 13 = .ok (.invokevirtual 112, 3) := by decide +kernel
theorem dX8_strain_16 : decode cX8_strain 16 = .ok (.ifCond .ne 6, 3) := by decide +kernel
theorem dX8_strain_19 : decode cX8_strain 19 = .ok (.ldc 165, 2) := by decide +kernel
theorem dX8_strain_21 : decode cX8_strain 21 = .ok (.freturn, 1) := by decide +kernel
theorem dX8_strain_22 : decode cX8_strain 22 = .ok (.aload_n 0, 1) := by decide +kernel
theorem dX8_strain_23 : decode cX8_strain 23 = .ok (.getfield 19, 3) := by decide +kernel
theorem dX8_strain_26 : decode cX8_strain 26 = .ok (.getfield 97, 3) := by decide +kernel
theorem dX8_strain_29 : decode cX8_strain 29 = .ok (.iload_n 1, 1) := by decide +kernel
theorem dX8_strain_30 : decode cX8_strain 30 = .ok (.invokevirtual 153, 3) := by decide +kernel
theorem dX8_strain_33 : decode cX8_strain 33 = .ok (.istore_n 2, 1) := by decide +kernel
theorem dX8_strain_34 : decode cX8_strain 34 = .ok (.aload_n 0, 1) := by decide +kernel
theorem dX8_strain_35 : decode cX8_strain 35 = .ok (.getfield 19, 3) := by decide +kernel
theorem dX8_strain_38 : decode cX8_strain 38 = .ok (.getfield 166, 3) := by decide +kernel
theorem dX8_strain_41 : decode cX8_strain 41 = .ok (.aload_n 0, 1) := by decide +kernel
theorem dX8_strain_42 : decode cX8_strain 42 = .ok (.getfield 19, 3) := by decide +kernel
theorem dX8_strain_45 : decode cX8_strain 45 = .ok (.getfield 97, 3) := by decide +kernel
theorem dX8_strain_48 : decode cX8_strain 48 = .ok (.iload_n 1, 1) := by decide +kernel
theorem dX8_strain_49 : decode cX8_strain 49 = .ok (.invokevirtual 170, 3) := by decide +kernel
theorem dX8_strain_52 : decode cX8_strain 52 = .ok (.iload_n 2, 1) := by decide +kernel
theorem dX8_strain_53 : decode cX8_strain 53 = .ok (.invokevirtual 173, 3) := by decide +kernel
theorem dX8_strain_56 : decode cX8_strain 56 = .ok (.istore_n 3, 1) := by decide +kernel
theorem dX8_strain_57 : decode cX8_strain 57 = .ok (.iload_n 3, 1) := by decide +kernel
theorem dX8_strain_58 : decode cX8_strain 58 = .ok (.iconst (-1), 1) := by decide +kernel
theorem dX8_strain_59 : decode cX8_strain 59 = .ok (.if_icmp .ne 6, 3) := by decide +kernel
theorem dX8_strain_62 : decode cX8_strain 62 = .ok (.ldc 165, 2) := by decide +kernel
theorem dX8_strain_64 : decode cX8_strain 64 = .ok (.freturn, 1) := by decide +kernel
theorem dX8_strain_65 : decode cX8_strain 65 = .ok (.iload_n 3, 1) := by decide +kernel
theorem dX8_strain_66 : decode cX8_strain 66 = .ok (.ifCond .ne 7, 3) := by decide +kernel
theorem dX8_strain_69 : decode cX8_strain 69 = .ok (.fconst 0, 1) := by decide +kernel
theorem dX8_strain_70 : decode cX8_strain 70 = .ok (.goto 8, 3) := by decide +kernel
theorem dX8_strain_73 : decode cX8_strain 73 = .ok (.iload_n 2, 1) := by decide +kernel
theorem dX8_strain_74 : decode cX8_strain 74 = .ok (.i2f, 1) := by decide +kernel
theorem dX8_strain_75 : decode cX8_strain 75 = .ok (.iload_n 3, 1) := by decide +kernel
theorem dX8_strain_76 : decode cX8_strain 76 = .ok (.i2f, 1) := by decide +kernel
theorem dX8_strain_77 : decode cX8_strain 77 = .ok (.fdiv, 1) := by decide +kernel
theorem dX8_strain_78 : decode cX8_strain 78 = .ok (.freturn, 1) := by decide +kernel
set_option maxRecDepth 20000 in
theorem ggX8_entries_X0_count : GoodIn wsX8_entries wsX0_count := goodIn_r _ [6, 7, 12, 13] (by decide +kernel) (by decide +kernel)
set_option maxRecDepth 20000 in
theorem gX8_entries_X0_count : GoodIn wsX8_entries (wsV RX8 161 RX0 yX0_count wsX0_count) := goodIn_app (goodIn_of _ (by decide +kernel)) ggX8_entries_X0_count
theorem dX8_entries_0 : decode cX8_entries 0 = .ok (.aload_n 0, 1) := by decide +kernel
theorem dX8_entries_1 : decode cX8_entries 1 = .ok (.getfield 10, 3) := by decide +kernel
theorem dX8_entries_4 : decode cX8_entries 4 = .ok (.invokevirtual 161, 3) := by decide +kernel
theorem dX8_entries_7 : decode cX8_entries 7 = .ok (.ireturn, 1) := by decide +kernel
set_option maxRecDepth 20000 in
theorem ggX8_tell_X0_write : GoodIn wsX8_tell wsX0_write := goodIn_r _ [7, 8, 9, 10, 11, 12, 13, 14, 15, 163, 164, 165] (by decide +kernel) (by decide +kernel)
set_option maxRecDepth 20000 in
theorem gX8_tell_X0_write : GoodIn wsX8_tell (wsV RX8 80 RX0 yX0_write wsX0_write) := goodIn_app (goodIn_of _ (by decide +kernel)) ggX8_tell_X0_write
set_option maxRecDepth 20000 in
theorem ggX8_tell_X2_apply : GoodIn wsX8_tell wsX2_apply := goodIn_r _ [20, 21, 22, 23, 24, 25, 26, 6, 27, 9, 28, 29, 30, 13, 31, 15, 32, 33, 34, 35, 36, 37, 38, 39, 40, 41, 42, 43, 44, 45, 11, 12, 14, 46, 47, 48, 49, 50, 51, 52, 53, 54, 55, 56, 57, 58, 59, 60, 61, 62, 63, 64, 65, 66, 67, 68, 69, 70, 71, 72, 73, 74, 75, 76, 77, 78, 79, 80, 81, 82, 83, 84, 85, 86, 87, 88, 89, 90, 91, 92, 93, 94, 95, 96, 97, 98, 99, 100, 101, 102, 103, 104, 105, 106, 107, 108, 109, 110, 111, 112, 113, 114, 115, 116, 117, 118, 119, 120, 121, 122, 123, 124, 125, 126, 127, 128, 19, 129, 130, 131, 132, 133, 134, 135, 136, 137, 138, 139, 140, 141, 142, 143, 144, 145, 146, 147, 148, 149, 150, 151, 152, 153, 154, 155, 156, 157, 158, 166, 167, 168, 163, 164, 165, 169, 170, 171, 172, 173, 174, 175, 176, 177, 178, 179, 180, 181, 182, 183, 184, 185, 186] (by decide +kernel) (by decide +kernel)
set_option maxRecDepth 20000 in
theorem gX8_tell_X2_apply : GoodIn wsX8_tell (wsV RX8 84 RX2 yX2_apply wsX2_apply) := goodIn_app (goodIn_of _ (by decide +kernel)) ggX8_tell_X2_apply
theorem dX8_tell_0 : decode cX8_tell 0 = .ok (.aload_n 0, 1) := by decide +kernel
theorem dX8_tell_1 : decode cX8_tell 1 = .ok (.getfield 19, 3) := by decide +kernel
theorem dX8_tell_4 : decode cX8_tell 4 = .ok (.aload_n 0, 1) := by decide +kernel
theorem dX8_tell_5 : decode cX8_tell 5 = .ok (.getfield 10, 3) := by decide +kernel
theorem dX8_tell_8 : decode cX8_tell 8 = .ok (.aload_n 0, 1) := by decide +kernel
theorem dX8_tell_9 : decode cX8_tell 9 = .ok (.getfield 10, 3) := by decide +kernel
theorem dX8_tell_12 : decode cX8_tell 12 = .ok (.iload_n 1, 1) := by decide +kernel
theorem dX8_tell_13 : decode cX8_tell 13 = .ok (.iload_n 2, 1) := by decide +kernel
theorem dX8_tell_14 : decode cX8_tell 14 = .ok (.iload_n 3, 1) := by decide +kernel
theorem dX8_tell_15 : decode cX8_tell 15 = .ok (.iload 4, 2) := by decide +kernel
theorem dX8_tell_17 : decode cX8_tell 17 = .ok (.iconst 0, 1) := by decide +kernel
theorem dX8_tell_18 : decode cX8_tell 18 = .ok (.iconst 0, 1) := by decide +kernel
theorem dX8_tell_19 : decode cX8_tell 19 = .ok (.invokevirtual 80, 3) := by decide +kernel
theorem dX8_tell_22 : decode cX8_tell 22 = .ok (.invokevirtual 84, 3) := by decide +kernel
theorem dX8_tell_25 : decode cX8_tell 25 = .ok (.ireturn, 1) := by decide +kernel
theorem dX8_checkPart_0 : decode cX8_checkPart 0 = .ok (.iload_n 0, 1) := by decide +kernel
theorem dX8_checkPart_1 : decode cX8_checkPart 1 = .ok (.ifCond .lt 9, 3) := by decide +kernel
theorem dX8_checkPart_4 : decode cX8_checkPart 4 = .ok (.iload_n 0, 1) := by decide +kernel
theorem dX8_checkPart_5 : decode cX8_checkPart 5 = .ok (.bipush 8, 2) := by decide +kernel
theorem dX8_checkPart_7 : decode cX8_checkPart 7 = .ok (.if_icmp .lt 13, 3) := by decide +kernel
theorem dX8_checkPart_10 : decode cX8_checkPart 10 = .ok (.new 178, 3) := by decide +kernel
theorem dX8_checkPart_13 : decode cX8_checkPart 13 = .ok (.dup, 1) := by decide +kernel
theorem dX8_checkPart_14 : decode cX8_checkPart 14 = .ok (.ldc 180, 2) := by decide +kernel
theorem dX8_checkPart_16 : decode cX8_checkPart 16 = .ok (.invokespecial 182, 3) := by decide +kernel
theorem dX8_checkPart_19 : decode cX8_checkPart 19 = .ok (.athrow, 1) := by decide +kernel
theorem dX8_checkPart_20 : decode cX8_checkPart 20 = .ok (.return_, 1) := by decide +kernel
set_option maxRecDepth 20000 in
theorem ggX8_checkVersion_X3_countOf : GoodIn wsX8_checkVersion wsX3_countOf := goodIn_r _ [9, 10, 11, 12, 13, 14, 15, 16, 24, 25, 26, 27, 28, 29, 30] (by decide +kernel) (by decide +kernel)
set_option maxRecDepth 20000 in
theorem gX8_checkVersion_X3_countOf : GoodIn wsX8_checkVersion (wsV RX8 48 RX3 yX3_countOf wsX3_countOf) := goodIn_app (goodIn_of _ (by decide +kernel)) ggX8_checkVersion_X3_countOf
theorem dX8_checkVersion_0 : decode cX8_checkVersion 0 = .ok (.iload_n 2, 1) := by decide +kernel
theorem dX8_checkVersion_1 : decode cX8_checkVersion 1 = .ok (.iconst 1, 1) := by decide +kernel
theorem dX8_checkVersion_2 : decode cX8_checkVersion 2 = .ok (.if_icmp .lt 18, 3) := by decide +kernel
theorem dX8_checkVersion_5 : decode cX8_checkVersion 5 = .ok (.iload_n 2, 1) := by decide +kernel
theorem dX8_checkVersion_6 : decode cX8_checkVersion 6 = .ok (.aload_n 0, 1) := by decide +kernel
theorem dX8_checkVersion_7 : decode cX8_checkVersion 7 = .ok (.getfield 19, 3) := by decide +kernel
theorem dX8_checkVersion_10 : decode cX8_checkVersion 10 = .ok (.getfield 44, 3) := by decide +kernel
theorem dX8_checkVersion_13 : decode cX8_checkVersion 13 = .ok (.iload_n 1, 1) := by decide +kernel
theorem dX8_checkVersion_14 : decode cX8_checkVersion 14 = .ok (.invokevirtual 48, 3) := by decide +kernel
theorem dX8_checkVersion_17 : decode cX8_checkVersion 17 = .ok (.if_icmp .le 13, 3) := by decide +kernel
theorem dX8_checkVersion_20 : decode cX8_checkVersion 20 = .ok (.new 178, 3) := by decide +kernel
theorem dX8_checkVersion_23 : decode cX8_checkVersion 23 = .ok (.dup, 1) := by decide +kernel
theorem dX8_checkVersion_24 : decode cX8_checkVersion 24 = .ok (.ldc 183, 2) := by decide +kernel
theorem dX8_checkVersion_26 : decode cX8_checkVersion 26 = .ok (.invokespecial 182, 3) := by decide +kernel
theorem dX8_checkVersion_29 : decode cX8_checkVersion 29 = .ok (.athrow, 1) := by decide +kernel
theorem dX8_checkVersion_30 : decode cX8_checkVersion 30 = .ok (.return_, 1) := by decide +kernel
theorem dX8_checkPerson_0 : decode cX8_checkPerson 0 = .ok (.iload_n 0, 1) := by decide +kernel
theorem dX8_checkPerson_1 : decode cX8_checkPerson 1 = .ok (.ifCond .lt 9, 3) := by decide +kernel
theorem dX8_checkPerson_4 : decode cX8_checkPerson 4 = .ok (.iload_n 0, 1) := by decide +kernel
theorem dX8_checkPerson_5 : decode cX8_checkPerson 5 = .ok (.bipush 8, 2) := by decide +kernel
theorem dX8_checkPerson_7 : decode cX8_checkPerson 7 = .ok (.if_icmp .lt 13, 3) := by decide +kernel
theorem dX8_checkPerson_10 : decode cX8_checkPerson 10 = .ok (.new 178, 3) := by decide +kernel
theorem dX8_checkPerson_13 : decode cX8_checkPerson 13 = .ok (.dup, 1) := by decide +kernel
theorem dX8_checkPerson_14 : decode cX8_checkPerson 14 = .ok (.ldc 185, 2) := by decide +kernel
theorem dX8_checkPerson_16 : decode cX8_checkPerson 16 = .ok (.invokespecial 182, 3) := by decide +kernel
theorem dX8_checkPerson_19 : decode cX8_checkPerson 19 = .ok (.athrow, 1) := by decide +kernel
theorem dX8_checkPerson_20 : decode cX8_checkPerson 20 = .ok (.return_, 1) := by decide +kernel
set_option maxRecDepth 20000 in
theorem ggX8_checkRequest_X5_count : GoodIn wsX8_checkRequest wsX5_count := goodIn_r _ [9, 10, 18, 19, 20, 21, 22, 23, 24, 25] (by decide +kernel) (by decide +kernel)
set_option maxRecDepth 20000 in
theorem gX8_checkRequest_X5_count : GoodIn wsX8_checkRequest (wsV RX8 101 RX5 yX5_count wsX5_count) := goodIn_app (goodIn_of _ (by decide +kernel)) ggX8_checkRequest_X5_count
theorem dX8_checkRequest_0 : decode cX8_checkRequest 0 = .ok (.iload_n 1, 1) := by decide +kernel
theorem dX8_checkRequest_1 : decode cX8_checkRequest 1 = .ok (.ifCond .lt 17, 3) := by decide +kernel
theorem dX8_checkRequest_4 : decode cX8_checkRequest 4 = .ok (.iload_n 1, 1) := by decide +kernel
theorem dX8_checkRequest_5 : decode cX8_checkRequest 5 = .ok (.aload_n 0, 1) := by decide +kernel
theorem dX8_checkRequest_6 : decode cX8_checkRequest 6 = .ok (.getfield 19, 3) := by decide +kernel
theorem dX8_checkRequest_9 : decode cX8_checkRequest 9 = .ok (.getfield 97, 3) := by decide +kernel
theorem dX8_checkRequest_12 : decode cX8_checkRequest 12 = .ok (.invokevirtual 101, 3) := by decide +kernel
theorem dX8_checkRequest_15 : decode cX8_checkRequest 15 = .ok (.if_icmp .lt 13, 3) := by decide +kernel
theorem dX8_checkRequest_18 : decode cX8_checkRequest 18 = .ok (.new 178, 3) := by decide +kernel
theorem dX8_checkRequest_21 : decode cX8_checkRequest 21 = .ok (.dup, 1) := by decide +kernel
theorem dX8_checkRequest_22 : decode cX8_checkRequest 22 = .ok (.ldc 187, 2) := by decide +kernel
theorem dX8_checkRequest_24 : decode cX8_checkRequest 24 = .ok (.invokespecial 182, 3) := by decide +kernel
theorem dX8_checkRequest_27 : decode cX8_checkRequest 27 = .ok (.athrow, 1) := by decide +kernel
theorem dX8_checkRequest_28 : decode cX8_checkRequest 28 = .ok (.return_, 1) := by decide +kernel
theorem dX8_checkLeast_0 : decode cX8_checkLeast 0 = .ok (.iload_n 0, 1) := by decide +kernel
theorem dX8_checkLeast_1 : decode cX8_checkLeast 1 = .ok (.iconst 1, 1) := by decide +kernel
theorem dX8_checkLeast_2 : decode cX8_checkLeast 2 = .ok (.if_icmp .lt 8, 3) := by decide +kernel
theorem dX8_checkLeast_5 : decode cX8_checkLeast 5 = .ok (.iload_n 0, 1) := by decide +kernel
theorem dX8_checkLeast_6 : decode cX8_checkLeast 6 = .ok (.iconst 3, 1) := by decide +kernel
theorem dX8_checkLeast_7 : decode cX8_checkLeast 7 = .ok (.if_icmp .le 13, 3) := by decide +kernel
theorem dX8_checkLeast_10 : decode cX8_checkLeast 10 = .ok (.new 37, 3) := by decide +kernel
theorem dX8_checkLeast_13 : decode cX8_checkLeast 13 = .ok (.dup, 1) := by decide +kernel
theorem dX8_checkLeast_14 : decode cX8_checkLeast 14 = .ok (.ldc 189, 2) := by decide +kernel
theorem dX8_checkLeast_16 : decode cX8_checkLeast 16 = .ok (.invokespecial 41, 3) := by decide +kernel
theorem dX8_checkLeast_19 : decode cX8_checkLeast 19 = .ok (.athrow, 1) := by decide +kernel
theorem dX8_checkLeast_20 : decode cX8_checkLeast 20 = .ok (.return_, 1) := by decide +kernel
theorem dX8_checkDays_0 : decode cX8_checkDays 0 = .ok (.iload_n 0, 1) := by decide +kernel
theorem dX8_checkDays_1 : decode cX8_checkDays 1 = .ok (.iconst 1, 1) := by decide +kernel
theorem dX8_checkDays_2 : decode cX8_checkDays 2 = .ok (.if_icmp .lt 9, 3) := by decide +kernel
theorem dX8_checkDays_5 : decode cX8_checkDays 5 = .ok (.iload_n 0, 1) := by decide +kernel
theorem dX8_checkDays_6 : decode cX8_checkDays 6 = .ok (.bipush 60, 2) := by decide +kernel
theorem dX8_checkDays_8 : decode cX8_checkDays 8 = .ok (.if_icmp .le 13, 3) := by decide +kernel
theorem dX8_checkDays_11 : decode cX8_checkDays 11 = .ok (.new 37, 3) := by decide +kernel
theorem dX8_checkDays_14 : decode cX8_checkDays 14 = .ok (.dup, 1) := by decide +kernel
theorem dX8_checkDays_15 : decode cX8_checkDays 15 = .ok (.ldc 191, 2) := by decide +kernel
theorem dX8_checkDays_17 : decode cX8_checkDays 17 = .ok (.invokespecial 41, 3) := by decide +kernel
theorem dX8_checkDays_20 : decode cX8_checkDays 20 = .ok (.athrow, 1) := by decide +kernel
theorem dX8_checkDays_21 : decode cX8_checkDays 21 = .ok (.return_, 1) := by decide +kernel
end
section
/-! The judgement V: a walk with its locals and its world in plain sight; contracts CI, CV over it. -/
def lcAt : List (Nat × Value) → Nat → Option Value
  | [], _ => none
  | q :: t, i => bif Nat.beq q.1 i then some q.2 else lcAt t i
theorem lcAt_mem : ∀ {lc : List (Nat × Value)} {i : Nat} {v : Value}, lcAt lc i = some v → (i, v) ∈ lc
  | [], _, _, h => by cases h
  | q :: t, i, v, h => by
    unfold lcAt at h
    cases hb : Nat.beq q.1 i with
    | true =>
      rw [hb] at h
      have e1 : q.1 = i := Nat.eq_of_beq_eq_true hb
      have e2 : q.2 = v := by simpa using h
      subst e1; subst e2
      exact List.mem_cons_self
    | false =>
      rw [hb] at h
      exact List.mem_cons_of_mem _ (lcAt_mem (by simpa using h))
theorem lcAt_spec {ls : Array Slot} {n i : Nat} {lc : List (Nat × Value)} {v : Value} (h : lv_has ls n lc) (e : lcAt lc i = some v) : ls[i]? = some (.val v) := h.2.2 (i, v) (lcAt_mem e)
def lcSet (lc : List (Nat × Value)) (i : Nat) (v : Value) : List (Nat × Value) := (i, v) :: lc.filter (fun q => !(q.1 == i) && !(q.1 + 1 == i && q.2.category == 2))
def lcOk (lc : List (Nat × Value)) : List (Nat × Value) → Prop
  | [] => True
  | q :: t => lcAt lc q.1 = some q.2 ∧ lcOk lc t
theorem lcOk_has {ls : Array Slot} {n : Nat} {lc lc2 : List (Nat × Value)} (h : lv_has ls n lc) (k : lcOk lc lc2) : lv_has ls n lc2 := by
  refine ⟨h.1, h.2.1, ?_⟩
  induction lc2 with
  | nil => intro q hq; cases hq
  | cons a t ih =>
    intro q hq
    rcases List.mem_cons.mp hq with rfl | hq
    · exact lcAt_spec h k.1
    · exact ih k.2 q hq
abbrev XT : Type := Program × Launch × Env × Room × State × MethodId × Array Value × List Frame × Method × Code × va_G × List (ClassId × FieldType) × (Nat → Prop) × (State → Prop) × Nat
abbrev XL (X : XT) : Launch := X.2.1
abbrev XR (X : XT) : Room := X.2.2.2.1
abbrev XD (X : XT) : va_G := X.2.2.2.2.2.2.2.2.2.2.1
abbrev XK (X : XT) : List (ClassId × FieldType) := X.2.2.2.2.2.2.2.2.2.2.2.1
abbrev XN (X : XT) : Nat := X.2.2.2.2.2.2.2.2.2.2.2.2.2.2
def V : XT → Nat → Nat → va_W → Nat → List (Nat × Value) → List Value → Prop
  | (p, l, e, R, s, m, args, below, meth, c, D, tys, A, Q, n), k, z, ws, pc, lc, st => ∀ (ls : Array Slot) (H : Heap) (locs : List Loc), lv_has ls n lc → va_P D vwCl ws H → va_D A ws → va_S A s.heap H locs → W p l e R s m args below meth c H locs k z Q (F0 m pc ls st)
def OkX : XT → ByteArray → String → List Cond → Nat → Prop
  | (p, _, _, R, s, m, args, _, _, c, D, tys, A, _, n), cc, own, Ts, d => p.tables.exec = Jvm.exec ∧ c.code = cc ∧ c.maxLocals = n ∧ s.vm.findClass own = some m.cls ∧ (∀ w ∈ Ts, w.before args s = true) ∧ va_K D vwCl tys s ∧ (∀ q : Nat, s.heap.size ≤ q → A q) ∧ d ≤ R.frames ∧ 40 * d ≤ R.locals
section Rows
variable {X : XT} {k z : Nat} {ws : va_W} {pc : Nat} {lc : List (Nat × Value)} {st : List Value} {cc : ByteArray} {own : String} {Ts : List Cond} {d : Nat}
theorem V_go {pc2 : Nat} {st2 : List Value} (o : OkX X cc own Ts d)
    (h : ∀ p l e R s m args below meth c H locs k z Q (ls : Array Slot) n, p.tables.exec = Jvm.exec → c.code = cc → lv_has ls n lc → W p l e R s m args below meth c H locs k z Q (F0 m pc2 ls st2) → W p l e R s m args below meth c H locs k z Q (F0 m pc ls st))
    (kk : V X k z ws pc2 lc st2) : V X k z ws pc lc st := by
  obtain ⟨p, l, e, R, s, m, args, below, meth, c, D, tys, A, Q, n⟩ := X
  obtain ⟨hx, hb, -⟩ := o
  intro ls H locs hl hP hD hS
  exact h _ _ _ _ _ _ _ _ _ _ _ _ _ _ _ _ _ hx hb hl (kk ls H locs hl hP hD hS)
theorem V_sub {lc2 : List (Nat × Value)} (h : lcOk lc lc2) (kk : V X k z ws pc lc2 st) : V X k z ws pc lc st := by
  obtain ⟨p, l, e, R, s, m, args, below, meth, c, D, tys, A, Q, n⟩ := X
  intro ls H locs hl hP hD hS
  exact kk ls H locs (lcOk_has hl h) hP hD hS
theorem V_perm {ws2 : va_W} (h : ws.Perm ws2) (kk : V X k z ws2 pc lc st) : V X k z ws pc lc st := by
  obtain ⟨p, l, e, R, s, m, args, below, meth, c, D, tys, A, Q, n⟩ := X
  intro ls H locs hl hP hD hS
  have nd : (ws.map Prod.fst).Nodup := by
    rw [List.nodup_iff_pairwise_ne, List.pairwise_iff_getElem]
    intro i j hi hj hij he
    simp only [List.length_map] at hi hj
    simp only [List.getElem_map] at he
    exact absurd (hD.1 i j _ _ (List.getElem?_eq_getElem hi) (List.getElem?_eq_getElem hj) he) (by omega)
  have nd2 : (ws2.map Prod.fst).Nodup := (h.map Prod.fst).nodup_iff.mp nd
  refine kk ls H locs hl (fun i q hq => ?_) ⟨fun i j a b hi hj hab => ?_, fun i q hq => ?_⟩ hS
  · obtain ⟨j, hj⟩ := List.getElem?_of_mem (h.mem_iff.mpr (List.mem_of_getElem? hq))
    exact hP j q hj
  · rcases Nat.lt_trichotomy i j with q | q | q
    · obtain ⟨h1, e1⟩ := List.getElem?_eq_some_iff.mp hi
      obtain ⟨h2, e2⟩ := List.getElem?_eq_some_iff.mp hj
      have := List.pairwise_iff_getElem.mp (List.nodup_iff_pairwise_ne.mp nd2) i j (by simpa using h1) (by simpa using h2) q
      simp only [List.getElem_map] at this
      rw [e1, e2] at this
      exact absurd hab this
    · exact q
    · obtain ⟨h1, e1⟩ := List.getElem?_eq_some_iff.mp hi
      obtain ⟨h2, e2⟩ := List.getElem?_eq_some_iff.mp hj
      have := List.pairwise_iff_getElem.mp (List.nodup_iff_pairwise_ne.mp nd2) j i (by simpa using h2) (by simpa using h1) q
      simp only [List.getElem_map] at this
      rw [e1, e2] at this
      exact absurd hab.symm this
  · obtain ⟨j, hj⟩ := List.getElem?_of_mem (h.mem_iff.mpr (List.mem_of_getElem? hq))
    exact hD.2 j q hj
theorem V_widen {k2 z2 : Nat} (h1 : k ≤ k2) (h2 : z ≤ z2) (kk : V X k2 z2 ws pc lc st) : V X k z ws pc lc st := by
  obtain ⟨p, l, e, R, s, m, args, below, meth, c, D, tys, A, Q, n⟩ := X
  intro ls H locs hl hP hD hS
  exact W.widen h1 h2 (kk ls H locs hl hP hD hS)
/-- loads, constants -/
theorem V_iload (o : OkX X cc own Ts d) {i : Nat} {x : Int32} (dg : decode cc pc = .ok (.iload i, 2)) (e : lcAt lc i = some (.int x)) (kk : V X k z ws (pc + 2) lc (.int x :: st)) : V X k z ws pc lc st :=
  V_go o (fun _ _ _ _ _ _ _ _ _ _ _ _ _ _ _ _ _ hx hb hl K => lv_iload hx hb dg (lcAt_spec hl e) K) kk
theorem V_iload_n (o : OkX X cc own Ts d) {i : Fin 4} {x : Int32} (dg : decode cc pc = .ok (.iload_n i, 1)) (e : lcAt lc i.val = some (.int x)) (kk : V X k z ws (pc + 1) lc (.int x :: st)) : V X k z ws pc lc st :=
  V_go o (fun _ _ _ _ _ _ _ _ _ _ _ _ _ _ _ _ _ hx hb hl K => lv_iload_n hx hb dg rfl (lcAt_spec hl e) K) kk
theorem V_aload (o : OkX X cc own Ts d) {i : Nat} {x : Nat} (dg : decode cc pc = .ok (.aload i, 2)) (e : lcAt lc i = some (.ref x)) (kk : V X k z ws (pc + 2) lc (.ref x :: st)) : V X k z ws pc lc st :=
  V_go o (fun _ _ _ _ _ _ _ _ _ _ _ _ _ _ _ _ _ hx hb hl K => lv_aload hx hb dg (lcAt_spec hl e) K) kk
theorem V_aload_n (o : OkX X cc own Ts d) {i : Fin 4} {x : Nat} (dg : decode cc pc = .ok (.aload_n i, 1)) (e : lcAt lc i.val = some (.ref x)) (kk : V X k z ws (pc + 1) lc (.ref x :: st)) : V X k z ws pc lc st :=
  V_go o (fun _ _ _ _ _ _ _ _ _ _ _ _ _ _ _ _ _ hx hb hl K => lv_aload_n hx hb dg rfl (lcAt_spec hl e) K) kk
theorem V_iconst (o : OkX X cc own Ts d) {n : Int} (v : Int32) (dg : decode cc pc = .ok (.iconst n, 1)) (e : Int32.ofInt n = v) (kk : V X k z ws (pc + 1) lc (.int v :: st)) : V X k z ws pc lc st :=
  V_go o (fun _ _ _ _ _ _ _ _ _ _ _ _ _ _ _ _ _ hx hb _ K => lv_iconst hx hb dg e K) kk
theorem V_bipush (o : OkX X cc own Ts d) {n : Int} (v : Int32) (dg : decode cc pc = .ok (.bipush n, 2)) (e : (Int8.ofInt n).toInt32 = v) (kk : V X k z ws (pc + 2) lc (.int v :: st)) : V X k z ws pc lc st :=
  V_go o (fun _ _ _ _ _ _ _ _ _ _ _ _ _ _ _ _ _ hx hb _ K => lv_bipush hx hb dg e K) kk
theorem V_sipush (o : OkX X cc own Ts d) {n : Int} (v : Int32) (dg : decode cc pc = .ok (.sipush n, 3)) (e : (Int16.ofInt n).toInt32 = v) (kk : V X k z ws (pc + 3) lc (.int v :: st)) : V X k z ws pc lc st :=
  V_go o (fun _ _ _ _ _ _ _ _ _ _ _ _ _ _ _ _ _ hx hb _ K => lv_sipush hx hb dg e K) kk
theorem V_iadd (o : OkX X cc own Ts d) {x y : Int32} (dg : decode cc pc = .ok (.iadd, 1)) (kk : V X k z ws (pc + 1) lc (.int (x + y) :: st)) : V X k z ws pc lc (.int y :: .int x :: st) :=
  V_go o (fun _ _ _ _ _ _ _ _ _ _ _ _ _ _ _ _ _ hx hb _ K => lv_iadd hx hb dg K) kk
theorem V_isub (o : OkX X cc own Ts d) {x y : Int32} (dg : decode cc pc = .ok (.isub, 1)) (kk : V X k z ws (pc + 1) lc (.int (x - y) :: st)) : V X k z ws pc lc (.int y :: .int x :: st) :=
  V_go o (fun _ _ _ _ _ _ _ _ _ _ _ _ _ _ _ _ _ hx hb _ K => lv_isub hx hb dg K) kk
theorem V_imul (o : OkX X cc own Ts d) {x y : Int32} (dg : decode cc pc = .ok (.imul, 1)) (kk : V X k z ws (pc + 1) lc (.int (x * y) :: st)) : V X k z ws pc lc (.int y :: .int x :: st) :=
  V_go o (fun _ _ _ _ _ _ _ _ _ _ _ _ _ _ _ _ _ hx hb _ K => lv_imul hx hb dg K) kk
theorem V_ishl (o : OkX X cc own Ts d) {x y : Int32} (dg : decode cc pc = .ok (.ishl, 1)) (kk : V X k z ws (pc + 1) lc (.int (x <<< (y &&& 31)) :: st)) : V X k z ws pc lc (.int y :: .int x :: st) :=
  V_go o (fun _ _ _ _ _ _ _ _ _ _ _ _ _ _ _ _ _ hx hb _ K => lv_ishl hx hb dg K) kk
theorem V_ishr (o : OkX X cc own Ts d) {x y : Int32} (dg : decode cc pc = .ok (.ishr, 1)) (kk : V X k z ws (pc + 1) lc (.int (x >>> (y &&& 31)) :: st)) : V X k z ws pc lc (.int y :: .int x :: st) :=
  V_go o (fun _ _ _ _ _ _ _ _ _ _ _ _ _ _ _ _ _ hx hb _ K => lv_ishr hx hb dg K) kk
theorem V_iand (o : OkX X cc own Ts d) {x y : Int32} (dg : decode cc pc = .ok (.iand, 1)) (kk : V X k z ws (pc + 1) lc (.int (x &&& y) :: st)) : V X k z ws pc lc (.int y :: .int x :: st) :=
  V_go o (fun _ _ _ _ _ _ _ _ _ _ _ _ _ _ _ _ _ hx hb _ K => lv_iand hx hb dg K) kk
theorem V_ior (o : OkX X cc own Ts d) {x y : Int32} (dg : decode cc pc = .ok (.ior, 1)) (kk : V X k z ws (pc + 1) lc (.int (x ||| y) :: st)) : V X k z ws pc lc (.int y :: .int x :: st) :=
  V_go o (fun _ _ _ _ _ _ _ _ _ _ _ _ _ _ _ _ _ hx hb _ K => lv_ior hx hb dg K) kk
theorem V_i2f (o : OkX X cc own Ts d) {x : Int32} (dg : decode cc pc = .ok (.i2f, 1)) (kk : V X k z ws (pc + 1) lc (.float (FP.i2f x) :: st)) : V X k z ws pc lc (.int x :: st) :=
  V_go o (fun _ _ _ _ _ _ _ _ _ _ _ _ _ _ _ _ _ hx hb _ K => lv_i2f hx hb dg K) kk
theorem V_i2l (o : OkX X cc own Ts d) {x : Int32} (dg : decode cc pc = .ok (.i2l, 1)) (kk : V X k z ws (pc + 1) lc (.long x.toInt64 :: st)) : V X k z ws pc lc (.int x :: st) :=
  V_go o (fun _ _ _ _ _ _ _ _ _ _ _ _ _ _ _ _ _ hx hb _ K => lv_i2l hx hb dg rfl K) kk
theorem V_dup (o : OkX X cc own Ts d) {v : Value} (hv : v.category = 1) (dg : decode cc pc = .ok (.dup, 1)) (kk : V X k z ws (pc + 1) lc (v :: v :: st)) : V X k z ws pc lc (v :: st) :=
  V_go o (fun _ _ _ _ _ _ _ _ _ _ _ _ _ _ _ _ _ hx hb _ K => lv_dup hx hb dg hv K) kk
theorem V_pop (o : OkX X cc own Ts d) {v : Value} (hv : v.category = 1) (dg : decode cc pc = .ok (.pop, 1)) (kk : V X k z ws (pc + 1) lc st) : V X k z ws pc lc (v :: st) :=
  V_go o (fun _ _ _ _ _ _ _ _ _ _ _ _ _ _ _ _ _ hx hb _ K => lv_pop hx hb dg hv K) kk
theorem V_goto (o : OkX X cc own Ts d) {off : Int} (tgt : Nat) (dg : decode cc pc = .ok (.goto off, 3)) (ht : (pc : Int) + off = (tgt : Int)) (kk : V X k z ws tgt lc st) : V X k z ws pc lc st :=
  V_go o (fun _ _ _ _ _ _ _ _ _ _ _ _ _ _ _ _ _ hx hb _ K => lv_goto hx hb dg ht K) kk
theorem V_store {len : Nat} {v : Value} {i : Nat} (o : OkX X cc own Ts d) (hn : i < XN X)
    (h : ∀ p l e R s m args below meth c H locs k z Q (ls : Array Slot) n, p.tables.exec = Jvm.exec → c.code = cc → lv_has ls n lc → i < n → (∀ ls' : Array Slot, lv_has ls' n (lcSet lc i v) → W p l e R s m args below meth c H locs k z Q (F0 m (pc + len) ls' st)) → W p l e R s m args below meth c H locs k z Q (F0 m pc ls (v :: st)))
    (kk : V X k z ws (pc + len) (lcSet lc i v) st) : V X k z ws pc lc (v :: st) := by
  obtain ⟨p, l, e, R, s, m, args, below, meth, c, D, tys, A, Q, n⟩ := X
  obtain ⟨hx, hb, -⟩ := o
  intro ls H locs hl hP hD hS
  exact h _ _ _ _ _ _ _ _ _ _ _ _ _ _ _ _ _ hx hb hl hn (fun ls' hl' => kk ls' H locs hl' hP hD hS)
theorem V_istore (o : OkX X cc own Ts d) {i : Nat} {x : Int32} (dg : decode cc pc = .ok (.istore i, 2)) (hn : i < XN X) (kk : V X k z ws (pc + 2) (lcSet lc i (.int x)) st) : V X k z ws pc lc (.int x :: st) :=
  V_store o hn (fun _ _ _ _ _ _ _ _ _ _ _ _ _ _ _ _ _ hx hb hl hn K => lv_istore hx hb dg hl hn rfl K) kk
theorem V_istore_n (o : OkX X cc own Ts d) {i : Fin 4} {x : Int32} (dg : decode cc pc = .ok (.istore_n i, 1)) (hn : i.val < XN X) (kk : V X k z ws (pc + 1) (lcSet lc i.val (.int x)) st) : V X k z ws pc lc (.int x :: st) :=
  V_store o hn (fun _ _ _ _ _ _ _ _ _ _ _ _ _ _ _ _ _ hx hb hl hn K => lv_istore_n hx hb dg rfl hl hn rfl K) kk
theorem V_astore (o : OkX X cc own Ts d) {i : Nat} {x : Nat} (dg : decode cc pc = .ok (.astore i, 2)) (hn : i < XN X) (kk : V X k z ws (pc + 2) (lcSet lc i (.ref x)) st) : V X k z ws pc lc (.ref x :: st) :=
  V_store o hn (fun _ _ _ _ _ _ _ _ _ _ _ _ _ _ _ _ _ hx hb hl hn K => lv_astore hx hb dg hl hn rfl K) kk
theorem V_astore_n (o : OkX X cc own Ts d) {i : Fin 4} {x : Nat} (dg : decode cc pc = .ok (.astore_n i, 1)) (hn : i.val < XN X) (kk : V X k z ws (pc + 1) (lcSet lc i.val (.ref x)) st) : V X k z ws pc lc (.ref x :: st) :=
  V_store o hn (fun _ _ _ _ _ _ _ _ _ _ _ _ _ _ _ _ _ hx hb hl hn K => lv_astore_n hx hb dg rfl hl hn rfl K) kk
theorem V_iinc (o : OkX X cc own Ts d) {i : Nat} {n : Int} {x : Int32} (y : Int32) (dg : decode cc pc = .ok (.iinc i n, 3)) (hn : i < XN X) (e : lcAt lc i = some (.int x)) (hy : Int32.ofInt n = y) (kk : V X k z ws (pc + 3) (lcSet lc i (.int (x + y))) st) : V X k z ws pc lc st := by
  obtain ⟨p, l, e', R, s, m, args, below, meth, c, D, tys, A, Q, n⟩ := X
  obtain ⟨hx, hb, -⟩ := o
  intro ls H locs hl hP hD hS
  obtain ⟨j, hj⟩ := List.getElem?_of_mem (lcAt_mem e)
  exact lv_iinc hx hb dg hl hj (by rw [hy]) hn rfl (fun ls' hl' => kk ls' H locs hl' hP hD hS)
theorem V_br {pc2 : Nat} {st2 : List Value} {c0 : Prop} (o : OkX X cc own Ts d)
    (h : ∀ p l e R s m args below meth c H locs k z Q (ls : Array Slot), p.tables.exec = Jvm.exec → c.code = cc → (c0 → W p l e R s m args below meth c H locs k z Q (F0 m pc2 ls st2)) → (¬ c0 → W p l e R s m args below meth c H locs k z Q (F0 m (pc + 3) ls st2)) → W p l e R s m args below meth c H locs k z Q (F0 m pc ls st))
    (kt : c0 → V X k z ws pc2 lc st2) (kf : ¬ c0 → V X k z ws (pc + 3) lc st2) : V X k z ws pc lc st := by
  obtain ⟨p, l, e, R, s, m, args, below, meth, c, D, tys, A, Q, n⟩ := X
  obtain ⟨hx, hb, -⟩ := o
  intro ls H locs hl hP hD hS
  exact h _ _ _ _ _ _ _ _ _ _ _ _ _ _ _ _ hx hb (fun q => kt q ls H locs hl hP hD hS) (fun q => kf q ls H locs hl hP hD hS)
theorem V_icmp_ge (o : OkX X cc own Ts d) {x y : Int32} {off : Int} (tgt : Nat) (dg : decode cc pc = .ok (.if_icmp .ge off, 3)) (ht : (pc : Int) + off = (tgt : Int)) (kt : y ≤ x → V X k z ws tgt lc st) (kf : ¬ y ≤ x → V X k z ws (pc + 3) lc st) : V X k z ws pc lc (.int y :: .int x :: st) :=
  V_br o (fun _ _ _ _ _ _ _ _ _ _ _ _ _ _ _ _ hx hb a b => lv_icmp_ge hx hb dg ht a b) kt kf
theorem V_icmp_lt (o : OkX X cc own Ts d) {x y : Int32} {off : Int} (tgt : Nat) (dg : decode cc pc = .ok (.if_icmp .lt off, 3)) (ht : (pc : Int) + off = (tgt : Int)) (kt : x < y → V X k z ws tgt lc st) (kf : ¬ x < y → V X k z ws (pc + 3) lc st) : V X k z ws pc lc (.int y :: .int x :: st) :=
  V_br o (fun _ _ _ _ _ _ _ _ _ _ _ _ _ _ _ _ hx hb a b => lv_icmp_lt hx hb dg ht a b) kt kf
theorem V_icmp_gt (o : OkX X cc own Ts d) {x y : Int32} {off : Int} (tgt : Nat) (dg : decode cc pc = .ok (.if_icmp .gt off, 3)) (ht : (pc : Int) + off = (tgt : Int)) (kt : y < x → V X k z ws tgt lc st) (kf : ¬ y < x → V X k z ws (pc + 3) lc st) : V X k z ws pc lc (.int y :: .int x :: st) :=
  V_br o (fun _ _ _ _ _ _ _ _ _ _ _ _ _ _ _ _ hx hb a b => lv_icmp_gt hx hb dg ht a b) kt kf
theorem V_icmp_le (o : OkX X cc own Ts d) {x y : Int32} {off : Int} (tgt : Nat) (dg : decode cc pc = .ok (.if_icmp .le off, 3)) (ht : (pc : Int) + off = (tgt : Int)) (kt : x ≤ y → V X k z ws tgt lc st) (kf : ¬ x ≤ y → V X k z ws (pc + 3) lc st) : V X k z ws pc lc (.int y :: .int x :: st) :=
  V_br o (fun _ _ _ _ _ _ _ _ _ _ _ _ _ _ _ _ hx hb a b => lv_icmp_le hx hb dg ht a b) kt kf
theorem V_icmp_eq (o : OkX X cc own Ts d) {x y : Int32} {off : Int} (tgt : Nat) (dg : decode cc pc = .ok (.if_icmp .eq off, 3)) (ht : (pc : Int) + off = (tgt : Int)) (kt : x = y → V X k z ws tgt lc st) (kf : ¬ x = y → V X k z ws (pc + 3) lc st) : V X k z ws pc lc (.int y :: .int x :: st) :=
  V_br o (fun _ _ _ _ _ _ _ _ _ _ _ _ _ _ _ _ hx hb a b => lv_icmp_eq hx hb dg ht a b) kt kf
theorem V_icmp_ne (o : OkX X cc own Ts d) {x y : Int32} {off : Int} (tgt : Nat) (dg : decode cc pc = .ok (.if_icmp .ne off, 3)) (ht : (pc : Int) + off = (tgt : Int)) (kt : ¬ x = y → V X k z ws tgt lc st) (kf : x = y → V X k z ws (pc + 3) lc st) : V X k z ws pc lc (.int y :: .int x :: st) :=
  V_br o (fun _ _ _ _ _ _ _ _ _ _ _ _ _ _ _ _ hx hb a b => lv_icmp_ne hx hb dg ht a (fun h => b (fun h2 => h2 h))) kt (fun h => kf (Decidable.not_not.mp h))
theorem V_if_eq (o : OkX X cc own Ts d) {x : Int32} {off : Int} (tgt : Nat) (dg : decode cc pc = .ok (.ifCond .eq off, 3)) (ht : (pc : Int) + off = (tgt : Int)) (kt : x = 0 → V X k z ws tgt lc st) (kf : ¬ x = 0 → V X k z ws (pc + 3) lc st) : V X k z ws pc lc (.int x :: st) :=
  V_br o (fun _ _ _ _ _ _ _ _ _ _ _ _ _ _ _ _ hx hb a b => lv_if_eq hx hb dg ht a b) kt kf
theorem V_if_ne (o : OkX X cc own Ts d) {x : Int32} {off : Int} (tgt : Nat) (dg : decode cc pc = .ok (.ifCond .ne off, 3)) (ht : (pc : Int) + off = (tgt : Int)) (kt : ¬ x = 0 → V X k z ws tgt lc st) (kf : x = 0 → V X k z ws (pc + 3) lc st) : V X k z ws pc lc (.int x :: st) :=
  V_br o (fun _ _ _ _ _ _ _ _ _ _ _ _ _ _ _ _ hx hb a b => lv_if_ne hx hb dg ht a (fun h => b (fun h2 => h2 h))) kt (fun h => kf (Decidable.not_not.mp h))
theorem V_if_lt (o : OkX X cc own Ts d) {x : Int32} {off : Int} (tgt : Nat) (dg : decode cc pc = .ok (.ifCond .lt off, 3)) (ht : (pc : Int) + off = (tgt : Int)) (kt : x < 0 → V X k z ws tgt lc st) (kf : ¬ x < 0 → V X k z ws (pc + 3) lc st) : V X k z ws pc lc (.int x :: st) :=
  V_br o (fun _ _ _ _ _ _ _ _ _ _ _ _ _ _ _ _ hx hb a b => lv_if_lt hx hb dg ht a b) kt kf
theorem V_if_ge (o : OkX X cc own Ts d) {x : Int32} {off : Int} (tgt : Nat) (dg : decode cc pc = .ok (.ifCond .ge off, 3)) (ht : (pc : Int) + off = (tgt : Int)) (kt : 0 ≤ x → V X k z ws tgt lc st) (kf : ¬ 0 ≤ x → V X k z ws (pc + 3) lc st) : V X k z ws pc lc (.int x :: st) :=
  V_br o (fun _ _ _ _ _ _ _ _ _ _ _ _ _ _ _ _ hx hb a b => lv_if_ge hx hb dg ht a b) kt kf
theorem V_if_le (o : OkX X cc own Ts d) {x : Int32} {off : Int} (tgt : Nat) (dg : decode cc pc = .ok (.ifCond .le off, 3)) (ht : (pc : Int) + off = (tgt : Int)) (kt : x ≤ 0 → V X k z ws tgt lc st) (kf : ¬ x ≤ 0 → V X k z ws (pc + 3) lc st) : V X k z ws pc lc (.int x :: st) :=
  V_br o (fun _ _ _ _ _ _ _ _ _ _ _ _ _ _ _ _ hx hb a b => lv_if_le hx hb dg ht a b) kt kf
theorem V_if_gt (o : OkX X cc own Ts d) {x : Int32} {off : Int} (tgt : Nat) (dg : decode cc pc = .ok (.ifCond .gt off, 3)) (ht : (pc : Int) + off = (tgt : Int)) (kt : 0 < x → V X k z ws tgt lc st) (kf : ¬ 0 < x → V X k z ws (pc + 3) lc st) : V X k z ws pc lc (.int x :: st) :=
  V_br o (fun _ _ _ _ _ _ _ _ _ _ _ _ _ _ _ _ hx hb a b => lv_if_gt hx hb dg ht a b) kt kf
theorem V_tableIn (o : OkX X cc own Ts d) {dflt lo hi : Int} {offs : Array Int} {len : Nat} {x : Int32} {off : Int} (tgt : Nat) (dg : decode cc pc = .ok (.tableswitch dflt lo hi offs, len)) (h1 : ¬ x.toInt < lo) (h2 : ¬ hi < x.toInt) (ho : offs[(x.toInt - lo).toNat]? = some off) (ht : (pc : Int) + off = (tgt : Int)) (kk : V X k z ws tgt lc st) : V X k z ws pc lc (.int x :: st) :=
  V_go o (fun _ _ _ _ _ _ _ _ _ _ _ _ _ _ _ _ _ hx hb _ K => lv_tableIn hx hb dg h1 h2 ho ht K) kk
theorem V_tableOut (o : OkX X cc own Ts d) {dflt lo hi : Int} {offs : Array Int} {len : Nat} {x : Int32} (tgt : Nat) (dg : decode cc pc = .ok (.tableswitch dflt lo hi offs, len)) (h : x.toInt < lo ∨ hi < x.toInt) (ht : (pc : Int) + dflt = (tgt : Int)) (kk : V X k z ws tgt lc st) : V X k z ws pc lc (.int x :: st) :=
  V_go o (fun _ _ _ _ _ _ _ _ _ _ _ _ _ _ _ _ _ hx hb _ K => lv_tableOut hx hb dg h ht K) kk
/-- fields, arrays -/
theorem V_get (o : OkX X cc own Ts d) {ref C : String} {T : u_T} {N ci index : Nat} {fs : List Value} {a : Nat} {v : Value} (q0 f : Nat) (hin : ∀ w ∈ u_ws C T N, w ∈ Ts) (he : ws[q0]? = some (a, .inr (ci, fs))) (hc : vwCl[ci]? = some (C, T, N)) (hk : f < N) (hlink : Cond.fieldLink own index ref (T f).2.1 (T f).2.2.1 ∈ Ts) (hsame : (T f).1 = ref) (hv : fs[f]? = some v) (dg : decode cc pc = .ok (.getfield index, 3)) (kk : V X k z ws (pc + 3) lc (v :: st)) : V X k z ws pc lc (.ref a :: st) := by
  obtain ⟨p, l, e', R, s, m, args, below, meth, c, D, tys, A, Q, n⟩ := X
  obtain ⟨hx, hb, hml, hown, hts, hK, hA, -⟩ := o
  intro ls H locs hl hP hD hS
  exact va_get hx hb hts hin hown hK hP q0 he hc f hk (hts _ hlink) (by rw [hsame]; exact fun _ h => h) hv dg (kk ls H locs hl hP hD hS)
theorem V_put (o : OkX X cc own Ts d) {ref C : String} {T : u_T} {N ci index : Nat} {fs : List Value} {a : Nat} {v : Value} {ty : FieldType} (q0 f : Nat) (hin : ∀ w ∈ u_ws C T N, w ∈ Ts) (ty0 : Nat → FieldType) (hty : ∀ k, k < N → parseFieldDescriptor (T k).2.2.1 = some (ty0 k)) (hnm : ∀ a, a < N → ∀ b, b < N → a ≠ b → (T a).2.1 ≠ (T b).2.1) (he : ws[q0]? = some (a, .inr (ci, fs))) (hc : vwCl[ci]? = some (C, T, N)) (hk : f < N) (hlink : Cond.fieldLink own index ref (T f).2.1 (T f).2.2.1 ∈ Ts) (hsame : (T f).1 = ref) (hfin : (T f).2.2.2 = false) (hd : parseFieldDescriptor (T f).2.2.1 = some ty) (hn : narrow ty v = v) (hfit : fits ty v = true) (hl : f < fs.length) (dg : decode cc pc = .ok (.putfield index, 3)) (kk : V X k z (ws.set q0 (a, .inr (ci, fs.set f v))) (pc + 3) lc st) : V X k z ws pc lc (v :: .ref a :: st) := by
  obtain ⟨p, l, e', R, s, m, args, below, meth, c, D, tys, A, Q, n⟩ := X
  obtain ⟨hx, hb, hml, hown, hts, hK, hA, -⟩ := o
  intro ls H locs hl9 hP hD hS
  exact va_put hx hb hts hin ty0 hty hnm hown hK hP hD hS q0 he hc f hk (hts _ hlink) (by rw [hsame]; exact fun _ h => h) hfin hd hn hfit hl dg (fun H1 locs1 hP1 hD1 hS1 => kk ls H1 locs1 hl9 hP1 hD1 hS1)
theorem V_iald (o : OkX X cc own Ts d) {a n : Nat} {f : Nat → Int32} {cA : ClassId} {i : Int32} (q0 t0 : Nat) (he : ws[q0]? = some (a, .inl (cA, n, .inl f))) (ht : (XK X)[t0]? = some (cA, .int)) (hi : vp_in i n) (dg : decode cc pc = .ok (.iaload, 1)) (kk : V X k z ws (pc + 1) lc (.int (f i.toNatClampNeg) :: st)) : V X k z ws pc lc (.int i :: .ref a :: st) := by
  obtain ⟨p, l, e', R, s, m, args, below, meth, c, D, tys, A, Q, n⟩ := X
  obtain ⟨hx, hb, hml, hown, hts, hK, hA, -⟩ := o
  intro ls H locs hl hP hD hS
  exact va_iald hx hb hK hP q0 t0 he ht hi dg (kk ls H locs hl hP hD hS)
theorem V_iast (o : OkX X cc own Ts d) {a n : Nat} {f : Nat → Int32} {cA : ClassId} {i x : Int32} (q0 t0 : Nat) (he : ws[q0]? = some (a, .inl (cA, n, .inl f))) (ht : (XK X)[t0]? = some (cA, .int)) (hi : vp_in i n) (dg : decode cc pc = .ok (.iastore, 1)) (kk : V X k z (ws.set q0 (a, .inl (cA, n, .inl (upd f i.toNatClampNeg x)))) (pc + 1) lc st) : V X k z ws pc lc (.int x :: .int i :: .ref a :: st) := by
  obtain ⟨p, l, e', R, s, m, args, below, meth, c, D, tys, A, Q, n⟩ := X
  obtain ⟨hx, hb, hml, hown, hts, hK, hA, -⟩ := o
  intro ls H locs hl hP hD hS
  exact va_iast hx hb hK hP hD hS q0 t0 he ht hi dg (fun H1 locs1 hP1 hD1 hS1 => kk ls H1 locs1 hl hP1 hD1 hS1)
theorem V_alen (o : OkX X cc own Ts d) {a : Nat} {x : vp_A} {cA : ClassId} {ty : FieldType} {v : Int32} (q0 t0 : Nat) (he : ws[q0]? = some (a, .inl (cA, x))) (ht : (XK X)[t0]? = some (cA, ty)) (hv : Int32.ofNat x.1 = v) (dg : decode cc pc = .ok (.arraylength, 1)) (kk : V X k z ws (pc + 1) lc (.int v :: st)) : V X k z ws pc lc (.ref a :: st) := by
  obtain ⟨p, l, e', R, s, m, args, below, meth, c, D, tys, A, Q, n⟩ := X
  obtain ⟨hx, hb, hml, hown, hts, hK, hA, -⟩ := o
  intro ls H locs hl hP hD hS
  exact va_alen hx hb hK hP q0 t0 he ht hv dg (kk ls H locs hl hP hD hS)
theorem V_top {x : Int32} (kk : ∀ y : Int32, y = x → V X k z ws pc lc (.int y :: st)) : V X k z ws pc lc (.int x :: st) := kk x rfl
theorem V_eq {ws2 : va_W} {st2 : List Value} (h1 : ws = ws2) (h2 : st = st2) (kk : V X k z ws2 pc lc st2) : V X k z ws pc lc st := by subst h1; subst h2; exact kk
end Rows
end
section
/-! Contracts over worlds, the splice of a callee's world into the caller's, call rows. -/
theorem pw_iff {D : va_G} {cl : List vw_C} {ws : va_W} {H : Heap} : va_P D cl ws H ↔ ∀ q ∈ ws, va_at D cl q H := by
  constructor
  · intro h q hq
    obtain ⟨j, hj⟩ := List.getElem?_of_mem hq
    exact h j q hj
  · intro h k q hk
    exact h q (List.mem_of_getElem? hk)
theorem dw_iff {A : Nat → Prop} {ws : va_W} : va_D A ws ↔ (ws.map Prod.fst).Nodup ∧ ∀ q ∈ ws, A q.1 := by
  constructor
  · intro hD
    refine ⟨?_, fun q hq => ?_⟩
    · rw [List.nodup_iff_pairwise_ne, List.pairwise_iff_getElem]
      intro i j hi hj hij he
      simp only [List.length_map] at hi hj
      simp only [List.getElem_map] at he
      exact absurd (hD.1 i j _ _ (List.getElem?_eq_getElem hi) (List.getElem?_eq_getElem hj) he) (by omega)
    · obtain ⟨j, hj⟩ := List.getElem?_of_mem hq
      exact hD.2 j q hj
  · rintro ⟨nd, hA⟩
    have key : ∀ i j : Nat, ∀ p q : Nat × va_E, i < j → ws[i]? = some p → ws[j]? = some q → p.1 ≠ q.1 := by
      intro i j p q hij hi hj
      obtain ⟨h1, e1⟩ := List.getElem?_eq_some_iff.mp hi
      obtain ⟨h2, e2⟩ := List.getElem?_eq_some_iff.mp hj
      have := List.pairwise_iff_getElem.mp (List.nodup_iff_pairwise_ne.mp nd) i j (by simpa using h1) (by simpa using h2) hij
      simp only [List.getElem_map] at this
      rw [e1, e2] at this
      exact this
    refine ⟨fun i j p q hi hj hpq => ?_, fun k q hk => hA q (List.mem_of_getElem? hk)⟩
    rcases Nat.lt_trichotomy i j with h | h | h
    · exact absurd hpq (key i j p q h hi hj)
    · exact h
    · exact absurd hpq.symm (key j i q p h hj hi)
theorem aw_iff {ws : va_W} {sz q : Nat} : va_A ws sz q ↔ q ∈ ws.map Prod.fst ∨ sz ≤ q := by
  unfold va_A
  constructor
  · rintro (⟨k, e, h⟩ | h)
    · exact Or.inl (List.mem_map.mpr ⟨(q, e), List.mem_of_getElem? h, rfl⟩)
    · exact Or.inr h
  · rintro (h | h)
    · obtain ⟨x, hx, rfl⟩ := List.mem_map.mp h
      obtain ⟨j, hj⟩ := List.getElem?_of_mem hx
      exact Or.inl ⟨j, x.2, hj⟩
    · exact Or.inr h
theorem aw_in {A0 : Nat → Prop} {w1 wc w2 : va_W} {H0 H : Heap} {locs : List Loc} (hD : va_D A0 (w1 ++ (wc ++ w2))) (hS : va_S A0 H0 H locs) (hA : ∀ q, H0.size ≤ q → A0 q) : ∀ q, va_A wc H.size q → A0 q := by
  intro q h
  rcases aw_iff.mp h with h | h
  · obtain ⟨x, hx, rfl⟩ := List.mem_map.mp h
    exact (dw_iff.mp hD).2 x (List.mem_append_right _ (List.mem_append_left _ hx))
  · exact hA q (Nat.le_trans hS.1 h)
theorem splice {A0 : Nat → Prop} {D : va_G} {cl : List vw_C} {w1 wc w2 wc2 : va_W} {H H1 : Heap} (hP : va_P D cl (w1 ++ (wc ++ w2)) H) (hD : va_D A0 (w1 ++ (wc ++ w2)))
    (hk : ∀ q : Nat, q < H.size → ¬ va_A wc H.size q → H1[q]? = H[q]?) (hF : ∀ q, va_A wc H.size q → A0 q) (hP1 : va_P D cl wc2 H1) (hD1 : va_D (va_A wc H.size) wc2) : va_P D cl (w1 ++ (wc2 ++ w2)) H1 ∧ va_D A0 (w1 ++ (wc2 ++ w2)) := by
  have hP' := pw_iff.mp hP
  obtain ⟨nd, hA⟩ := dw_iff.mp hD
  obtain ⟨nd1, hA1⟩ := dw_iff.mp hD1
  have hP1' := pw_iff.mp hP1
  simp only [List.map_append, List.nodup_append, List.mem_append] at nd
  obtain ⟨n1, ⟨n2, n3, n4⟩, n5⟩ := nd
  have out : ∀ q, q ∈ w1 ∨ q ∈ w2 → q.1 < H.size ∧ ¬ va_A wc H.size q.1 := by
    intro q hq
    have hl : q.1 < H.size := by
      rcases hq with h | h
      · exact (hP' q (List.mem_append_left _ h)).lt
      · exact (hP' q (List.mem_append_right _ (List.mem_append_right _ h))).lt
    refine ⟨hl, fun h => ?_⟩
    rcases aw_iff.mp h with h | h
    · rcases hq with g | g
      · exact n5 _ (List.mem_map.mpr ⟨q, g, rfl⟩) _ (Or.inl h) rfl
      · exact n4 _ h _ (List.mem_map.mpr ⟨q, g, rfl⟩) rfl
    · omega
  refine ⟨pw_iff.mpr fun q hq => ?_, dw_iff.mpr ⟨?_, fun q hq => ?_⟩⟩
  · rcases List.mem_append.mp hq with h | h
    · exact (hP' q (List.mem_append_left _ h)).kept (hk _ (out q (Or.inl h)).1 (out q (Or.inl h)).2)
    · rcases List.mem_append.mp h with h | h
      · exact hP1' q h
      · exact (hP' q (List.mem_append_right _ (List.mem_append_right _ h))).kept (hk _ (out q (Or.inr h)).1 (out q (Or.inr h)).2)
  · simp only [List.map_append, List.nodup_append, List.mem_append]
    refine ⟨n1, ⟨nd1, n3, fun a ha b hb hab => ?_⟩, fun a ha b hb hab => ?_⟩
    · obtain ⟨x, hx, rfl⟩ := List.mem_map.mp ha
      obtain ⟨y, hy, rfl⟩ := List.mem_map.mp hb
      exact (out y (Or.inr hy)).2 (hab ▸ hA1 x hx)
    · obtain ⟨x, hx, rfl⟩ := List.mem_map.mp ha
      rcases hb with hb | hb
      · obtain ⟨y, hy, rfl⟩ := List.mem_map.mp hb
        exact (out x (Or.inl hx)).2 (hab ▸ hA1 y hy)
      · exact n5 _ (List.mem_map.mpr ⟨x, hx, rfl⟩) _ (Or.inr hb) hab
  · rcases List.mem_append.mp hq with h | h
    · exact hA q (List.mem_append_left _ h)
    · rcases List.mem_append.mp h with h | h
      · exact hF _ (hA1 q h)
      · exact hA q (List.mem_append_right _ (List.mem_append_right _ h))
def rmd (d mc ms : Nat) : Room := { frames := d, cells := mc, slots := ms, locals := 40 * d }
def AtW (D : va_G) (tys : List (ClassId × FieldType)) (A : Nat → Prop) (ws : va_W) (t : State) : Prop := va_P D vwCl ws t.heap ∧ va_K D vwCl tys t ∧ va_D A ws
def PrW (D : va_G) (tys : List (ClassId × FieldType)) (sz : Nat) (ws : va_W) (U : State) : Prop := U.heap.size = sz ∧ AtW D tys (fun _ => True) ws U
theorem prw_blind {D : va_G} {tys : List (ClassId × FieldType)} {sz : Nat} {ws : va_W} {as : List Value} : FrameBlind (va_Pc as (PrW D tys sz ws)) := fun a U g mk q => by
  obtain ⟨q0, q1, qP, qK, qD⟩ := q
  exact ⟨q0, q1, qP, va_K.moved (u := U) (U := U.calling g mk a) (Vm.Alike.refl U.vm) qK, qD⟩
/-- a contract: an int (or boolean) is answered -/
def CI {S : Type} (l : Launch) (y : MethodName) (w : List Cond) (d mc ms : Nat) (D : va_G) (tys : List (ClassId × FieldType)) (as : List Value) (ws : va_W) (post : Int32 → S → Prop) (ws2 : S → va_W) : Prop :=
  ∀ sz : Nat, Met l y w (rmd d mc ms) (va_Pc as (PrW D tys sz ws)) (va_Qi post (fun u t => AtW D tys (va_A ws sz) (ws2 u) t) (va_A ws sz)) mc ms (va_A ws sz)
def CV {S : Type} (l : Launch) (y : MethodName) (w : List Cond) (d mc ms : Nat) (D : va_G) (tys : List (ClassId × FieldType)) (as : List Value) (ws : va_W) (post : S → Prop) (ws2 : S → va_W) : Prop :=
  ∀ sz : Nat, Met l y w (rmd d mc ms) (va_Pc as (PrW D tys sz ws)) (va_Qv post (fun u t => AtW D tys (va_A ws sz) (ws2 u) t) (va_A ws sz)) mc ms (va_A ws sz)
theorem CI_of {S : Type} {l : Launch} {y : MethodName} {w w0 : List Cond} {cc : ByteArray} {maxL d mc ms : Nat} {ret : FieldType} {D : va_G} {tys : List (ClassId × FieldType)} {as : List Value} {ws : va_W} {post : Int32 → S → Prop} {ws2 : S → va_W}
    (hy : plainName y.cls = true) (hw : w = Cond.code y cc maxL (some ret) :: w0) (hlen : (lg_sl as).length ≤ maxL)
    (body : ∀ X : XT, XL X = l → XD X = D → XK X = tys → XN X = maxL → (XR X).cells = mc → (XR X).slots = ms → OkX X cc y.cls w d →
      (∀ (pc : Nat) (lc : List (Nat × Value)) (v : Int32) (u : S), decode cc pc = .ok (.ireturn, 1) → narrow ret (.int v) = .int v → post v u → V X mc ms (ws2 u) pc lc [.int v]) → V X 0 0 ws 0 (lv_args 0 as) []) :
    CI l y w d mc ms D tys as ws post ws2 := by
  intro sz
  refine Met.ofW (cc := cc) (maxL := maxL) (ret := some ret) hy hw ?_
  intro p e s m args below meth c s₁ B hml hv
  obtain ⟨rfl, hsz, hP, hK, hD0⟩ := hv
  subst hsz
  have hlocks : meth.locks = false := B.notSynchronized
  have hx := B.exec
  have hb := B.bytes
  have hr := B.returns
  rw [lg_entry_eq]
  refine body (p, l, e, (headSpec w (rmd d mc ms)).room, s, m, _, below, meth, c, D, tys, va_A ws s.heap.size, MQ below (va_Qi post (fun u t => AtW D tys (va_A ws s.heap.size) (ws2 u) t) (va_A ws s.heap.size)) _ s mc ms (va_A ws s.heap.size), maxL) rfl rfl rfl rfl rfl rfl ⟨hx, hb, hml, findClass_of_methodNamed B.named, atoms_spec (ws := w) B.pre, hK, fun q h => Or.inr h, Nat.le_refl _, Nat.le_refl _⟩ ?_ _ s.heap [] (lv_entry as hlen) hP hD0.self va_S.rf
  intro pc lc v u dg hn hp ls H locs hl hP1 hD1 hS
  exact W.zret hx hb hr hn (fun t ht hW => ⟨⟨v, u, rfl, hp, by rw [ht]; exact hP1, va_K.moved hW.alike hK, hD1⟩, hS.F ht⟩) hS.2.2 dg
theorem CV_of {S : Type} {l : Launch} {y : MethodName} {w w0 : List Cond} {cc : ByteArray} {maxL d mc ms : Nat} {D : va_G} {tys : List (ClassId × FieldType)} {as : List Value} {ws : va_W} {post : S → Prop} {ws2 : S → va_W}
    (hy : plainName y.cls = true) (hw : w = Cond.code y cc maxL none :: w0) (hlen : (lg_sl as).length ≤ maxL)
    (body : ∀ X : XT, XL X = l → XD X = D → XK X = tys → XN X = maxL → (XR X).cells = mc → (XR X).slots = ms → OkX X cc y.cls w d →
      (∀ (pc : Nat) (lc : List (Nat × Value)) (u : S), decode cc pc = .ok (.return_, 1) → post u → V X mc ms (ws2 u) pc lc []) → V X 0 0 ws 0 (lv_args 0 as) []) :
    CV l y w d mc ms D tys as ws post ws2 := by
  intro sz
  refine Met.ofW (cc := cc) (maxL := maxL) (ret := none) hy hw ?_
  intro p e s m args below meth c s₁ B hml hv
  obtain ⟨rfl, hsz, hP, hK, hD0⟩ := hv
  subst hsz
  have hlocks : meth.locks = false := B.notSynchronized
  have hx := B.exec
  have hb := B.bytes
  have hr := B.returns
  rw [lg_entry_eq]
  refine body (p, l, e, (headSpec w (rmd d mc ms)).room, s, m, _, below, meth, c, D, tys, va_A ws s.heap.size, MQ below (va_Qv post (fun u t => AtW D tys (va_A ws s.heap.size) (ws2 u) t) (va_A ws s.heap.size)) _ s mc ms (va_A ws s.heap.size), maxL) rfl rfl rfl rfl rfl rfl ⟨hx, hb, hml, findClass_of_methodNamed B.named, atoms_spec (ws := w) B.pre, hK, fun q h => Or.inr h, Nat.le_refl _, Nat.le_refl _⟩ ?_ _ s.heap [] (lv_entry as hlen) hP hD0.self va_S.rf
  intro pc lc u dg hp ls H locs hl hP1 hD1 hS
  exact W.vret hx hb hr (fun t ht hW => ⟨⟨u, rfl, hp, by rw [ht]; exact hP1, va_K.moved hW.alike hK, hD1⟩, hS.F ht⟩) hS.2.2 dg
section Calls
variable {X : XT} {k z : Nat} {ws : va_W} {pc : Nat} {lc : List (Nat × Value)} {st : List Value} {cc : ByteArray} {own : String} {Ts : List Cond} {d : Nat}
theorem V_callVi {S : Type} (o : OkX X cc own Ts d) {C : String} {y : MethodName} {w w0 : List Cond} {bytes : ByteArray} {maxL index d2 mc ms b q0 ci N : Nat} {ret : Option FieldType} {as rest fs : List Value} {T : u_T} {wc : va_W} {post : Int32 → S → Prop} {wc2 : S → va_W}
    (hM : CI (XL X) y w d2 mc ms (XD X) (XK X) (.ref b :: as) wc post wc2) (w1 w2 : va_W)
    (hG : GoodIn Ts (wsV own index C y w)) (hw : w = Cond.code y bytes maxL ret :: w0)
    (hd : y.cls = C ∧ y.cls ≠ "java/lang/invoke/MethodHandle" ∧ y.cls ≠ "java/lang/invoke/VarHandle" ∧ (parseMethodDescriptor y.desc).map (fun d => d.parameters.length) = some as.length)
    (hdd : d2 + 1 ≤ d ∧ maxL ≤ 21) (he : wc[q0]? = some (b, .inr (ci, fs))) (hc : vwCl[ci]? = some (C, T, N))
    (hst : st = as.reverse ++ .ref b :: rest) (hcat : (rest.map fun v => v.category).sum ≤ 8) (hk : k + mc ≤ (XR X).cells ∧ z + ms ≤ (XR X).slots)
    (dg : decode cc pc = .ok (.invokevirtual index, 3)) (hws : ws = w1 ++ (wc ++ w2))
    (kk : ∀ (r : Int32) (u : S), post r u → V X (k + mc) (z + ms) (w1 ++ (wc2 u ++ w2)) (pc + 3) lc (.int r :: rest)) : V X k z ws pc lc st := by
  obtain ⟨p, l, e', R, s, m, args, below, meth, c, D, tys, A, Q, n⟩ := X
  obtain ⟨hx, hb, hml, hown, hts, hK, hA, hR1, hR2⟩ := o
  subst hws; subst hst
  intro ls H locs hl hP hD hS
  have hP' := pw_iff.mp hP
  have hPc : va_P D vwCl wc H := pw_iff.mpr fun q hq => hP' q (List.mem_append_right _ (List.mem_append_left _ hq))
  have hDc : va_D A wc := by
    have h := dw_iff.mp hD
    simp only [List.map_append, List.nodup_append] at h
    exact dw_iff.mpr ⟨h.1.2.1.1, fun q hq => h.2 q (List.mem_append_right _ (List.mem_append_left _ hq))⟩
  have hFc := aw_in hD hS hA
  dsimp only [XR, XL, XD, XK] at hM hk
  have hR1' : d ≤ R.frames := hR1
  have hR2' : 40 * d ≤ R.locals := hR2
  refine va_calli (va_runV (As := as) (rest := rest) ⟨hx, hb, hml, hown, hts⟩ (hM H.size) (cwV as.length hts hG hw rfl rfl hd ⟨Nat.le_trans hdd.1 hR1', ?_⟩) ⟨prw_blind, va_recv hK hPc (ci := ci) (q0 := q0) hc he, fun U hU hW => ⟨rfl, by rw [hU], by rw [hU]; exact hPc, va_K.moved hW.alike hK, hDc.weaken (fun _ _ _ _ => trivial)⟩⟩ rfl rfl hl.1 rfl (lv_room hcat) dg hk) hS (fun q _ h => hFc q h) hFc (fun r u t H1 locs1 ht hvm hw1 hB hz1 hk1 hS1 => ?_)
  · show 8 + (maxL + 11) + 40 * d2 ≤ R.locals
    omega
  · obtain ⟨hP1, hK1, hD1⟩ := hB
    rw [ht] at hP1
    obtain ⟨hP2, hD2⟩ := splice hP hD hk1 hFc hP1 hD1
    exact kk r u hw1 ls H1 locs1 hl hP2 hD2 hS1
theorem V_callVv {S : Type} (o : OkX X cc own Ts d) {C : String} {y : MethodName} {w w0 : List Cond} {bytes : ByteArray} {maxL index d2 mc ms b q0 ci N : Nat} {ret : Option FieldType} {as rest fs : List Value} {T : u_T} {wc : va_W} {post : S → Prop} {wc2 : S → va_W}
    (hM : CV (XL X) y w d2 mc ms (XD X) (XK X) (.ref b :: as) wc post wc2) (w1 w2 : va_W)
    (hG : GoodIn Ts (wsV own index C y w)) (hw : w = Cond.code y bytes maxL ret :: w0)
    (hd : y.cls = C ∧ y.cls ≠ "java/lang/invoke/MethodHandle" ∧ y.cls ≠ "java/lang/invoke/VarHandle" ∧ (parseMethodDescriptor y.desc).map (fun d => d.parameters.length) = some as.length)
    (hdd : d2 + 1 ≤ d ∧ maxL ≤ 21) (he : wc[q0]? = some (b, .inr (ci, fs))) (hc : vwCl[ci]? = some (C, T, N))
    (hst : st = as.reverse ++ .ref b :: rest) (hcat : (rest.map fun v => v.category).sum ≤ 8) (hk : k + mc ≤ (XR X).cells ∧ z + ms ≤ (XR X).slots)
    (dg : decode cc pc = .ok (.invokevirtual index, 3)) (hws : ws = w1 ++ (wc ++ w2))
    (kk : ∀ (u : S), post u → V X (k + mc) (z + ms) (w1 ++ (wc2 u ++ w2)) (pc + 3) lc rest) : V X k z ws pc lc st := by
  obtain ⟨p, l, e', R, s, m, args, below, meth, c, D, tys, A, Q, n⟩ := X
  obtain ⟨hx, hb, hml, hown, hts, hK, hA, hR1, hR2⟩ := o
  subst hws; subst hst
  intro ls H locs hl hP hD hS
  have hP' := pw_iff.mp hP
  have hPc : va_P D vwCl wc H := pw_iff.mpr fun q hq => hP' q (List.mem_append_right _ (List.mem_append_left _ hq))
  have hDc : va_D A wc := by
    have h := dw_iff.mp hD
    simp only [List.map_append, List.nodup_append] at h
    exact dw_iff.mpr ⟨h.1.2.1.1, fun q hq => h.2 q (List.mem_append_right _ (List.mem_append_left _ hq))⟩
  have hFc := aw_in hD hS hA
  dsimp only [XR, XL, XD, XK] at hM hk
  have hR1' : d ≤ R.frames := hR1
  have hR2' : 40 * d ≤ R.locals := hR2
  refine va_callv (va_runV (As := as) (rest := rest) ⟨hx, hb, hml, hown, hts⟩ (hM H.size) (cwV as.length hts hG hw rfl rfl hd ⟨Nat.le_trans hdd.1 hR1', ?_⟩) ⟨prw_blind, va_recv hK hPc (ci := ci) (q0 := q0) hc he, fun U hU hW => ⟨rfl, by rw [hU], by rw [hU]; exact hPc, va_K.moved hW.alike hK, hDc.weaken (fun _ _ _ _ => trivial)⟩⟩ rfl rfl hl.1 rfl (lv_room hcat) dg hk) hS (fun q _ h => hFc q h) hFc (fun u t H1 locs1 ht hvm hw1 hB hz1 hk1 hS1 => ?_)
  · show 8 + (maxL + 11) + 40 * d2 ≤ R.locals
    omega
  · obtain ⟨hP1, hK1, hD1⟩ := hB
    rw [ht] at hP1
    obtain ⟨hP2, hD2⟩ := splice hP hD hk1 hFc hP1 hD1
    exact kk u hw1 ls H1 locs1 hl hP2 hD2 hS1
theorem V_callSi {S : Type} (o : OkX X cc own Ts d) {y : MethodName} {w w0 : List Cond} {bytes : ByteArray} {maxL index d2 mc ms : Nat} {ret : Option FieldType} {as rest : List Value} {wc : va_W} {post : Int32 → S → Prop} {wc2 : S → va_W}
    (hM : CI (XL X) y w d2 mc ms (XD X) (XK X) as wc post wc2) (w1 w2 : va_W)
    (hG : GoodIn Ts (va_wsS own index y w)) (hw : w = Cond.code y bytes maxL ret :: w0)
    (hd : y.cls ≠ "java/lang/invoke/MethodHandle" ∧ y.cls ≠ "java/lang/invoke/VarHandle" ∧ (parseMethodDescriptor y.desc).map (fun d => d.parameters.length) = some as.length)
    (hdd : d2 + 1 ≤ d ∧ maxL ≤ 21)
    (hst : st = as.reverse ++ rest) (hcat : (rest.map fun v => v.category).sum ≤ 8) (hk : k + mc ≤ (XR X).cells ∧ z + ms ≤ (XR X).slots)
    (dg : decode cc pc = .ok (.invokestatic index, 3)) (hws : ws = w1 ++ (wc ++ w2))
    (kk : ∀ (r : Int32) (u : S), post r u → V X (k + mc) (z + ms) (w1 ++ (wc2 u ++ w2)) (pc + 3) lc (.int r :: rest)) : V X k z ws pc lc st := by
  obtain ⟨p, l, e', R, s, m, args, below, meth, c, D, tys, A, Q, n⟩ := X
  obtain ⟨hx, hb, hml, hown, hts, hK, hA, hR1, hR2⟩ := o
  subst hws; subst hst
  intro ls H locs hl hP hD hS
  have hP' := pw_iff.mp hP
  have hPc : va_P D vwCl wc H := pw_iff.mpr fun q hq => hP' q (List.mem_append_right _ (List.mem_append_left _ hq))
  have hDc : va_D A wc := by
    have h := dw_iff.mp hD
    simp only [List.map_append, List.nodup_append] at h
    exact dw_iff.mpr ⟨h.1.2.1.1, fun q hq => h.2 q (List.mem_append_right _ (List.mem_append_left _ hq))⟩
  have hFc := aw_in hD hS hA
  dsimp only [XR, XL, XD, XK] at hM hk
  have hR1' : d ≤ R.frames := hR1
  have hR2' : 40 * d ≤ R.locals := hR2
  refine va_calli (va_runS (As := as) (rest := rest) ⟨hx, hb, hml, hown, hts⟩ (hM H.size) (va_cwS as.length hts hG hw rfl rfl hd ⟨Nat.le_trans hdd.1 hR1', ?_⟩) ⟨prw_blind, fun U hU hW => ⟨rfl, by rw [hU], by rw [hU]; exact hPc, va_K.moved hW.alike hK, hDc.weaken (fun _ _ _ _ => trivial)⟩⟩ rfl rfl hl.1 rfl (lv_room hcat) dg hk) hS (fun q _ h => hFc q h) hFc (fun r u t H1 locs1 ht hvm hw1 hB hz1 hk1 hS1 => ?_)
  · show 8 + (maxL + 11) + 40 * d2 ≤ R.locals
    omega
  · obtain ⟨hP1, hK1, hD1⟩ := hB
    rw [ht] at hP1
    obtain ⟨hP2, hD2⟩ := splice hP hD hk1 hFc hP1 hD1
    exact kk r u hw1 ls H1 locs1 hl hP2 hD2 hS1
end Calls
/-- contracts of one answer and one world behind -/
abbrev CId (l : Launch) (y : MethodName) (w : List Cond) (d : Nat) (D : va_G) (tys : List (ClassId × FieldType)) (as : List Value) (ws : va_W) (r : Int32) (ws2 : va_W) : Prop := CI (S := Unit) l y w d 0 0 D tys as ws (fun x _ => x = r) (fun _ => ws2)
abbrev CVd (l : Launch) (y : MethodName) (w : List Cond) (d : Nat) (D : va_G) (tys : List (ClassId × FieldType)) (as : List Value) (ws : va_W) (ws2 : va_W) : Prop := CV (S := Unit) l y w d 0 0 D tys as ws (fun _ => True) (fun _ => ws2)
section Calls2
variable {X : XT} {k z : Nat} {ws : va_W} {pc : Nat} {lc : List (Nat × Value)} {st : List Value} {cc : ByteArray} {own : String} {Ts : List Cond} {d : Nat}
theorem V_wVi (o : OkX X cc own Ts d) {C : String} {y : MethodName} {w w0 : List Cond} {bytes : ByteArray} {maxL index d2 b ci N : Nat} {ret : Option FieldType} {as rest fs : List Value} {T : u_T} {wc wc2 : va_W} {r : Int32}
    (hM : CId (XL X) y w d2 (XD X) (XK X) (.ref b :: as) wc r wc2) (i len : Nat) (ws9 : va_W)
    (hG : GoodIn Ts (wsV own index C y w)) (hw : w = Cond.code y bytes maxL ret :: w0)
    (hd : y.cls = C ∧ y.cls ≠ "java/lang/invoke/MethodHandle" ∧ y.cls ≠ "java/lang/invoke/VarHandle" ∧ (parseMethodDescriptor y.desc).map (fun d => d.parameters.length) = some as.length)
    (hdd : d2 + 1 ≤ d ∧ maxL ≤ 21) (he : wc[0]? = some (b, .inr (ci, fs))) (hc : vwCl[ci]? = some (C, T, N))
    (hst : st = as.reverse ++ .ref b :: rest) (hcat : (rest.map fun v => v.category).sum ≤ 8)
    (dg : decode cc pc = .ok (.invokevirtual index, 3)) (hws : ws = ws.take i ++ (wc ++ ws.drop (i + len))) (hws9 : ws.take i ++ (wc2 ++ ws.drop (i + len)) = ws9)
    (kk : V X k z ws9 (pc + 3) lc (.int r :: rest)) (hcs : k ≤ (XR X).cells ∧ z ≤ (XR X).slots := by exact ⟨Nat.zero_le _, Nat.zero_le _⟩) : V X k z ws pc lc st :=
  V_callVi o hM (ws.take i) (ws.drop (i + len)) hG hw hd hdd he hc hst hcat hcs dg hws (fun r2 _ h => by subst h; rw [hws9]; exact kk)
theorem V_rVi (o : OkX X cc own Ts d) {C : String} {y : MethodName} {w w0 : List Cond} {bytes : ByteArray} {maxL index d2 b ci N : Nat} {ret : Option FieldType} {as rest fs : List Value} {T : u_T} {wc : va_W} {r : Int32}
    (hM : CId (XL X) y w d2 (XD X) (XK X) (.ref b :: as) wc r wc) (i len : Nat)
    (hG : GoodIn Ts (wsV own index C y w)) (hw : w = Cond.code y bytes maxL ret :: w0)
    (hd : y.cls = C ∧ y.cls ≠ "java/lang/invoke/MethodHandle" ∧ y.cls ≠ "java/lang/invoke/VarHandle" ∧ (parseMethodDescriptor y.desc).map (fun d => d.parameters.length) = some as.length)
    (hdd : d2 + 1 ≤ d ∧ maxL ≤ 21) (he : wc[0]? = some (b, .inr (ci, fs))) (hc : vwCl[ci]? = some (C, T, N))
    (hst : st = as.reverse ++ .ref b :: rest) (hcat : (rest.map fun v => v.category).sum ≤ 8)
    (dg : decode cc pc = .ok (.invokevirtual index, 3)) (hws : ws = ws.take i ++ (wc ++ ws.drop (i + len)))
    (kk : V X k z ws (pc + 3) lc (.int r :: rest)) (hcs : k ≤ (XR X).cells ∧ z ≤ (XR X).slots := by exact ⟨Nat.zero_le _, Nat.zero_le _⟩) : V X k z ws pc lc st :=
  V_callVi o hM (ws.take i) (ws.drop (i + len)) hG hw hd hdd he hc hst hcat hcs dg hws (fun r2 _ h => by subst h; rw [← hws]; exact kk)
theorem V_wVv (o : OkX X cc own Ts d) {C : String} {y : MethodName} {w w0 : List Cond} {bytes : ByteArray} {maxL index d2 b ci N : Nat} {ret : Option FieldType} {as rest fs : List Value} {T : u_T} {wc wc2 : va_W}
    (hM : CVd (XL X) y w d2 (XD X) (XK X) (.ref b :: as) wc wc2) (i len : Nat) (ws9 : va_W)
    (hG : GoodIn Ts (wsV own index C y w)) (hw : w = Cond.code y bytes maxL ret :: w0)
    (hd : y.cls = C ∧ y.cls ≠ "java/lang/invoke/MethodHandle" ∧ y.cls ≠ "java/lang/invoke/VarHandle" ∧ (parseMethodDescriptor y.desc).map (fun d => d.parameters.length) = some as.length)
    (hdd : d2 + 1 ≤ d ∧ maxL ≤ 21) (he : wc[0]? = some (b, .inr (ci, fs))) (hc : vwCl[ci]? = some (C, T, N))
    (hst : st = as.reverse ++ .ref b :: rest) (hcat : (rest.map fun v => v.category).sum ≤ 8)
    (dg : decode cc pc = .ok (.invokevirtual index, 3)) (hws : ws = ws.take i ++ (wc ++ ws.drop (i + len))) (hws9 : ws.take i ++ (wc2 ++ ws.drop (i + len)) = ws9)
    (kk : V X k z ws9 (pc + 3) lc rest) (hcs : k ≤ (XR X).cells ∧ z ≤ (XR X).slots := by exact ⟨Nat.zero_le _, Nat.zero_le _⟩) : V X k z ws pc lc st :=
  V_callVv o hM (ws.take i) (ws.drop (i + len)) hG hw hd hdd he hc hst hcat hcs dg hws (fun _ _ => by rw [hws9]; exact kk)
theorem V_rSi (o : OkX X cc own Ts d) {y : MethodName} {w w0 : List Cond} {bytes : ByteArray} {maxL index d2 : Nat} {ret : Option FieldType} {as rest : List Value} {wc : va_W} {r : Int32}
    (hM : CId (XL X) y w d2 (XD X) (XK X) as wc r wc) (i len : Nat)
    (hG : GoodIn Ts (va_wsS own index y w)) (hw : w = Cond.code y bytes maxL ret :: w0)
    (hd : y.cls ≠ "java/lang/invoke/MethodHandle" ∧ y.cls ≠ "java/lang/invoke/VarHandle" ∧ (parseMethodDescriptor y.desc).map (fun d => d.parameters.length) = some as.length)
    (hdd : d2 + 1 ≤ d ∧ maxL ≤ 21)
    (hst : st = as.reverse ++ rest) (hcat : (rest.map fun v => v.category).sum ≤ 8)
    (dg : decode cc pc = .ok (.invokestatic index, 3)) (hws : ws = ws.take i ++ (wc ++ ws.drop (i + len)))
    (kk : V X k z ws (pc + 3) lc (.int r :: rest)) (hcs : k ≤ (XR X).cells ∧ z ≤ (XR X).slots := by exact ⟨Nat.zero_le _, Nat.zero_le _⟩) : V X k z ws pc lc st :=
  V_callSi o hM (ws.take i) (ws.drop (i + len)) hG hw hd hdd hst hcat hcs dg hws (fun r2 _ h => by subst h; rw [← hws]; exact kk)
end Calls2
end
section
/-! Row: a row of numbers that tests each index itself -/
def rat (n : Nat) (f : Nat → Int32) (i : Int32) : Int32 := if 0 ≤ i ∧ i < nI n then f i.toNatClampNeg else 0
def rup (n : Nat) (f : Nat → Int32) (i x : Int32) : Nat → Int32 := if 0 ≤ i ∧ i < nI n then upd f i.toNatClampNeg x else f
def rfi (n : Nat) (f : Nat → Int32) (x : Int32) : Nat → Int32 := fun j => if j < n then x else f j
def wRow (cI : ClassId) (h a n : Nat) (f : Nat → Int32) : va_W := [(h, .inr (5, [.ref a])), (a, .inl (cI, n, .inl f))]
theorem i_nlt {a b : Int32} (h : ¬ a < b) : b ≤ a := Int32.not_lt.mp h
theorem i_nle {a b : Int32} (h : ¬ a ≤ b) : b < a := Int32.not_le.mp h
theorem vp_of {i : Int32} {n : Nat} (hn : n < 2 ^ 31) (h0 : ¬ i < 0) (h1 : ¬ nI n ≤ i) : vp_in i n := by
  rintro (h | h)
  · exact h0 h
  · obtain ⟨j, hj, rfl⟩ := nI_of h0
    rw [nI_clamp hj] at h
    exact h1 (nI_le h hj)
theorem hdX6_at : yX6_at.cls = RX6 ∧ yX6_at.cls ≠ "java/lang/invoke/MethodHandle" ∧ yX6_at.cls ≠ "java/lang/invoke/VarHandle" ∧ (parseMethodDescriptor yX6_at.desc).map (fun d => d.parameters.length) = some 1 := by decide +kernel
theorem hdX6_put : yX6_put.cls = RX6 ∧ yX6_put.cls ≠ "java/lang/invoke/MethodHandle" ∧ yX6_put.cls ≠ "java/lang/invoke/VarHandle" ∧ (parseMethodDescriptor yX6_put.desc).map (fun d => d.parameters.length) = some 2 := by decide +kernel
theorem hdX6_fill : yX6_fill.cls = RX6 ∧ yX6_fill.cls ≠ "java/lang/invoke/MethodHandle" ∧ yX6_fill.cls ≠ "java/lang/invoke/VarHandle" ∧ (parseMethodDescriptor yX6_fill.desc).map (fun d => d.parameters.length) = some 1 := by decide +kernel
theorem hiX6_at_X6 : ∀ w ∈ wsX60, w ∈ wsX6_at := by decide +kernel
theorem lkX6_at_7 : Cond.fieldLink RX6 7 RX6 "cells" "[I" ∈ wsX6_at := by decide +kernel
set_option maxHeartbeats 4000000 in
set_option maxRecDepth 100000 in
/-- Row.at -/
theorem cX6_at_met (l : Launch) (D : va_G) (tys : List (ClassId × FieldType)) (cI : ClassId) (ht : tys[0]? = some (cI, .int)) (h a n : Nat) (f : Nat → Int32) (hn0 : n < 2 ^ 31) (i : Int32) : CId l yX6_at wsX6_at 0 D tys [.ref h, .int i] (wRow cI h a n f) (rat n f i) (wRow cI h a n f) := by
  refine CI_of (maxL := 2) (cc := cX6_at) (y := yX6_at) rfl rfl (Nat.le_of_ble_eq_true rfl) (fun X hl hD hk hn hcz hsz o fin => ?_)
  subst hl; subst hD; subst hk
  refine V_iload_n (pc := 0) o dX6_at_0 rfl ?_
  refine V_if_lt (pc := 1) o 22 dX6_at_1 (by decide) (fun c1 => ?_) (fun c1 => ?_)
  · refine V_iconst (pc := 22) o 0 dX6_at_22 (by decide) ?_
    exact fin 23 _ _ () dX6_at_23 rfl (by first | (unfold rat; rw [if_pos ⟨i_nlt c1, i_nle c10⟩]; done) | (unfold rat; rw [if_neg (fun q => Int32.not_le.mpr c1 q.1)]; done) | (unfold rat; rw [if_neg (fun q => Int32.not_le.mpr q.2 c10)]; done))
  · refine V_iload_n (pc := 4) o dX6_at_4 rfl ?_
    refine V_aload_n (pc := 5) o dX6_at_5 rfl ?_
    refine V_get (pc := 6) o 0 0 hiX6_at_X6 rfl rfl (by decide) lkX6_at_7 rfl rfl dX6_at_6 ?_
    refine V_alen (pc := 9) o 1 0 rfl ht rfl dX6_at_9 ?_
    refine V_icmp_ge (pc := 10) o 22 dX6_at_10 (by decide) (fun c10 => ?_) (fun c10 => ?_)
    · refine V_iconst (pc := 22) o 0 dX6_at_22 (by decide) ?_
      exact fin 23 _ _ () dX6_at_23 rfl (by first | (unfold rat; rw [if_pos ⟨i_nlt c1, i_nle c10⟩]; done) | (unfold rat; rw [if_neg (fun q => Int32.not_le.mpr c1 q.1)]; done) | (unfold rat; rw [if_neg (fun q => Int32.not_le.mpr q.2 c10)]; done))
    · refine V_aload_n (pc := 13) o dX6_at_13 rfl ?_
      refine V_get (pc := 14) o 0 0 hiX6_at_X6 rfl rfl (by decide) lkX6_at_7 rfl rfl dX6_at_14 ?_
      refine V_iload_n (pc := 17) o dX6_at_17 rfl ?_
      refine V_iald (pc := 18) o 1 0 rfl ht (vp_of hn0 c1 c10) dX6_at_18 ?_
      refine V_goto (pc := 19) o 23 dX6_at_19 (by decide) ?_
      exact fin 23 _ _ () dX6_at_23 rfl (by first | (unfold rat; rw [if_pos ⟨i_nlt c1, i_nle c10⟩]; done) | (unfold rat; rw [if_neg (fun q => Int32.not_le.mpr c1 q.1)]; done) | (unfold rat; rw [if_neg (fun q => Int32.not_le.mpr q.2 c10)]; done))
theorem hiX6_put_X6 : ∀ w ∈ wsX60, w ∈ wsX6_put := by decide +kernel
theorem lkX6_put_7 : Cond.fieldLink RX6 7 RX6 "cells" "[I" ∈ wsX6_put := by decide +kernel
set_option maxHeartbeats 4000000 in
set_option maxRecDepth 100000 in
/-- Row.put -/
theorem cX6_put_met (l : Launch) (D : va_G) (tys : List (ClassId × FieldType)) (cI : ClassId) (ht : tys[0]? = some (cI, .int)) (h a n : Nat) (f : Nat → Int32) (hn0 : n < 2 ^ 31) (i x : Int32) : CVd l yX6_put wsX6_put 0 D tys [.ref h, .int i, .int x] (wRow cI h a n f) (wRow cI h a n (rup n f i x)) := by
  refine CV_of (maxL := 3) (cc := cX6_put) (y := yX6_put) rfl rfl (Nat.le_of_ble_eq_true rfl) (fun X hl hD hk hn hcz hsz o fin => ?_)
  subst hl; subst hD; subst hk
  refine V_iload_n (pc := 0) o dX6_put_0 rfl ?_
  refine V_if_lt (pc := 1) o 20 dX6_put_1 (by decide) (fun c1 => ?_) (fun c1 => ?_)
  · exact V_eq (by first | rfl | (unfold wRow rup; rw [if_pos ⟨i_nlt c1, i_nle c10⟩]; rfl) | (unfold wRow rup; rw [if_neg (fun q => Int32.not_le.mpr c1 q.1)]; done) | (unfold wRow rup; rw [if_neg (fun q => Int32.not_le.mpr q.2 c10)]; done)) rfl (fin 20 _ () dX6_put_20 trivial)
  · refine V_iload_n (pc := 4) o dX6_put_4 rfl ?_
    refine V_aload_n (pc := 5) o dX6_put_5 rfl ?_
    refine V_get (pc := 6) o 0 0 hiX6_put_X6 rfl rfl (by decide) lkX6_put_7 rfl rfl dX6_put_6 ?_
    refine V_alen (pc := 9) o 1 0 rfl ht rfl dX6_put_9 ?_
    refine V_icmp_ge (pc := 10) o 20 dX6_put_10 (by decide) (fun c10 => ?_) (fun c10 => ?_)
    · exact V_eq (by first | rfl | (unfold wRow rup; rw [if_pos ⟨i_nlt c1, i_nle c10⟩]; rfl) | (unfold wRow rup; rw [if_neg (fun q => Int32.not_le.mpr c1 q.1)]; done) | (unfold wRow rup; rw [if_neg (fun q => Int32.not_le.mpr q.2 c10)]; done)) rfl (fin 20 _ () dX6_put_20 trivial)
    · refine V_aload_n (pc := 13) o dX6_put_13 rfl ?_
      refine V_get (pc := 14) o 0 0 hiX6_put_X6 rfl rfl (by decide) lkX6_put_7 rfl rfl dX6_put_14 ?_
      refine V_iload_n (pc := 17) o dX6_put_17 rfl ?_
      refine V_iload_n (pc := 18) o dX6_put_18 rfl ?_
      refine V_iast (pc := 19) o 1 0 rfl ht (vp_of hn0 c1 c10) dX6_put_19 ?_
      exact V_eq (by first | rfl | (unfold wRow rup; rw [if_pos ⟨i_nlt c1, i_nle c10⟩]; rfl) | (unfold wRow rup; rw [if_neg (fun q => Int32.not_le.mpr c1 q.1)]; done) | (unfold wRow rup; rw [if_neg (fun q => Int32.not_le.mpr q.2 c10)]; done)) rfl (fin 20 _ () dX6_put_20 trivial)
theorem rfi_0 {n : Nat} {f : Nat → Int32} {x : Int32} : rfi 0 f x = f := by funext j; simp [rfi]
theorem rfi_s {f : Nat → Int32} {x : Int32} {j : Nat} (hj : j < 2 ^ 31) : upd (rfi j f x) (nI j).toNatClampNeg x = rfi (j + 1) f x := by
  rw [nI_clamp hj]
  funext i
  simp only [upd, rfi]
  by_cases h : i = j
  · subst h; simp
  · have h2 : (i < j + 1) = (i < j) := by simp only [eq_iff_iff]; omega
    simp [h, h2]
theorem hiX6_fill_X6 : ∀ w ∈ wsX60, w ∈ wsX6_fill := by decide +kernel
theorem lkX6_fill_7 : Cond.fieldLink RX6 7 RX6 "cells" "[I" ∈ wsX6_fill := by decide +kernel
set_option maxHeartbeats 4000000 in
set_option maxRecDepth 100000 in
/-- Row.fill, its loop -/
theorem lpX6_fill {X : XT} (o : OkX X cX6_fill RX6 wsX6_fill 0) (hn : XN X = 3) (cI : ClassId) (ht : (XK X)[0]? = some (cI, .int)) (h a n : Nat) (f : Nat → Int32) (hn0 : n < 2 ^ 31) (x : Int32) (kk : ∀ lc, V X 0 0 (wRow cI h a n (rfi n f x)) 24 lc []) : ∀ (m j : Nat), n - j < m → j ≤ n → V X 0 0 (wRow cI h a n (rfi j f x)) 2 [(0, .ref h), (1, .int x), (2, .int (nI j))] [] := by
  intro m
  induction m with
  | zero => intro j h1; exact absurd h1 (Nat.not_lt_zero _)
  | succ m ih =>
    intro j h1 h2
    refine V_iload_n (pc := 2) o dX6_fill_2 rfl ?_
    refine V_aload_n (pc := 3) o dX6_fill_3 rfl ?_
    refine V_get (pc := 4) o 0 0 hiX6_fill_X6 rfl rfl (by decide) lkX6_fill_7 rfl rfl dX6_fill_4 ?_
    refine V_alen (pc := 7) o 1 0 rfl ht rfl dX6_fill_7 ?_
    refine V_icmp_ge (pc := 8) o 24 dX6_fill_8 (by decide) (fun c8 => ?_) (fun c8 => ?_)
    · have e1 : j = n := by
        rcases Nat.lt_or_ge j n with q | q
        · exact absurd c8 (nI_ge q hn0)
        · omega
      rw [e1]
      exact kk _
    · have q1 : j < n := by
        rcases Nat.lt_or_ge j n with q | q
        · exact q
        · exact absurd (nI_le q (by omega)) c8
      refine V_aload_n (pc := 11) o dX6_fill_11 rfl ?_
      refine V_get (pc := 12) o 0 0 hiX6_fill_X6 rfl rfl (by decide) lkX6_fill_7 rfl rfl dX6_fill_12 ?_
      refine V_iload_n (pc := 15) o dX6_fill_15 rfl ?_
      refine V_iload_n (pc := 16) o dX6_fill_16 rfl ?_
      refine V_iast (pc := 17) o 1 0 rfl ht (vp_in_nI q1 hn0) dX6_fill_17 ?_
      refine V_iinc (pc := 18) o 1 dX6_fill_18 (by rw [hn]; decide) rfl (by decide) ?_
      refine V_goto (pc := 21) o 2 dX6_fill_21 (by decide) ?_
      refine V_eq (ws2 := wRow cI h a n (rfi (j + 1) f x)) (by rw [← rfi_s (Nat.lt_of_lt_of_le q1 (Nat.le_of_lt hn0))]; rfl) rfl ?_
      refine V_sub (lc2 := [(0, .ref h), (1, .int x), (2, .int (nI (j + 1)))]) ⟨rfl, rfl, congrArg (fun v => some (Value.int v)) (nI_1 j), trivial⟩ ?_
      exact ih (j + 1) (by omega) (by omega)
set_option maxHeartbeats 4000000 in
set_option maxRecDepth 100000 in
/-- Row.fill -/
theorem cX6_fill_met (l : Launch) (D : va_G) (tys : List (ClassId × FieldType)) (cI : ClassId) (ht : tys[0]? = some (cI, .int)) (h a n : Nat) (f : Nat → Int32) (hn0 : n < 2 ^ 31) (x : Int32) : CVd l yX6_fill wsX6_fill 0 D tys [.ref h, .int x] (wRow cI h a n f) (wRow cI h a n (rfi n f x)) := by
  refine CV_of (maxL := 3) (cc := cX6_fill) (y := yX6_fill) rfl rfl (Nat.le_of_ble_eq_true rfl) (fun X hl hD hk hn hcz hsz o fin => ?_)
  subst hl; subst hD; subst hk
  refine V_iconst (pc := 0) o 0 dX6_fill_0 (by decide) ?_
  refine V_istore_n (pc := 1) o dX6_fill_1 (by rw [hn]; decide) ?_
  refine V_sub (lc2 := [(0, .ref h), (1, .int x), (2, .int (nI 0))]) ⟨rfl, rfl, rfl, trivial⟩ ?_
  have K := lpX6_fill o hn cI ht h a n f hn0 x (fun lc => fin 24 lc () dX6_fill_24 trivial) (n + 1) 0 (by omega) (by omega)
  rw [rfi_0 (n := n)] at K
  exact K
end
section
/-! Worlds of the classes: ad k is the address of the k-th cell, P, L, Q, O, B the rows, by their places. -/
def wBook (cI : ClassId) (ad : Nat → Nat) (B0 : Nat → Int32) (bn : Int32) : va_W := [(ad 0, .inr (0, [.ref (ad 1), .int bn])), (ad 1, .inr (5, [.ref (ad 2)])), (ad 2, .inl (cI, 3072, .inl B0))]
def wParts (cI : ClassId) (ad : Nat → Nat) (P0 P1 P2 P3 P4 P5 : Nat → Int32) : va_W := [(ad 0, .inr (2, [.ref (ad 1), .ref (ad 3), .ref (ad 5), .ref (ad 7), .ref (ad 9), .ref (ad 11)])), (ad 1, .inr (5, [.ref (ad 2)])), (ad 2, .inl (cI, 8, .inl P0)), (ad 3, .inr (5, [.ref (ad 4)])), (ad 4, .inl (cI, 24, .inl P1)), (ad 5, .inr (5, [.ref (ad 6)])), (ad 6, .inl (cI, 24, .inl P2)), (ad 7, .inr (5, [.ref (ad 8)])), (ad 8, .inl (cI, 24, .inl P3)), (ad 9, .inr (5, [.ref (ad 10)])), (ad 10, .inl (cI, 96, .inl P4)), (ad 11, .inr (5, [.ref (ad 12)])), (ad 12, .inl (cI, 96, .inl P5))]
def wPeople (cI : ClassId) (ad : Nat → Nat) (L0 L1 L2 : Nat → Int32) (dy : Int32) : va_W := [(ad 0, .inr (3, [.ref (ad 1), .ref (ad 3), .ref (ad 5), .int dy])), (ad 1, .inr (5, [.ref (ad 2)])), (ad 2, .inl (cI, 8, .inl L0)), (ad 3, .inr (5, [.ref (ad 4)])), (ad 4, .inl (cI, 8, .inl L1)), (ad 5, .inr (5, [.ref (ad 6)])), (ad 6, .inl (cI, 8, .inl L2))]
def wReqs (cI : ClassId) (ad : Nat → Nat) (Q0 Q1 Q2 Q3 Q4 Q5 Q6 : Nat → Int32) (nm : Int32) : va_W := [(ad 0, .inr (4, [.ref (ad 1), .ref (ad 3), .ref (ad 5), .ref (ad 7), .ref (ad 9), .ref (ad 11), .ref (ad 13), .int nm])), (ad 1, .inr (5, [.ref (ad 2)])), (ad 2, .inl (cI, 30, .inl Q0)), (ad 3, .inr (5, [.ref (ad 4)])), (ad 4, .inl (cI, 30, .inl Q1)), (ad 5, .inr (5, [.ref (ad 6)])), (ad 6, .inl (cI, 30, .inl Q2)), (ad 7, .inr (5, [.ref (ad 8)])), (ad 8, .inl (cI, 30, .inl Q3)), (ad 9, .inr (5, [.ref (ad 10)])), (ad 10, .inl (cI, 30, .inl Q4)), (ad 11, .inr (5, [.ref (ad 12)])), (ad 12, .inl (cI, 30, .inl Q5)), (ad 13, .inr (5, [.ref (ad 14)])), (ad 14, .inl (cI, 240, .inl Q6))]
def wSearch (cI : ClassId) (ad : Nat → Nat) (O0 O1 : Nat → Int32) (on oc : Int32) : va_W := [(ad 0, .inr (6, [.ref (ad 1), .ref (ad 3), .int on, .int oc])), (ad 1, .inr (5, [.ref (ad 2)])), (ad 2, .inl (cI, 8, .inl O0)), (ad 3, .inr (5, [.ref (ad 4)])), (ad 4, .inl (cI, 72, .inl O1))]
def wDesk (cI : ClassId) (ad : Nat → Nat) (P0 P1 P2 P3 P4 P5 : Nat → Int32) (L0 L1 L2 : Nat → Int32) (dy : Int32) (Q0 Q1 Q2 Q3 Q4 Q5 Q6 : Nat → Int32) (nm : Int32) : va_W := (ad 0, .inr (1, [.ref (ad 1), .ref (ad 14), .ref (ad 21)])) :: (wParts cI (fun k => ad (1 + k)) P0 P1 P2 P3 P4 P5 ++ (wPeople cI (fun k => ad (14 + k)) L0 L1 L2 dy ++ wReqs cI (fun k => ad (21 + k)) Q0 Q1 Q2 Q3 Q4 Q5 Q6 nm))
def wApp (cI : ClassId) (ad : Nat → Nat) (B0 : Nat → Int32) (bn : Int32) (P0 P1 P2 P3 P4 P5 : Nat → Int32) (L0 L1 L2 : Nat → Int32) (dy : Int32) (Q0 Q1 Q2 Q3 Q4 Q5 Q6 : Nat → Int32) (nm : Int32) (P'0 P'1 P'2 P'3 P'4 P'5 : Nat → Int32) (L'0 L'1 L'2 : Nat → Int32) (dy2 : Int32) (Q'0 Q'1 Q'2 Q'3 Q'4 Q'5 Q'6 : Nat → Int32) (nm2 : Int32) (O0 O1 : Nat → Int32) (on oc : Int32) : va_W := (ad 0, .inr (7, [.ref (ad 1), .ref (ad 4), .ref (ad 40), .ref (ad 76)])) :: (wBook cI (fun k => ad (1 + k)) B0 bn ++ (wDesk cI (fun k => ad (4 + k)) P0 P1 P2 P3 P4 P5 L0 L1 L2 dy Q0 Q1 Q2 Q3 Q4 Q5 Q6 nm ++ (wDesk cI (fun k => ad (40 + k)) P'0 P'1 P'2 P'3 P'4 P'5 L'0 L'1 L'2 dy2 Q'0 Q'1 Q'2 Q'3 Q'4 Q'5 Q'6 nm2 ++ wSearch cI (fun k => ad (76 + k)) O0 O1 on oc)))
def chv (c p : Int32) : Int32 := (c >>> ((2 * p) &&& 31)) &&& 3
def chw (c p v : Int32) : Int32 := c ||| (v <<< ((2 * p) &&& 31))
def vset (l g : Int32) : Int32 := (2 <<< (g &&& 31)) - (1 <<< (l &&& 31))
def plc (p v : Int32) : Int32 := (p * 3 + v) - 1
theorem V_ite {X : XT} {k z : Nat} {ws : va_W} {pc : Nat} {lc : List (Nat × Value)} {st : List Value} {c : Prop} [Decidable c] (k1 : c → V X k z ws pc lc (.int 1 :: st)) (k0 : ¬ c → V X k z ws pc lc (.int 0 :: st)) : V X k z ws pc lc (.int (if c then 1 else 0) :: st) := by
  by_cases h : c
  · rw [if_pos h]; exact k1 h
  · rw [if_neg h]; exact k0 h
theorem hdX1_versionOf : yX1_versionOf.cls ≠ "java/lang/invoke/MethodHandle" ∧ yX1_versionOf.cls ≠ "java/lang/invoke/VarHandle" ∧ (parseMethodDescriptor yX1_versionOf.desc).map (fun d => d.parameters.length) = some 2 := by decide +kernel
set_option maxHeartbeats 4000000 in
set_option maxRecDepth 100000 in
/-- X1.versionOf -/
theorem cX1_versionOf_met (l : Launch) (D : va_G) (tys : List (ClassId × FieldType)) (c p : Int32) : CId l yX1_versionOf wsX1_versionOf 0 D tys [.int c, .int p] [] (chv c p) [] := by
  refine CI_of (maxL := 2) (cc := cX1_versionOf) (y := yX1_versionOf) rfl rfl (Nat.le_of_ble_eq_true rfl) (fun X hl hD hk hn hcz hsz o fin => ?_)
  subst hl; subst hD; subst hk
  refine V_iload_n (pc := 0) o dX1_versionOf_0 rfl ?_
  refine V_iconst (pc := 1) o 2 dX1_versionOf_1 (by decide) ?_
  refine V_iload_n (pc := 2) o dX1_versionOf_2 rfl ?_
  refine V_imul (pc := 3) o dX1_versionOf_3 ?_
  refine V_ishr (pc := 4) o dX1_versionOf_4 ?_
  refine V_iconst (pc := 5) o 3 dX1_versionOf_5 (by decide) ?_
  refine V_iand (pc := 6) o dX1_versionOf_6 ?_
  exact fin 7 _ _ () dX1_versionOf_7 rfl rfl
theorem hdX1_with : yX1_with.cls ≠ "java/lang/invoke/MethodHandle" ∧ yX1_with.cls ≠ "java/lang/invoke/VarHandle" ∧ (parseMethodDescriptor yX1_with.desc).map (fun d => d.parameters.length) = some 3 := by decide +kernel
set_option maxHeartbeats 4000000 in
set_option maxRecDepth 100000 in
/-- X1.with -/
theorem cX1_with_met (l : Launch) (D : va_G) (tys : List (ClassId × FieldType)) (c p v : Int32) : CId l yX1_with wsX1_with 0 D tys [.int c, .int p, .int v] [] (chw c p v) [] := by
  refine CI_of (maxL := 3) (cc := cX1_with) (y := yX1_with) rfl rfl (Nat.le_of_ble_eq_true rfl) (fun X hl hD hk hn hcz hsz o fin => ?_)
  subst hl; subst hD; subst hk
  refine V_iload_n (pc := 0) o dX1_with_0 rfl ?_
  refine V_iload_n (pc := 1) o dX1_with_1 rfl ?_
  refine V_iconst (pc := 2) o 2 dX1_with_2 (by decide) ?_
  refine V_iload_n (pc := 3) o dX1_with_3 rfl ?_
  refine V_imul (pc := 4) o dX1_with_4 ?_
  refine V_ishl (pc := 5) o dX1_with_5 ?_
  refine V_ior (pc := 6) o dX1_with_6 ?_
  exact fin 7 _ _ () dX1_with_7 rfl rfl
theorem hdX3_versionSet : yX3_versionSet.cls ≠ "java/lang/invoke/MethodHandle" ∧ yX3_versionSet.cls ≠ "java/lang/invoke/VarHandle" ∧ (parseMethodDescriptor yX3_versionSet.desc).map (fun d => d.parameters.length) = some 2 := by decide +kernel
set_option maxHeartbeats 4000000 in
set_option maxRecDepth 100000 in
/-- X3.versionSet -/
theorem cX3_versionSet_met (l : Launch) (D : va_G) (tys : List (ClassId × FieldType)) (a b : Int32) : CId l yX3_versionSet wsX3_versionSet 0 D tys [.int a, .int b] [] (vset a b) [] := by
  refine CI_of (maxL := 2) (cc := cX3_versionSet) (y := yX3_versionSet) rfl rfl (Nat.le_of_ble_eq_true rfl) (fun X hl hD hk hn hcz hsz o fin => ?_)
  subst hl; subst hD; subst hk
  refine V_iconst (pc := 0) o 2 dX3_versionSet_0 (by decide) ?_
  refine V_iload_n (pc := 1) o dX3_versionSet_1 rfl ?_
  refine V_ishl (pc := 2) o dX3_versionSet_2 ?_
  refine V_iconst (pc := 3) o 1 dX3_versionSet_3 (by decide) ?_
  refine V_iload_n (pc := 4) o dX3_versionSet_4 rfl ?_
  refine V_ishl (pc := 5) o dX3_versionSet_5 ?_
  refine V_isub (pc := 6) o dX3_versionSet_6 ?_
  exact fin 7 _ _ () dX3_versionSet_7 rfl rfl
theorem hdX3_placeOf : yX3_placeOf.cls ≠ "java/lang/invoke/MethodHandle" ∧ yX3_placeOf.cls ≠ "java/lang/invoke/VarHandle" ∧ (parseMethodDescriptor yX3_placeOf.desc).map (fun d => d.parameters.length) = some 2 := by decide +kernel
set_option maxHeartbeats 4000000 in
set_option maxRecDepth 100000 in
/-- X3.placeOf -/
theorem cX3_placeOf_met (l : Launch) (D : va_G) (tys : List (ClassId × FieldType)) (p v : Int32) : CId l yX3_placeOf wsX3_placeOf 0 D tys [.int p, .int v] [] (plc p v) [] := by
  refine CI_of (maxL := 2) (cc := cX3_placeOf) (y := yX3_placeOf) rfl rfl (Nat.le_of_ble_eq_true rfl) (fun X hl hD hk hn hcz hsz o fin => ?_)
  subst hl; subst hD; subst hk
  refine V_iload_n (pc := 0) o dX3_placeOf_0 rfl ?_
  refine V_iconst (pc := 1) o 3 dX3_placeOf_1 (by decide) ?_
  refine V_imul (pc := 2) o dX3_placeOf_2 ?_
  refine V_iload_n (pc := 3) o dX3_placeOf_3 rfl ?_
  refine V_iadd (pc := 4) o dX3_placeOf_4 ?_
  refine V_iconst (pc := 5) o 1 dX3_placeOf_5 (by decide) ?_
  refine V_isub (pc := 6) o dX3_placeOf_6 ?_
  exact fin 7 _ _ () dX3_placeOf_7 rfl rfl
theorem hdX0_count : yX0_count.cls = RX0 ∧ yX0_count.cls ≠ "java/lang/invoke/MethodHandle" ∧ yX0_count.cls ≠ "java/lang/invoke/VarHandle" ∧ (parseMethodDescriptor yX0_count.desc).map (fun d => d.parameters.length) = some 0 := by decide +kernel
theorem hiX0_count_X0 : ∀ w ∈ wsX00, w ∈ wsX0_count := by decide +kernel
theorem lkX0_count_20 : Cond.fieldLink RX0 20 RX0 "number" "I" ∈ wsX0_count := by decide +kernel
set_option maxHeartbeats 4000000 in
set_option maxRecDepth 100000 in
/-- X0.count -/
theorem cX0_count_met (l : Launch) (D : va_G) (tys : List (ClassId × FieldType)) (cI : ClassId) (ht : tys[0]? = some (cI, .int)) (ad : Nat → Nat) (B0 : Nat → Int32) (bn : Int32) : CId l yX0_count wsX0_count 0 D tys [.ref (ad 0)] (wBook cI ad B0 bn) bn (wBook cI ad B0 bn) := by
  refine CI_of (maxL := 1) (cc := cX0_count) (y := yX0_count) rfl rfl (Nat.le_of_ble_eq_true rfl) (fun X hl hD hk hn hcz hsz o fin => ?_)
  subst hl; subst hD; subst hk
  refine V_aload_n (pc := 0) o dX0_count_0 rfl ?_
  refine V_get (pc := 1) o 0 1 hiX0_count_X0 rfl rfl (by decide) lkX0_count_20 rfl rfl dX0_count_1 ?_
  exact fin 4 _ _ () dX0_count_4 rfl rfl
theorem hdX0_wordOf : yX0_wordOf.cls = RX0 ∧ yX0_wordOf.cls ≠ "java/lang/invoke/MethodHandle" ∧ yX0_wordOf.cls ≠ "java/lang/invoke/VarHandle" ∧ (parseMethodDescriptor yX0_wordOf.desc).map (fun d => d.parameters.length) = some 2 := by decide +kernel
theorem hiX0_wordOf_X0 : ∀ w ∈ wsX00, w ∈ wsX0_wordOf := by decide +kernel
theorem lkX0_wordOf_16 : Cond.fieldLink RX0 16 RX0 "words" "LApprovalyard$Row;" ∈ wsX0_wordOf := by decide +kernel
set_option maxHeartbeats 4000000 in
set_option maxRecDepth 100000 in
/-- X0.wordOf -/
theorem cX0_wordOf_met (l : Launch) (D : va_G) (tys : List (ClassId × FieldType)) (cI : ClassId) (ht : tys[0]? = some (cI, .int)) (ad : Nat → Nat) (B0 : Nat → Int32) (bn : Int32) (n i : Int32) : CId l yX0_wordOf wsX0_wordOf 1 D tys [.ref (ad 0), .int n, .int i] (wBook cI ad B0 bn) (rat 3072 B0 (n * 6 + i)) (wBook cI ad B0 bn) := by
  refine CI_of (maxL := 3) (cc := cX0_wordOf) (y := yX0_wordOf) rfl rfl (Nat.le_of_ble_eq_true rfl) (fun X hl hD hk hn hcz hsz o fin => ?_)
  subst hl; subst hD; subst hk
  refine V_aload_n (pc := 0) o dX0_wordOf_0 rfl ?_
  refine V_get (pc := 1) o 0 0 hiX0_wordOf_X0 rfl rfl (by decide) lkX0_wordOf_16 rfl rfl dX0_wordOf_1 ?_
  refine V_iload_n (pc := 4) o dX0_wordOf_4 rfl ?_
  refine V_bipush (pc := 5) o 6 dX0_wordOf_5 (by decide) ?_
  refine V_imul (pc := 7) o dX0_wordOf_7 ?_
  refine V_iload_n (pc := 8) o dX0_wordOf_8 rfl ?_
  refine V_iadd (pc := 9) o dX0_wordOf_9 ?_
  refine V_rVi (pc := 10) o (cX6_at_met _ _ _ cI ht _ _ 3072 B0 (by decide) _) 1 2 gX0_wordOf_X6_at rfl hdX6_at (by decide) rfl rfl rfl (Nat.le_of_ble_eq_true rfl) dX0_wordOf_10 rfl ?_
  exact fin 13 _ _ () dX0_wordOf_13 rfl rfl
theorem hdX3_countOf : yX3_countOf.cls = RX3 ∧ yX3_countOf.cls ≠ "java/lang/invoke/MethodHandle" ∧ yX3_countOf.cls ≠ "java/lang/invoke/VarHandle" ∧ (parseMethodDescriptor yX3_countOf.desc).map (fun d => d.parameters.length) = some 1 := by decide +kernel
theorem hiX3_countOf_X3 : ∀ w ∈ wsX30, w ∈ wsX3_countOf := by decide +kernel
theorem lkX3_countOf_14 : Cond.fieldLink RX3 14 RX3 "counts" "LApprovalyard$Row;" ∈ wsX3_countOf := by decide +kernel
set_option maxHeartbeats 4000000 in
set_option maxRecDepth 100000 in
/-- X3.countOf -/
theorem cX3_countOf_met (l : Launch) (D : va_G) (tys : List (ClassId × FieldType)) (cI : ClassId) (ht : tys[0]? = some (cI, .int)) (ad : Nat → Nat) (P0 P1 P2 P3 P4 P5 : Nat → Int32) (p : Int32) : CId l yX3_countOf wsX3_countOf 1 D tys [.ref (ad 0), .int p] (wParts cI ad P0 P1 P2 P3 P4 P5) (rat 8 P0 p) (wParts cI ad P0 P1 P2 P3 P4 P5) := by
  refine CI_of (maxL := 2) (cc := cX3_countOf) (y := yX3_countOf) rfl rfl (Nat.le_of_ble_eq_true rfl) (fun X hl hD hk hn hcz hsz o fin => ?_)
  subst hl; subst hD; subst hk
  refine V_aload_n (pc := 0) o dX3_countOf_0 rfl ?_
  refine V_get (pc := 1) o 0 0 hiX3_countOf_X3 rfl rfl (by decide) lkX3_countOf_14 rfl rfl dX3_countOf_1 ?_
  refine V_iload_n (pc := 4) o dX3_countOf_4 rfl ?_
  refine V_rVi (pc := 5) o (cX6_at_met _ _ _ cI ht _ _ 8 P0 (by decide) _) 1 2 gX3_countOf_X6_at rfl hdX6_at (by decide) rfl rfl rfl (Nat.le_of_ble_eq_true rfl) dX3_countOf_5 rfl ?_
  exact fin 8 _ _ () dX3_countOf_8 rfl rfl
theorem hdX3_clear : yX3_clear.cls = RX3 ∧ yX3_clear.cls ≠ "java/lang/invoke/MethodHandle" ∧ yX3_clear.cls ≠ "java/lang/invoke/VarHandle" ∧ (parseMethodDescriptor yX3_clear.desc).map (fun d => d.parameters.length) = some 0 := by decide +kernel
theorem hiX3_clear_X3 : ∀ w ∈ wsX30, w ∈ wsX3_clear := by decide +kernel
theorem lkX3_clear_14 : Cond.fieldLink RX3 14 RX3 "counts" "LApprovalyard$Row;" ∈ wsX3_clear := by decide +kernel
set_option maxHeartbeats 4000000 in
set_option maxRecDepth 100000 in
/-- X3.clear -/
theorem cX3_clear_met (l : Launch) (D : va_G) (tys : List (ClassId × FieldType)) (cI : ClassId) (ht : tys[0]? = some (cI, .int)) (ad : Nat → Nat) (P0 P1 P2 P3 P4 P5 : Nat → Int32) : CVd l yX3_clear wsX3_clear 1 D tys [.ref (ad 0)] (wParts cI ad P0 P1 P2 P3 P4 P5) (wParts cI ad (rfi 8 P0 0) P1 P2 P3 P4 P5) := by
  refine CV_of (maxL := 1) (cc := cX3_clear) (y := yX3_clear) rfl rfl (Nat.le_of_ble_eq_true rfl) (fun X hl hD hk hn hcz hsz o fin => ?_)
  subst hl; subst hD; subst hk
  refine V_aload_n (pc := 0) o dX3_clear_0 rfl ?_
  refine V_get (pc := 1) o 0 0 hiX3_clear_X3 rfl rfl (by decide) lkX3_clear_14 rfl rfl dX3_clear_1 ?_
  refine V_iconst (pc := 4) o 0 dX3_clear_4 (by decide) ?_
  refine V_wVv (pc := 5) o (cX6_fill_met _ _ _ cI ht _ _ 8 P0 (by decide) _) 1 2 (wParts cI ad (rfi 8 P0 0) P1 P2 P3 P4 P5) gX3_clear_X6_fill rfl hdX6_fill (by decide) rfl rfl rfl (Nat.le_of_ble_eq_true rfl) dX3_clear_5 rfl rfl ?_
  exact fin 8 _ () dX3_clear_8 trivial
theorem hdX3_addVersion : yX3_addVersion.cls = RX3 ∧ yX3_addVersion.cls ≠ "java/lang/invoke/MethodHandle" ∧ yX3_addVersion.cls ≠ "java/lang/invoke/VarHandle" ∧ (parseMethodDescriptor yX3_addVersion.desc).map (fun d => d.parameters.length) = some 2 := by decide +kernel
theorem hiX3_addVersion_X3 : ∀ w ∈ wsX30, w ∈ wsX3_addVersion := by decide +kernel
theorem lkX3_addVersion_14 : Cond.fieldLink RX3 14 RX3 "counts" "LApprovalyard$Row;" ∈ wsX3_addVersion := by decide +kernel
theorem lkX3_addVersion_20 : Cond.fieldLink RX3 20 RX3 "costs" "LApprovalyard$Row;" ∈ wsX3_addVersion := by decide +kernel
theorem lkX3_addVersion_23 : Cond.fieldLink RX3 23 RX3 "replaced" "LApprovalyard$Row;" ∈ wsX3_addVersion := by decide +kernel
theorem lkX3_addVersion_26 : Cond.fieldLink RX3 26 RX3 "needCounts" "LApprovalyard$Row;" ∈ wsX3_addVersion := by decide +kernel
set_option maxHeartbeats 4000000 in
set_option maxRecDepth 100000 in
/-- X3.addVersion -/
theorem cX3_addVersion_met (l : Launch) (D : va_G) (tys : List (ClassId × FieldType)) (cI : ClassId) (ht : tys[0]? = some (cI, .int)) (ad : Nat → Nat) (P0 P1 P2 P3 P4 P5 : Nat → Int32) (p c : Int32) : CId l yX3_addVersion wsX3_addVersion 1 D tys [.ref (ad 0), .int p, .int c] (wParts cI ad P0 P1 P2 P3 P4 P5) (rat 8 P0 p + 1) (wParts cI ad (rup 8 P0 p (rat 8 P0 p + 1)) (rup 24 P1 (plc p (rat 8 P0 p + 1)) c) (rup 24 P2 (plc p (rat 8 P0 p + 1)) 0) (rup 24 P3 (plc p (rat 8 P0 p + 1)) 0) P4 P5) := by
  refine CI_of (maxL := 5) (cc := cX3_addVersion) (y := yX3_addVersion) rfl rfl (Nat.le_of_ble_eq_true rfl) (fun X hl hD hk hn hcz hsz o fin => ?_)
  subst hl; subst hD; subst hk
  refine V_aload_n (pc := 0) o dX3_addVersion_0 rfl ?_
  refine V_get (pc := 1) o 0 0 hiX3_addVersion_X3 rfl rfl (by decide) lkX3_addVersion_14 rfl rfl dX3_addVersion_1 ?_
  refine V_iload_n (pc := 4) o dX3_addVersion_4 rfl ?_
  refine V_rVi (pc := 5) o (cX6_at_met _ _ _ cI ht _ _ 8 P0 (by decide) _) 1 2 gX3_addVersion_X6_at rfl hdX6_at (by decide) rfl rfl rfl (Nat.le_of_ble_eq_true rfl) dX3_addVersion_5 rfl ?_
  refine V_iconst (pc := 8) o 1 dX3_addVersion_8 (by decide) ?_
  refine V_iadd (pc := 9) o dX3_addVersion_9 ?_
  refine V_istore_n (pc := 10) o dX3_addVersion_10 (by rw [hn]; decide) ?_
  refine V_iload_n (pc := 11) o dX3_addVersion_11 rfl ?_
  refine V_iload_n (pc := 12) o dX3_addVersion_12 rfl ?_
  refine V_rSi (pc := 13) o (cX3_placeOf_met _ _ _ p ((rat 8 P0 p) + 1)) 0 0 gX3_addVersion_X3_placeOf rfl hdX3_placeOf (by decide) rfl (Nat.le_of_ble_eq_true rfl) dX3_addVersion_13 rfl ?_
  refine V_istore (pc := 16) o dX3_addVersion_16 (by rw [hn]; decide) ?_
  refine V_aload_n (pc := 18) o dX3_addVersion_18 rfl ?_
  refine V_get (pc := 19) o 0 0 hiX3_addVersion_X3 rfl rfl (by decide) lkX3_addVersion_14 rfl rfl dX3_addVersion_19 ?_
  refine V_iload_n (pc := 22) o dX3_addVersion_22 rfl ?_
  refine V_iload_n (pc := 23) o dX3_addVersion_23 rfl ?_
  refine V_wVv (pc := 24) o (cX6_put_met _ _ _ cI ht _ _ 8 P0 (by decide) _ _) 1 2 (wParts cI ad (rup 8 P0 p ((rat 8 P0 p) + 1)) P1 P2 P3 P4 P5) gX3_addVersion_X6_put rfl hdX6_put (by decide) rfl rfl rfl (Nat.le_of_ble_eq_true rfl) dX3_addVersion_24 rfl rfl ?_
  refine V_aload_n (pc := 27) o dX3_addVersion_27 rfl ?_
  refine V_get (pc := 28) o 0 1 hiX3_addVersion_X3 rfl rfl (by decide) lkX3_addVersion_20 rfl rfl dX3_addVersion_28 ?_
  refine V_iload (pc := 31) o dX3_addVersion_31 rfl ?_
  refine V_iload_n (pc := 33) o dX3_addVersion_33 rfl ?_
  refine V_wVv (pc := 34) o (cX6_put_met _ _ _ cI ht _ _ 24 P1 (by decide) _ _) 3 2 (wParts cI ad (rup 8 P0 p ((rat 8 P0 p) + 1)) (rup 24 P1 (plc p ((rat 8 P0 p) + 1)) c) P2 P3 P4 P5) gX3_addVersion_X6_put rfl hdX6_put (by decide) rfl rfl rfl (Nat.le_of_ble_eq_true rfl) dX3_addVersion_34 rfl rfl ?_
  refine V_aload_n (pc := 37) o dX3_addVersion_37 rfl ?_
  refine V_get (pc := 38) o 0 2 hiX3_addVersion_X3 rfl rfl (by decide) lkX3_addVersion_23 rfl rfl dX3_addVersion_38 ?_
  refine V_iload (pc := 41) o dX3_addVersion_41 rfl ?_
  refine V_iconst (pc := 43) o 0 dX3_addVersion_43 (by decide) ?_
  refine V_wVv (pc := 44) o (cX6_put_met _ _ _ cI ht _ _ 24 P2 (by decide) _ _) 5 2 (wParts cI ad (rup 8 P0 p ((rat 8 P0 p) + 1)) (rup 24 P1 (plc p ((rat 8 P0 p) + 1)) c) (rup 24 P2 (plc p ((rat 8 P0 p) + 1)) 0) P3 P4 P5) gX3_addVersion_X6_put rfl hdX6_put (by decide) rfl rfl rfl (Nat.le_of_ble_eq_true rfl) dX3_addVersion_44 rfl rfl ?_
  refine V_aload_n (pc := 47) o dX3_addVersion_47 rfl ?_
  refine V_get (pc := 48) o 0 3 hiX3_addVersion_X3 rfl rfl (by decide) lkX3_addVersion_26 rfl rfl dX3_addVersion_48 ?_
  refine V_iload (pc := 51) o dX3_addVersion_51 rfl ?_
  refine V_iconst (pc := 53) o 0 dX3_addVersion_53 (by decide) ?_
  refine V_wVv (pc := 54) o (cX6_put_met _ _ _ cI ht _ _ 24 P3 (by decide) _ _) 7 2 (wParts cI ad (rup 8 P0 p ((rat 8 P0 p) + 1)) (rup 24 P1 (plc p ((rat 8 P0 p) + 1)) c) (rup 24 P2 (plc p ((rat 8 P0 p) + 1)) 0) (rup 24 P3 (plc p ((rat 8 P0 p) + 1)) 0) P4 P5) gX3_addVersion_X6_put rfl hdX6_put (by decide) rfl rfl rfl (Nat.le_of_ble_eq_true rfl) dX3_addVersion_54 rfl rfl ?_
  refine V_iload_n (pc := 57) o dX3_addVersion_57 rfl ?_
  exact fin 58 _ _ () dX3_addVersion_58 rfl rfl
theorem hdX3_needsOf : yX3_needsOf.cls = RX3 ∧ yX3_needsOf.cls ≠ "java/lang/invoke/MethodHandle" ∧ yX3_needsOf.cls ≠ "java/lang/invoke/VarHandle" ∧ (parseMethodDescriptor yX3_needsOf.desc).map (fun d => d.parameters.length) = some 2 := by decide +kernel
theorem hiX3_needsOf_X3 : ∀ w ∈ wsX30, w ∈ wsX3_needsOf := by decide +kernel
theorem lkX3_needsOf_26 : Cond.fieldLink RX3 26 RX3 "needCounts" "LApprovalyard$Row;" ∈ wsX3_needsOf := by decide +kernel
set_option maxHeartbeats 4000000 in
set_option maxRecDepth 100000 in
/-- X3.needsOf -/
theorem cX3_needsOf_met (l : Launch) (D : va_G) (tys : List (ClassId × FieldType)) (cI : ClassId) (ht : tys[0]? = some (cI, .int)) (ad : Nat → Nat) (P0 P1 P2 P3 P4 P5 : Nat → Int32) (p v : Int32) : CId l yX3_needsOf wsX3_needsOf 1 D tys [.ref (ad 0), .int p, .int v] (wParts cI ad P0 P1 P2 P3 P4 P5) (rat 24 P3 (plc p v)) (wParts cI ad P0 P1 P2 P3 P4 P5) := by
  refine CI_of (maxL := 3) (cc := cX3_needsOf) (y := yX3_needsOf) rfl rfl (Nat.le_of_ble_eq_true rfl) (fun X hl hD hk hn hcz hsz o fin => ?_)
  subst hl; subst hD; subst hk
  refine V_aload_n (pc := 0) o dX3_needsOf_0 rfl ?_
  refine V_get (pc := 1) o 0 3 hiX3_needsOf_X3 rfl rfl (by decide) lkX3_needsOf_26 rfl rfl dX3_needsOf_1 ?_
  refine V_iload_n (pc := 4) o dX3_needsOf_4 rfl ?_
  refine V_iload_n (pc := 5) o dX3_needsOf_5 rfl ?_
  refine V_rSi (pc := 6) o (cX3_placeOf_met _ _ _ p v) 0 0 gX3_needsOf_X3_placeOf rfl hdX3_placeOf (by decide) rfl (Nat.le_of_ble_eq_true rfl) dX3_needsOf_6 rfl ?_
  refine V_rVi (pc := 9) o (cX6_at_met _ _ _ cI ht _ _ 24 P3 (by decide) _) 7 2 gX3_needsOf_X6_at rfl hdX6_at (by decide) rfl rfl rfl (Nat.le_of_ble_eq_true rfl) dX3_needsOf_9 rfl ?_
  exact fin 12 _ _ () dX3_needsOf_12 rfl rfl
theorem hdX3_addNeed : yX3_addNeed.cls = RX3 ∧ yX3_addNeed.cls ≠ "java/lang/invoke/MethodHandle" ∧ yX3_addNeed.cls ≠ "java/lang/invoke/VarHandle" ∧ (parseMethodDescriptor yX3_addNeed.desc).map (fun d => d.parameters.length) = some 5 := by decide +kernel
theorem hiX3_addNeed_X3 : ∀ w ∈ wsX30, w ∈ wsX3_addNeed := by decide +kernel
theorem lkX3_addNeed_26 : Cond.fieldLink RX3 26 RX3 "needCounts" "LApprovalyard$Row;" ∈ wsX3_addNeed := by decide +kernel
theorem lkX3_addNeed_29 : Cond.fieldLink RX3 29 RX3 "needParts" "LApprovalyard$Row;" ∈ wsX3_addNeed := by decide +kernel
theorem lkX3_addNeed_32 : Cond.fieldLink RX3 32 RX3 "needVersions" "LApprovalyard$Row;" ∈ wsX3_addNeed := by decide +kernel
set_option maxHeartbeats 4000000 in
set_option maxRecDepth 100000 in
/-- X3.addNeed -/
theorem cX3_addNeed_met (l : Launch) (D : va_G) (tys : List (ClassId × FieldType)) (cI : ClassId) (ht : tys[0]? = some (cI, .int)) (ad : Nat → Nat) (P0 P1 P2 P3 P4 P5 : Nat → Int32) (p v q a b : Int32) : CId l yX3_addNeed wsX3_addNeed 1 D tys [.ref (ad 0), .int p, .int v, .int q, .int a, .int b] (wParts cI ad P0 P1 P2 P3 P4 P5) ((rat 24 P3 (plc p v)) + 1) (wParts cI ad P0 P1 P2 (rup 24 P3 (plc p v) ((rat 24 P3 (plc p v)) + 1)) (rup 96 P4 (plc p v * 4 + (rat 24 P3 (plc p v))) q) (rup 96 P5 (plc p v * 4 + (rat 24 P3 (plc p v))) (vset a b))) := by
  refine CI_of (maxL := 8) (cc := cX3_addNeed) (y := yX3_addNeed) rfl rfl (Nat.le_of_ble_eq_true rfl) (fun X hl hD hk hn hcz hsz o fin => ?_)
  subst hl; subst hD; subst hk
  refine V_iload_n (pc := 0) o dX3_addNeed_0 rfl ?_
  refine V_iload_n (pc := 1) o dX3_addNeed_1 rfl ?_
  refine V_rSi (pc := 2) o (cX3_placeOf_met _ _ _ p v) 0 0 gX3_addNeed_X3_placeOf rfl hdX3_placeOf (by decide) rfl (Nat.le_of_ble_eq_true rfl) dX3_addNeed_2 rfl ?_
  refine V_istore (pc := 5) o dX3_addNeed_5 (by rw [hn]; decide) ?_
  refine V_aload_n (pc := 7) o dX3_addNeed_7 rfl ?_
  refine V_get (pc := 8) o 0 3 hiX3_addNeed_X3 rfl rfl (by decide) lkX3_addNeed_26 rfl rfl dX3_addNeed_8 ?_
  refine V_iload (pc := 11) o dX3_addNeed_11 rfl ?_
  refine V_rVi (pc := 13) o (cX6_at_met _ _ _ cI ht _ _ 24 P3 (by decide) _) 7 2 gX3_addNeed_X6_at rfl hdX6_at (by decide) rfl rfl rfl (Nat.le_of_ble_eq_true rfl) dX3_addNeed_13 rfl ?_
  refine V_istore (pc := 16) o dX3_addNeed_16 (by rw [hn]; decide) ?_
  refine V_aload_n (pc := 18) o dX3_addNeed_18 rfl ?_
  refine V_get (pc := 19) o 0 4 hiX3_addNeed_X3 rfl rfl (by decide) lkX3_addNeed_29 rfl rfl dX3_addNeed_19 ?_
  refine V_iload (pc := 22) o dX3_addNeed_22 rfl ?_
  refine V_iconst (pc := 24) o 4 dX3_addNeed_24 (by decide) ?_
  refine V_imul (pc := 25) o dX3_addNeed_25 ?_
  refine V_iload (pc := 26) o dX3_addNeed_26 rfl ?_
  refine V_iadd (pc := 28) o dX3_addNeed_28 ?_
  refine V_iload_n (pc := 29) o dX3_addNeed_29 rfl ?_
  refine V_wVv (pc := 30) o (cX6_put_met _ _ _ cI ht _ _ 96 P4 (by decide) _ _) 9 2 (wParts cI ad P0 P1 P2 P3 (rup 96 P4 (((plc p v) * 4) + (rat 24 P3 (plc p v))) q) P5) gX3_addNeed_X6_put rfl hdX6_put (by decide) rfl rfl rfl (Nat.le_of_ble_eq_true rfl) dX3_addNeed_30 rfl rfl ?_
  refine V_aload_n (pc := 33) o dX3_addNeed_33 rfl ?_
  refine V_get (pc := 34) o 0 5 hiX3_addNeed_X3 rfl rfl (by decide) lkX3_addNeed_32 rfl rfl dX3_addNeed_34 ?_
  refine V_iload (pc := 37) o dX3_addNeed_37 rfl ?_
  refine V_iconst (pc := 39) o 4 dX3_addNeed_39 (by decide) ?_
  refine V_imul (pc := 40) o dX3_addNeed_40 ?_
  refine V_iload (pc := 41) o dX3_addNeed_41 rfl ?_
  refine V_iadd (pc := 43) o dX3_addNeed_43 ?_
  refine V_iload (pc := 44) o dX3_addNeed_44 rfl ?_
  refine V_iload (pc := 46) o dX3_addNeed_46 rfl ?_
  refine V_rSi (pc := 48) o (cX3_versionSet_met _ _ _ a b) 0 0 gX3_addNeed_X3_versionSet rfl hdX3_versionSet (by decide) rfl (Nat.le_of_ble_eq_true rfl) dX3_addNeed_48 rfl ?_
  refine V_wVv (pc := 51) o (cX6_put_met _ _ _ cI ht _ _ 96 P5 (by decide) _ _) 11 2 (wParts cI ad P0 P1 P2 P3 (rup 96 P4 (((plc p v) * 4) + (rat 24 P3 (plc p v))) q) (rup 96 P5 (((plc p v) * 4) + (rat 24 P3 (plc p v))) (vset a b))) gX3_addNeed_X6_put rfl hdX6_put (by decide) rfl rfl rfl (Nat.le_of_ble_eq_true rfl) dX3_addNeed_51 rfl rfl ?_
  refine V_aload_n (pc := 54) o dX3_addNeed_54 rfl ?_
  refine V_get (pc := 55) o 0 3 hiX3_addNeed_X3 rfl rfl (by decide) lkX3_addNeed_26 rfl rfl dX3_addNeed_55 ?_
  refine V_iload (pc := 58) o dX3_addNeed_58 rfl ?_
  refine V_iload (pc := 60) o dX3_addNeed_60 rfl ?_
  refine V_iconst (pc := 62) o 1 dX3_addNeed_62 (by decide) ?_
  refine V_iadd (pc := 63) o dX3_addNeed_63 ?_
  refine V_wVv (pc := 64) o (cX6_put_met _ _ _ cI ht _ _ 24 P3 (by decide) _ _) 7 2 (wParts cI ad P0 P1 P2 (rup 24 P3 (plc p v) ((rat 24 P3 (plc p v)) + 1)) (rup 96 P4 (((plc p v) * 4) + (rat 24 P3 (plc p v))) q) (rup 96 P5 (((plc p v) * 4) + (rat 24 P3 (plc p v))) (vset a b))) gX3_addNeed_X6_put rfl hdX6_put (by decide) rfl rfl rfl (Nat.le_of_ble_eq_true rfl) dX3_addNeed_64 rfl rfl ?_
  refine V_iload (pc := 67) o dX3_addNeed_67 rfl ?_
  refine V_iconst (pc := 69) o 1 dX3_addNeed_69 (by decide) ?_
  refine V_iadd (pc := 70) o dX3_addNeed_70 ?_
  exact fin 71 _ _ () dX3_addNeed_71 rfl rfl
theorem hdX3_neededPart : yX3_neededPart.cls = RX3 ∧ yX3_neededPart.cls ≠ "java/lang/invoke/MethodHandle" ∧ yX3_neededPart.cls ≠ "java/lang/invoke/VarHandle" ∧ (parseMethodDescriptor yX3_neededPart.desc).map (fun d => d.parameters.length) = some 3 := by decide +kernel
theorem hiX3_neededPart_X3 : ∀ w ∈ wsX30, w ∈ wsX3_neededPart := by decide +kernel
theorem lkX3_neededPart_29 : Cond.fieldLink RX3 29 RX3 "needParts" "LApprovalyard$Row;" ∈ wsX3_neededPart := by decide +kernel
set_option maxHeartbeats 4000000 in
set_option maxRecDepth 100000 in
/-- X3.neededPart -/
theorem cX3_neededPart_met (l : Launch) (D : va_G) (tys : List (ClassId × FieldType)) (cI : ClassId) (ht : tys[0]? = some (cI, .int)) (ad : Nat → Nat) (P0 P1 P2 P3 P4 P5 : Nat → Int32) (p v i : Int32) : CId l yX3_neededPart wsX3_neededPart 1 D tys [.ref (ad 0), .int p, .int v, .int i] (wParts cI ad P0 P1 P2 P3 P4 P5) (rat 96 P4 (plc p v * 4 + i)) (wParts cI ad P0 P1 P2 P3 P4 P5) := by
  refine CI_of (maxL := 4) (cc := cX3_neededPart) (y := yX3_neededPart) rfl rfl (Nat.le_of_ble_eq_true rfl) (fun X hl hD hk hn hcz hsz o fin => ?_)
  subst hl; subst hD; subst hk
  refine V_aload_n (pc := 0) o dX3_neededPart_0 rfl ?_
  refine V_get (pc := 1) o 0 4 hiX3_neededPart_X3 rfl rfl (by decide) lkX3_neededPart_29 rfl rfl dX3_neededPart_1 ?_
  refine V_iload_n (pc := 4) o dX3_neededPart_4 rfl ?_
  refine V_iload_n (pc := 5) o dX3_neededPart_5 rfl ?_
  refine V_rSi (pc := 6) o (cX3_placeOf_met _ _ _ p v) 0 0 gX3_neededPart_X3_placeOf rfl hdX3_placeOf (by decide) rfl (Nat.le_of_ble_eq_true rfl) dX3_neededPart_6 rfl ?_
  refine V_iconst (pc := 9) o 4 dX3_neededPart_9 (by decide) ?_
  refine V_imul (pc := 10) o dX3_neededPart_10 ?_
  refine V_iload_n (pc := 11) o dX3_neededPart_11 rfl ?_
  refine V_iadd (pc := 12) o dX3_neededPart_12 ?_
  refine V_rVi (pc := 13) o (cX6_at_met _ _ _ cI ht _ _ 96 P4 (by decide) _) 9 2 gX3_neededPart_X6_at rfl hdX6_at (by decide) rfl rfl rfl (Nat.le_of_ble_eq_true rfl) dX3_neededPart_13 rfl ?_
  exact fin 16 _ _ () dX3_neededPart_16 rfl rfl
theorem hdX3_neededVersions : yX3_neededVersions.cls = RX3 ∧ yX3_neededVersions.cls ≠ "java/lang/invoke/MethodHandle" ∧ yX3_neededVersions.cls ≠ "java/lang/invoke/VarHandle" ∧ (parseMethodDescriptor yX3_neededVersions.desc).map (fun d => d.parameters.length) = some 3 := by decide +kernel
theorem hiX3_neededVersions_X3 : ∀ w ∈ wsX30, w ∈ wsX3_neededVersions := by decide +kernel
theorem lkX3_neededVersions_32 : Cond.fieldLink RX3 32 RX3 "needVersions" "LApprovalyard$Row;" ∈ wsX3_neededVersions := by decide +kernel
set_option maxHeartbeats 4000000 in
set_option maxRecDepth 100000 in
/-- X3.neededVersions -/
theorem cX3_neededVersions_met (l : Launch) (D : va_G) (tys : List (ClassId × FieldType)) (cI : ClassId) (ht : tys[0]? = some (cI, .int)) (ad : Nat → Nat) (P0 P1 P2 P3 P4 P5 : Nat → Int32) (p v i : Int32) : CId l yX3_neededVersions wsX3_neededVersions 1 D tys [.ref (ad 0), .int p, .int v, .int i] (wParts cI ad P0 P1 P2 P3 P4 P5) (rat 96 P5 (plc p v * 4 + i)) (wParts cI ad P0 P1 P2 P3 P4 P5) := by
  refine CI_of (maxL := 4) (cc := cX3_neededVersions) (y := yX3_neededVersions) rfl rfl (Nat.le_of_ble_eq_true rfl) (fun X hl hD hk hn hcz hsz o fin => ?_)
  subst hl; subst hD; subst hk
  refine V_aload_n (pc := 0) o dX3_neededVersions_0 rfl ?_
  refine V_get (pc := 1) o 0 5 hiX3_neededVersions_X3 rfl rfl (by decide) lkX3_neededVersions_32 rfl rfl dX3_neededVersions_1 ?_
  refine V_iload_n (pc := 4) o dX3_neededVersions_4 rfl ?_
  refine V_iload_n (pc := 5) o dX3_neededVersions_5 rfl ?_
  refine V_rSi (pc := 6) o (cX3_placeOf_met _ _ _ p v) 0 0 gX3_neededVersions_X3_placeOf rfl hdX3_placeOf (by decide) rfl (Nat.le_of_ble_eq_true rfl) dX3_neededVersions_6 rfl ?_
  refine V_iconst (pc := 9) o 4 dX3_neededVersions_9 (by decide) ?_
  refine V_imul (pc := 10) o dX3_neededVersions_10 ?_
  refine V_iload_n (pc := 11) o dX3_neededVersions_11 rfl ?_
  refine V_iadd (pc := 12) o dX3_neededVersions_12 ?_
  refine V_rVi (pc := 13) o (cX6_at_met _ _ _ cI ht _ _ 96 P5 (by decide) _) 11 2 gX3_neededVersions_X6_at rfl hdX6_at (by decide) rfl rfl rfl (Nat.le_of_ble_eq_true rfl) dX3_neededVersions_13 rfl ?_
  exact fin 16 _ _ () dX3_neededVersions_16 rfl rfl
theorem hdX3_markReplaced : yX3_markReplaced.cls = RX3 ∧ yX3_markReplaced.cls ≠ "java/lang/invoke/MethodHandle" ∧ yX3_markReplaced.cls ≠ "java/lang/invoke/VarHandle" ∧ (parseMethodDescriptor yX3_markReplaced.desc).map (fun d => d.parameters.length) = some 2 := by decide +kernel
theorem hiX3_markReplaced_X3 : ∀ w ∈ wsX30, w ∈ wsX3_markReplaced := by decide +kernel
theorem lkX3_markReplaced_23 : Cond.fieldLink RX3 23 RX3 "replaced" "LApprovalyard$Row;" ∈ wsX3_markReplaced := by decide +kernel
set_option maxHeartbeats 4000000 in
set_option maxRecDepth 100000 in
/-- X3.markReplaced -/
theorem cX3_markReplaced_met (l : Launch) (D : va_G) (tys : List (ClassId × FieldType)) (cI : ClassId) (ht : tys[0]? = some (cI, .int)) (ad : Nat → Nat) (P0 P1 P2 P3 P4 P5 : Nat → Int32) (p v : Int32) : CVd l yX3_markReplaced wsX3_markReplaced 1 D tys [.ref (ad 0), .int p, .int v] (wParts cI ad P0 P1 P2 P3 P4 P5) (wParts cI ad P0 P1 (rup 24 P2 (plc p v) 1) P3 P4 P5) := by
  refine CV_of (maxL := 3) (cc := cX3_markReplaced) (y := yX3_markReplaced) rfl rfl (Nat.le_of_ble_eq_true rfl) (fun X hl hD hk hn hcz hsz o fin => ?_)
  subst hl; subst hD; subst hk
  refine V_aload_n (pc := 0) o dX3_markReplaced_0 rfl ?_
  refine V_get (pc := 1) o 0 2 hiX3_markReplaced_X3 rfl rfl (by decide) lkX3_markReplaced_23 rfl rfl dX3_markReplaced_1 ?_
  refine V_iload_n (pc := 4) o dX3_markReplaced_4 rfl ?_
  refine V_iload_n (pc := 5) o dX3_markReplaced_5 rfl ?_
  refine V_rSi (pc := 6) o (cX3_placeOf_met _ _ _ p v) 0 0 gX3_markReplaced_X3_placeOf rfl hdX3_placeOf (by decide) rfl (Nat.le_of_ble_eq_true rfl) dX3_markReplaced_6 rfl ?_
  refine V_iconst (pc := 9) o 1 dX3_markReplaced_9 (by decide) ?_
  refine V_wVv (pc := 10) o (cX6_put_met _ _ _ cI ht _ _ 24 P2 (by decide) _ _) 5 2 (wParts cI ad P0 P1 (rup 24 P2 (plc p v) 1) P3 P4 P5) gX3_markReplaced_X6_put rfl hdX6_put (by decide) rfl rfl rfl (Nat.le_of_ble_eq_true rfl) dX3_markReplaced_10 rfl rfl ?_
  exact fin 13 _ () dX3_markReplaced_13 trivial
theorem hdX3_isReplaced : yX3_isReplaced.cls = RX3 ∧ yX3_isReplaced.cls ≠ "java/lang/invoke/MethodHandle" ∧ yX3_isReplaced.cls ≠ "java/lang/invoke/VarHandle" ∧ (parseMethodDescriptor yX3_isReplaced.desc).map (fun d => d.parameters.length) = some 2 := by decide +kernel
theorem hiX3_isReplaced_X3 : ∀ w ∈ wsX30, w ∈ wsX3_isReplaced := by decide +kernel
theorem lkX3_isReplaced_23 : Cond.fieldLink RX3 23 RX3 "replaced" "LApprovalyard$Row;" ∈ wsX3_isReplaced := by decide +kernel
set_option maxHeartbeats 4000000 in
set_option maxRecDepth 100000 in
/-- X3.isReplaced -/
theorem cX3_isReplaced_met (l : Launch) (D : va_G) (tys : List (ClassId × FieldType)) (cI : ClassId) (ht : tys[0]? = some (cI, .int)) (ad : Nat → Nat) (P0 P1 P2 P3 P4 P5 : Nat → Int32) (p v : Int32) : CId l yX3_isReplaced wsX3_isReplaced 1 D tys [.ref (ad 0), .int p, .int v] (wParts cI ad P0 P1 P2 P3 P4 P5) (if ¬ rat 24 P2 (plc p v) = 0 then 1 else 0) (wParts cI ad P0 P1 P2 P3 P4 P5) := by
  refine CI_of (maxL := 3) (cc := cX3_isReplaced) (y := yX3_isReplaced) rfl rfl (Nat.le_of_ble_eq_true rfl) (fun X hl hD hk hn hcz hsz o fin => ?_)
  subst hl; subst hD; subst hk
  refine V_aload_n (pc := 0) o dX3_isReplaced_0 rfl ?_
  refine V_get (pc := 1) o 0 2 hiX3_isReplaced_X3 rfl rfl (by decide) lkX3_isReplaced_23 rfl rfl dX3_isReplaced_1 ?_
  refine V_iload_n (pc := 4) o dX3_isReplaced_4 rfl ?_
  refine V_iload_n (pc := 5) o dX3_isReplaced_5 rfl ?_
  refine V_rSi (pc := 6) o (cX3_placeOf_met _ _ _ p v) 0 0 gX3_isReplaced_X3_placeOf rfl hdX3_placeOf (by decide) rfl (Nat.le_of_ble_eq_true rfl) dX3_isReplaced_6 rfl ?_
  refine V_rVi (pc := 9) o (cX6_at_met _ _ _ cI ht _ _ 24 P2 (by decide) _) 5 2 gX3_isReplaced_X6_at rfl hdX6_at (by decide) rfl rfl rfl (Nat.le_of_ble_eq_true rfl) dX3_isReplaced_9 rfl ?_
  refine V_if_eq (pc := 12) o 19 dX3_isReplaced_12 (by decide) (fun c12 => ?_) (fun c12 => ?_)
  · refine V_iconst (pc := 19) o 0 dX3_isReplaced_19 (by decide) ?_
    exact fin 20 _ _ () dX3_isReplaced_20 rfl (by first | (rw [if_pos (by assumption)]; done) | (rw [if_neg (by assumption)]; done) | simp_all)
  · refine V_iconst (pc := 15) o 1 dX3_isReplaced_15 (by decide) ?_
    refine V_goto (pc := 16) o 20 dX3_isReplaced_16 (by decide) ?_
    exact fin 20 _ _ () dX3_isReplaced_20 rfl (by first | (rw [if_pos (by assumption)]; done) | (rw [if_neg (by assumption)]; done) | simp_all)
theorem hdX4_today : yX4_today.cls = RX4 ∧ yX4_today.cls ≠ "java/lang/invoke/MethodHandle" ∧ yX4_today.cls ≠ "java/lang/invoke/VarHandle" ∧ (parseMethodDescriptor yX4_today.desc).map (fun d => d.parameters.length) = some 0 := by decide +kernel
theorem hiX4_today_X4 : ∀ w ∈ wsX40, w ∈ wsX4_today := by decide +kernel
theorem lkX4_today_29 : Cond.fieldLink RX4 29 RX4 "day" "I" ∈ wsX4_today := by decide +kernel
set_option maxHeartbeats 4000000 in
set_option maxRecDepth 100000 in
/-- X4.today -/
theorem cX4_today_met (l : Launch) (D : va_G) (tys : List (ClassId × FieldType)) (cI : ClassId) (ht : tys[0]? = some (cI, .int)) (ad : Nat → Nat) (L0 L1 L2 : Nat → Int32) (dy : Int32) : CId l yX4_today wsX4_today 0 D tys [.ref (ad 0)] (wPeople cI ad L0 L1 L2 dy) dy (wPeople cI ad L0 L1 L2 dy) := by
  refine CI_of (maxL := 1) (cc := cX4_today) (y := yX4_today) rfl rfl (Nat.le_of_ble_eq_true rfl) (fun X hl hD hk hn hcz hsz o fin => ?_)
  subst hl; subst hD; subst hk
  refine V_aload_n (pc := 0) o dX4_today_0 rfl ?_
  refine V_get (pc := 1) o 0 3 hiX4_today_X4 rfl rfl (by decide) lkX4_today_29 rfl rfl dX4_today_1 ?_
  exact fin 4 _ _ () dX4_today_4 rfl rfl
theorem hdX4_clear : yX4_clear.cls = RX4 ∧ yX4_clear.cls ≠ "java/lang/invoke/MethodHandle" ∧ yX4_clear.cls ≠ "java/lang/invoke/VarHandle" ∧ (parseMethodDescriptor yX4_clear.desc).map (fun d => d.parameters.length) = some 0 := by decide +kernel
theorem hiX4_clear_X4 : ∀ w ∈ wsX40, w ∈ wsX4_clear := by decide +kernel
theorem lkX4_clear_14 : Cond.fieldLink RX4 14 RX4 "limits" "LApprovalyard$Row;" ∈ wsX4_clear := by decide +kernel
theorem lkX4_clear_23 : Cond.fieldLink RX4 23 RX4 "backs" "LApprovalyard$Row;" ∈ wsX4_clear := by decide +kernel
theorem lkX4_clear_29 : Cond.fieldLink RX4 29 RX4 "day" "I" ∈ wsX4_clear := by decide +kernel
set_option maxHeartbeats 4000000 in
set_option maxRecDepth 100000 in
/-- X4.clear -/
theorem cX4_clear_met (l : Launch) (D : va_G) (tys : List (ClassId × FieldType)) (cI : ClassId) (ht : tys[0]? = some (cI, .int)) (ad : Nat → Nat) (L0 L1 L2 : Nat → Int32) (dy : Int32) : CVd l yX4_clear wsX4_clear 1 D tys [.ref (ad 0)] (wPeople cI ad L0 L1 L2 dy) (wPeople cI ad (rfi 8 L0 100) L1 (rfi 8 L2 0) 0) := by
  refine CV_of (maxL := 1) (cc := cX4_clear) (y := yX4_clear) rfl rfl (Nat.le_of_ble_eq_true rfl) (fun X hl hD hk hn hcz hsz o fin => ?_)
  subst hl; subst hD; subst hk
  refine V_aload_n (pc := 0) o dX4_clear_0 rfl ?_
  refine V_get (pc := 1) o 0 0 hiX4_clear_X4 rfl rfl (by decide) lkX4_clear_14 rfl rfl dX4_clear_1 ?_
  refine V_bipush (pc := 4) o 100 dX4_clear_4 (by decide) ?_
  refine V_wVv (pc := 6) o (cX6_fill_met _ _ _ cI ht _ _ 8 L0 (by decide) _) 1 2 (wPeople cI ad (rfi 8 L0 100) L1 L2 dy) gX4_clear_X6_fill rfl hdX6_fill (by decide) rfl rfl rfl (Nat.le_of_ble_eq_true rfl) dX4_clear_6 rfl rfl ?_
  refine V_aload_n (pc := 9) o dX4_clear_9 rfl ?_
  refine V_get (pc := 10) o 0 2 hiX4_clear_X4 rfl rfl (by decide) lkX4_clear_23 rfl rfl dX4_clear_10 ?_
  refine V_iconst (pc := 13) o 0 dX4_clear_13 (by decide) ?_
  refine V_wVv (pc := 14) o (cX6_fill_met _ _ _ cI ht _ _ 8 L2 (by decide) _) 5 2 (wPeople cI ad (rfi 8 L0 100) L1 (rfi 8 L2 0) dy) gX4_clear_X6_fill rfl hdX6_fill (by decide) rfl rfl rfl (Nat.le_of_ble_eq_true rfl) dX4_clear_14 rfl rfl ?_
  refine V_aload_n (pc := 17) o dX4_clear_17 rfl ?_
  refine V_iconst (pc := 18) o 0 dX4_clear_18 (by decide) ?_
  refine V_put (pc := 19) o 0 3 hiX4_clear_X4 tyX4 tyX4_ok nmX4 rfl rfl (by decide) lkX4_clear_29 rfl rfl rfl rfl rfl (Nat.le_of_ble_eq_true rfl) dX4_clear_19 ?_
  refine V_eq (ws2 := wPeople cI ad (rfi 8 L0 100) L1 (rfi 8 L2 0) 0) rfl rfl ?_
  exact fin 22 _ () dX4_clear_22 trivial
theorem hdX4_addDays : yX4_addDays.cls = RX4 ∧ yX4_addDays.cls ≠ "java/lang/invoke/MethodHandle" ∧ yX4_addDays.cls ≠ "java/lang/invoke/VarHandle" ∧ (parseMethodDescriptor yX4_addDays.desc).map (fun d => d.parameters.length) = some 1 := by decide +kernel
theorem hiX4_addDays_X4 : ∀ w ∈ wsX40, w ∈ wsX4_addDays := by decide +kernel
theorem lkX4_addDays_29 : Cond.fieldLink RX4 29 RX4 "day" "I" ∈ wsX4_addDays := by decide +kernel
set_option maxHeartbeats 4000000 in
set_option maxRecDepth 100000 in
/-- X4.addDays -/
theorem cX4_addDays_met (l : Launch) (D : va_G) (tys : List (ClassId × FieldType)) (cI : ClassId) (ht : tys[0]? = some (cI, .int)) (ad : Nat → Nat) (L0 L1 L2 : Nat → Int32) (dy : Int32) (n : Int32) : CId l yX4_addDays wsX4_addDays 0 D tys [.ref (ad 0), .int n] (wPeople cI ad L0 L1 L2 dy) (dy + n) (wPeople cI ad L0 L1 L2 (dy + n)) := by
  refine CI_of (maxL := 2) (cc := cX4_addDays) (y := yX4_addDays) rfl rfl (Nat.le_of_ble_eq_true rfl) (fun X hl hD hk hn hcz hsz o fin => ?_)
  subst hl; subst hD; subst hk
  refine V_aload_n (pc := 0) o dX4_addDays_0 rfl ?_
  refine V_dup (pc := 1) o rfl dX4_addDays_1 ?_
  refine V_get (pc := 2) o 0 3 hiX4_addDays_X4 rfl rfl (by decide) lkX4_addDays_29 rfl rfl dX4_addDays_2 ?_
  refine V_iload_n (pc := 5) o dX4_addDays_5 rfl ?_
  refine V_iadd (pc := 6) o dX4_addDays_6 ?_
  refine V_put (pc := 7) o 0 3 hiX4_addDays_X4 tyX4 tyX4_ok nmX4 rfl rfl (by decide) lkX4_addDays_29 rfl rfl rfl rfl rfl (Nat.le_of_ble_eq_true rfl) dX4_addDays_7 ?_
  refine V_eq (ws2 := wPeople cI ad L0 L1 L2 (dy + n)) rfl rfl ?_
  refine V_aload_n (pc := 10) o dX4_addDays_10 rfl ?_
  refine V_get (pc := 11) o 0 3 hiX4_addDays_X4 rfl rfl (by decide) lkX4_addDays_29 rfl rfl dX4_addDays_11 ?_
  exact fin 14 _ _ () dX4_addDays_14 rfl rfl
theorem hdX4_changeLimit : yX4_changeLimit.cls = RX4 ∧ yX4_changeLimit.cls ≠ "java/lang/invoke/MethodHandle" ∧ yX4_changeLimit.cls ≠ "java/lang/invoke/VarHandle" ∧ (parseMethodDescriptor yX4_changeLimit.desc).map (fun d => d.parameters.length) = some 2 := by decide +kernel
theorem hiX4_changeLimit_X4 : ∀ w ∈ wsX40, w ∈ wsX4_changeLimit := by decide +kernel
theorem lkX4_changeLimit_14 : Cond.fieldLink RX4 14 RX4 "limits" "LApprovalyard$Row;" ∈ wsX4_changeLimit := by decide +kernel
set_option maxHeartbeats 4000000 in
set_option maxRecDepth 100000 in
/-- X4.changeLimit -/
theorem cX4_changeLimit_met (l : Launch) (D : va_G) (tys : List (ClassId × FieldType)) (cI : ClassId) (ht : tys[0]? = some (cI, .int)) (ad : Nat → Nat) (L0 L1 L2 : Nat → Int32) (dy : Int32) (p n : Int32) : CId l yX4_changeLimit wsX4_changeLimit 1 D tys [.ref (ad 0), .int p, .int n] (wPeople cI ad L0 L1 L2 dy) (rat 8 L0 p) (wPeople cI ad (rup 8 L0 p n) L1 L2 dy) := by
  refine CI_of (maxL := 4) (cc := cX4_changeLimit) (y := yX4_changeLimit) rfl rfl (Nat.le_of_ble_eq_true rfl) (fun X hl hD hk hn hcz hsz o fin => ?_)
  subst hl; subst hD; subst hk
  refine V_aload_n (pc := 0) o dX4_changeLimit_0 rfl ?_
  refine V_get (pc := 1) o 0 0 hiX4_changeLimit_X4 rfl rfl (by decide) lkX4_changeLimit_14 rfl rfl dX4_changeLimit_1 ?_
  refine V_iload_n (pc := 4) o dX4_changeLimit_4 rfl ?_
  refine V_rVi (pc := 5) o (cX6_at_met _ _ _ cI ht _ _ 8 L0 (by decide) _) 1 2 gX4_changeLimit_X6_at rfl hdX6_at (by decide) rfl rfl rfl (Nat.le_of_ble_eq_true rfl) dX4_changeLimit_5 rfl ?_
  refine V_istore_n (pc := 8) o dX4_changeLimit_8 (by rw [hn]; decide) ?_
  refine V_aload_n (pc := 9) o dX4_changeLimit_9 rfl ?_
  refine V_get (pc := 10) o 0 0 hiX4_changeLimit_X4 rfl rfl (by decide) lkX4_changeLimit_14 rfl rfl dX4_changeLimit_10 ?_
  refine V_iload_n (pc := 13) o dX4_changeLimit_13 rfl ?_
  refine V_iload_n (pc := 14) o dX4_changeLimit_14 rfl ?_
  refine V_wVv (pc := 15) o (cX6_put_met _ _ _ cI ht _ _ 8 L0 (by decide) _ _) 1 2 (wPeople cI ad (rup 8 L0 p n) L1 L2 dy) gX4_changeLimit_X6_put rfl hdX6_put (by decide) rfl rfl rfl (Nat.le_of_ble_eq_true rfl) dX4_changeLimit_15 rfl rfl ?_
  refine V_iload_n (pc := 18) o dX4_changeLimit_18 rfl ?_
  exact fin 19 _ _ () dX4_changeLimit_19 rfl rfl
theorem hdX4_sendOnLeave : yX4_sendOnLeave.cls = RX4 ∧ yX4_sendOnLeave.cls ≠ "java/lang/invoke/MethodHandle" ∧ yX4_sendOnLeave.cls ≠ "java/lang/invoke/VarHandle" ∧ (parseMethodDescriptor yX4_sendOnLeave.desc).map (fun d => d.parameters.length) = some 3 := by decide +kernel
theorem hiX4_sendOnLeave_X4 : ∀ w ∈ wsX40, w ∈ wsX4_sendOnLeave := by decide +kernel
theorem lkX4_sendOnLeave_20 : Cond.fieldLink RX4 20 RX4 "delegates" "LApprovalyard$Row;" ∈ wsX4_sendOnLeave := by decide +kernel
theorem lkX4_sendOnLeave_23 : Cond.fieldLink RX4 23 RX4 "backs" "LApprovalyard$Row;" ∈ wsX4_sendOnLeave := by decide +kernel
theorem lkX4_sendOnLeave_29 : Cond.fieldLink RX4 29 RX4 "day" "I" ∈ wsX4_sendOnLeave := by decide +kernel
set_option maxHeartbeats 4000000 in
set_option maxRecDepth 100000 in
/-- X4.sendOnLeave -/
theorem cX4_sendOnLeave_met (l : Launch) (D : va_G) (tys : List (ClassId × FieldType)) (cI : ClassId) (ht : tys[0]? = some (cI, .int)) (ad : Nat → Nat) (L0 L1 L2 : Nat → Int32) (dy : Int32) (p q n : Int32) : CId l yX4_sendOnLeave wsX4_sendOnLeave 1 D tys [.ref (ad 0), .int p, .int q, .int n] (wPeople cI ad L0 L1 L2 dy) (rat 8 (rup 8 L2 p (dy + n)) p) (wPeople cI ad L0 (rup 8 L1 p q) (rup 8 L2 p (dy + n)) dy) := by
  refine CI_of (maxL := 4) (cc := cX4_sendOnLeave) (y := yX4_sendOnLeave) rfl rfl (Nat.le_of_ble_eq_true rfl) (fun X hl hD hk hn hcz hsz o fin => ?_)
  subst hl; subst hD; subst hk
  refine V_aload_n (pc := 0) o dX4_sendOnLeave_0 rfl ?_
  refine V_get (pc := 1) o 0 1 hiX4_sendOnLeave_X4 rfl rfl (by decide) lkX4_sendOnLeave_20 rfl rfl dX4_sendOnLeave_1 ?_
  refine V_iload_n (pc := 4) o dX4_sendOnLeave_4 rfl ?_
  refine V_iload_n (pc := 5) o dX4_sendOnLeave_5 rfl ?_
  refine V_wVv (pc := 6) o (cX6_put_met _ _ _ cI ht _ _ 8 L1 (by decide) _ _) 3 2 (wPeople cI ad L0 (rup 8 L1 p q) L2 dy) gX4_sendOnLeave_X6_put rfl hdX6_put (by decide) rfl rfl rfl (Nat.le_of_ble_eq_true rfl) dX4_sendOnLeave_6 rfl rfl ?_
  refine V_aload_n (pc := 9) o dX4_sendOnLeave_9 rfl ?_
  refine V_get (pc := 10) o 0 2 hiX4_sendOnLeave_X4 rfl rfl (by decide) lkX4_sendOnLeave_23 rfl rfl dX4_sendOnLeave_10 ?_
  refine V_iload_n (pc := 13) o dX4_sendOnLeave_13 rfl ?_
  refine V_aload_n (pc := 14) o dX4_sendOnLeave_14 rfl ?_
  refine V_get (pc := 15) o 0 3 hiX4_sendOnLeave_X4 rfl rfl (by decide) lkX4_sendOnLeave_29 rfl rfl dX4_sendOnLeave_15 ?_
  refine V_iload_n (pc := 18) o dX4_sendOnLeave_18 rfl ?_
  refine V_iadd (pc := 19) o dX4_sendOnLeave_19 ?_
  refine V_wVv (pc := 20) o (cX6_put_met _ _ _ cI ht _ _ 8 L2 (by decide) _ _) 5 2 (wPeople cI ad L0 (rup 8 L1 p q) (rup 8 L2 p (dy + n)) dy) gX4_sendOnLeave_X6_put rfl hdX6_put (by decide) rfl rfl rfl (Nat.le_of_ble_eq_true rfl) dX4_sendOnLeave_20 rfl rfl ?_
  refine V_aload_n (pc := 23) o dX4_sendOnLeave_23 rfl ?_
  refine V_get (pc := 24) o 0 2 hiX4_sendOnLeave_X4 rfl rfl (by decide) lkX4_sendOnLeave_23 rfl rfl dX4_sendOnLeave_24 ?_
  refine V_iload_n (pc := 27) o dX4_sendOnLeave_27 rfl ?_
  refine V_rVi (pc := 28) o (cX6_at_met _ _ _ cI ht _ _ 8 (rup 8 L2 p (dy + n)) (by decide) _) 5 2 gX4_sendOnLeave_X6_at rfl hdX6_at (by decide) rfl rfl rfl (Nat.le_of_ble_eq_true rfl) dX4_sendOnLeave_28 rfl ?_
  exact fin 31 _ _ () dX4_sendOnLeave_31 rfl rfl
theorem hdX4_backOf : yX4_backOf.cls = RX4 ∧ yX4_backOf.cls ≠ "java/lang/invoke/MethodHandle" ∧ yX4_backOf.cls ≠ "java/lang/invoke/VarHandle" ∧ (parseMethodDescriptor yX4_backOf.desc).map (fun d => d.parameters.length) = some 1 := by decide +kernel
theorem hiX4_backOf_X4 : ∀ w ∈ wsX40, w ∈ wsX4_backOf := by decide +kernel
theorem lkX4_backOf_23 : Cond.fieldLink RX4 23 RX4 "backs" "LApprovalyard$Row;" ∈ wsX4_backOf := by decide +kernel
set_option maxHeartbeats 4000000 in
set_option maxRecDepth 100000 in
/-- X4.backOf -/
theorem cX4_backOf_met (l : Launch) (D : va_G) (tys : List (ClassId × FieldType)) (cI : ClassId) (ht : tys[0]? = some (cI, .int)) (ad : Nat → Nat) (L0 L1 L2 : Nat → Int32) (dy : Int32) (p : Int32) : CId l yX4_backOf wsX4_backOf 1 D tys [.ref (ad 0), .int p] (wPeople cI ad L0 L1 L2 dy) (rat 8 L2 p) (wPeople cI ad L0 L1 L2 dy) := by
  refine CI_of (maxL := 2) (cc := cX4_backOf) (y := yX4_backOf) rfl rfl (Nat.le_of_ble_eq_true rfl) (fun X hl hD hk hn hcz hsz o fin => ?_)
  subst hl; subst hD; subst hk
  refine V_aload_n (pc := 0) o dX4_backOf_0 rfl ?_
  refine V_get (pc := 1) o 0 2 hiX4_backOf_X4 rfl rfl (by decide) lkX4_backOf_23 rfl rfl dX4_backOf_1 ?_
  refine V_iload_n (pc := 4) o dX4_backOf_4 rfl ?_
  refine V_rVi (pc := 5) o (cX6_at_met _ _ _ cI ht _ _ 8 L2 (by decide) _) 5 2 gX4_backOf_X6_at rfl hdX6_at (by decide) rfl rfl rfl (Nat.le_of_ble_eq_true rfl) dX4_backOf_5 rfl ?_
  exact fin 8 _ _ () dX4_backOf_8 rfl rfl
theorem hdX4_isAway : yX4_isAway.cls = RX4 ∧ yX4_isAway.cls ≠ "java/lang/invoke/MethodHandle" ∧ yX4_isAway.cls ≠ "java/lang/invoke/VarHandle" ∧ (parseMethodDescriptor yX4_isAway.desc).map (fun d => d.parameters.length) = some 1 := by decide +kernel
theorem hiX4_isAway_X4 : ∀ w ∈ wsX40, w ∈ wsX4_isAway := by decide +kernel
theorem lkX4_isAway_29 : Cond.fieldLink RX4 29 RX4 "day" "I" ∈ wsX4_isAway := by decide +kernel
theorem lkX4_isAway_23 : Cond.fieldLink RX4 23 RX4 "backs" "LApprovalyard$Row;" ∈ wsX4_isAway := by decide +kernel
set_option maxHeartbeats 4000000 in
set_option maxRecDepth 100000 in
/-- X4.isAway -/
theorem cX4_isAway_met (l : Launch) (D : va_G) (tys : List (ClassId × FieldType)) (cI : ClassId) (ht : tys[0]? = some (cI, .int)) (ad : Nat → Nat) (L0 L1 L2 : Nat → Int32) (dy : Int32) (p : Int32) : CId l yX4_isAway wsX4_isAway 1 D tys [.ref (ad 0), .int p] (wPeople cI ad L0 L1 L2 dy) (if dy < rat 8 L2 p then 1 else 0) (wPeople cI ad L0 L1 L2 dy) := by
  refine CI_of (maxL := 2) (cc := cX4_isAway) (y := yX4_isAway) rfl rfl (Nat.le_of_ble_eq_true rfl) (fun X hl hD hk hn hcz hsz o fin => ?_)
  subst hl; subst hD; subst hk
  refine V_aload_n (pc := 0) o dX4_isAway_0 rfl ?_
  refine V_get (pc := 1) o 0 3 hiX4_isAway_X4 rfl rfl (by decide) lkX4_isAway_29 rfl rfl dX4_isAway_1 ?_
  refine V_aload_n (pc := 4) o dX4_isAway_4 rfl ?_
  refine V_get (pc := 5) o 0 2 hiX4_isAway_X4 rfl rfl (by decide) lkX4_isAway_23 rfl rfl dX4_isAway_5 ?_
  refine V_iload_n (pc := 8) o dX4_isAway_8 rfl ?_
  refine V_rVi (pc := 9) o (cX6_at_met _ _ _ cI ht _ _ 8 L2 (by decide) _) 5 2 gX4_isAway_X6_at rfl hdX6_at (by decide) rfl rfl rfl (Nat.le_of_ble_eq_true rfl) dX4_isAway_9 rfl ?_
  refine V_icmp_ge (pc := 12) o 19 dX4_isAway_12 (by decide) (fun c12 => ?_) (fun c12 => ?_)
  · refine V_iconst (pc := 19) o 0 dX4_isAway_19 (by decide) ?_
    exact fin 20 _ _ () dX4_isAway_20 rfl (by first | (rw [if_pos (by assumption)]; done) | (rw [if_neg (by assumption)]; done) | simp_all)
  · refine V_iconst (pc := 15) o 1 dX4_isAway_15 (by decide) ?_
    refine V_goto (pc := 16) o 20 dX4_isAway_16 (by decide) ?_
    exact fin 20 _ _ () dX4_isAway_20 rfl (by first | (rw [if_pos (by assumption)]; done) | (rw [if_neg (by assumption)]; done) | simp_all)
theorem hdX5_clear : yX5_clear.cls = RX5 ∧ yX5_clear.cls ≠ "java/lang/invoke/MethodHandle" ∧ yX5_clear.cls ≠ "java/lang/invoke/VarHandle" ∧ (parseMethodDescriptor yX5_clear.desc).map (fun d => d.parameters.length) = some 0 := by decide +kernel
theorem hiX5_clear_X5 : ∀ w ∈ wsX50, w ∈ wsX5_clear := by decide +kernel
theorem lkX5_clear_38 : Cond.fieldLink RX5 38 RX5 "number" "I" ∈ wsX5_clear := by decide +kernel
set_option maxHeartbeats 4000000 in
set_option maxRecDepth 100000 in
/-- X5.clear -/
theorem cX5_clear_met (l : Launch) (D : va_G) (tys : List (ClassId × FieldType)) (cI : ClassId) (ht : tys[0]? = some (cI, .int)) (ad : Nat → Nat) (Q0 Q1 Q2 Q3 Q4 Q5 Q6 : Nat → Int32) (nm : Int32) : CVd l yX5_clear wsX5_clear 0 D tys [.ref (ad 0)] (wReqs cI ad Q0 Q1 Q2 Q3 Q4 Q5 Q6 nm) (wReqs cI ad Q0 Q1 Q2 Q3 Q4 Q5 Q6 0) := by
  refine CV_of (maxL := 1) (cc := cX5_clear) (y := yX5_clear) rfl rfl (Nat.le_of_ble_eq_true rfl) (fun X hl hD hk hn hcz hsz o fin => ?_)
  subst hl; subst hD; subst hk
  refine V_aload_n (pc := 0) o dX5_clear_0 rfl ?_
  refine V_iconst (pc := 1) o 0 dX5_clear_1 (by decide) ?_
  refine V_put (pc := 2) o 0 7 hiX5_clear_X5 tyX5 tyX5_ok nmX5 rfl rfl (by decide) lkX5_clear_38 rfl rfl rfl rfl rfl (Nat.le_of_ble_eq_true rfl) dX5_clear_2 ?_
  refine V_eq (ws2 := wReqs cI ad Q0 Q1 Q2 Q3 Q4 Q5 Q6 0) rfl rfl ?_
  exact fin 5 _ () dX5_clear_5 trivial
theorem hdX5_count : yX5_count.cls = RX5 ∧ yX5_count.cls ≠ "java/lang/invoke/MethodHandle" ∧ yX5_count.cls ≠ "java/lang/invoke/VarHandle" ∧ (parseMethodDescriptor yX5_count.desc).map (fun d => d.parameters.length) = some 0 := by decide +kernel
theorem hiX5_count_X5 : ∀ w ∈ wsX50, w ∈ wsX5_count := by decide +kernel
theorem lkX5_count_38 : Cond.fieldLink RX5 38 RX5 "number" "I" ∈ wsX5_count := by decide +kernel
set_option maxHeartbeats 4000000 in
set_option maxRecDepth 100000 in
/-- X5.count -/
theorem cX5_count_met (l : Launch) (D : va_G) (tys : List (ClassId × FieldType)) (cI : ClassId) (ht : tys[0]? = some (cI, .int)) (ad : Nat → Nat) (Q0 Q1 Q2 Q3 Q4 Q5 Q6 : Nat → Int32) (nm : Int32) : CId l yX5_count wsX5_count 0 D tys [.ref (ad 0)] (wReqs cI ad Q0 Q1 Q2 Q3 Q4 Q5 Q6 nm) nm (wReqs cI ad Q0 Q1 Q2 Q3 Q4 Q5 Q6 nm) := by
  refine CI_of (maxL := 1) (cc := cX5_count) (y := yX5_count) rfl rfl (Nat.le_of_ble_eq_true rfl) (fun X hl hD hk hn hcz hsz o fin => ?_)
  subst hl; subst hD; subst hk
  refine V_aload_n (pc := 0) o dX5_count_0 rfl ?_
  refine V_get (pc := 1) o 0 7 hiX5_count_X5 rfl rfl (by decide) lkX5_count_38 rfl rfl dX5_count_1 ?_
  exact fin 4 _ _ () dX5_count_4 rfl rfl
theorem hdX5_personOf : yX5_personOf.cls = RX5 ∧ yX5_personOf.cls ≠ "java/lang/invoke/MethodHandle" ∧ yX5_personOf.cls ≠ "java/lang/invoke/VarHandle" ∧ (parseMethodDescriptor yX5_personOf.desc).map (fun d => d.parameters.length) = some 1 := by decide +kernel
theorem hiX5_personOf_X5 : ∀ w ∈ wsX50, w ∈ wsX5_personOf := by decide +kernel
theorem lkX5_personOf_14 : Cond.fieldLink RX5 14 RX5 "people" "LApprovalyard$Row;" ∈ wsX5_personOf := by decide +kernel
set_option maxHeartbeats 4000000 in
set_option maxRecDepth 100000 in
/-- X5.personOf -/
theorem cX5_personOf_met (l : Launch) (D : va_G) (tys : List (ClassId × FieldType)) (cI : ClassId) (ht : tys[0]? = some (cI, .int)) (ad : Nat → Nat) (Q0 Q1 Q2 Q3 Q4 Q5 Q6 : Nat → Int32) (nm : Int32) (q : Int32) : CId l yX5_personOf wsX5_personOf 1 D tys [.ref (ad 0), .int q] (wReqs cI ad Q0 Q1 Q2 Q3 Q4 Q5 Q6 nm) (rat 30 Q0 q) (wReqs cI ad Q0 Q1 Q2 Q3 Q4 Q5 Q6 nm) := by
  refine CI_of (maxL := 2) (cc := cX5_personOf) (y := yX5_personOf) rfl rfl (Nat.le_of_ble_eq_true rfl) (fun X hl hD hk hn hcz hsz o fin => ?_)
  subst hl; subst hD; subst hk
  refine V_aload_n (pc := 0) o dX5_personOf_0 rfl ?_
  refine V_get (pc := 1) o 0 0 hiX5_personOf_X5 rfl rfl (by decide) lkX5_personOf_14 rfl rfl dX5_personOf_1 ?_
  refine V_iload_n (pc := 4) o dX5_personOf_4 rfl ?_
  refine V_rVi (pc := 5) o (cX6_at_met _ _ _ cI ht _ _ 30 Q0 (by decide) _) 1 2 gX5_personOf_X6_at rfl hdX6_at (by decide) rfl rfl rfl (Nat.le_of_ble_eq_true rfl) dX5_personOf_5 rfl ?_
  exact fin 8 _ _ () dX5_personOf_8 rfl rfl
theorem hdX5_partOf : yX5_partOf.cls = RX5 ∧ yX5_partOf.cls ≠ "java/lang/invoke/MethodHandle" ∧ yX5_partOf.cls ≠ "java/lang/invoke/VarHandle" ∧ (parseMethodDescriptor yX5_partOf.desc).map (fun d => d.parameters.length) = some 1 := by decide +kernel
theorem hiX5_partOf_X5 : ∀ w ∈ wsX50, w ∈ wsX5_partOf := by decide +kernel
theorem lkX5_partOf_20 : Cond.fieldLink RX5 20 RX5 "parts" "LApprovalyard$Row;" ∈ wsX5_partOf := by decide +kernel
set_option maxHeartbeats 4000000 in
set_option maxRecDepth 100000 in
/-- X5.partOf -/
theorem cX5_partOf_met (l : Launch) (D : va_G) (tys : List (ClassId × FieldType)) (cI : ClassId) (ht : tys[0]? = some (cI, .int)) (ad : Nat → Nat) (Q0 Q1 Q2 Q3 Q4 Q5 Q6 : Nat → Int32) (nm : Int32) (q : Int32) : CId l yX5_partOf wsX5_partOf 1 D tys [.ref (ad 0), .int q] (wReqs cI ad Q0 Q1 Q2 Q3 Q4 Q5 Q6 nm) (rat 30 Q1 q) (wReqs cI ad Q0 Q1 Q2 Q3 Q4 Q5 Q6 nm) := by
  refine CI_of (maxL := 2) (cc := cX5_partOf) (y := yX5_partOf) rfl rfl (Nat.le_of_ble_eq_true rfl) (fun X hl hD hk hn hcz hsz o fin => ?_)
  subst hl; subst hD; subst hk
  refine V_aload_n (pc := 0) o dX5_partOf_0 rfl ?_
  refine V_get (pc := 1) o 0 1 hiX5_partOf_X5 rfl rfl (by decide) lkX5_partOf_20 rfl rfl dX5_partOf_1 ?_
  refine V_iload_n (pc := 4) o dX5_partOf_4 rfl ?_
  refine V_rVi (pc := 5) o (cX6_at_met _ _ _ cI ht _ _ 30 Q1 (by decide) _) 3 2 gX5_partOf_X6_at rfl hdX6_at (by decide) rfl rfl rfl (Nat.le_of_ble_eq_true rfl) dX5_partOf_5 rfl ?_
  exact fin 8 _ _ () dX5_partOf_8 rfl rfl
theorem hdX5_leastOf : yX5_leastOf.cls = RX5 ∧ yX5_leastOf.cls ≠ "java/lang/invoke/MethodHandle" ∧ yX5_leastOf.cls ≠ "java/lang/invoke/VarHandle" ∧ (parseMethodDescriptor yX5_leastOf.desc).map (fun d => d.parameters.length) = some 1 := by decide +kernel
theorem hiX5_leastOf_X5 : ∀ w ∈ wsX50, w ∈ wsX5_leastOf := by decide +kernel
theorem lkX5_leastOf_23 : Cond.fieldLink RX5 23 RX5 "leasts" "LApprovalyard$Row;" ∈ wsX5_leastOf := by decide +kernel
set_option maxHeartbeats 4000000 in
set_option maxRecDepth 100000 in
/-- X5.leastOf -/
theorem cX5_leastOf_met (l : Launch) (D : va_G) (tys : List (ClassId × FieldType)) (cI : ClassId) (ht : tys[0]? = some (cI, .int)) (ad : Nat → Nat) (Q0 Q1 Q2 Q3 Q4 Q5 Q6 : Nat → Int32) (nm : Int32) (q : Int32) : CId l yX5_leastOf wsX5_leastOf 1 D tys [.ref (ad 0), .int q] (wReqs cI ad Q0 Q1 Q2 Q3 Q4 Q5 Q6 nm) (rat 30 Q2 q) (wReqs cI ad Q0 Q1 Q2 Q3 Q4 Q5 Q6 nm) := by
  refine CI_of (maxL := 2) (cc := cX5_leastOf) (y := yX5_leastOf) rfl rfl (Nat.le_of_ble_eq_true rfl) (fun X hl hD hk hn hcz hsz o fin => ?_)
  subst hl; subst hD; subst hk
  refine V_aload_n (pc := 0) o dX5_leastOf_0 rfl ?_
  refine V_get (pc := 1) o 0 2 hiX5_leastOf_X5 rfl rfl (by decide) lkX5_leastOf_23 rfl rfl dX5_leastOf_1 ?_
  refine V_iload_n (pc := 4) o dX5_leastOf_4 rfl ?_
  refine V_rVi (pc := 5) o (cX6_at_met _ _ _ cI ht _ _ 30 Q2 (by decide) _) 5 2 gX5_leastOf_X6_at rfl hdX6_at (by decide) rfl rfl rfl (Nat.le_of_ble_eq_true rfl) dX5_leastOf_5 rfl ?_
  exact fin 8 _ _ () dX5_leastOf_8 rfl rfl
theorem hdX5_stateOf : yX5_stateOf.cls = RX5 ∧ yX5_stateOf.cls ≠ "java/lang/invoke/MethodHandle" ∧ yX5_stateOf.cls ≠ "java/lang/invoke/VarHandle" ∧ (parseMethodDescriptor yX5_stateOf.desc).map (fun d => d.parameters.length) = some 1 := by decide +kernel
theorem hiX5_stateOf_X5 : ∀ w ∈ wsX50, w ∈ wsX5_stateOf := by decide +kernel
theorem lkX5_stateOf_26 : Cond.fieldLink RX5 26 RX5 "states" "LApprovalyard$Row;" ∈ wsX5_stateOf := by decide +kernel
set_option maxHeartbeats 4000000 in
set_option maxRecDepth 100000 in
/-- X5.stateOf -/
theorem cX5_stateOf_met (l : Launch) (D : va_G) (tys : List (ClassId × FieldType)) (cI : ClassId) (ht : tys[0]? = some (cI, .int)) (ad : Nat → Nat) (Q0 Q1 Q2 Q3 Q4 Q5 Q6 : Nat → Int32) (nm : Int32) (q : Int32) : CId l yX5_stateOf wsX5_stateOf 1 D tys [.ref (ad 0), .int q] (wReqs cI ad Q0 Q1 Q2 Q3 Q4 Q5 Q6 nm) (rat 30 Q3 q) (wReqs cI ad Q0 Q1 Q2 Q3 Q4 Q5 Q6 nm) := by
  refine CI_of (maxL := 2) (cc := cX5_stateOf) (y := yX5_stateOf) rfl rfl (Nat.le_of_ble_eq_true rfl) (fun X hl hD hk hn hcz hsz o fin => ?_)
  subst hl; subst hD; subst hk
  refine V_aload_n (pc := 0) o dX5_stateOf_0 rfl ?_
  refine V_get (pc := 1) o 0 3 hiX5_stateOf_X5 rfl rfl (by decide) lkX5_stateOf_26 rfl rfl dX5_stateOf_1 ?_
  refine V_iload_n (pc := 4) o dX5_stateOf_4 rfl ?_
  refine V_rVi (pc := 5) o (cX6_at_met _ _ _ cI ht _ _ 30 Q3 (by decide) _) 7 2 gX5_stateOf_X6_at rfl hdX6_at (by decide) rfl rfl rfl (Nat.le_of_ble_eq_true rfl) dX5_stateOf_5 rfl ?_
  exact fin 8 _ _ () dX5_stateOf_8 rfl rfl
theorem hdX5_choiceOf : yX5_choiceOf.cls = RX5 ∧ yX5_choiceOf.cls ≠ "java/lang/invoke/MethodHandle" ∧ yX5_choiceOf.cls ≠ "java/lang/invoke/VarHandle" ∧ (parseMethodDescriptor yX5_choiceOf.desc).map (fun d => d.parameters.length) = some 1 := by decide +kernel
theorem hiX5_choiceOf_X5 : ∀ w ∈ wsX50, w ∈ wsX5_choiceOf := by decide +kernel
theorem lkX5_choiceOf_29 : Cond.fieldLink RX5 29 RX5 "choices" "LApprovalyard$Row;" ∈ wsX5_choiceOf := by decide +kernel
set_option maxHeartbeats 4000000 in
set_option maxRecDepth 100000 in
/-- X5.choiceOf -/
theorem cX5_choiceOf_met (l : Launch) (D : va_G) (tys : List (ClassId × FieldType)) (cI : ClassId) (ht : tys[0]? = some (cI, .int)) (ad : Nat → Nat) (Q0 Q1 Q2 Q3 Q4 Q5 Q6 : Nat → Int32) (nm : Int32) (q : Int32) : CId l yX5_choiceOf wsX5_choiceOf 1 D tys [.ref (ad 0), .int q] (wReqs cI ad Q0 Q1 Q2 Q3 Q4 Q5 Q6 nm) (rat 30 Q4 q) (wReqs cI ad Q0 Q1 Q2 Q3 Q4 Q5 Q6 nm) := by
  refine CI_of (maxL := 2) (cc := cX5_choiceOf) (y := yX5_choiceOf) rfl rfl (Nat.le_of_ble_eq_true rfl) (fun X hl hD hk hn hcz hsz o fin => ?_)
  subst hl; subst hD; subst hk
  refine V_aload_n (pc := 0) o dX5_choiceOf_0 rfl ?_
  refine V_get (pc := 1) o 0 4 hiX5_choiceOf_X5 rfl rfl (by decide) lkX5_choiceOf_29 rfl rfl dX5_choiceOf_1 ?_
  refine V_iload_n (pc := 4) o dX5_choiceOf_4 rfl ?_
  refine V_rVi (pc := 5) o (cX6_at_met _ _ _ cI ht _ _ 30 Q4 (by decide) _) 9 2 gX5_choiceOf_X6_at rfl hdX6_at (by decide) rfl rfl rfl (Nat.le_of_ble_eq_true rfl) dX5_choiceOf_5 rfl ?_
  exact fin 8 _ _ () dX5_choiceOf_8 rfl rfl
theorem hdX5_costOf : yX5_costOf.cls = RX5 ∧ yX5_costOf.cls ≠ "java/lang/invoke/MethodHandle" ∧ yX5_costOf.cls ≠ "java/lang/invoke/VarHandle" ∧ (parseMethodDescriptor yX5_costOf.desc).map (fun d => d.parameters.length) = some 1 := by decide +kernel
theorem hiX5_costOf_X5 : ∀ w ∈ wsX50, w ∈ wsX5_costOf := by decide +kernel
theorem lkX5_costOf_32 : Cond.fieldLink RX5 32 RX5 "costs" "LApprovalyard$Row;" ∈ wsX5_costOf := by decide +kernel
set_option maxHeartbeats 4000000 in
set_option maxRecDepth 100000 in
/-- X5.costOf -/
theorem cX5_costOf_met (l : Launch) (D : va_G) (tys : List (ClassId × FieldType)) (cI : ClassId) (ht : tys[0]? = some (cI, .int)) (ad : Nat → Nat) (Q0 Q1 Q2 Q3 Q4 Q5 Q6 : Nat → Int32) (nm : Int32) (q : Int32) : CId l yX5_costOf wsX5_costOf 1 D tys [.ref (ad 0), .int q] (wReqs cI ad Q0 Q1 Q2 Q3 Q4 Q5 Q6 nm) (rat 30 Q5 q) (wReqs cI ad Q0 Q1 Q2 Q3 Q4 Q5 Q6 nm) := by
  refine CI_of (maxL := 2) (cc := cX5_costOf) (y := yX5_costOf) rfl rfl (Nat.le_of_ble_eq_true rfl) (fun X hl hD hk hn hcz hsz o fin => ?_)
  subst hl; subst hD; subst hk
  refine V_aload_n (pc := 0) o dX5_costOf_0 rfl ?_
  refine V_get (pc := 1) o 0 5 hiX5_costOf_X5 rfl rfl (by decide) lkX5_costOf_32 rfl rfl dX5_costOf_1 ?_
  refine V_iload_n (pc := 4) o dX5_costOf_4 rfl ?_
  refine V_rVi (pc := 5) o (cX6_at_met _ _ _ cI ht _ _ 30 Q5 (by decide) _) 11 2 gX5_costOf_X6_at rfl hdX6_at (by decide) rfl rfl rfl (Nat.le_of_ble_eq_true rfl) dX5_costOf_5 rfl ?_
  exact fin 8 _ _ () dX5_costOf_8 rfl rfl
theorem hdX5_markReleased : yX5_markReleased.cls = RX5 ∧ yX5_markReleased.cls ≠ "java/lang/invoke/MethodHandle" ∧ yX5_markReleased.cls ≠ "java/lang/invoke/VarHandle" ∧ (parseMethodDescriptor yX5_markReleased.desc).map (fun d => d.parameters.length) = some 1 := by decide +kernel
theorem hiX5_markReleased_X5 : ∀ w ∈ wsX50, w ∈ wsX5_markReleased := by decide +kernel
theorem lkX5_markReleased_26 : Cond.fieldLink RX5 26 RX5 "states" "LApprovalyard$Row;" ∈ wsX5_markReleased := by decide +kernel
set_option maxHeartbeats 4000000 in
set_option maxRecDepth 100000 in
/-- X5.markReleased -/
theorem cX5_markReleased_met (l : Launch) (D : va_G) (tys : List (ClassId × FieldType)) (cI : ClassId) (ht : tys[0]? = some (cI, .int)) (ad : Nat → Nat) (Q0 Q1 Q2 Q3 Q4 Q5 Q6 : Nat → Int32) (nm : Int32) (q : Int32) : CId l yX5_markReleased wsX5_markReleased 1 D tys [.ref (ad 0), .int q] (wReqs cI ad Q0 Q1 Q2 Q3 Q4 Q5 Q6 nm) 2 (wReqs cI ad Q0 Q1 Q2 (rup 30 Q3 q 2) Q4 Q5 Q6 nm) := by
  refine CI_of (maxL := 2) (cc := cX5_markReleased) (y := yX5_markReleased) rfl rfl (Nat.le_of_ble_eq_true rfl) (fun X hl hD hk hn hcz hsz o fin => ?_)
  subst hl; subst hD; subst hk
  refine V_aload_n (pc := 0) o dX5_markReleased_0 rfl ?_
  refine V_get (pc := 1) o 0 3 hiX5_markReleased_X5 rfl rfl (by decide) lkX5_markReleased_26 rfl rfl dX5_markReleased_1 ?_
  refine V_iload_n (pc := 4) o dX5_markReleased_4 rfl ?_
  refine V_iconst (pc := 5) o 2 dX5_markReleased_5 (by decide) ?_
  refine V_wVv (pc := 6) o (cX6_put_met _ _ _ cI ht _ _ 30 Q3 (by decide) _ _) 7 2 (wReqs cI ad Q0 Q1 Q2 (rup 30 Q3 q 2) Q4 Q5 Q6 nm) gX5_markReleased_X6_put rfl hdX6_put (by decide) rfl rfl rfl (Nat.le_of_ble_eq_true rfl) dX5_markReleased_6 rfl rfl ?_
  refine V_iconst (pc := 9) o 2 dX5_markReleased_9 (by decide) ?_
  exact fin 10 _ _ () dX5_markReleased_10 rfl rfl
theorem hdX5_addApproval : yX5_addApproval.cls = RX5 ∧ yX5_addApproval.cls ≠ "java/lang/invoke/MethodHandle" ∧ yX5_addApproval.cls ≠ "java/lang/invoke/VarHandle" ∧ (parseMethodDescriptor yX5_addApproval.desc).map (fun d => d.parameters.length) = some 3 := by decide +kernel
theorem hiX5_addApproval_X5 : ∀ w ∈ wsX50, w ∈ wsX5_addApproval := by decide +kernel
theorem lkX5_addApproval_35 : Cond.fieldLink RX5 35 RX5 "ends" "LApprovalyard$Row;" ∈ wsX5_addApproval := by decide +kernel
set_option maxHeartbeats 4000000 in
set_option maxRecDepth 100000 in
/-- X5.addApproval -/
theorem cX5_addApproval_met (l : Launch) (D : va_G) (tys : List (ClassId × FieldType)) (cI : ClassId) (ht : tys[0]? = some (cI, .int)) (ad : Nat → Nat) (Q0 Q1 Q2 Q3 Q4 Q5 Q6 : Nat → Int32) (nm : Int32) (q p n : Int32) : CVd l yX5_addApproval wsX5_addApproval 1 D tys [.ref (ad 0), .int q, .int p, .int n] (wReqs cI ad Q0 Q1 Q2 Q3 Q4 Q5 Q6 nm) (wReqs cI ad Q0 Q1 Q2 Q3 Q4 Q5 (rup 240 Q6 (q * 8 + p) n) nm) := by
  refine CV_of (maxL := 4) (cc := cX5_addApproval) (y := yX5_addApproval) rfl rfl (Nat.le_of_ble_eq_true rfl) (fun X hl hD hk hn hcz hsz o fin => ?_)
  subst hl; subst hD; subst hk
  refine V_aload_n (pc := 0) o dX5_addApproval_0 rfl ?_
  refine V_get (pc := 1) o 0 6 hiX5_addApproval_X5 rfl rfl (by decide) lkX5_addApproval_35 rfl rfl dX5_addApproval_1 ?_
  refine V_iload_n (pc := 4) o dX5_addApproval_4 rfl ?_
  refine V_bipush (pc := 5) o 8 dX5_addApproval_5 (by decide) ?_
  refine V_imul (pc := 7) o dX5_addApproval_7 ?_
  refine V_iload_n (pc := 8) o dX5_addApproval_8 rfl ?_
  refine V_iadd (pc := 9) o dX5_addApproval_9 ?_
  refine V_iload_n (pc := 10) o dX5_addApproval_10 rfl ?_
  refine V_wVv (pc := 11) o (cX6_put_met _ _ _ cI ht _ _ 240 Q6 (by decide) _ _) 13 2 (wReqs cI ad Q0 Q1 Q2 Q3 Q4 Q5 (rup 240 Q6 ((q * 8) + p) n) nm) gX5_addApproval_X6_put rfl hdX6_put (by decide) rfl rfl rfl (Nat.le_of_ble_eq_true rfl) dX5_addApproval_11 rfl rfl ?_
  exact fin 14 _ () dX5_addApproval_14 trivial
theorem hdX5_hasApproval : yX5_hasApproval.cls = RX5 ∧ yX5_hasApproval.cls ≠ "java/lang/invoke/MethodHandle" ∧ yX5_hasApproval.cls ≠ "java/lang/invoke/VarHandle" ∧ (parseMethodDescriptor yX5_hasApproval.desc).map (fun d => d.parameters.length) = some 3 := by decide +kernel
theorem hiX5_hasApproval_X5 : ∀ w ∈ wsX50, w ∈ wsX5_hasApproval := by decide +kernel
theorem lkX5_hasApproval_35 : Cond.fieldLink RX5 35 RX5 "ends" "LApprovalyard$Row;" ∈ wsX5_hasApproval := by decide +kernel
set_option maxHeartbeats 4000000 in
set_option maxRecDepth 100000 in
/-- X5.hasApproval -/
theorem cX5_hasApproval_met (l : Launch) (D : va_G) (tys : List (ClassId × FieldType)) (cI : ClassId) (ht : tys[0]? = some (cI, .int)) (ad : Nat → Nat) (Q0 Q1 Q2 Q3 Q4 Q5 Q6 : Nat → Int32) (nm : Int32) (q p n : Int32) : CId l yX5_hasApproval wsX5_hasApproval 1 D tys [.ref (ad 0), .int q, .int p, .int n] (wReqs cI ad Q0 Q1 Q2 Q3 Q4 Q5 Q6 nm) (if n < rat 240 Q6 (q * 8 + p) then 1 else 0) (wReqs cI ad Q0 Q1 Q2 Q3 Q4 Q5 Q6 nm) := by
  refine CI_of (maxL := 4) (cc := cX5_hasApproval) (y := yX5_hasApproval) rfl rfl (Nat.le_of_ble_eq_true rfl) (fun X hl hD hk hn hcz hsz o fin => ?_)
  subst hl; subst hD; subst hk
  refine V_iload_n (pc := 0) o dX5_hasApproval_0 rfl ?_
  refine V_aload_n (pc := 1) o dX5_hasApproval_1 rfl ?_
  refine V_get (pc := 2) o 0 6 hiX5_hasApproval_X5 rfl rfl (by decide) lkX5_hasApproval_35 rfl rfl dX5_hasApproval_2 ?_
  refine V_iload_n (pc := 5) o dX5_hasApproval_5 rfl ?_
  refine V_bipush (pc := 6) o 8 dX5_hasApproval_6 (by decide) ?_
  refine V_imul (pc := 8) o dX5_hasApproval_8 ?_
  refine V_iload_n (pc := 9) o dX5_hasApproval_9 rfl ?_
  refine V_iadd (pc := 10) o dX5_hasApproval_10 ?_
  refine V_rVi (pc := 11) o (cX6_at_met _ _ _ cI ht _ _ 240 Q6 (by decide) _) 13 2 gX5_hasApproval_X6_at rfl hdX6_at (by decide) rfl rfl rfl (Nat.le_of_ble_eq_true rfl) dX5_hasApproval_11 rfl ?_
  refine V_icmp_ge (pc := 14) o 21 dX5_hasApproval_14 (by decide) (fun c14 => ?_) (fun c14 => ?_)
  · refine V_iconst (pc := 21) o 0 dX5_hasApproval_21 (by decide) ?_
    exact fin 22 _ _ () dX5_hasApproval_22 rfl (by first | (rw [if_pos (by assumption)]; done) | (rw [if_neg (by assumption)]; done) | simp_all)
  · refine V_iconst (pc := 17) o 1 dX5_hasApproval_17 (by decide) ?_
    refine V_goto (pc := 18) o 22 dX5_hasApproval_18 (by decide) ?_
    exact fin 22 _ _ () dX5_hasApproval_22 rfl (by first | (rw [if_pos (by assumption)]; done) | (rw [if_neg (by assumption)]; done) | simp_all)
theorem hdX5_reopen : yX5_reopen.cls = RX5 ∧ yX5_reopen.cls ≠ "java/lang/invoke/MethodHandle" ∧ yX5_reopen.cls ≠ "java/lang/invoke/VarHandle" ∧ (parseMethodDescriptor yX5_reopen.desc).map (fun d => d.parameters.length) = some 1 := by decide +kernel
theorem hiX5_reopen_X5 : ∀ w ∈ wsX50, w ∈ wsX5_reopen := by decide +kernel
theorem lkX5_reopen_26 : Cond.fieldLink RX5 26 RX5 "states" "LApprovalyard$Row;" ∈ wsX5_reopen := by decide +kernel
theorem lkX5_reopen_29 : Cond.fieldLink RX5 29 RX5 "choices" "LApprovalyard$Row;" ∈ wsX5_reopen := by decide +kernel
theorem lkX5_reopen_32 : Cond.fieldLink RX5 32 RX5 "costs" "LApprovalyard$Row;" ∈ wsX5_reopen := by decide +kernel
set_option maxHeartbeats 4000000 in
set_option maxRecDepth 100000 in
/-- X5.reopen -/
theorem cX5_reopen_met (l : Launch) (D : va_G) (tys : List (ClassId × FieldType)) (cI : ClassId) (ht : tys[0]? = some (cI, .int)) (ad : Nat → Nat) (Q0 Q1 Q2 Q3 Q4 Q5 Q6 : Nat → Int32) (nm : Int32) (q : Int32) : CVd l yX5_reopen wsX5_reopen 1 D tys [.ref (ad 0), .int q] (wReqs cI ad Q0 Q1 Q2 Q3 Q4 Q5 Q6 nm) (wReqs cI ad Q0 Q1 Q2 (rup 30 Q3 q 0) (rup 30 Q4 q 0) (rup 30 Q5 q 0) Q6 nm) := by
  refine CV_of (maxL := 2) (cc := cX5_reopen) (y := yX5_reopen) rfl rfl (Nat.le_of_ble_eq_true rfl) (fun X hl hD hk hn hcz hsz o fin => ?_)
  subst hl; subst hD; subst hk
  refine V_aload_n (pc := 0) o dX5_reopen_0 rfl ?_
  refine V_get (pc := 1) o 0 3 hiX5_reopen_X5 rfl rfl (by decide) lkX5_reopen_26 rfl rfl dX5_reopen_1 ?_
  refine V_iload_n (pc := 4) o dX5_reopen_4 rfl ?_
  refine V_iconst (pc := 5) o 0 dX5_reopen_5 (by decide) ?_
  refine V_wVv (pc := 6) o (cX6_put_met _ _ _ cI ht _ _ 30 Q3 (by decide) _ _) 7 2 (wReqs cI ad Q0 Q1 Q2 (rup 30 Q3 q 0) Q4 Q5 Q6 nm) gX5_reopen_X6_put rfl hdX6_put (by decide) rfl rfl rfl (Nat.le_of_ble_eq_true rfl) dX5_reopen_6 rfl rfl ?_
  refine V_aload_n (pc := 9) o dX5_reopen_9 rfl ?_
  refine V_get (pc := 10) o 0 4 hiX5_reopen_X5 rfl rfl (by decide) lkX5_reopen_29 rfl rfl dX5_reopen_10 ?_
  refine V_iload_n (pc := 13) o dX5_reopen_13 rfl ?_
  refine V_iconst (pc := 14) o 0 dX5_reopen_14 (by decide) ?_
  refine V_wVv (pc := 15) o (cX6_put_met _ _ _ cI ht _ _ 30 Q4 (by decide) _ _) 9 2 (wReqs cI ad Q0 Q1 Q2 (rup 30 Q3 q 0) (rup 30 Q4 q 0) Q5 Q6 nm) gX5_reopen_X6_put rfl hdX6_put (by decide) rfl rfl rfl (Nat.le_of_ble_eq_true rfl) dX5_reopen_15 rfl rfl ?_
  refine V_aload_n (pc := 18) o dX5_reopen_18 rfl ?_
  refine V_get (pc := 19) o 0 5 hiX5_reopen_X5 rfl rfl (by decide) lkX5_reopen_32 rfl rfl dX5_reopen_19 ?_
  refine V_iload_n (pc := 22) o dX5_reopen_22 rfl ?_
  refine V_iconst (pc := 23) o 0 dX5_reopen_23 (by decide) ?_
  refine V_wVv (pc := 24) o (cX6_put_met _ _ _ cI ht _ _ 30 Q5 (by decide) _ _) 11 2 (wReqs cI ad Q0 Q1 Q2 (rup 30 Q3 q 0) (rup 30 Q4 q 0) (rup 30 Q5 q 0) Q6 nm) gX5_reopen_X6_put rfl hdX6_put (by decide) rfl rfl rfl (Nat.le_of_ble_eq_true rfl) dX5_reopen_24 rfl rfl ?_
  exact fin 27 _ () dX5_reopen_27 trivial
end
section
/-! Loops of the leaves. -/
theorem lc_e {a b : Int32} (h : a = b) : some (Value.int a) = some (Value.int b) := by rw [h]
theorem le_of_nI {K j : Nat} (h : nI K ≤ nI j) (hj : j ≤ 4000 := by omega) (hK : K ≤ 4000 := by omega) : K ≤ j := (nI_leI (by omega) (by omega)).mp h
theorem lt_of_nI {K j : Nat} (h : ¬ nI K ≤ nI j) (hj : j ≤ 4000 := by omega) (hK : K ≤ 4000 := by omega) : j < K := by
  rcases Nat.lt_or_ge j K with q | q
  · exact q
  · exact absurd (nI_le q (by omega)) h
def pcostN (P1 : Nat → Int32) (c : Int32) : Nat → Int32
  | 0 => 0
  | n + 1 => if chv c (nI n) = 0 then pcostN P1 c n else pcostN P1 c n + rat 24 P1 (plc (nI n) (chv c (nI n)))
def apN (Q6 : Nat → Int32) (q dy : Int32) : Nat → Int32
  | 0 => 0
  | n + 1 => if dy < rat 240 Q6 (q * 8 + nI n) then apN Q6 q dy n + 1 else apN Q6 q dy n
def erN (Q6 : Nat → Int32) (q : Int32) : Nat → Nat → Int32
  | 0 => Q6
  | n + 1 => rup 240 (erN Q6 q n) (q * 8 + nI n) 0
def glN (L0 L2 : Nat → Int32) (dy a c : Int32) : Nat → Int32
  | 0 => -1
  | n + 1 => if ¬ nI n = a ∧ ¬ dy < rat 8 L2 (nI n) ∧ c ≤ rat 8 L0 (nI n) ∧ glN L0 L2 dy a c n < rat 8 L0 (nI n) then rat 8 L0 (nI n) else glN L0 L2 dy a c n
theorem hiX3_costOf_X3 : ∀ w ∈ wsX30, w ∈ wsX3_costOf := by decide +kernel
theorem lkX3_costOf_20 : Cond.fieldLink RX3 20 RX3 "costs" "LApprovalyard$Row;" ∈ wsX3_costOf := by decide +kernel
set_option maxHeartbeats 4000000 in
set_option maxRecDepth 100000 in
theorem lpX3_costOf {X : XT} (o : OkX X cX3_costOf RX3 wsX3_costOf 1) (hn : XN X = 5) (cI : ClassId) (ht : (XK X)[0]? = some (cI, .int)) (ad : Nat → Nat) (P0 P1 P2 P3 P4 P5 : Nat → Int32) (c : Int32) (kk : V X 0 0 (wParts cI ad P0 P1 P2 P3 P4 P5) 44 [(0, .ref (ad 0)), (1, .int (c)), (2, .int (pcostN P1 c 8)), (3, .int (nI 8))] []) : ∀ (m j : Nat), 8 - j < m → j ≤ 8 → V X 0 0 (wParts cI ad P0 P1 P2 P3 P4 P5) 4 [(0, .ref (ad 0)), (1, .int (c)), (2, .int (pcostN P1 c j)), (3, .int (nI j))] [] := by
  intro m
  induction m with
  | zero => intro j h1; exact absurd h1 (Nat.not_lt_zero _)
  | succ m ih =>
    intro j h1 h2
    refine V_iload_n (pc := 4) o dX3_costOf_4 rfl ?_
    refine V_bipush (pc := 5) o 8 dX3_costOf_5 (by decide) ?_
    refine V_icmp_ge (pc := 7) o 44 dX3_costOf_7 (by decide) (fun c7 => ?_) (fun c7 => ?_)
    · have e1 : j = 8 := Nat.le_antisymm h2 (le_of_nI (by first | exact c7 | exact i_nlt c7))
      rw [e1]
      exact V_sub (lc2 := [(0, .ref (ad 0)), (1, .int (c)), (2, .int (pcostN P1 c 8)), (3, .int (nI 8))]) ⟨rfl, rfl, rfl, rfl, trivial⟩ kk
    · refine V_iload_n (pc := 10) o dX3_costOf_10 rfl ?_
      refine V_iload_n (pc := 11) o dX3_costOf_11 rfl ?_
      refine V_rSi (pc := 12) o (cX1_versionOf_met _ _ _ c (nI j)) 0 0 gX3_costOf_X1_versionOf rfl hdX1_versionOf (by decide) rfl (Nat.le_of_ble_eq_true rfl) dX3_costOf_12 rfl ?_
      refine V_istore (pc := 15) o dX3_costOf_15 (by rw [hn]; decide) ?_
      refine V_iload (pc := 17) o dX3_costOf_17 rfl ?_
      refine V_if_eq (pc := 19) o 38 dX3_costOf_19 (by decide) (fun c19 => ?_) (fun c19 => ?_)
      · refine V_iinc (pc := 38) o 1 dX3_costOf_38 (by rw [hn]; decide) rfl (by decide) ?_
        refine V_goto (pc := 41) o 4 dX3_costOf_41 (by decide) ?_
        have q1 : j < 8 := lt_of_nI (K := 8) c7
        refine V_eq (ws2 := wParts cI ad P0 P1 P2 P3 P4 P5) (by first | rfl | (simp only [pcostN]; first | rfl | (rw [if_pos (by assumption)]; rfl) | (rw [if_neg (by assumption)]; rfl) | (split <;> first | rfl | (exfalso; simp_all; done)) | simp_all)) rfl ?_
        refine V_sub (lc2 := [(0, .ref (ad 0)), (1, .int (c)), (2, .int (pcostN P1 c (j + 1))), (3, .int (nI (j + 1)))]) ⟨rfl, rfl, lc_e (by first | rfl | exact nI_1 _ | (simp only [pcostN]; first | rfl | (rw [if_pos (by assumption)]; done) | (rw [if_neg (by assumption)]; done) | (split <;> first | rfl | (exfalso; simp_all; done) | simp_all))), lc_e (by first | rfl | exact nI_1 _ | (simp only [pcostN]; first | rfl | (rw [if_pos (by assumption)]; done) | (rw [if_neg (by assumption)]; done) | (split <;> first | rfl | (exfalso; simp_all; done) | simp_all))), trivial⟩ ?_
        exact ih (j + 1) (by omega) (by omega)
      · refine V_iload_n (pc := 22) o dX3_costOf_22 rfl ?_
        refine V_aload_n (pc := 23) o dX3_costOf_23 rfl ?_
        refine V_get (pc := 24) o 0 1 hiX3_costOf_X3 rfl rfl (by decide) lkX3_costOf_20 rfl rfl dX3_costOf_24 ?_
        refine V_iload_n (pc := 27) o dX3_costOf_27 rfl ?_
        refine V_iload (pc := 28) o dX3_costOf_28 rfl ?_
        refine V_rSi (pc := 30) o (cX3_placeOf_met _ _ _ (nI j) (chv c (nI j))) 0 0 gX3_costOf_X3_placeOf rfl hdX3_placeOf (by decide) rfl (Nat.le_of_ble_eq_true rfl) dX3_costOf_30 rfl ?_
        refine V_rVi (pc := 33) o (cX6_at_met _ _ _ cI ht _ _ 24 P1 (by decide) _) 3 2 gX3_costOf_X6_at rfl hdX6_at (by decide) rfl rfl rfl (Nat.le_of_ble_eq_true rfl) dX3_costOf_33 rfl ?_
        refine V_iadd (pc := 36) o dX3_costOf_36 ?_
        refine V_istore_n (pc := 37) o dX3_costOf_37 (by rw [hn]; decide) ?_
        refine V_iinc (pc := 38) o 1 dX3_costOf_38 (by rw [hn]; decide) rfl (by decide) ?_
        refine V_goto (pc := 41) o 4 dX3_costOf_41 (by decide) ?_
        have q1 : j < 8 := lt_of_nI (K := 8) c7
        refine V_eq (ws2 := wParts cI ad P0 P1 P2 P3 P4 P5) (by first | rfl | (simp only [pcostN]; first | rfl | (rw [if_pos (by assumption)]; rfl) | (rw [if_neg (by assumption)]; rfl) | (split <;> first | rfl | (exfalso; simp_all; done)) | simp_all)) rfl ?_
        refine V_sub (lc2 := [(0, .ref (ad 0)), (1, .int (c)), (2, .int (pcostN P1 c (j + 1))), (3, .int (nI (j + 1)))]) ⟨rfl, rfl, lc_e (by first | rfl | exact nI_1 _ | (simp only [pcostN]; first | rfl | (rw [if_pos (by assumption)]; done) | (rw [if_neg (by assumption)]; done) | (split <;> first | rfl | (exfalso; simp_all; done) | simp_all))), lc_e (by first | rfl | exact nI_1 _ | (simp only [pcostN]; first | rfl | (rw [if_pos (by assumption)]; done) | (rw [if_neg (by assumption)]; done) | (split <;> first | rfl | (exfalso; simp_all; done) | simp_all))), trivial⟩ ?_
        exact ih (j + 1) (by omega) (by omega)
theorem hdX3_costOf : yX3_costOf.cls = RX3 ∧ yX3_costOf.cls ≠ "java/lang/invoke/MethodHandle" ∧ yX3_costOf.cls ≠ "java/lang/invoke/VarHandle" ∧ (parseMethodDescriptor yX3_costOf.desc).map (fun d => d.parameters.length) = some 1 := by decide +kernel
set_option maxHeartbeats 4000000 in
set_option maxRecDepth 100000 in
/-- X3.costOf -/
theorem cX3_costOf_met (l : Launch) (D : va_G) (tys : List (ClassId × FieldType)) (cI : ClassId) (ht : tys[0]? = some (cI, .int)) (ad : Nat → Nat) (P0 P1 P2 P3 P4 P5 : Nat → Int32) (c : Int32) : CId l yX3_costOf wsX3_costOf 1 D tys [.ref (ad 0), .int c] (wParts cI ad P0 P1 P2 P3 P4 P5) (pcostN P1 c 8) (wParts cI ad P0 P1 P2 P3 P4 P5) := by
  refine CI_of (maxL := 5) (cc := cX3_costOf) (y := yX3_costOf) rfl rfl (Nat.le_of_ble_eq_true rfl) (fun X hl hD hk hn hcz hsz o fin => ?_)
  subst hl; subst hD; subst hk
  refine V_iconst (pc := 0) o 0 dX3_costOf_0 (by decide) ?_
  refine V_istore_n (pc := 1) o dX3_costOf_1 (by rw [hn]; decide) ?_
  refine V_iconst (pc := 2) o 0 dX3_costOf_2 (by decide) ?_
  refine V_istore_n (pc := 3) o dX3_costOf_3 (by rw [hn]; decide) ?_
  exact V_sub (lc2 := [(0, .ref (ad 0)), (1, .int c), (2, .int (pcostN P1 c 0)), (3, .int (nI 0))]) ⟨rfl, rfl, rfl, rfl, trivial⟩ (lpX3_costOf o hn cI ht ad P0 P1 P2 P3 P4 P5 c (V_iload_n (pc := 44) o dX3_costOf_44 rfl (fin 45 _ _ () dX3_costOf_45 rfl rfl)) 9 0 (by omega) (by omega))
set_option maxHeartbeats 4000000 in
set_option maxRecDepth 100000 in
theorem lpX5_approvalsOf {X : XT} (o : OkX X cX5_approvalsOf RX5 wsX5_approvalsOf 2) (hn : XN X = 5) (cI : ClassId) (ht : (XK X)[0]? = some (cI, .int)) (ad : Nat → Nat) (Q0 Q1 Q2 Q3 Q4 Q5 Q6 : Nat → Int32) (nm : Int32) (q dy : Int32) (kk : V X 0 0 (wReqs cI ad Q0 Q1 Q2 Q3 Q4 Q5 Q6 nm) 32 [(0, .ref (ad 0)), (1, .int (q)), (2, .int (dy)), (3, .int (apN Q6 q dy 8)), (4, .int (nI 8))] []) : ∀ (m j : Nat), 8 - j < m → j ≤ 8 → V X 0 0 (wReqs cI ad Q0 Q1 Q2 Q3 Q4 Q5 Q6 nm) 5 [(0, .ref (ad 0)), (1, .int (q)), (2, .int (dy)), (3, .int (apN Q6 q dy j)), (4, .int (nI j))] [] := by
  intro m
  induction m with
  | zero => intro j h1; exact absurd h1 (Nat.not_lt_zero _)
  | succ m ih =>
    intro j h1 h2
    refine V_iload (pc := 5) o dX5_approvalsOf_5 rfl ?_
    refine V_bipush (pc := 7) o 8 dX5_approvalsOf_7 (by decide) ?_
    refine V_icmp_ge (pc := 9) o 32 dX5_approvalsOf_9 (by decide) (fun c9 => ?_) (fun c9 => ?_)
    · have e1 : j = 8 := Nat.le_antisymm h2 (le_of_nI (by first | exact c9 | exact i_nlt c9))
      rw [e1]
      exact V_sub (lc2 := [(0, .ref (ad 0)), (1, .int (q)), (2, .int (dy)), (3, .int (apN Q6 q dy 8)), (4, .int (nI 8))]) ⟨rfl, rfl, rfl, rfl, rfl, trivial⟩ kk
    · refine V_aload_n (pc := 12) o dX5_approvalsOf_12 rfl ?_
      refine V_iload_n (pc := 13) o dX5_approvalsOf_13 rfl ?_
      refine V_iload (pc := 14) o dX5_approvalsOf_14 rfl ?_
      refine V_iload_n (pc := 16) o dX5_approvalsOf_16 rfl ?_
      refine V_rVi (pc := 17) o (cX5_hasApproval_met _ _ _ cI ht ad Q0 Q1 Q2 Q3 Q4 Q5 Q6 nm q (nI j) dy) 0 15 gX5_approvalsOf_X5_hasApproval rfl hdX5_hasApproval (by decide) rfl rfl rfl (Nat.le_of_ble_eq_true rfl) dX5_approvalsOf_17 rfl ?_
      refine V_ite (fun b17 => ?_) (fun b17 => ?_)
      · refine V_if_eq (pc := 20) o 26 dX5_approvalsOf_20 (by decide) (fun c20 => absurd c20 (by decide)) (fun _ => ?_)
        refine V_iinc (pc := 23) o 1 dX5_approvalsOf_23 (by rw [hn]; decide) rfl (by decide) ?_
        refine V_iinc (pc := 26) o 1 dX5_approvalsOf_26 (by rw [hn]; decide) rfl (by decide) ?_
        refine V_goto (pc := 29) o 5 dX5_approvalsOf_29 (by decide) ?_
        have q1 : j < 8 := lt_of_nI (K := 8) c9
        refine V_eq (ws2 := wReqs cI ad Q0 Q1 Q2 Q3 Q4 Q5 Q6 nm) (by first | rfl | (simp only [apN]; first | rfl | (rw [if_pos (by assumption)]; rfl) | (rw [if_neg (by assumption)]; rfl) | (split <;> first | rfl | (exfalso; simp_all; done)) | simp_all)) rfl ?_
        refine V_sub (lc2 := [(0, .ref (ad 0)), (1, .int (q)), (2, .int (dy)), (3, .int (apN Q6 q dy (j + 1))), (4, .int (nI (j + 1)))]) ⟨rfl, rfl, rfl, lc_e (by first | rfl | exact nI_1 _ | (simp only [apN]; first | rfl | (rw [if_pos (by assumption)]; done) | (rw [if_neg (by assumption)]; done) | (split <;> first | rfl | (exfalso; simp_all; done) | simp_all))), lc_e (by first | rfl | exact nI_1 _ | (simp only [apN]; first | rfl | (rw [if_pos (by assumption)]; done) | (rw [if_neg (by assumption)]; done) | (split <;> first | rfl | (exfalso; simp_all; done) | simp_all))), trivial⟩ ?_
        exact ih (j + 1) (by omega) (by omega)
      · refine V_if_eq (pc := 20) o 26 dX5_approvalsOf_20 (by decide) (fun _ => ?_) (fun c20 => absurd c20 (by decide))
        refine V_iinc (pc := 26) o 1 dX5_approvalsOf_26 (by rw [hn]; decide) rfl (by decide) ?_
        refine V_goto (pc := 29) o 5 dX5_approvalsOf_29 (by decide) ?_
        have q1 : j < 8 := lt_of_nI (K := 8) c9
        refine V_eq (ws2 := wReqs cI ad Q0 Q1 Q2 Q3 Q4 Q5 Q6 nm) (by first | rfl | (simp only [apN]; first | rfl | (rw [if_pos (by assumption)]; rfl) | (rw [if_neg (by assumption)]; rfl) | (split <;> first | rfl | (exfalso; simp_all; done)) | simp_all)) rfl ?_
        refine V_sub (lc2 := [(0, .ref (ad 0)), (1, .int (q)), (2, .int (dy)), (3, .int (apN Q6 q dy (j + 1))), (4, .int (nI (j + 1)))]) ⟨rfl, rfl, rfl, lc_e (by first | rfl | exact nI_1 _ | (simp only [apN]; first | rfl | (rw [if_pos (by assumption)]; done) | (rw [if_neg (by assumption)]; done) | (split <;> first | rfl | (exfalso; simp_all; done) | simp_all))), lc_e (by first | rfl | exact nI_1 _ | (simp only [apN]; first | rfl | (rw [if_pos (by assumption)]; done) | (rw [if_neg (by assumption)]; done) | (split <;> first | rfl | (exfalso; simp_all; done) | simp_all))), trivial⟩ ?_
        exact ih (j + 1) (by omega) (by omega)
theorem hdX5_approvalsOf : yX5_approvalsOf.cls = RX5 ∧ yX5_approvalsOf.cls ≠ "java/lang/invoke/MethodHandle" ∧ yX5_approvalsOf.cls ≠ "java/lang/invoke/VarHandle" ∧ (parseMethodDescriptor yX5_approvalsOf.desc).map (fun d => d.parameters.length) = some 2 := by decide +kernel
set_option maxHeartbeats 4000000 in
set_option maxRecDepth 100000 in
/-- X5.approvalsOf -/
theorem cX5_approvalsOf_met (l : Launch) (D : va_G) (tys : List (ClassId × FieldType)) (cI : ClassId) (ht : tys[0]? = some (cI, .int)) (ad : Nat → Nat) (Q0 Q1 Q2 Q3 Q4 Q5 Q6 : Nat → Int32) (nm : Int32) (q dy : Int32) : CId l yX5_approvalsOf wsX5_approvalsOf 2 D tys [.ref (ad 0), .int q, .int dy] (wReqs cI ad Q0 Q1 Q2 Q3 Q4 Q5 Q6 nm) (apN Q6 q dy 8) (wReqs cI ad Q0 Q1 Q2 Q3 Q4 Q5 Q6 nm) := by
  refine CI_of (maxL := 5) (cc := cX5_approvalsOf) (y := yX5_approvalsOf) rfl rfl (Nat.le_of_ble_eq_true rfl) (fun X hl hD hk hn hcz hsz o fin => ?_)
  subst hl; subst hD; subst hk
  refine V_iconst (pc := 0) o 0 dX5_approvalsOf_0 (by decide) ?_
  refine V_istore_n (pc := 1) o dX5_approvalsOf_1 (by rw [hn]; decide) ?_
  refine V_iconst (pc := 2) o 0 dX5_approvalsOf_2 (by decide) ?_
  refine V_istore (pc := 3) o dX5_approvalsOf_3 (by rw [hn]; decide) ?_
  exact V_sub (lc2 := [(0, .ref (ad 0)), (1, .int q), (2, .int dy), (3, .int (apN Q6 q dy 0)), (4, .int (nI 0))]) ⟨rfl, rfl, rfl, rfl, rfl, trivial⟩ (lpX5_approvalsOf o hn cI ht ad Q0 Q1 Q2 Q3 Q4 Q5 Q6 nm q dy (V_iload_n (pc := 32) o dX5_approvalsOf_32 rfl (fin 33 _ _ () dX5_approvalsOf_33 rfl rfl)) 9 0 (by omega) (by omega))
theorem hiX5_endApprovals_X5 : ∀ w ∈ wsX50, w ∈ wsX5_endApprovals := by decide +kernel
theorem lkX5_endApprovals_35 : Cond.fieldLink RX5 35 RX5 "ends" "LApprovalyard$Row;" ∈ wsX5_endApprovals := by decide +kernel
set_option maxHeartbeats 4000000 in
set_option maxRecDepth 100000 in
theorem lpX5_endApprovals {X : XT} (o : OkX X cX5_endApprovals RX5 wsX5_endApprovals 1) (hn : XN X = 3) (cI : ClassId) (ht : (XK X)[0]? = some (cI, .int)) (ad : Nat → Nat) (Q0 Q1 Q2 Q3 Q4 Q5 Q6 : Nat → Int32) (nm : Int32) (q : Int32) (kk : V X 0 0 (wReqs cI ad Q0 Q1 Q2 Q3 Q4 Q5 (erN Q6 q 8) nm) 28 [(0, .ref (ad 0)), (1, .int (q)), (2, .int (nI 8))] []) : ∀ (m j : Nat), 8 - j < m → j ≤ 8 → V X 0 0 (wReqs cI ad Q0 Q1 Q2 Q3 Q4 Q5 (erN Q6 q j) nm) 2 [(0, .ref (ad 0)), (1, .int (q)), (2, .int (nI j))] [] := by
  intro m
  induction m with
  | zero => intro j h1; exact absurd h1 (Nat.not_lt_zero _)
  | succ m ih =>
    intro j h1 h2
    refine V_iload_n (pc := 2) o dX5_endApprovals_2 rfl ?_
    refine V_bipush (pc := 3) o 8 dX5_endApprovals_3 (by decide) ?_
    refine V_icmp_ge (pc := 5) o 28 dX5_endApprovals_5 (by decide) (fun c5 => ?_) (fun c5 => ?_)
    · have e1 : j = 8 := Nat.le_antisymm h2 (le_of_nI (by first | exact c5 | exact i_nlt c5))
      rw [e1]
      exact V_sub (lc2 := [(0, .ref (ad 0)), (1, .int (q)), (2, .int (nI 8))]) ⟨rfl, rfl, rfl, trivial⟩ kk
    · refine V_aload_n (pc := 8) o dX5_endApprovals_8 rfl ?_
      refine V_get (pc := 9) o 0 6 hiX5_endApprovals_X5 rfl rfl (by decide) lkX5_endApprovals_35 rfl rfl dX5_endApprovals_9 ?_
      refine V_iload_n (pc := 12) o dX5_endApprovals_12 rfl ?_
      refine V_bipush (pc := 13) o 8 dX5_endApprovals_13 (by decide) ?_
      refine V_imul (pc := 15) o dX5_endApprovals_15 ?_
      refine V_iload_n (pc := 16) o dX5_endApprovals_16 rfl ?_
      refine V_iadd (pc := 17) o dX5_endApprovals_17 ?_
      refine V_iconst (pc := 18) o 0 dX5_endApprovals_18 (by decide) ?_
      refine V_wVv (pc := 19) o (cX6_put_met _ _ _ cI ht _ _ 240 (erN Q6 q j) (by decide) _ _) 13 2 (wReqs cI ad Q0 Q1 Q2 Q3 Q4 Q5 (rup 240 (erN Q6 q j) ((q * 8) + (nI j)) 0) nm) gX5_endApprovals_X6_put rfl hdX6_put (by decide) rfl rfl rfl (Nat.le_of_ble_eq_true rfl) dX5_endApprovals_19 rfl rfl ?_
      refine V_iinc (pc := 22) o 1 dX5_endApprovals_22 (by rw [hn]; decide) rfl (by decide) ?_
      refine V_goto (pc := 25) o 2 dX5_endApprovals_25 (by decide) ?_
      have q1 : j < 8 := lt_of_nI (K := 8) c5
      refine V_eq (ws2 := wReqs cI ad Q0 Q1 Q2 Q3 Q4 Q5 (erN Q6 q (j + 1)) nm) (by first | rfl | (simp only [erN]; first | rfl | (rw [if_pos (by assumption)]; rfl) | (rw [if_neg (by assumption)]; rfl) | (split <;> first | rfl | (exfalso; simp_all; done)) | simp_all)) rfl ?_
      refine V_sub (lc2 := [(0, .ref (ad 0)), (1, .int (q)), (2, .int (nI (j + 1)))]) ⟨rfl, rfl, lc_e (by first | rfl | exact nI_1 _ | (simp only [erN]; first | rfl | (rw [if_pos (by assumption)]; done) | (rw [if_neg (by assumption)]; done) | (split <;> first | rfl | (exfalso; simp_all; done) | simp_all))), trivial⟩ ?_
      exact ih (j + 1) (by omega) (by omega)
theorem hdX5_endApprovals : yX5_endApprovals.cls = RX5 ∧ yX5_endApprovals.cls ≠ "java/lang/invoke/MethodHandle" ∧ yX5_endApprovals.cls ≠ "java/lang/invoke/VarHandle" ∧ (parseMethodDescriptor yX5_endApprovals.desc).map (fun d => d.parameters.length) = some 1 := by decide +kernel
set_option maxHeartbeats 4000000 in
set_option maxRecDepth 100000 in
/-- X5.endApprovals -/
theorem cX5_endApprovals_met (l : Launch) (D : va_G) (tys : List (ClassId × FieldType)) (cI : ClassId) (ht : tys[0]? = some (cI, .int)) (ad : Nat → Nat) (Q0 Q1 Q2 Q3 Q4 Q5 Q6 : Nat → Int32) (nm : Int32) (q : Int32) : CVd l yX5_endApprovals wsX5_endApprovals 1 D tys [.ref (ad 0), .int q] (wReqs cI ad Q0 Q1 Q2 Q3 Q4 Q5 Q6 nm) (wReqs cI ad Q0 Q1 Q2 Q3 Q4 Q5 (erN Q6 q 8) nm) := by
  refine CV_of (maxL := 3) (cc := cX5_endApprovals) (y := yX5_endApprovals) rfl rfl (Nat.le_of_ble_eq_true rfl) (fun X hl hD hk hn hcz hsz o fin => ?_)
  subst hl; subst hD; subst hk
  refine V_iconst (pc := 0) o 0 dX5_endApprovals_0 (by decide) ?_
  refine V_istore_n (pc := 1) o dX5_endApprovals_1 (by rw [hn]; decide) ?_
  refine V_eq (ws2 := wReqs cI ad Q0 Q1 Q2 Q3 Q4 Q5 (erN Q6 q 0) nm) rfl rfl ?_
  exact V_sub (lc2 := [(0, .ref (ad 0)), (1, .int q), (2, .int (nI 0))]) ⟨rfl, rfl, rfl, trivial⟩ (lpX5_endApprovals o hn cI ht ad Q0 Q1 Q2 Q3 Q4 Q5 Q6 nm q (fin 28 _ () dX5_endApprovals_28 trivial) 9 0 (by omega) (by omega))
theorem hiX4_greatestLimit_X4 : ∀ w ∈ wsX40, w ∈ wsX4_greatestLimit := by decide +kernel
theorem lkX4_greatestLimit_14 : Cond.fieldLink RX4 14 RX4 "limits" "LApprovalyard$Row;" ∈ wsX4_greatestLimit := by decide +kernel
set_option maxHeartbeats 4000000 in
set_option maxRecDepth 100000 in
theorem lpX4_greatestLimit {X : XT} (o : OkX X cX4_greatestLimit RX4 wsX4_greatestLimit 2) (hn : XN X = 6) (cI : ClassId) (ht : (XK X)[0]? = some (cI, .int)) (ad : Nat → Nat) (L0 L1 L2 : Nat → Int32) (dy : Int32) (a c : Int32) (kk : V X 0 0 (wPeople cI ad L0 L1 L2 dy) 59 [(0, .ref (ad 0)), (1, .int (a)), (2, .int (c)), (3, .int (glN L0 L2 dy a c 8)), (4, .int (nI 8))] []) : ∀ (m j : Nat), 8 - j < m → j ≤ 8 → V X 0 0 (wPeople cI ad L0 L1 L2 dy) 5 [(0, .ref (ad 0)), (1, .int (a)), (2, .int (c)), (3, .int (glN L0 L2 dy a c j)), (4, .int (nI j))] [] := by
  intro m
  induction m with
  | zero => intro j h1; exact absurd h1 (Nat.not_lt_zero _)
  | succ m ih =>
    intro j h1 h2
    refine V_iload (pc := 5) o dX4_greatestLimit_5 rfl ?_
    refine V_bipush (pc := 7) o 8 dX4_greatestLimit_7 (by decide) ?_
    refine V_icmp_ge (pc := 9) o 59 dX4_greatestLimit_9 (by decide) (fun c9 => ?_) (fun c9 => ?_)
    · have e1 : j = 8 := Nat.le_antisymm h2 (le_of_nI (by first | exact c9 | exact i_nlt c9))
      rw [e1]
      exact V_sub (lc2 := [(0, .ref (ad 0)), (1, .int (a)), (2, .int (c)), (3, .int (glN L0 L2 dy a c 8)), (4, .int (nI 8))]) ⟨rfl, rfl, rfl, rfl, rfl, trivial⟩ kk
    · refine V_aload_n (pc := 12) o dX4_greatestLimit_12 rfl ?_
      refine V_get (pc := 13) o 0 0 hiX4_greatestLimit_X4 rfl rfl (by decide) lkX4_greatestLimit_14 rfl rfl dX4_greatestLimit_13 ?_
      refine V_iload (pc := 16) o dX4_greatestLimit_16 rfl ?_
      refine V_rVi (pc := 18) o (cX6_at_met _ _ _ cI ht _ _ 8 L0 (by decide) _) 1 2 gX4_greatestLimit_X6_at rfl hdX6_at (by decide) rfl rfl rfl (Nat.le_of_ble_eq_true rfl) dX4_greatestLimit_18 rfl ?_
      refine V_istore (pc := 21) o dX4_greatestLimit_21 (by rw [hn]; decide) ?_
      refine V_iload (pc := 23) o dX4_greatestLimit_23 rfl ?_
      refine V_iload_n (pc := 25) o dX4_greatestLimit_25 rfl ?_
      refine V_icmp_eq (pc := 26) o 53 dX4_greatestLimit_26 (by decide) (fun c26 => ?_) (fun c26 => ?_)
      · refine V_iinc (pc := 53) o 1 dX4_greatestLimit_53 (by rw [hn]; decide) rfl (by decide) ?_
        refine V_goto (pc := 56) o 5 dX4_greatestLimit_56 (by decide) ?_
        have q1 : j < 8 := lt_of_nI (K := 8) c9
        refine V_eq (ws2 := wPeople cI ad L0 L1 L2 dy) (by first | rfl | (simp only [glN]; first | rfl | (rw [if_pos (by assumption)]; rfl) | (rw [if_neg (by assumption)]; rfl) | (split <;> first | rfl | (exfalso; simp_all; done)) | simp_all)) rfl ?_
        refine V_sub (lc2 := [(0, .ref (ad 0)), (1, .int (a)), (2, .int (c)), (3, .int (glN L0 L2 dy a c (j + 1))), (4, .int (nI (j + 1)))]) ⟨rfl, rfl, rfl, lc_e (by first | rfl | exact nI_1 _ | (simp only [glN]; first | (rw [if_pos (by refine ⟨?_, ?_, ?_, ?_⟩ <;> first | assumption | exact i_nlt (by assumption) | exact i_nle (by assumption))]; done) | (rw [if_neg (fun q => by first | exact absurd (by assumption) q.1 | exact absurd (by assumption) q.2.1 | exact absurd q.2.2.1 (Int32.not_le.mpr (by assumption)) | exact absurd q.2.2.2 (Int32.not_lt.mpr (by assumption)))]; done))), lc_e (by first | rfl | exact nI_1 _ | (simp only [glN]; first | (rw [if_pos (by refine ⟨?_, ?_, ?_, ?_⟩ <;> first | assumption | exact i_nlt (by assumption) | exact i_nle (by assumption))]; done) | (rw [if_neg (fun q => by first | exact absurd (by assumption) q.1 | exact absurd (by assumption) q.2.1 | exact absurd q.2.2.1 (Int32.not_le.mpr (by assumption)) | exact absurd q.2.2.2 (Int32.not_lt.mpr (by assumption)))]; done))), trivial⟩ ?_
        exact ih (j + 1) (by omega) (by omega)
      · refine V_aload_n (pc := 29) o dX4_greatestLimit_29 rfl ?_
        refine V_iload (pc := 30) o dX4_greatestLimit_30 rfl ?_
        refine V_rVi (pc := 32) o (cX4_isAway_met _ _ _ cI ht ad L0 L1 L2 dy (nI j)) 0 7 gX4_greatestLimit_X4_isAway rfl hdX4_isAway (by decide) rfl rfl rfl (Nat.le_of_ble_eq_true rfl) dX4_greatestLimit_32 rfl ?_
        refine V_ite (fun b32 => ?_) (fun b32 => ?_)
        · refine V_if_ne (pc := 35) o 53 dX4_greatestLimit_35 (by decide) (fun _ => ?_) (fun c35 => absurd c35 (by decide))
          refine V_iinc (pc := 53) o 1 dX4_greatestLimit_53 (by rw [hn]; decide) rfl (by decide) ?_
          refine V_goto (pc := 56) o 5 dX4_greatestLimit_56 (by decide) ?_
          have q1 : j < 8 := lt_of_nI (K := 8) c9
          refine V_eq (ws2 := wPeople cI ad L0 L1 L2 dy) (by first | rfl | (simp only [glN]; first | rfl | (rw [if_pos (by assumption)]; rfl) | (rw [if_neg (by assumption)]; rfl) | (split <;> first | rfl | (exfalso; simp_all; done)) | simp_all)) rfl ?_
          refine V_sub (lc2 := [(0, .ref (ad 0)), (1, .int (a)), (2, .int (c)), (3, .int (glN L0 L2 dy a c (j + 1))), (4, .int (nI (j + 1)))]) ⟨rfl, rfl, rfl, lc_e (by first | rfl | exact nI_1 _ | (simp only [glN]; first | (rw [if_pos (by refine ⟨?_, ?_, ?_, ?_⟩ <;> first | assumption | exact i_nlt (by assumption) | exact i_nle (by assumption))]; done) | (rw [if_neg (fun q => by first | exact absurd (by assumption) q.1 | exact absurd (by assumption) q.2.1 | exact absurd q.2.2.1 (Int32.not_le.mpr (by assumption)) | exact absurd q.2.2.2 (Int32.not_lt.mpr (by assumption)))]; done))), lc_e (by first | rfl | exact nI_1 _ | (simp only [glN]; first | (rw [if_pos (by refine ⟨?_, ?_, ?_, ?_⟩ <;> first | assumption | exact i_nlt (by assumption) | exact i_nle (by assumption))]; done) | (rw [if_neg (fun q => by first | exact absurd (by assumption) q.1 | exact absurd (by assumption) q.2.1 | exact absurd q.2.2.1 (Int32.not_le.mpr (by assumption)) | exact absurd q.2.2.2 (Int32.not_lt.mpr (by assumption)))]; done))), trivial⟩ ?_
          exact ih (j + 1) (by omega) (by omega)
        · refine V_if_ne (pc := 35) o 53 dX4_greatestLimit_35 (by decide) (fun c35 => absurd c35 (by decide)) (fun _ => ?_)
          refine V_iload (pc := 38) o dX4_greatestLimit_38 rfl ?_
          refine V_iload_n (pc := 40) o dX4_greatestLimit_40 rfl ?_
          refine V_icmp_lt (pc := 41) o 53 dX4_greatestLimit_41 (by decide) (fun c41 => ?_) (fun c41 => ?_)
          · refine V_iinc (pc := 53) o 1 dX4_greatestLimit_53 (by rw [hn]; decide) rfl (by decide) ?_
            refine V_goto (pc := 56) o 5 dX4_greatestLimit_56 (by decide) ?_
            have q1 : j < 8 := lt_of_nI (K := 8) c9
            refine V_eq (ws2 := wPeople cI ad L0 L1 L2 dy) (by first | rfl | (simp only [glN]; first | rfl | (rw [if_pos (by assumption)]; rfl) | (rw [if_neg (by assumption)]; rfl) | (split <;> first | rfl | (exfalso; simp_all; done)) | simp_all)) rfl ?_
            refine V_sub (lc2 := [(0, .ref (ad 0)), (1, .int (a)), (2, .int (c)), (3, .int (glN L0 L2 dy a c (j + 1))), (4, .int (nI (j + 1)))]) ⟨rfl, rfl, rfl, lc_e (by first | rfl | exact nI_1 _ | (simp only [glN]; first | (rw [if_pos (by refine ⟨?_, ?_, ?_, ?_⟩ <;> first | assumption | exact i_nlt (by assumption) | exact i_nle (by assumption))]; done) | (rw [if_neg (fun q => by first | exact absurd (by assumption) q.1 | exact absurd (by assumption) q.2.1 | exact absurd q.2.2.1 (Int32.not_le.mpr (by assumption)) | exact absurd q.2.2.2 (Int32.not_lt.mpr (by assumption)))]; done))), lc_e (by first | rfl | exact nI_1 _ | (simp only [glN]; first | (rw [if_pos (by refine ⟨?_, ?_, ?_, ?_⟩ <;> first | assumption | exact i_nlt (by assumption) | exact i_nle (by assumption))]; done) | (rw [if_neg (fun q => by first | exact absurd (by assumption) q.1 | exact absurd (by assumption) q.2.1 | exact absurd q.2.2.1 (Int32.not_le.mpr (by assumption)) | exact absurd q.2.2.2 (Int32.not_lt.mpr (by assumption)))]; done))), trivial⟩ ?_
            exact ih (j + 1) (by omega) (by omega)
          · refine V_iload (pc := 44) o dX4_greatestLimit_44 rfl ?_
            refine V_iload_n (pc := 46) o dX4_greatestLimit_46 rfl ?_
            refine V_icmp_le (pc := 47) o 53 dX4_greatestLimit_47 (by decide) (fun c47 => ?_) (fun c47 => ?_)
            · refine V_iinc (pc := 53) o 1 dX4_greatestLimit_53 (by rw [hn]; decide) rfl (by decide) ?_
              refine V_goto (pc := 56) o 5 dX4_greatestLimit_56 (by decide) ?_
              have q1 : j < 8 := lt_of_nI (K := 8) c9
              refine V_eq (ws2 := wPeople cI ad L0 L1 L2 dy) (by first | rfl | (simp only [glN]; first | rfl | (rw [if_pos (by assumption)]; rfl) | (rw [if_neg (by assumption)]; rfl) | (split <;> first | rfl | (exfalso; simp_all; done)) | simp_all)) rfl ?_
              refine V_sub (lc2 := [(0, .ref (ad 0)), (1, .int (a)), (2, .int (c)), (3, .int (glN L0 L2 dy a c (j + 1))), (4, .int (nI (j + 1)))]) ⟨rfl, rfl, rfl, lc_e (by first | rfl | exact nI_1 _ | (simp only [glN]; first | (rw [if_pos (by refine ⟨?_, ?_, ?_, ?_⟩ <;> first | assumption | exact i_nlt (by assumption) | exact i_nle (by assumption))]; done) | (rw [if_neg (fun q => by first | exact absurd (by assumption) q.1 | exact absurd (by assumption) q.2.1 | exact absurd q.2.2.1 (Int32.not_le.mpr (by assumption)) | exact absurd q.2.2.2 (Int32.not_lt.mpr (by assumption)))]; done))), lc_e (by first | rfl | exact nI_1 _ | (simp only [glN]; first | (rw [if_pos (by refine ⟨?_, ?_, ?_, ?_⟩ <;> first | assumption | exact i_nlt (by assumption) | exact i_nle (by assumption))]; done) | (rw [if_neg (fun q => by first | exact absurd (by assumption) q.1 | exact absurd (by assumption) q.2.1 | exact absurd q.2.2.1 (Int32.not_le.mpr (by assumption)) | exact absurd q.2.2.2 (Int32.not_lt.mpr (by assumption)))]; done))), trivial⟩ ?_
              exact ih (j + 1) (by omega) (by omega)
            · refine V_iload (pc := 50) o dX4_greatestLimit_50 rfl ?_
              refine V_istore_n (pc := 52) o dX4_greatestLimit_52 (by rw [hn]; decide) ?_
              refine V_iinc (pc := 53) o 1 dX4_greatestLimit_53 (by rw [hn]; decide) rfl (by decide) ?_
              refine V_goto (pc := 56) o 5 dX4_greatestLimit_56 (by decide) ?_
              have q1 : j < 8 := lt_of_nI (K := 8) c9
              refine V_eq (ws2 := wPeople cI ad L0 L1 L2 dy) (by first | rfl | (simp only [glN]; first | rfl | (rw [if_pos (by assumption)]; rfl) | (rw [if_neg (by assumption)]; rfl) | (split <;> first | rfl | (exfalso; simp_all; done)) | simp_all)) rfl ?_
              refine V_sub (lc2 := [(0, .ref (ad 0)), (1, .int (a)), (2, .int (c)), (3, .int (glN L0 L2 dy a c (j + 1))), (4, .int (nI (j + 1)))]) ⟨rfl, rfl, rfl, lc_e (by first | rfl | exact nI_1 _ | (simp only [glN]; first | (rw [if_pos (by refine ⟨?_, ?_, ?_, ?_⟩ <;> first | assumption | exact i_nlt (by assumption) | exact i_nle (by assumption))]; done) | (rw [if_neg (fun q => by first | exact absurd (by assumption) q.1 | exact absurd (by assumption) q.2.1 | exact absurd q.2.2.1 (Int32.not_le.mpr (by assumption)) | exact absurd q.2.2.2 (Int32.not_lt.mpr (by assumption)))]; done))), lc_e (by first | rfl | exact nI_1 _ | (simp only [glN]; first | (rw [if_pos (by refine ⟨?_, ?_, ?_, ?_⟩ <;> first | assumption | exact i_nlt (by assumption) | exact i_nle (by assumption))]; done) | (rw [if_neg (fun q => by first | exact absurd (by assumption) q.1 | exact absurd (by assumption) q.2.1 | exact absurd q.2.2.1 (Int32.not_le.mpr (by assumption)) | exact absurd q.2.2.2 (Int32.not_lt.mpr (by assumption)))]; done))), trivial⟩ ?_
              exact ih (j + 1) (by omega) (by omega)
theorem hdX4_greatestLimit : yX4_greatestLimit.cls = RX4 ∧ yX4_greatestLimit.cls ≠ "java/lang/invoke/MethodHandle" ∧ yX4_greatestLimit.cls ≠ "java/lang/invoke/VarHandle" ∧ (parseMethodDescriptor yX4_greatestLimit.desc).map (fun d => d.parameters.length) = some 2 := by decide +kernel
set_option maxHeartbeats 4000000 in
set_option maxRecDepth 100000 in
/-- X4.greatestLimit -/
theorem cX4_greatestLimit_met (l : Launch) (D : va_G) (tys : List (ClassId × FieldType)) (cI : ClassId) (ht : tys[0]? = some (cI, .int)) (ad : Nat → Nat) (L0 L1 L2 : Nat → Int32) (dy : Int32) (a c : Int32) : CId l yX4_greatestLimit wsX4_greatestLimit 2 D tys [.ref (ad 0), .int a, .int c] (wPeople cI ad L0 L1 L2 dy) (glN L0 L2 dy a c 8) (wPeople cI ad L0 L1 L2 dy) := by
  refine CI_of (maxL := 6) (cc := cX4_greatestLimit) (y := yX4_greatestLimit) rfl rfl (Nat.le_of_ble_eq_true rfl) (fun X hl hD hk hn hcz hsz o fin => ?_)
  subst hl; subst hD; subst hk
  refine V_iconst (pc := 0) o (-1) dX4_greatestLimit_0 (by decide) ?_
  refine V_istore_n (pc := 1) o dX4_greatestLimit_1 (by rw [hn]; decide) ?_
  refine V_iconst (pc := 2) o 0 dX4_greatestLimit_2 (by decide) ?_
  refine V_istore (pc := 3) o dX4_greatestLimit_3 (by rw [hn]; decide) ?_
  exact V_sub (lc2 := [(0, .ref (ad 0)), (1, .int a), (2, .int c), (3, .int (glN L0 L2 dy a c 0)), (4, .int (nI 0))]) ⟨rfl, rfl, rfl, rfl, rfl, trivial⟩ (lpX4_greatestLimit o hn cI ht ad L0 L1 L2 dy a c (V_iload_n (pc := 59) o dX4_greatestLimit_59 rfl (fin 60 _ _ () dX4_greatestLimit_60 rfl rfl)) 9 0 (by omega) (by omega))
end
section
def prN (L0 L1 L2 : Nat → Int32) (dy p c : Int32) : Nat → Int32
  | 0 => -1
  | n + 1 => if dy < rat 8 L2 (nI (8 - (n + 1))) ∧ rat 8 L1 (nI (8 - (n + 1))) = p ∧ c ≤ rat 8 L0 (nI (8 - (n + 1))) then nI (8 - (n + 1)) else prN L0 L1 L2 dy p c n
def prF (L0 L1 L2 : Nat → Int32) (dy p c : Int32) : Int32 := if dy < rat 8 L2 p then -1 else if c ≤ rat 8 L0 p then p else if 2 * rat 8 L0 p < c then -1 else prN L0 L1 L2 dy p c 8
theorem hiX4_principalOf_X4 : ∀ w ∈ wsX40, w ∈ wsX4_principalOf := by decide +kernel
theorem lkX4_principalOf_20 : Cond.fieldLink RX4 20 RX4 "delegates" "LApprovalyard$Row;" ∈ wsX4_principalOf := by decide +kernel
theorem lkX4_principalOf_14 : Cond.fieldLink RX4 14 RX4 "limits" "LApprovalyard$Row;" ∈ wsX4_principalOf := by decide +kernel
set_option maxHeartbeats 4000000 in
set_option maxRecDepth 100000 in
theorem lpX4_principalOf {X : XT} (o : OkX X cX4_principalOf RX4 wsX4_principalOf 2) (hn : XN X = 4) (cI : ClassId) (ht : (XK X)[0]? = some (cI, .int)) (ad : Nat → Nat) (L0 L1 L2 : Nat → Int32) (dy p c : Int32) : ∀ n : Nat, n ≤ 8 → (∀ pc lc v, decode cX4_principalOf pc = .ok (.ireturn, 1) → v = prN L0 L1 L2 dy p c n → V X 0 0 (wPeople cI ad L0 L1 L2 dy) pc lc [.int v]) → V X 0 0 (wPeople cI ad L0 L1 L2 dy) 42 [(0, .ref (ad 0)), (1, .int p), (2, .int c), (3, .int (nI (8 - n)))] [] := by
  intro n
  induction n with
  | zero =>
    intro h1 fin
    refine V_iload_n (pc := 42) o dX4_principalOf_42 rfl ?_
    refine V_bipush (pc := 43) o 8 dX4_principalOf_43 (by decide) ?_
    refine V_icmp_ge (pc := 45) o 88 dX4_principalOf_45 (by decide) (fun c45 => ?_) (fun c45 => ?_)
    · refine V_iconst (pc := 88) o (-1) dX4_principalOf_88 (by decide) ?_
      exact fin 89 _ _ dX4_principalOf_89 rfl
    · exact absurd (show (8 : Int32) ≤ nI (8 - 0) by decide) c45
  | succ n ih =>
    intro h1 fin
    refine V_iload_n (pc := 42) o dX4_principalOf_42 rfl ?_
    refine V_bipush (pc := 43) o 8 dX4_principalOf_43 (by decide) ?_
    refine V_icmp_ge (pc := 45) o 88 dX4_principalOf_45 (by decide) (fun c45 => ?_) (fun c45 => ?_)
    · refine V_iconst (pc := 88) o (-1) dX4_principalOf_88 (by decide) ?_
      exact absurd (le_of_nI (K := 8) c45) (by omega)
    · refine V_aload_n (pc := 48) o dX4_principalOf_48 rfl ?_
      refine V_iload_n (pc := 49) o dX4_principalOf_49 rfl ?_
      refine V_rVi (pc := 50) o (cX4_isAway_met _ _ _ cI ht ad L0 L1 L2 dy (nI (8 - (n + 1)))) 0 7 gX4_principalOf_X4_isAway rfl hdX4_isAway (by decide) rfl rfl rfl (Nat.le_of_ble_eq_true rfl) dX4_principalOf_50 rfl ?_
      refine V_ite (fun b50 => ?_) (fun b50 => ?_)
      · refine V_if_eq (pc := 53) o 82 dX4_principalOf_53 (by decide) (fun c53 => absurd c53 (by decide)) (fun _ => ?_)
        refine V_aload_n (pc := 56) o dX4_principalOf_56 rfl ?_
        refine V_get (pc := 57) o 0 1 hiX4_principalOf_X4 rfl rfl (by decide) lkX4_principalOf_20 rfl rfl dX4_principalOf_57 ?_
        refine V_iload_n (pc := 60) o dX4_principalOf_60 rfl ?_
        refine V_rVi (pc := 61) o (cX6_at_met _ _ _ cI ht _ _ 8 L1 (by decide) _) 3 2 gX4_principalOf_X6_at rfl hdX6_at (by decide) rfl rfl rfl (Nat.le_of_ble_eq_true rfl) dX4_principalOf_61 rfl ?_
        refine V_iload_n (pc := 64) o dX4_principalOf_64 rfl ?_
        refine V_icmp_ne (pc := 65) o 82 dX4_principalOf_65 (by decide) (fun c65 => ?_) (fun c65 => ?_)
        · refine V_iinc (pc := 82) o 1 dX4_principalOf_82 (by rw [hn]; decide) rfl (by decide) ?_
          refine V_goto (pc := 85) o 42 dX4_principalOf_85 (by decide) ?_
          refine V_sub (lc2 := [(0, .ref (ad 0)), (1, .int p), (2, .int c), (3, .int (nI (8 - n)))]) ⟨rfl, rfl, rfl, lc_e (by rw [nI_1]; congr 1; omega), trivial⟩ ?_
          refine ih (by omega) (fun pc lc v dg e => fin pc lc v dg (by rw [e, prN]; exact (if_neg (fun q => by first | exact absurd (by assumption) q.1 | exact absurd q.1 (by assumption) | exact absurd q.2.1 (by assumption) | exact absurd q.2.2 (Int32.not_le.mpr (by assumption)))).symm))
        · refine V_aload_n (pc := 68) o dX4_principalOf_68 rfl ?_
          refine V_get (pc := 69) o 0 0 hiX4_principalOf_X4 rfl rfl (by decide) lkX4_principalOf_14 rfl rfl dX4_principalOf_69 ?_
          refine V_iload_n (pc := 72) o dX4_principalOf_72 rfl ?_
          refine V_rVi (pc := 73) o (cX6_at_met _ _ _ cI ht _ _ 8 L0 (by decide) _) 1 2 gX4_principalOf_X6_at rfl hdX6_at (by decide) rfl rfl rfl (Nat.le_of_ble_eq_true rfl) dX4_principalOf_73 rfl ?_
          refine V_iload_n (pc := 76) o dX4_principalOf_76 rfl ?_
          refine V_icmp_lt (pc := 77) o 82 dX4_principalOf_77 (by decide) (fun c77 => ?_) (fun c77 => ?_)
          · refine V_iinc (pc := 82) o 1 dX4_principalOf_82 (by rw [hn]; decide) rfl (by decide) ?_
            refine V_goto (pc := 85) o 42 dX4_principalOf_85 (by decide) ?_
            refine V_sub (lc2 := [(0, .ref (ad 0)), (1, .int p), (2, .int c), (3, .int (nI (8 - n)))]) ⟨rfl, rfl, rfl, lc_e (by rw [nI_1]; congr 1; omega), trivial⟩ ?_
            refine ih (by omega) (fun pc lc v dg e => fin pc lc v dg (by rw [e, prN]; exact (if_neg (fun q => by first | exact absurd (by assumption) q.1 | exact absurd q.1 (by assumption) | exact absurd q.2.1 (by assumption) | exact absurd q.2.2 (Int32.not_le.mpr (by assumption)))).symm))
          · refine V_iload_n (pc := 80) o dX4_principalOf_80 rfl ?_
            exact fin 81 _ _ dX4_principalOf_81 (by rw [prN]; exact (if_pos ⟨by assumption, by assumption, i_nlt (by assumption)⟩).symm)
      · refine V_if_eq (pc := 53) o 82 dX4_principalOf_53 (by decide) (fun _ => ?_) (fun c53 => absurd c53 (by decide))
        refine V_iinc (pc := 82) o 1 dX4_principalOf_82 (by rw [hn]; decide) rfl (by decide) ?_
        refine V_goto (pc := 85) o 42 dX4_principalOf_85 (by decide) ?_
        refine V_sub (lc2 := [(0, .ref (ad 0)), (1, .int p), (2, .int c), (3, .int (nI (8 - n)))]) ⟨rfl, rfl, rfl, lc_e (by rw [nI_1]; congr 1; omega), trivial⟩ ?_
        refine ih (by omega) (fun pc lc v dg e => fin pc lc v dg (by rw [e, prN]; exact (if_neg (fun q => by first | exact absurd (by assumption) q.1 | exact absurd q.1 (by assumption) | exact absurd q.2.1 (by assumption) | exact absurd q.2.2 (Int32.not_le.mpr (by assumption)))).symm))
theorem hdX4_principalOf : yX4_principalOf.cls = RX4 ∧ yX4_principalOf.cls ≠ "java/lang/invoke/MethodHandle" ∧ yX4_principalOf.cls ≠ "java/lang/invoke/VarHandle" ∧ (parseMethodDescriptor yX4_principalOf.desc).map (fun d => d.parameters.length) = some 2 := by decide +kernel
set_option maxHeartbeats 4000000 in
set_option maxRecDepth 100000 in
/-- X4.principalOf -/
theorem cX4_principalOf_met (l : Launch) (D : va_G) (tys : List (ClassId × FieldType)) (cI : ClassId) (ht : tys[0]? = some (cI, .int)) (ad : Nat → Nat) (L0 L1 L2 : Nat → Int32) (dy : Int32) (p c : Int32) : CId l yX4_principalOf wsX4_principalOf 2 D tys [.ref (ad 0), .int p, .int c] (wPeople cI ad L0 L1 L2 dy) (prF L0 L1 L2 dy p c) (wPeople cI ad L0 L1 L2 dy) := by
  refine CI_of (maxL := 4) (cc := cX4_principalOf) (y := yX4_principalOf) rfl rfl (Nat.le_of_ble_eq_true rfl) (fun X hl hD hk hn hcz hsz o fin => ?_)
  subst hl; subst hD; subst hk
  refine V_aload_n (pc := 0) o dX4_principalOf_0 rfl ?_
  refine V_iload_n (pc := 1) o dX4_principalOf_1 rfl ?_
  refine V_rVi (pc := 2) o (cX4_isAway_met _ _ _ cI ht ad L0 L1 L2 dy p) 0 7 gX4_principalOf_X4_isAway rfl hdX4_isAway (by decide) rfl rfl rfl (Nat.le_of_ble_eq_true rfl) dX4_principalOf_2 rfl ?_
  refine V_ite (fun b2 => ?_) (fun b2 => ?_)
  · refine V_if_eq (pc := 5) o 10 dX4_principalOf_5 (by decide) (fun c5 => absurd c5 (by decide)) (fun _ => ?_)
    refine V_iconst (pc := 8) o (-1) dX4_principalOf_8 (by decide) ?_
    exact fin 9 _ _ () dX4_principalOf_9 rfl (by unfold prF; exact (if_pos (by assumption)).symm)
  · refine V_if_eq (pc := 5) o 10 dX4_principalOf_5 (by decide) (fun _ => ?_) (fun c5 => absurd c5 (by decide))
    refine V_aload_n (pc := 10) o dX4_principalOf_10 rfl ?_
    refine V_get (pc := 11) o 0 0 hiX4_principalOf_X4 rfl rfl (by decide) lkX4_principalOf_14 rfl rfl dX4_principalOf_11 ?_
    refine V_iload_n (pc := 14) o dX4_principalOf_14 rfl ?_
    refine V_rVi (pc := 15) o (cX6_at_met _ _ _ cI ht _ _ 8 L0 (by decide) _) 1 2 gX4_principalOf_X6_at rfl hdX6_at (by decide) rfl rfl rfl (Nat.le_of_ble_eq_true rfl) dX4_principalOf_15 rfl ?_
    refine V_iload_n (pc := 18) o dX4_principalOf_18 rfl ?_
    refine V_icmp_lt (pc := 19) o 24 dX4_principalOf_19 (by decide) (fun c19 => ?_) (fun c19 => ?_)
    · refine V_iload_n (pc := 24) o dX4_principalOf_24 rfl ?_
      refine V_iconst (pc := 25) o 2 dX4_principalOf_25 (by decide) ?_
      refine V_aload_n (pc := 26) o dX4_principalOf_26 rfl ?_
      refine V_get (pc := 27) o 0 0 hiX4_principalOf_X4 rfl rfl (by decide) lkX4_principalOf_14 rfl rfl dX4_principalOf_27 ?_
      refine V_iload_n (pc := 30) o dX4_principalOf_30 rfl ?_
      refine V_rVi (pc := 31) o (cX6_at_met _ _ _ cI ht _ _ 8 L0 (by decide) _) 1 2 gX4_principalOf_X6_at rfl hdX6_at (by decide) rfl rfl rfl (Nat.le_of_ble_eq_true rfl) dX4_principalOf_31 rfl ?_
      refine V_imul (pc := 34) o dX4_principalOf_34 ?_
      refine V_icmp_le (pc := 35) o 40 dX4_principalOf_35 (by decide) (fun c35 => ?_) (fun c35 => ?_)
      · refine V_iconst (pc := 40) o 0 dX4_principalOf_40 (by decide) ?_
        refine V_istore_n (pc := 41) o dX4_principalOf_41 (by rw [hn]; decide) ?_
        refine V_sub (lc2 := [(0, .ref (ad 0)), (1, .int p), (2, .int c), (3, .int (nI (8 - 8)))]) ⟨rfl, rfl, rfl, rfl, trivial⟩ ?_
        refine lpX4_principalOf o hn cI ht ad L0 L1 L2 dy p c 8 (by omega) (fun pc lc v dg e => fin pc lc v () dg rfl ?_)
        rw [e]; unfold prF; rw [if_neg (by assumption), if_neg (fun q => absurd q (Int32.not_le.mpr (by assumption))), if_neg (Int32.not_lt.mpr (by assumption))]
      · refine V_iconst (pc := 38) o (-1) dX4_principalOf_38 (by decide) ?_
        exact fin 39 _ _ () dX4_principalOf_39 rfl (by unfold prF; rw [if_neg (by assumption), if_neg (fun q => absurd q (Int32.not_le.mpr (by assumption))), if_pos (i_nle (by assumption))])
    · refine V_iload_n (pc := 22) o dX4_principalOf_22 rfl ?_
      exact fin 23 _ _ () dX4_principalOf_23 rfl (by unfold prF; rw [if_neg (by assumption), if_pos (i_nlt (by assumption))])
abbrev T4 : Type := (Nat → Int32) × (Nat → Int32) × (Nat → Int32) × (Nat → Int32)
def lvS (T : T4) (p v q : Int32) : T4 := if chv (rat 30 T.2.1 q) p = v then (if rat 30 T.1 q = 1 then (rup 30 T.1 q 0, rup 30 T.2.1 q 0, rup 30 T.2.2.1 q 0, erN T.2.2.2 q 8) else (T.1, T.2.1, T.2.2.1, erN T.2.2.2 q 8)) else T
def lvT (T : T4) (p v : Int32) : Nat → T4
  | 0 => T
  | n + 1 => lvS (lvT T p v n) p v (nI n)
def lvE (T : T4) (p v dy : Int32) : Nat → Int32
  | 0 => 0
  | n + 1 => if chv (rat 30 (lvT T p v n).2.1 (nI n)) p = v then lvE T p v dy n + apN (lvT T p v n).2.2.2 (nI n) dy 8 else lvE T p v dy n
theorem tcn_le {x : Int32} {j : Nat} (h : x ≤ nI j) (hj : j < 2 ^ 31) : x.toNatClampNeg ≤ j := by
  rcases Int32.lt_or_le x 0 with q | q
  · have : x.toNatClampNeg = 0 := by
      have h1 : x.toInt < 0 := by simpa using Int32.lt_iff_toInt_lt.mp q
      show x.toInt.toNat = 0
      omega
    omega
  · obtain ⟨k, hk, rfl⟩ := nI_of (Int32.not_lt.mpr q)
    rw [nI_clamp hk]
    exact (nI_leI hk hj).mp h
theorem tcn_lt {x : Int32} {j : Nat} (h : ¬ x ≤ nI j) (hj : j < 2 ^ 31) : j < x.toNatClampNeg := by
  have h0 : ¬ x < 0 := fun q => h (Int32.le_trans (Int32.le_of_lt q) (nI_pos' hj))
  obtain ⟨k, hk, rfl⟩ := nI_of h0
  rw [nI_clamp hk]
  rcases Nat.lt_or_ge j k with q | q
  · exact q
  · exact absurd (nI_le q hj) h
theorem tcn_b (x : Int32) : x.toNatClampNeg < 2 ^ 31 := by
  have := Int32.toInt_lt x
  show x.toInt.toNat < 2 ^ 31
  omega
theorem hiX5_loseVersion_X5 : ∀ w ∈ wsX50, w ∈ wsX5_loseVersion := by decide +kernel
theorem lkX5_loseVersion_38 : Cond.fieldLink RX5 38 RX5 "number" "I" ∈ wsX5_loseVersion := by decide +kernel
theorem lkX5_loseVersion_29 : Cond.fieldLink RX5 29 RX5 "choices" "LApprovalyard$Row;" ∈ wsX5_loseVersion := by decide +kernel
theorem lkX5_loseVersion_26 : Cond.fieldLink RX5 26 RX5 "states" "LApprovalyard$Row;" ∈ wsX5_loseVersion := by decide +kernel
set_option maxHeartbeats 4000000 in
set_option maxRecDepth 100000 in
theorem lpX5_loseVersion {X : XT} (o : OkX X cX5_loseVersion RX5 wsX5_loseVersion 3) (hn : XN X = 6) (cI : ClassId) (ht : (XK X)[0]? = some (cI, .int)) (ad : Nat → Nat) (Q0 Q1 Q2 Q3 Q4 Q5 Q6 : Nat → Int32) (nm : Int32) (p v dy : Int32) (kk : V X 0 0 (wReqs cI ad Q0 Q1 Q2 ((lvT (Q3, Q4, Q5, Q6) p v nm.toNatClampNeg).1) ((lvT (Q3, Q4, Q5, Q6) p v nm.toNatClampNeg).2.1) ((lvT (Q3, Q4, Q5, Q6) p v nm.toNatClampNeg).2.2.1) ((lvT (Q3, Q4, Q5, Q6) p v nm.toNatClampNeg).2.2.2) nm) 75 [(0, .ref (ad 0)), (1, .int (p)), (2, .int (v)), (3, .int (dy)), (4, .int (lvE (Q3, Q4, Q5, Q6) p v dy nm.toNatClampNeg)), (5, .int (nI nm.toNatClampNeg))] []) : ∀ (m j : Nat), nm.toNatClampNeg - j < m → j ≤ nm.toNatClampNeg → V X 0 0 (wReqs cI ad Q0 Q1 Q2 ((lvT (Q3, Q4, Q5, Q6) p v j).1) ((lvT (Q3, Q4, Q5, Q6) p v j).2.1) ((lvT (Q3, Q4, Q5, Q6) p v j).2.2.1) ((lvT (Q3, Q4, Q5, Q6) p v j).2.2.2) nm) 6 [(0, .ref (ad 0)), (1, .int (p)), (2, .int (v)), (3, .int (dy)), (4, .int (lvE (Q3, Q4, Q5, Q6) p v dy j)), (5, .int (nI j))] [] := by
  intro m
  induction m with
  | zero => intro j h1; exact absurd h1 (Nat.not_lt_zero _)
  | succ m ih =>
    intro j h1 h2
    refine V_iload (pc := 6) o dX5_loseVersion_6 rfl ?_
    refine V_aload_n (pc := 8) o dX5_loseVersion_8 rfl ?_
    refine V_get (pc := 9) o 0 7 hiX5_loseVersion_X5 rfl rfl (by decide) lkX5_loseVersion_38 rfl rfl dX5_loseVersion_9 ?_
    refine V_icmp_ge (pc := 12) o 75 dX5_loseVersion_12 (by decide) (fun c12 => ?_) (fun c12 => ?_)
    · have e1 : j = nm.toNatClampNeg := Nat.le_antisymm h2 (tcn_le c12 (Nat.lt_of_le_of_lt h2 (tcn_b nm)))
      rw [← e1] at kk
      exact V_sub (lc2 := [(0, .ref (ad 0)), (1, .int p), (2, .int v), (3, .int dy), (4, .int (lvE (Q3, Q4, Q5, Q6) p v dy j)), (5, .int (nI j))]) ⟨rfl, rfl, rfl, rfl, rfl, rfl, trivial⟩ kk
    · have q1 : j < nm.toNatClampNeg := tcn_lt c12 (Nat.lt_of_le_of_lt h2 (tcn_b nm))
      refine V_aload_n (pc := 15) o dX5_loseVersion_15 rfl ?_
      refine V_get (pc := 16) o 0 4 hiX5_loseVersion_X5 rfl rfl (by decide) lkX5_loseVersion_29 rfl rfl dX5_loseVersion_16 ?_
      refine V_iload (pc := 19) o dX5_loseVersion_19 rfl ?_
      refine V_rVi (pc := 21) o (cX6_at_met _ _ _ cI ht _ _ 30 ((lvT (Q3, Q4, Q5, Q6) p v j).2.1) (by decide) _) 9 2 gX5_loseVersion_X6_at rfl hdX6_at (by decide) rfl rfl rfl (Nat.le_of_ble_eq_true rfl) dX5_loseVersion_21 rfl ?_
      refine V_iload_n (pc := 24) o dX5_loseVersion_24 rfl ?_
      refine V_rSi (pc := 25) o (cX1_versionOf_met _ _ _ (rat 30 ((lvT (Q3, Q4, Q5, Q6) p v j).2.1) (nI j)) p) 0 0 gX5_loseVersion_X1_versionOf rfl hdX1_versionOf (by decide) rfl (Nat.le_of_ble_eq_true rfl) dX5_loseVersion_25 rfl ?_
      refine V_iload_n (pc := 28) o dX5_loseVersion_28 rfl ?_
      refine V_icmp_ne (pc := 29) o 69 dX5_loseVersion_29 (by decide) (fun c29 => ?_) (fun c29 => ?_)
      · refine V_iinc (pc := 69) o 1 dX5_loseVersion_69 (by rw [hn]; decide) rfl (by decide) ?_
        refine V_goto (pc := 72) o 6 dX5_loseVersion_72 (by decide) ?_
        refine V_eq (ws2 := wReqs cI ad Q0 Q1 Q2 ((lvT (Q3, Q4, Q5, Q6) p v (j + 1)).1) ((lvT (Q3, Q4, Q5, Q6) p v (j + 1)).2.1) ((lvT (Q3, Q4, Q5, Q6) p v (j + 1)).2.2.1) ((lvT (Q3, Q4, Q5, Q6) p v (j + 1)).2.2.2) nm) (by first | (rw [lvT, lvS, if_pos (by first | assumption | exact Decidable.not_not.mp (by assumption)), if_pos (by first | assumption | exact Decidable.not_not.mp (by assumption))]; done) | (rw [lvT, lvS, if_pos (by first | assumption | exact Decidable.not_not.mp (by assumption)), if_neg (by assumption)]; done) | (rw [lvT, lvS, if_neg (by assumption)]; done)) rfl ?_
        refine V_sub (lc2 := [(0, .ref (ad 0)), (1, .int (p)), (2, .int (v)), (3, .int (dy)), (4, .int (lvE (Q3, Q4, Q5, Q6) p v dy (j + 1))), (5, .int (nI (j + 1)))]) ⟨rfl, rfl, rfl, rfl, lc_e (by first | rfl | exact nI_1 _ | (simp only [lvE]; first | (rw [if_pos (by first | assumption | exact Decidable.not_not.mp (by assumption))]; done) | (rw [if_neg (by assumption)]; done))), lc_e (by first | rfl | exact nI_1 _ | (simp only [lvE]; first | (rw [if_pos (by first | assumption | exact Decidable.not_not.mp (by assumption))]; done) | (rw [if_neg (by assumption)]; done))), trivial⟩ ?_
        exact ih (j + 1) (by omega) (by omega)
      · refine V_iload (pc := 32) o dX5_loseVersion_32 rfl ?_
        refine V_aload_n (pc := 34) o dX5_loseVersion_34 rfl ?_
        refine V_iload (pc := 35) o dX5_loseVersion_35 rfl ?_
        refine V_iload_n (pc := 37) o dX5_loseVersion_37 rfl ?_
        refine V_rVi (pc := 38) o (cX5_approvalsOf_met _ _ _ cI ht ad Q0 Q1 Q2 ((lvT (Q3, Q4, Q5, Q6) p v j).1) ((lvT (Q3, Q4, Q5, Q6) p v j).2.1) ((lvT (Q3, Q4, Q5, Q6) p v j).2.2.1) ((lvT (Q3, Q4, Q5, Q6) p v j).2.2.2) nm (nI j) dy) 0 15 gX5_loseVersion_X5_approvalsOf rfl hdX5_approvalsOf (by decide) rfl rfl rfl (Nat.le_of_ble_eq_true rfl) dX5_loseVersion_38 rfl ?_
        refine V_iadd (pc := 41) o dX5_loseVersion_41 ?_
        refine V_istore (pc := 42) o dX5_loseVersion_42 (by rw [hn]; decide) ?_
        refine V_aload_n (pc := 44) o dX5_loseVersion_44 rfl ?_
        refine V_iload (pc := 45) o dX5_loseVersion_45 rfl ?_
        refine V_wVv (pc := 47) o (cX5_endApprovals_met _ _ _ cI ht ad Q0 Q1 Q2 ((lvT (Q3, Q4, Q5, Q6) p v j).1) ((lvT (Q3, Q4, Q5, Q6) p v j).2.1) ((lvT (Q3, Q4, Q5, Q6) p v j).2.2.1) ((lvT (Q3, Q4, Q5, Q6) p v j).2.2.2) nm (nI j)) 0 15 (wReqs cI ad Q0 Q1 Q2 ((lvT (Q3, Q4, Q5, Q6) p v j).1) ((lvT (Q3, Q4, Q5, Q6) p v j).2.1) ((lvT (Q3, Q4, Q5, Q6) p v j).2.2.1) (erN ((lvT (Q3, Q4, Q5, Q6) p v j).2.2.2) (nI j) 8) nm) gX5_loseVersion_X5_endApprovals rfl hdX5_endApprovals (by decide) rfl rfl rfl (Nat.le_of_ble_eq_true rfl) dX5_loseVersion_47 rfl rfl ?_
        refine V_aload_n (pc := 50) o dX5_loseVersion_50 rfl ?_
        refine V_get (pc := 51) o 0 3 hiX5_loseVersion_X5 rfl rfl (by decide) lkX5_loseVersion_26 rfl rfl dX5_loseVersion_51 ?_
        refine V_iload (pc := 54) o dX5_loseVersion_54 rfl ?_
        refine V_rVi (pc := 56) o (cX6_at_met _ _ _ cI ht _ _ 30 ((lvT (Q3, Q4, Q5, Q6) p v j).1) (by decide) _) 7 2 gX5_loseVersion_X6_at rfl hdX6_at (by decide) rfl rfl rfl (Nat.le_of_ble_eq_true rfl) dX5_loseVersion_56 rfl ?_
        refine V_iconst (pc := 59) o 1 dX5_loseVersion_59 (by decide) ?_
        refine V_icmp_ne (pc := 60) o 69 dX5_loseVersion_60 (by decide) (fun c60 => ?_) (fun c60 => ?_)
        · refine V_iinc (pc := 69) o 1 dX5_loseVersion_69 (by rw [hn]; decide) rfl (by decide) ?_
          refine V_goto (pc := 72) o 6 dX5_loseVersion_72 (by decide) ?_
          refine V_eq (ws2 := wReqs cI ad Q0 Q1 Q2 ((lvT (Q3, Q4, Q5, Q6) p v (j + 1)).1) ((lvT (Q3, Q4, Q5, Q6) p v (j + 1)).2.1) ((lvT (Q3, Q4, Q5, Q6) p v (j + 1)).2.2.1) ((lvT (Q3, Q4, Q5, Q6) p v (j + 1)).2.2.2) nm) (by first | (rw [lvT, lvS, if_pos (by first | assumption | exact Decidable.not_not.mp (by assumption)), if_pos (by first | assumption | exact Decidable.not_not.mp (by assumption))]; done) | (rw [lvT, lvS, if_pos (by first | assumption | exact Decidable.not_not.mp (by assumption)), if_neg (by assumption)]; done) | (rw [lvT, lvS, if_neg (by assumption)]; done)) rfl ?_
          refine V_sub (lc2 := [(0, .ref (ad 0)), (1, .int (p)), (2, .int (v)), (3, .int (dy)), (4, .int (lvE (Q3, Q4, Q5, Q6) p v dy (j + 1))), (5, .int (nI (j + 1)))]) ⟨rfl, rfl, rfl, rfl, lc_e (by first | rfl | exact nI_1 _ | (simp only [lvE]; first | (rw [if_pos (by first | assumption | exact Decidable.not_not.mp (by assumption))]; done) | (rw [if_neg (by assumption)]; done))), lc_e (by first | rfl | exact nI_1 _ | (simp only [lvE]; first | (rw [if_pos (by first | assumption | exact Decidable.not_not.mp (by assumption))]; done) | (rw [if_neg (by assumption)]; done))), trivial⟩ ?_
          exact ih (j + 1) (by omega) (by omega)
        · refine V_aload_n (pc := 63) o dX5_loseVersion_63 rfl ?_
          refine V_iload (pc := 64) o dX5_loseVersion_64 rfl ?_
          refine V_wVv (pc := 66) o (cX5_reopen_met _ _ _ cI ht ad Q0 Q1 Q2 ((lvT (Q3, Q4, Q5, Q6) p v j).1) ((lvT (Q3, Q4, Q5, Q6) p v j).2.1) ((lvT (Q3, Q4, Q5, Q6) p v j).2.2.1) (erN ((lvT (Q3, Q4, Q5, Q6) p v j).2.2.2) (nI j) 8) nm (nI j)) 0 15 (wReqs cI ad Q0 Q1 Q2 (rup 30 ((lvT (Q3, Q4, Q5, Q6) p v j).1) (nI j) 0) (rup 30 ((lvT (Q3, Q4, Q5, Q6) p v j).2.1) (nI j) 0) (rup 30 ((lvT (Q3, Q4, Q5, Q6) p v j).2.2.1) (nI j) 0) (erN ((lvT (Q3, Q4, Q5, Q6) p v j).2.2.2) (nI j) 8) nm) gX5_loseVersion_X5_reopen rfl hdX5_reopen (by decide) rfl rfl rfl (Nat.le_of_ble_eq_true rfl) dX5_loseVersion_66 rfl rfl ?_
          refine V_iinc (pc := 69) o 1 dX5_loseVersion_69 (by rw [hn]; decide) rfl (by decide) ?_
          refine V_goto (pc := 72) o 6 dX5_loseVersion_72 (by decide) ?_
          refine V_eq (ws2 := wReqs cI ad Q0 Q1 Q2 ((lvT (Q3, Q4, Q5, Q6) p v (j + 1)).1) ((lvT (Q3, Q4, Q5, Q6) p v (j + 1)).2.1) ((lvT (Q3, Q4, Q5, Q6) p v (j + 1)).2.2.1) ((lvT (Q3, Q4, Q5, Q6) p v (j + 1)).2.2.2) nm) (by first | (rw [lvT, lvS, if_pos (by first | assumption | exact Decidable.not_not.mp (by assumption)), if_pos (by first | assumption | exact Decidable.not_not.mp (by assumption))]; done) | (rw [lvT, lvS, if_pos (by first | assumption | exact Decidable.not_not.mp (by assumption)), if_neg (by assumption)]; done) | (rw [lvT, lvS, if_neg (by assumption)]; done)) rfl ?_
          refine V_sub (lc2 := [(0, .ref (ad 0)), (1, .int (p)), (2, .int (v)), (3, .int (dy)), (4, .int (lvE (Q3, Q4, Q5, Q6) p v dy (j + 1))), (5, .int (nI (j + 1)))]) ⟨rfl, rfl, rfl, rfl, lc_e (by first | rfl | exact nI_1 _ | (simp only [lvE]; first | (rw [if_pos (by first | assumption | exact Decidable.not_not.mp (by assumption))]; done) | (rw [if_neg (by assumption)]; done))), lc_e (by first | rfl | exact nI_1 _ | (simp only [lvE]; first | (rw [if_pos (by first | assumption | exact Decidable.not_not.mp (by assumption))]; done) | (rw [if_neg (by assumption)]; done))), trivial⟩ ?_
          exact ih (j + 1) (by omega) (by omega)
theorem hdX5_loseVersion : yX5_loseVersion.cls = RX5 ∧ yX5_loseVersion.cls ≠ "java/lang/invoke/MethodHandle" ∧ yX5_loseVersion.cls ≠ "java/lang/invoke/VarHandle" ∧ (parseMethodDescriptor yX5_loseVersion.desc).map (fun d => d.parameters.length) = some 3 := by decide +kernel
set_option maxHeartbeats 4000000 in
set_option maxRecDepth 100000 in
/-- X5.loseVersion -/
theorem cX5_loseVersion_met (l : Launch) (D : va_G) (tys : List (ClassId × FieldType)) (cI : ClassId) (ht : tys[0]? = some (cI, .int)) (ad : Nat → Nat) (Q0 Q1 Q2 Q3 Q4 Q5 Q6 : Nat → Int32) (nm : Int32) (p v dy : Int32) : CId l yX5_loseVersion wsX5_loseVersion 3 D tys [.ref (ad 0), .int p, .int v, .int dy] (wReqs cI ad Q0 Q1 Q2 Q3 Q4 Q5 Q6 nm) (lvE (Q3, Q4, Q5, Q6) p v dy nm.toNatClampNeg) (wReqs cI ad Q0 Q1 Q2 ((lvT (Q3, Q4, Q5, Q6) p v nm.toNatClampNeg).1) ((lvT (Q3, Q4, Q5, Q6) p v nm.toNatClampNeg).2.1) ((lvT (Q3, Q4, Q5, Q6) p v nm.toNatClampNeg).2.2.1) ((lvT (Q3, Q4, Q5, Q6) p v nm.toNatClampNeg).2.2.2) nm) := by
  refine CI_of (maxL := 6) (cc := cX5_loseVersion) (y := yX5_loseVersion) rfl rfl (Nat.le_of_ble_eq_true rfl) (fun X hl hD hk hn hcz hsz o fin => ?_)
  subst hl; subst hD; subst hk
  refine V_iconst (pc := 0) o 0 dX5_loseVersion_0 (by decide) ?_
  refine V_istore (pc := 1) o dX5_loseVersion_1 (by rw [hn]; decide) ?_
  refine V_iconst (pc := 3) o 0 dX5_loseVersion_3 (by decide) ?_
  refine V_istore (pc := 4) o dX5_loseVersion_4 (by rw [hn]; decide) ?_
  exact V_sub (lc2 := [(0, .ref (ad 0)), (1, .int p), (2, .int v), (3, .int dy), (4, .int (lvE (Q3, Q4, Q5, Q6) p v dy 0)), (5, .int (nI 0))]) ⟨rfl, rfl, rfl, rfl, rfl, rfl, trivial⟩ (lpX5_loseVersion o hn cI ht ad Q0 Q1 Q2 Q3 Q4 Q5 Q6 nm p v dy (V_iload (pc := 75) o dX5_loseVersion_75 rfl (fin 77 _ _ () dX5_loseVersion_77 rfl rfl)) (nm.toNatClampNeg + 1) 0 (by omega) (by omega))
def pcN (P0 P2 : Nat → Int32) (p : Int32) : Nat → Int32 → Int32
  | 0, s => s
  | n + 1, s => if rat 8 P0 p < nI (4 - (n + 1)) then s else if rat 24 P2 (plc p (nI (4 - (n + 1)))) = 0 then pcN P0 P2 p n (s ||| vset (nI (4 - (n + 1))) (nI (4 - (n + 1)))) else pcN P0 P2 p n s
def pcur (P0 P2 : Nat → Int32) (p : Int32) : Int32 := pcN P0 P2 p 3 0
theorem hiX3_current_X3 : ∀ w ∈ wsX30, w ∈ wsX3_current := by decide +kernel
theorem lkX3_current_14 : Cond.fieldLink RX3 14 RX3 "counts" "LApprovalyard$Row;" ∈ wsX3_current := by decide +kernel
set_option maxHeartbeats 4000000 in
set_option maxRecDepth 100000 in
theorem lpX3_current {X : XT} (o : OkX X cX3_current RX3 wsX3_current 2) (hn : XN X = 4) (cI : ClassId) (ht : (XK X)[0]? = some (cI, .int)) (ad : Nat → Nat) (P0 P1 P2 P3 P4 P5 : Nat → Int32) (p : Int32) : ∀ (n : Nat) (s : Int32), n ≤ 3 → (∀ pc lc v, decode cX3_current pc = .ok (.ireturn, 1) → v = pcN P0 P2 p n s → V X 0 0 (wParts cI ad P0 P1 P2 P3 P4 P5) pc lc [.int v]) → V X 0 0 (wParts cI ad P0 P1 P2 P3 P4 P5) 4 [(0, .ref (ad 0)), (1, .int p), (2, .int s), (3, .int (nI (4 - n)))] [] := by
  intro n
  induction n with
  | zero =>
    intro s h1 fin
    refine V_iload_n (pc := 4) o dX3_current_4 rfl ?_
    refine V_aload_n (pc := 5) o dX3_current_5 rfl ?_
    refine V_get (pc := 6) o 0 0 hiX3_current_X3 rfl rfl (by decide) lkX3_current_14 rfl rfl dX3_current_6 ?_
    refine V_iload_n (pc := 9) o dX3_current_9 rfl ?_
    refine V_rVi (pc := 10) o (cX6_at_met _ _ _ cI ht _ _ 8 P0 (by decide) _) 1 2 gX3_current_X6_at rfl hdX6_at (by decide) rfl rfl rfl (Nat.le_of_ble_eq_true rfl) dX3_current_10 rfl ?_
    refine V_icmp_gt (pc := 13) o 44 dX3_current_13 (by decide) (fun c13 => ?_) (fun c13 => ?_)
    · refine V_iload_n (pc := 44) o dX3_current_44 rfl ?_
      exact fin 45 _ _ dX3_current_45 (by first | exact absurd (by assumption) h9 | rfl | (rw [pcN, if_pos (by assumption)]))
    · refine V_iload_n (pc := 16) o dX3_current_16 rfl ?_
      refine V_iconst (pc := 17) o 3 dX3_current_17 (by decide) ?_
      refine V_icmp_gt (pc := 18) o 44 dX3_current_18 (by decide) (fun c18 => ?_) (fun c18 => ?_)
      · refine V_iload_n (pc := 44) o dX3_current_44 rfl ?_
        exact fin 45 _ _ dX3_current_45 (by first | exact absurd (by assumption) h9 | rfl | (rw [pcN, if_pos (by assumption)]))
      · exact absurd (show (3 : Int32) < nI (4 - 0) by decide) c18
  | succ n ih =>
    intro s h1 fin
    have h9 : ¬ (3 : Int32) < nI (4 - (n + 1)) := Int32.not_lt.mpr (nI_le (b := 3) (by omega) (by decide))
    refine V_iload_n (pc := 4) o dX3_current_4 rfl ?_
    refine V_aload_n (pc := 5) o dX3_current_5 rfl ?_
    refine V_get (pc := 6) o 0 0 hiX3_current_X3 rfl rfl (by decide) lkX3_current_14 rfl rfl dX3_current_6 ?_
    refine V_iload_n (pc := 9) o dX3_current_9 rfl ?_
    refine V_rVi (pc := 10) o (cX6_at_met _ _ _ cI ht _ _ 8 P0 (by decide) _) 1 2 gX3_current_X6_at rfl hdX6_at (by decide) rfl rfl rfl (Nat.le_of_ble_eq_true rfl) dX3_current_10 rfl ?_
    refine V_icmp_gt (pc := 13) o 44 dX3_current_13 (by decide) (fun c13 => ?_) (fun c13 => ?_)
    · refine V_iload_n (pc := 44) o dX3_current_44 rfl ?_
      exact fin 45 _ _ dX3_current_45 (by first | exact absurd (by assumption) h9 | rfl | (rw [pcN, if_pos (by assumption)]))
    · refine V_iload_n (pc := 16) o dX3_current_16 rfl ?_
      refine V_iconst (pc := 17) o 3 dX3_current_17 (by decide) ?_
      refine V_icmp_gt (pc := 18) o 44 dX3_current_18 (by decide) (fun c18 => ?_) (fun c18 => ?_)
      · refine V_iload_n (pc := 44) o dX3_current_44 rfl ?_
        exact fin 45 _ _ dX3_current_45 (by first | exact absurd (by assumption) h9 | rfl | (rw [pcN, if_pos (by assumption)]))
      · refine V_aload_n (pc := 21) o dX3_current_21 rfl ?_
        refine V_iload_n (pc := 22) o dX3_current_22 rfl ?_
        refine V_iload_n (pc := 23) o dX3_current_23 rfl ?_
        refine V_rVi (pc := 24) o (cX3_isReplaced_met _ _ _ cI ht ad P0 P1 P2 P3 P4 P5 p (nI (4 - (n + 1)))) 0 13 gX3_current_X3_isReplaced rfl hdX3_isReplaced (by decide) rfl rfl rfl (Nat.le_of_ble_eq_true rfl) dX3_current_24 rfl ?_
        refine V_ite (fun b24 => ?_) (fun b24 => ?_)
        · refine V_if_ne (pc := 27) o 38 dX3_current_27 (by decide) (fun _ => ?_) (fun c27 => absurd c27 (by decide))
          refine V_iinc (pc := 38) o 1 dX3_current_38 (by rw [hn]; decide) rfl (by decide) ?_
          refine V_goto (pc := 41) o 4 dX3_current_41 (by decide) ?_
          refine V_sub (lc2 := [(0, .ref (ad 0)), (1, .int p), (2, .int (s)), (3, .int (nI (4 - n)))]) ⟨rfl, rfl, rfl, lc_e (by rw [nI_1]; congr 1; omega), trivial⟩ ?_
          refine ih _ (by omega) (fun pc lc v dg e => fin pc lc v dg (by rw [e, pcN, if_neg (by assumption)]; first | (rw [if_pos (by first | assumption | exact Decidable.not_not.mp (by assumption))]; done) | (rw [if_neg (by assumption)]; done)))
        · refine V_if_ne (pc := 27) o 38 dX3_current_27 (by decide) (fun c27 => absurd c27 (by decide)) (fun _ => ?_)
          refine V_iload_n (pc := 30) o dX3_current_30 rfl ?_
          refine V_iload_n (pc := 31) o dX3_current_31 rfl ?_
          refine V_iload_n (pc := 32) o dX3_current_32 rfl ?_
          refine V_rSi (pc := 33) o (cX3_versionSet_met _ _ _ (nI (4 - (n + 1))) (nI (4 - (n + 1)))) 0 0 gX3_current_X3_versionSet rfl hdX3_versionSet (by decide) rfl (Nat.le_of_ble_eq_true rfl) dX3_current_33 rfl ?_
          refine V_ior (pc := 36) o dX3_current_36 ?_
          refine V_istore_n (pc := 37) o dX3_current_37 (by rw [hn]; decide) ?_
          refine V_iinc (pc := 38) o 1 dX3_current_38 (by rw [hn]; decide) rfl (by decide) ?_
          refine V_goto (pc := 41) o 4 dX3_current_41 (by decide) ?_
          refine V_sub (lc2 := [(0, .ref (ad 0)), (1, .int p), (2, .int (s ||| (vset (nI (4 - (n + 1))) (nI (4 - (n + 1)))))), (3, .int (nI (4 - n)))]) ⟨rfl, rfl, rfl, lc_e (by rw [nI_1]; congr 1; omega), trivial⟩ ?_
          refine ih _ (by omega) (fun pc lc v dg e => fin pc lc v dg (by rw [e, pcN, if_neg (by assumption)]; first | (rw [if_pos (by first | assumption | exact Decidable.not_not.mp (by assumption))]; done) | (rw [if_neg (by assumption)]; done)))
theorem hdX3_current : yX3_current.cls = RX3 ∧ yX3_current.cls ≠ "java/lang/invoke/MethodHandle" ∧ yX3_current.cls ≠ "java/lang/invoke/VarHandle" ∧ (parseMethodDescriptor yX3_current.desc).map (fun d => d.parameters.length) = some 1 := by decide +kernel
set_option maxHeartbeats 4000000 in
set_option maxRecDepth 100000 in
/-- X3.current -/
theorem cX3_current_met (l : Launch) (D : va_G) (tys : List (ClassId × FieldType)) (cI : ClassId) (ht : tys[0]? = some (cI, .int)) (ad : Nat → Nat) (P0 P1 P2 P3 P4 P5 : Nat → Int32) (p : Int32) : CId l yX3_current wsX3_current 2 D tys [.ref (ad 0), .int p] (wParts cI ad P0 P1 P2 P3 P4 P5) (pcur P0 P2 p) (wParts cI ad P0 P1 P2 P3 P4 P5) := by
  refine CI_of (maxL := 4) (cc := cX3_current) (y := yX3_current) rfl rfl (Nat.le_of_ble_eq_true rfl) (fun X hl hD hk hn hcz hsz o fin => ?_)
  subst hl; subst hD; subst hk
  refine V_iconst (pc := 0) o 0 dX3_current_0 (by decide) ?_
  refine V_istore_n (pc := 1) o dX3_current_1 (by rw [hn]; decide) ?_
  refine V_iconst (pc := 2) o 1 dX3_current_2 (by decide) ?_
  refine V_istore_n (pc := 3) o dX3_current_3 (by rw [hn]; decide) ?_
  refine V_sub (lc2 := [(0, .ref (ad 0)), (1, .int p), (2, .int 0), (3, .int (nI (4 - 3)))]) ⟨rfl, rfl, rfl, rfl, trivial⟩ ?_
  exact lpX3_current o hn cI ht ad P0 P1 P2 P3 P4 P5 p 3 0 (by omega) (fun pc lc v dg e => fin pc lc v () dg rfl e)
theorem hdX5_add : yX5_add.cls = RX5 ∧ yX5_add.cls ≠ "java/lang/invoke/MethodHandle" ∧ yX5_add.cls ≠ "java/lang/invoke/VarHandle" ∧ (parseMethodDescriptor yX5_add.desc).map (fun d => d.parameters.length) = some 3 := by decide +kernel
theorem hiX5_add_X5 : ∀ w ∈ wsX50, w ∈ wsX5_add := by decide +kernel
theorem lkX5_add_38 : Cond.fieldLink RX5 38 RX5 "number" "I" ∈ wsX5_add := by decide +kernel
theorem lkX5_add_14 : Cond.fieldLink RX5 14 RX5 "people" "LApprovalyard$Row;" ∈ wsX5_add := by decide +kernel
theorem lkX5_add_20 : Cond.fieldLink RX5 20 RX5 "parts" "LApprovalyard$Row;" ∈ wsX5_add := by decide +kernel
theorem lkX5_add_23 : Cond.fieldLink RX5 23 RX5 "leasts" "LApprovalyard$Row;" ∈ wsX5_add := by decide +kernel
set_option maxHeartbeats 4000000 in
set_option maxRecDepth 100000 in
/-- X5.add -/
theorem cX5_add_met (l : Launch) (D : va_G) (tys : List (ClassId × FieldType)) (cI : ClassId) (ht : tys[0]? = some (cI, .int)) (ad : Nat → Nat) (Q0 Q1 Q2 Q3 Q4 Q5 Q6 : Nat → Int32) (nm : Int32) (p t e : Int32) : CId l yX5_add wsX5_add 2 D tys [.ref (ad 0), .int p, .int t, .int e] (wReqs cI ad Q0 Q1 Q2 Q3 Q4 Q5 Q6 nm) nm (wReqs cI ad (rup 30 Q0 nm p) (rup 30 Q1 nm t) (rup 30 Q2 nm e) (rup 30 Q3 nm 0) (rup 30 Q4 nm 0) (rup 30 Q5 nm 0) (erN Q6 nm 8) (nm + 1)) := by
  refine CI_of (maxL := 5) (cc := cX5_add) (y := yX5_add) rfl rfl (Nat.le_of_ble_eq_true rfl) (fun X hl hD hk hn hcz hsz o fin => ?_)
  subst hl; subst hD; subst hk
  refine V_aload_n (pc := 0) o dX5_add_0 rfl ?_
  refine V_get (pc := 1) o 0 7 hiX5_add_X5 rfl rfl (by decide) lkX5_add_38 rfl rfl dX5_add_1 ?_
  refine V_istore (pc := 4) o dX5_add_4 (by rw [hn]; decide) ?_
  refine V_aload_n (pc := 6) o dX5_add_6 rfl ?_
  refine V_dup (pc := 7) o rfl dX5_add_7 ?_
  refine V_get (pc := 8) o 0 7 hiX5_add_X5 rfl rfl (by decide) lkX5_add_38 rfl rfl dX5_add_8 ?_
  refine V_iconst (pc := 11) o 1 dX5_add_11 (by decide) ?_
  refine V_iadd (pc := 12) o dX5_add_12 ?_
  refine V_put (pc := 13) o 0 7 hiX5_add_X5 tyX5 tyX5_ok nmX5 rfl rfl (by decide) lkX5_add_38 rfl rfl rfl rfl rfl (Nat.le_of_ble_eq_true rfl) dX5_add_13 ?_
  refine V_eq (ws2 := wReqs cI ad Q0 Q1 Q2 Q3 Q4 Q5 Q6 (nm + 1)) rfl rfl ?_
  refine V_aload_n (pc := 16) o dX5_add_16 rfl ?_
  refine V_get (pc := 17) o 0 0 hiX5_add_X5 rfl rfl (by decide) lkX5_add_14 rfl rfl dX5_add_17 ?_
  refine V_iload (pc := 20) o dX5_add_20 rfl ?_
  refine V_iload_n (pc := 22) o dX5_add_22 rfl ?_
  refine V_wVv (pc := 23) o (cX6_put_met _ _ _ cI ht _ _ 30 Q0 (by decide) _ _) 1 2 (wReqs cI ad (rup 30 Q0 nm p) Q1 Q2 Q3 Q4 Q5 Q6 (nm + 1)) gX5_add_X6_put rfl hdX6_put (by decide) rfl rfl rfl (Nat.le_of_ble_eq_true rfl) dX5_add_23 rfl rfl ?_
  refine V_aload_n (pc := 26) o dX5_add_26 rfl ?_
  refine V_get (pc := 27) o 0 1 hiX5_add_X5 rfl rfl (by decide) lkX5_add_20 rfl rfl dX5_add_27 ?_
  refine V_iload (pc := 30) o dX5_add_30 rfl ?_
  refine V_iload_n (pc := 32) o dX5_add_32 rfl ?_
  refine V_wVv (pc := 33) o (cX6_put_met _ _ _ cI ht _ _ 30 Q1 (by decide) _ _) 3 2 (wReqs cI ad (rup 30 Q0 nm p) (rup 30 Q1 nm t) Q2 Q3 Q4 Q5 Q6 (nm + 1)) gX5_add_X6_put rfl hdX6_put (by decide) rfl rfl rfl (Nat.le_of_ble_eq_true rfl) dX5_add_33 rfl rfl ?_
  refine V_aload_n (pc := 36) o dX5_add_36 rfl ?_
  refine V_get (pc := 37) o 0 2 hiX5_add_X5 rfl rfl (by decide) lkX5_add_23 rfl rfl dX5_add_37 ?_
  refine V_iload (pc := 40) o dX5_add_40 rfl ?_
  refine V_iload_n (pc := 42) o dX5_add_42 rfl ?_
  refine V_wVv (pc := 43) o (cX6_put_met _ _ _ cI ht _ _ 30 Q2 (by decide) _ _) 5 2 (wReqs cI ad (rup 30 Q0 nm p) (rup 30 Q1 nm t) (rup 30 Q2 nm e) Q3 Q4 Q5 Q6 (nm + 1)) gX5_add_X6_put rfl hdX6_put (by decide) rfl rfl rfl (Nat.le_of_ble_eq_true rfl) dX5_add_43 rfl rfl ?_
  refine V_aload_n (pc := 46) o dX5_add_46 rfl ?_
  refine V_iload (pc := 47) o dX5_add_47 rfl ?_
  refine V_wVv (pc := 49) o (cX5_reopen_met _ _ _ cI ht ad (rup 30 Q0 nm p) (rup 30 Q1 nm t) (rup 30 Q2 nm e) Q3 Q4 Q5 Q6 (nm + 1) nm) 0 15 (wReqs cI ad (rup 30 Q0 nm p) (rup 30 Q1 nm t) (rup 30 Q2 nm e) (rup 30 Q3 nm 0) (rup 30 Q4 nm 0) (rup 30 Q5 nm 0) Q6 (nm + 1)) gX5_add_X5_reopen rfl hdX5_reopen (by decide) rfl rfl rfl (Nat.le_of_ble_eq_true rfl) dX5_add_49 rfl rfl ?_
  refine V_aload_n (pc := 52) o dX5_add_52 rfl ?_
  refine V_iload (pc := 53) o dX5_add_53 rfl ?_
  refine V_wVv (pc := 55) o (cX5_endApprovals_met _ _ _ cI ht ad (rup 30 Q0 nm p) (rup 30 Q1 nm t) (rup 30 Q2 nm e) (rup 30 Q3 nm 0) (rup 30 Q4 nm 0) (rup 30 Q5 nm 0) Q6 (nm + 1) nm) 0 15 (wReqs cI ad (rup 30 Q0 nm p) (rup 30 Q1 nm t) (rup 30 Q2 nm e) (rup 30 Q3 nm 0) (rup 30 Q4 nm 0) (rup 30 Q5 nm 0) (erN Q6 nm 8) (nm + 1)) gX5_add_X5_endApprovals rfl hdX5_endApprovals (by decide) rfl rfl rfl (Nat.le_of_ble_eq_true rfl) dX5_add_55 rfl rfl ?_
  refine V_iload (pc := 58) o dX5_add_58 rfl ?_
  exact fin 60 _ _ () dX5_add_60 rfl rfl
theorem hdX5_settle : yX5_settle.cls = RX5 ∧ yX5_settle.cls ≠ "java/lang/invoke/MethodHandle" ∧ yX5_settle.cls ≠ "java/lang/invoke/VarHandle" ∧ (parseMethodDescriptor yX5_settle.desc).map (fun d => d.parameters.length) = some 3 := by decide +kernel
theorem hiX5_settle_X5 : ∀ w ∈ wsX50, w ∈ wsX5_settle := by decide +kernel
theorem lkX5_settle_26 : Cond.fieldLink RX5 26 RX5 "states" "LApprovalyard$Row;" ∈ wsX5_settle := by decide +kernel
theorem lkX5_settle_29 : Cond.fieldLink RX5 29 RX5 "choices" "LApprovalyard$Row;" ∈ wsX5_settle := by decide +kernel
theorem lkX5_settle_32 : Cond.fieldLink RX5 32 RX5 "costs" "LApprovalyard$Row;" ∈ wsX5_settle := by decide +kernel
set_option maxHeartbeats 4000000 in
set_option maxRecDepth 100000 in
/-- X5.settle -/
theorem cX5_settle_met (l : Launch) (D : va_G) (tys : List (ClassId × FieldType)) (cI : ClassId) (ht : tys[0]? = some (cI, .int)) (ad : Nat → Nat) (Q0 Q1 Q2 Q3 Q4 Q5 Q6 : Nat → Int32) (nm : Int32) (q c n : Int32) : CId l yX5_settle wsX5_settle 2 D tys [.ref (ad 0), .int q, .int c, .int n] (wReqs cI ad Q0 Q1 Q2 Q3 Q4 Q5 Q6 nm) n (wReqs cI ad Q0 Q1 Q2 (rup 30 Q3 q 1) (rup 30 Q4 q c) (rup 30 Q5 q n) (erN Q6 q 8) nm) := by
  refine CI_of (maxL := 4) (cc := cX5_settle) (y := yX5_settle) rfl rfl (Nat.le_of_ble_eq_true rfl) (fun X hl hD hk hn hcz hsz o fin => ?_)
  subst hl; subst hD; subst hk
  refine V_aload_n (pc := 0) o dX5_settle_0 rfl ?_
  refine V_get (pc := 1) o 0 3 hiX5_settle_X5 rfl rfl (by decide) lkX5_settle_26 rfl rfl dX5_settle_1 ?_
  refine V_iload_n (pc := 4) o dX5_settle_4 rfl ?_
  refine V_iconst (pc := 5) o 1 dX5_settle_5 (by decide) ?_
  refine V_wVv (pc := 6) o (cX6_put_met _ _ _ cI ht _ _ 30 Q3 (by decide) _ _) 7 2 (wReqs cI ad Q0 Q1 Q2 (rup 30 Q3 q 1) Q4 Q5 Q6 nm) gX5_settle_X6_put rfl hdX6_put (by decide) rfl rfl rfl (Nat.le_of_ble_eq_true rfl) dX5_settle_6 rfl rfl ?_
  refine V_aload_n (pc := 9) o dX5_settle_9 rfl ?_
  refine V_get (pc := 10) o 0 4 hiX5_settle_X5 rfl rfl (by decide) lkX5_settle_29 rfl rfl dX5_settle_10 ?_
  refine V_iload_n (pc := 13) o dX5_settle_13 rfl ?_
  refine V_iload_n (pc := 14) o dX5_settle_14 rfl ?_
  refine V_wVv (pc := 15) o (cX6_put_met _ _ _ cI ht _ _ 30 Q4 (by decide) _ _) 9 2 (wReqs cI ad Q0 Q1 Q2 (rup 30 Q3 q 1) (rup 30 Q4 q c) Q5 Q6 nm) gX5_settle_X6_put rfl hdX6_put (by decide) rfl rfl rfl (Nat.le_of_ble_eq_true rfl) dX5_settle_15 rfl rfl ?_
  refine V_aload_n (pc := 18) o dX5_settle_18 rfl ?_
  refine V_get (pc := 19) o 0 5 hiX5_settle_X5 rfl rfl (by decide) lkX5_settle_32 rfl rfl dX5_settle_19 ?_
  refine V_iload_n (pc := 22) o dX5_settle_22 rfl ?_
  refine V_iload_n (pc := 23) o dX5_settle_23 rfl ?_
  refine V_wVv (pc := 24) o (cX6_put_met _ _ _ cI ht _ _ 30 Q5 (by decide) _ _) 11 2 (wReqs cI ad Q0 Q1 Q2 (rup 30 Q3 q 1) (rup 30 Q4 q c) (rup 30 Q5 q n) Q6 nm) gX5_settle_X6_put rfl hdX6_put (by decide) rfl rfl rfl (Nat.le_of_ble_eq_true rfl) dX5_settle_24 rfl rfl ?_
  refine V_aload_n (pc := 27) o dX5_settle_27 rfl ?_
  refine V_iload_n (pc := 28) o dX5_settle_28 rfl ?_
  refine V_wVv (pc := 29) o (cX5_endApprovals_met _ _ _ cI ht ad Q0 Q1 Q2 (rup 30 Q3 q 1) (rup 30 Q4 q c) (rup 30 Q5 q n) Q6 nm q) 0 15 (wReqs cI ad Q0 Q1 Q2 (rup 30 Q3 q 1) (rup 30 Q4 q c) (rup 30 Q5 q n) (erN Q6 q 8) nm) gX5_settle_X5_endApprovals rfl hdX5_endApprovals (by decide) rfl rfl rfl (Nat.le_of_ble_eq_true rfl) dX5_settle_29 rfl rfl ?_
  refine V_iload_n (pc := 32) o dX5_settle_32 rfl ?_
  exact fin 33 _ _ () dX5_settle_33 rfl rfl
end
section
/-! Search: the search as functions of its rows. -/
def wSP (cI : ClassId) (ad ad2 : Nat → Nat) (O0 O1 : Nat → Int32) (on oc : Int32) (P0 P1 P2 P3 P4 P5 : Nat → Int32) : va_W := wSearch cI ad O0 O1 on oc ++ wParts cI ad2 P0 P1 P2 P3 P4 P5
def awH (O0 : Nat → Int32) (p : Int32) : Nat → Bool
  | 0 => false
  | n + 1 => awH O0 p n || decide (rat 8 O0 (nI n) = p)
theorem awH_at {O0 : Nat → Int32} {p : Int32} {j : Nat} (h : rat 8 O0 (nI j) = p) : ∀ n, j < n → awH O0 p n = true
  | n + 1, hj => by
    rcases Nat.lt_or_ge j n with q | q
    · simp [awH, awH_at h n q]
    · have : j = n := by omega
      subst this
      simp [awH, h]
def awO (O0 : Nat → Int32) (on p : Int32) : Nat → Int32 := if awH O0 p on.toNatClampNeg = true then O0 else rup 8 O0 on p
def awn (O0 : Nat → Int32) (on p : Int32) : Int32 := if awH O0 p on.toNatClampNeg = true then on else on + 1
theorem hiX7_await_X7 : ∀ w ∈ wsX70, w ∈ wsX7_await := by decide +kernel
theorem lkX7_await_40 : Cond.fieldLink RX7 40 RX7 "number" "I" ∈ wsX7_await := by decide +kernel
theorem lkX7_await_14 : Cond.fieldLink RX7 14 RX7 "order" "LApprovalyard$Row;" ∈ wsX7_await := by decide +kernel
set_option maxHeartbeats 4000000 in
set_option maxRecDepth 100000 in
theorem lpX7_await {X : XT} (o : OkX X cX7_await RX7 wsX7_await 1) (hn : XN X = 3) (cI : ClassId) (ht : (XK X)[0]? = some (cI, .int)) (ad : Nat → Nat) (O0 O1 : Nat → Int32) (on oc p : Int32) (fin : ∀ (pc : Nat) (lc : List (Nat × Value)) (u : Unit), decode cX7_await pc = .ok (.return_, 1) → True → V X 0 0 (wSearch cI ad (awO O0 on p) O1 (awn O0 on p) oc) pc lc []) : ∀ (m j : Nat), on.toNatClampNeg - j < m → j ≤ on.toNatClampNeg → awH O0 p j = false → V X 0 0 (wSearch cI ad O0 O1 on oc) 2 [(0, .ref (ad 0)), (1, .int p), (2, .int (nI j))] [] := by
  intro m
  induction m with
  | zero => intro j h1; exact absurd h1 (Nat.not_lt_zero _)
  | succ m ih =>
    intro j h1 h2 hf
    refine V_iload_n (pc := 2) o dX7_await_2 rfl ?_
    refine V_aload_n (pc := 3) o dX7_await_3 rfl ?_
    refine V_get (pc := 4) o 0 2 hiX7_await_X7 rfl rfl (by decide) lkX7_await_40 rfl rfl dX7_await_4 ?_
    refine V_icmp_ge (pc := 7) o 29 dX7_await_7 (by decide) (fun c7 => ?_) (fun c7 => ?_)
    · refine V_aload_n (pc := 29) o dX7_await_29 rfl ?_
      refine V_get (pc := 30) o 0 0 hiX7_await_X7 rfl rfl (by decide) lkX7_await_14 rfl rfl dX7_await_30 ?_
      refine V_aload_n (pc := 33) o dX7_await_33 rfl ?_
      refine V_get (pc := 34) o 0 2 hiX7_await_X7 rfl rfl (by decide) lkX7_await_40 rfl rfl dX7_await_34 ?_
      refine V_iload_n (pc := 37) o dX7_await_37 rfl ?_
      refine V_wVv (pc := 38) o (cX6_put_met _ _ _ cI ht _ _ 8 O0 (by decide) _ _) 1 2 (wSearch cI ad (rup 8 O0 on p) O1 on oc) gX7_await_X6_put rfl hdX6_put (by decide) rfl rfl rfl (Nat.le_of_ble_eq_true rfl) dX7_await_38 rfl rfl ?_
      refine V_aload_n (pc := 41) o dX7_await_41 rfl ?_
      refine V_dup (pc := 42) o rfl dX7_await_42 ?_
      refine V_get (pc := 43) o 0 2 hiX7_await_X7 rfl rfl (by decide) lkX7_await_40 rfl rfl dX7_await_43 ?_
      refine V_iconst (pc := 46) o 1 dX7_await_46 (by decide) ?_
      refine V_iadd (pc := 47) o dX7_await_47 ?_
      refine V_put (pc := 48) o 0 2 hiX7_await_X7 tyX7 tyX7_ok nmX7 rfl rfl (by decide) lkX7_await_40 rfl rfl rfl rfl rfl (Nat.le_of_ble_eq_true rfl) dX7_await_48 ?_
      refine V_eq (ws2 := wSearch cI ad (rup 8 O0 on p) O1 (on + 1) oc) rfl rfl ?_
      have e1 : j = on.toNatClampNeg := Nat.le_antisymm h2 (tcn_le c7 (Nat.lt_of_le_of_lt h2 (tcn_b on)))
      have q2 : ¬ awH O0 p on.toNatClampNeg = true := by rw [← e1, hf]; decide
      exact V_eq (by unfold awO awn; rw [if_neg q2, if_neg q2]) rfl (fin 51 _ () dX7_await_51 trivial)
    · have q1 : j < on.toNatClampNeg := tcn_lt c7 (Nat.lt_of_le_of_lt h2 (tcn_b on))
      refine V_aload_n (pc := 10) o dX7_await_10 rfl ?_
      refine V_get (pc := 11) o 0 0 hiX7_await_X7 rfl rfl (by decide) lkX7_await_14 rfl rfl dX7_await_11 ?_
      refine V_iload_n (pc := 14) o dX7_await_14 rfl ?_
      refine V_rVi (pc := 15) o (cX6_at_met _ _ _ cI ht _ _ 8 O0 (by decide) _) 1 2 gX7_await_X6_at rfl hdX6_at (by decide) rfl rfl rfl (Nat.le_of_ble_eq_true rfl) dX7_await_15 rfl ?_
      refine V_iload_n (pc := 18) o dX7_await_18 rfl ?_
      refine V_icmp_ne (pc := 19) o 23 dX7_await_19 (by decide) (fun c19 => ?_) (fun c19 => ?_)
      · refine V_iinc (pc := 23) o 1 dX7_await_23 (by rw [hn]; decide) rfl (by decide) ?_
        refine V_goto (pc := 26) o 2 dX7_await_26 (by decide) ?_
        refine V_sub (lc2 := [(0, .ref (ad 0)), (1, .int p), (2, .int (nI (j + 1)))]) ⟨rfl, rfl, lc_e (nI_1 j), trivial⟩ ?_
        exact ih (j + 1) (by omega) q1 (by rw [awH, hf]; simpa using c19)
      · have q2 := awH_at c19 _ q1
        exact V_eq (by unfold awO awn; rw [if_pos q2, if_pos q2]) rfl (fin 22 _ () dX7_await_22 trivial)
theorem hdX7_await : yX7_await.cls = RX7 ∧ yX7_await.cls ≠ "java/lang/invoke/MethodHandle" ∧ yX7_await.cls ≠ "java/lang/invoke/VarHandle" ∧ (parseMethodDescriptor yX7_await.desc).map (fun d => d.parameters.length) = some 1 := by decide +kernel
set_option maxHeartbeats 4000000 in
set_option maxRecDepth 100000 in
/-- X7.await -/
theorem cX7_await_met (l : Launch) (D : va_G) (tys : List (ClassId × FieldType)) (cI : ClassId) (ht : tys[0]? = some (cI, .int)) (ad : Nat → Nat) (O0 O1 : Nat → Int32) (on : Int32) (oc : Int32) (p : Int32) : CVd l yX7_await wsX7_await 1 D tys [.ref (ad 0), .int p] (wSearch cI ad O0 O1 on oc) (wSearch cI ad (awO O0 on p) O1 (awn O0 on p) oc) := by
  refine CV_of (maxL := 3) (cc := cX7_await) (y := yX7_await) rfl rfl (Nat.le_of_ble_eq_true rfl) (fun X hl hD hk hn hcz hsz o fin => ?_)
  subst hl; subst hD; subst hk
  refine V_iconst (pc := 0) o 0 dX7_await_0 (by decide) ?_
  refine V_istore_n (pc := 1) o dX7_await_1 (by rw [hn]; decide) ?_
  exact V_sub (lc2 := [(0, .ref (ad 0)), (1, .int p), (2, .int (nI 0))]) ⟨rfl, rfl, rfl, trivial⟩ (lpX7_await o hn cI ht ad O0 O1 on oc p fin (on.toNatClampNeg + 1) 0 (by omega) (by omega) rfl)
def tkC (O1 : Nat → Int32) (d : Int32) : Nat → Nat → Int32
  | 0 => O1
  | n + 1 => rup 72 (tkC O1 d n) ((d + 1) * 8 + nI n) (rat 72 (tkC O1 d n) (d * 8 + nI n))
abbrev T3 : Type := (Nat → Int32) × (Nat → Int32) × Int32
def tkL (P4 P5 : Nat → Int32) (part v nx : Int32) (O1 : Nat → Int32) (i : Int32) : Int32 := rat 72 O1 (nx + rat 96 P4 (plc part v * 4 + i)) &&& rat 96 P5 (plc part v * 4 + i)
def tkS (P4 P5 : Nat → Int32) (part v nx : Int32) (T : T3) (i : Int32) : T3 := (awO T.1 T.2.2 (rat 96 P4 (plc part v * 4 + i)), rup 72 T.2.1 (nx + rat 96 P4 (plc part v * 4 + i)) (tkL P4 P5 part v nx T.2.1 i), awn T.1 T.2.2 (rat 96 P4 (plc part v * 4 + i)))
def tkR (P4 P5 : Nat → Int32) (part v nx : Int32) : Nat → Nat → T3 → Int32 × T3
  | 0, _, T => (1, T)
  | n + 1, j, T => if tkL P4 P5 part v nx T.2.1 (nI j) = 0 then (0, T) else tkR P4 P5 part v nx n (j + 1) (tkS P4 P5 part v nx T (nI j))
def tkF (P3 P4 P5 : Nat → Int32) (d v : Int32) (T : T3) : Int32 × T3 :=
  tkR P4 P5 (rat 8 T.1 d) v ((d + 1) * 8) (rat 24 P3 (plc (rat 8 T.1 d) v)).toNatClampNeg 0 (T.1, rup 72 (tkC T.2.1 d 8) ((d + 1) * 8 + rat 8 T.1 d) (vset v v), T.2.2)
theorem hiX7_take_X7 : ∀ w ∈ wsX70, w ∈ wsX7_take := by decide +kernel
theorem lkX7_take_20 : Cond.fieldLink RX7 20 RX7 "wanted" "LApprovalyard$Row;" ∈ wsX7_take := by decide +kernel
set_option maxHeartbeats 4000000 in
set_option maxRecDepth 100000 in
theorem lp1X7_take {X : XT} (o : OkX X cX7_take RX7 wsX7_take 3) (hn : XN X = 10) (cI : ClassId) (ht : (XK X)[0]? = some (cI, .int)) (ad ad2 : Nat → Nat) (P0 P1 P2 P3 P4 P5 : Nat → Int32) (O0 O1 : Nat → Int32) (on oc d v pa : Int32) (kk : V X 0 0 (wSP cI ad ad2 O0 (tkC O1 d 8) on oc P0 P1 P2 P3 P4 P5) 60 [(0, .ref (ad 0)), (1, .ref (ad2 0)), (2, .int d), (3, .int v), (4, .int pa), (5, .int ((d + 1) * 8)), (6, .int (nI 8))] []) : ∀ (m j : Nat), 8 - j < m → j ≤ 8 → V X 0 0 (wSP cI ad ad2 O0 (tkC O1 d j) on oc P0 P1 P2 P3 P4 P5) 21 [(0, .ref (ad 0)), (1, .ref (ad2 0)), (2, .int d), (3, .int v), (4, .int pa), (5, .int ((d + 1) * 8)), (6, .int (nI j))] [] := by
  intro m
  induction m with
  | zero => intro j h1; exact absurd h1 (Nat.not_lt_zero _)
  | succ m ih =>
    intro j h1 h2
    refine V_iload (pc := 21) o dX7_take_21 rfl ?_
    refine V_bipush (pc := 23) o 8 dX7_take_23 (by decide) ?_
    refine V_icmp_ge (pc := 25) o 60 dX7_take_25 (by decide) (fun c25 => ?_) (fun c25 => ?_)
    · have e1 : j = 8 := Nat.le_antisymm h2 (le_of_nI c25)
      rw [e1]
      exact kk
    · refine V_aload_n (pc := 28) o dX7_take_28 rfl ?_
      refine V_get (pc := 29) o 0 1 hiX7_take_X7 rfl rfl (by decide) lkX7_take_20 rfl rfl dX7_take_29 ?_
      refine V_iload (pc := 32) o dX7_take_32 rfl ?_
      refine V_iload (pc := 34) o dX7_take_34 rfl ?_
      refine V_iadd (pc := 36) o dX7_take_36 ?_
      refine V_aload_n (pc := 37) o dX7_take_37 rfl ?_
      refine V_get (pc := 38) o 0 1 hiX7_take_X7 rfl rfl (by decide) lkX7_take_20 rfl rfl dX7_take_38 ?_
      refine V_iload_n (pc := 41) o dX7_take_41 rfl ?_
      refine V_bipush (pc := 42) o 8 dX7_take_42 (by decide) ?_
      refine V_imul (pc := 44) o dX7_take_44 ?_
      refine V_iload (pc := 45) o dX7_take_45 rfl ?_
      refine V_iadd (pc := 47) o dX7_take_47 ?_
      refine V_rVi (pc := 48) o (cX6_at_met _ _ _ cI ht _ _ 72 (tkC O1 d j) (by decide) _) 3 2 gX7_take_X6_at rfl hdX6_at (by decide) rfl rfl rfl (Nat.le_of_ble_eq_true rfl) dX7_take_48 rfl ?_
      refine V_wVv (pc := 51) o (cX6_put_met _ _ _ cI ht _ _ 72 (tkC O1 d j) (by decide) _ _) 3 2 (wSP cI ad ad2 O0 (rup 72 (tkC O1 d j) (((d + 1) * 8) + (nI j)) (rat 72 (tkC O1 d j) ((d * 8) + (nI j)))) on oc P0 P1 P2 P3 P4 P5) gX7_take_X6_put rfl hdX6_put (by decide) rfl rfl rfl (Nat.le_of_ble_eq_true rfl) dX7_take_51 rfl rfl ?_
      refine V_iinc (pc := 54) o 1 dX7_take_54 (by rw [hn]; decide) rfl (by decide) ?_
      refine V_goto (pc := 57) o 21 dX7_take_57 (by decide) ?_
      have q1 : j < 8 := lt_of_nI (K := 8) c25
      refine V_eq (ws2 := wSP cI ad ad2 O0 (tkC O1 d (j + 1)) on oc P0 P1 P2 P3 P4 P5) rfl rfl ?_
      refine V_sub (lc2 := [(0, .ref (ad 0)), (1, .ref (ad2 0)), (2, .int d), (3, .int v), (4, .int pa), (5, .int ((d + 1) * 8)), (6, .int (nI (j + 1)))]) ⟨rfl, rfl, rfl, rfl, rfl, rfl, lc_e (nI_1 j), trivial⟩ ?_
      exact ih (j + 1) (by omega) (by omega)
set_option maxHeartbeats 4000000 in
set_option maxRecDepth 100000 in
theorem lp2X7_take {X : XT} (o : OkX X cX7_take RX7 wsX7_take 3) (hn : XN X = 10) (cI : ClassId) (ht : (XK X)[0]? = some (cI, .int)) (ad ad2 : Nat → Nat) (P0 P1 P2 P3 P4 P5 : Nat → Int32) (oc d v pa nx cn : Int32) : ∀ (n j : Nat) (T : T3), cn.toNatClampNeg = j + n → (∀ (pc : Nat) (lc : List (Nat × Value)) (x : Int32), decode cX7_take pc = .ok (.ireturn, 1) → narrow .boolean (.int x) = .int x → x = (tkR P4 P5 pa v nx n j T).1 → V X 0 0 (wSP cI ad ad2 (tkR P4 P5 pa v nx n j T).2.1 (tkR P4 P5 pa v nx n j T).2.2.1 (tkR P4 P5 pa v nx n j T).2.2.2 oc P0 P1 P2 P3 P4 P5) pc lc [.int x]) → V X 0 0 (wSP cI ad ad2 T.1 T.2.1 T.2.2 oc P0 P1 P2 P3 P4 P5) 89 [(0, .ref (ad 0)), (1, .ref (ad2 0)), (2, .int d), (3, .int v), (4, .int pa), (5, .int nx), (6, .int cn), (7, .int (nI j))] [] := by
  intro n
  induction n with
  | zero =>
    intro j T h1 fin
    refine V_iload (pc := 89) o dX7_take_89 rfl ?_
    refine V_iload (pc := 91) o dX7_take_91 rfl ?_
    refine V_icmp_ge (pc := 93) o 164 dX7_take_93 (by decide) (fun c93 => ?_) (fun c93 => ?_)
    · refine V_iconst (pc := 164) o 1 dX7_take_164 (by decide) ?_
      exact fin 165 _ _ dX7_take_165 rfl rfl
    · exact absurd (tcn_lt c93 (by have := tcn_b cn; omega)) (by omega)
  | succ n ih =>
    intro j T h1 fin
    refine V_iload (pc := 89) o dX7_take_89 rfl ?_
    refine V_iload (pc := 91) o dX7_take_91 rfl ?_
    refine V_icmp_ge (pc := 93) o 164 dX7_take_93 (by decide) (fun c93 => ?_) (fun c93 => ?_)
    · refine V_iconst (pc := 164) o 1 dX7_take_164 (by decide) ?_
      exact absurd (tcn_le c93 (by have := tcn_b cn; omega)) (by omega)
    · refine V_aload_n (pc := 96) o dX7_take_96 rfl ?_
      refine V_iload (pc := 97) o dX7_take_97 rfl ?_
      refine V_iload_n (pc := 99) o dX7_take_99 rfl ?_
      refine V_iload (pc := 100) o dX7_take_100 rfl ?_
      refine V_rVi (pc := 102) o (cX3_neededPart_met _ _ _ cI ht ad2 P0 P1 P2 P3 P4 P5 pa v (nI j)) 5 13 gX7_take_X3_neededPart rfl hdX3_neededPart (by decide) rfl rfl rfl (Nat.le_of_ble_eq_true rfl) dX7_take_102 rfl ?_
      refine V_istore (pc := 105) o dX7_take_105 (by rw [hn]; decide) ?_
      refine V_aload_n (pc := 107) o dX7_take_107 rfl ?_
      refine V_get (pc := 108) o 0 1 hiX7_take_X7 rfl rfl (by decide) lkX7_take_20 rfl rfl dX7_take_108 ?_
      refine V_iload (pc := 111) o dX7_take_111 rfl ?_
      refine V_iload (pc := 113) o dX7_take_113 rfl ?_
      refine V_iadd (pc := 115) o dX7_take_115 ?_
      refine V_rVi (pc := 116) o (cX6_at_met _ _ _ cI ht _ _ 72 T.2.1 (by decide) _) 3 2 gX7_take_X6_at rfl hdX6_at (by decide) rfl rfl rfl (Nat.le_of_ble_eq_true rfl) dX7_take_116 rfl ?_
      refine V_aload_n (pc := 119) o dX7_take_119 rfl ?_
      refine V_iload (pc := 120) o dX7_take_120 rfl ?_
      refine V_iload_n (pc := 122) o dX7_take_122 rfl ?_
      refine V_iload (pc := 123) o dX7_take_123 rfl ?_
      refine V_rVi (pc := 125) o (cX3_neededVersions_met _ _ _ cI ht ad2 P0 P1 P2 P3 P4 P5 pa v (nI j)) 5 13 gX7_take_X3_neededVersions rfl hdX3_neededVersions (by decide) rfl rfl rfl (Nat.le_of_ble_eq_true rfl) dX7_take_125 rfl ?_
      refine V_iand (pc := 128) o dX7_take_128 ?_
      refine V_istore (pc := 129) o dX7_take_129 (by rw [hn]; decide) ?_
      refine V_iload (pc := 131) o dX7_take_131 rfl ?_
      refine V_if_ne (pc := 133) o 138 dX7_take_133 (by decide) (fun c133 => ?_) (fun c133 => ?_)
      · refine V_aload_n (pc := 138) o dX7_take_138 rfl ?_
        refine V_get (pc := 139) o 0 1 hiX7_take_X7 rfl rfl (by decide) lkX7_take_20 rfl rfl dX7_take_139 ?_
        refine V_iload (pc := 142) o dX7_take_142 rfl ?_
        refine V_iload (pc := 144) o dX7_take_144 rfl ?_
        refine V_iadd (pc := 146) o dX7_take_146 ?_
        refine V_iload (pc := 147) o dX7_take_147 rfl ?_
        refine V_wVv (pc := 149) o (cX6_put_met _ _ _ cI ht _ _ 72 T.2.1 (by decide) _ _) 3 2 (wSP cI ad ad2 T.1 (rup 72 T.2.1 (nx + (rat 96 P4 (plc pa v * 4 + (nI j)))) ((rat 72 T.2.1 (nx + (rat 96 P4 (plc pa v * 4 + (nI j))))) &&& (rat 96 P5 (plc pa v * 4 + (nI j))))) T.2.2 oc P0 P1 P2 P3 P4 P5) gX7_take_X6_put rfl hdX6_put (by decide) rfl rfl rfl (Nat.le_of_ble_eq_true rfl) dX7_take_149 rfl rfl ?_
        refine V_aload_n (pc := 152) o dX7_take_152 rfl ?_
        refine V_iload (pc := 153) o dX7_take_153 rfl ?_
        refine V_wVv (pc := 155) o (cX7_await_met _ _ _ cI ht ad T.1 (rup 72 T.2.1 (nx + (rat 96 P4 (plc pa v * 4 + (nI j)))) ((rat 72 T.2.1 (nx + (rat 96 P4 (plc pa v * 4 + (nI j))))) &&& (rat 96 P5 (plc pa v * 4 + (nI j))))) T.2.2 oc (rat 96 P4 (plc pa v * 4 + (nI j)))) 0 5 (wSP cI ad ad2 (awO T.1 T.2.2 (rat 96 P4 (plc pa v * 4 + (nI j)))) (rup 72 T.2.1 (nx + (rat 96 P4 (plc pa v * 4 + (nI j)))) ((rat 72 T.2.1 (nx + (rat 96 P4 (plc pa v * 4 + (nI j))))) &&& (rat 96 P5 (plc pa v * 4 + (nI j))))) (awn T.1 T.2.2 (rat 96 P4 (plc pa v * 4 + (nI j)))) oc P0 P1 P2 P3 P4 P5) gX7_take_X7_await rfl hdX7_await (by decide) rfl rfl rfl (Nat.le_of_ble_eq_true rfl) dX7_take_155 rfl rfl ?_
        refine V_iinc (pc := 158) o 1 dX7_take_158 (by rw [hn]; decide) rfl (by decide) ?_
        refine V_goto (pc := 161) o 89 dX7_take_161 (by decide) ?_
        refine V_sub (lc2 := [(0, .ref (ad 0)), (1, .ref (ad2 0)), (2, .int d), (3, .int v), (4, .int pa), (5, .int nx), (6, .int cn), (7, .int (nI (j + 1)))]) ⟨rfl, rfl, rfl, rfl, rfl, rfl, rfl, lc_e (nI_1 j), trivial⟩ ?_
        exact ih (j + 1) (tkS P4 P5 pa v nx T (nI j)) (by omega) (fun pc lc x dg hb e => by have q := fin pc lc x dg hb; rw [tkR, if_neg (show ¬ tkL P4 P5 pa v nx T.2.1 (nI j) = 0 from c133)] at q; exact q e)
      · refine V_iconst (pc := 136) o 0 dX7_take_136 (by decide) ?_
        rw [show tkR P4 P5 pa v nx (n + 1) j T = (0, T) from by rw [tkR, if_pos (show tkL P4 P5 pa v nx T.2.1 (nI j) = 0 from by first | exact c133 | exact Decidable.not_not.mp c133)]] at fin
        exact fin 137 _ _ dX7_take_137 rfl rfl
theorem hdX7_take : yX7_take.cls = RX7 ∧ yX7_take.cls ≠ "java/lang/invoke/MethodHandle" ∧ yX7_take.cls ≠ "java/lang/invoke/VarHandle" ∧ (parseMethodDescriptor yX7_take.desc).map (fun d => d.parameters.length) = some 3 := by decide +kernel
theorem lkX7_take_14 : Cond.fieldLink RX7 14 RX7 "order" "LApprovalyard$Row;" ∈ wsX7_take := by decide +kernel
set_option maxHeartbeats 4000000 in
set_option maxRecDepth 100000 in
theorem cX7_take_met (l : Launch) (D : va_G) (tys : List (ClassId × FieldType)) (cI : ClassId) (ht : tys[0]? = some (cI, .int)) (ad ad2 : Nat → Nat) (O0 O1 : Nat → Int32) (on oc : Int32) (P0 P1 P2 P3 P4 P5 : Nat → Int32) (d v : Int32) : CId l yX7_take wsX7_take 3 D tys [.ref (ad 0), .ref (ad2 0), .int d, .int v] (wSP cI ad ad2 O0 O1 on oc P0 P1 P2 P3 P4 P5) (tkF P3 P4 P5 d v (O0, O1, on)).1 (wSP cI ad ad2 (tkF P3 P4 P5 d v (O0, O1, on)).2.1 (tkF P3 P4 P5 d v (O0, O1, on)).2.2.1 (tkF P3 P4 P5 d v (O0, O1, on)).2.2.2 oc P0 P1 P2 P3 P4 P5) := by
  refine CI_of (maxL := 10) (cc := cX7_take) (y := yX7_take) rfl rfl (Nat.le_of_ble_eq_true rfl) (fun X hl hD hk hn hcz hsz o fin => ?_)
  subst hl; subst hD; subst hk
  refine V_aload_n (pc := 0) o dX7_take_0 rfl ?_
  refine V_get (pc := 1) o 0 0 hiX7_take_X7 rfl rfl (by decide) lkX7_take_14 rfl rfl dX7_take_1 ?_
  refine V_iload_n (pc := 4) o dX7_take_4 rfl ?_
  refine V_rVi (pc := 5) o (cX6_at_met _ _ _ cI ht _ _ 8 O0 (by decide) _) 1 2 gX7_take_X6_at rfl hdX6_at (by decide) rfl rfl rfl (Nat.le_of_ble_eq_true rfl) dX7_take_5 rfl ?_
  refine V_istore (pc := 8) o dX7_take_8 (by rw [hn]; decide) ?_
  refine V_iload_n (pc := 10) o dX7_take_10 rfl ?_
  refine V_iconst (pc := 11) o 1 dX7_take_11 (by decide) ?_
  refine V_iadd (pc := 12) o dX7_take_12 ?_
  refine V_bipush (pc := 13) o 8 dX7_take_13 (by decide) ?_
  refine V_imul (pc := 15) o dX7_take_15 ?_
  refine V_istore (pc := 16) o dX7_take_16 (by rw [hn]; decide) ?_
  refine V_iconst (pc := 18) o 0 dX7_take_18 (by decide) ?_
  refine V_istore (pc := 19) o dX7_take_19 (by rw [hn]; decide) ?_
  refine V_sub (lc2 := [(0, .ref (ad 0)), (1, .ref (ad2 0)), (2, .int d), (3, .int v), (4, .int (rat 8 O0 d)), (5, .int ((d + 1) * 8)), (6, .int (nI 0))]) ⟨rfl, rfl, rfl, rfl, rfl, rfl, rfl, trivial⟩ ?_
  refine lp1X7_take o hn cI ht ad ad2 P0 P1 P2 P3 P4 P5 O0 O1 on oc d v (rat 8 O0 d) ?_ 9 0 (by omega) (by omega)
  refine V_aload_n (pc := 60) o dX7_take_60 rfl ?_
  refine V_get (pc := 61) o 0 1 hiX7_take_X7 rfl rfl (by decide) lkX7_take_20 rfl rfl dX7_take_61 ?_
  refine V_iload (pc := 64) o dX7_take_64 rfl ?_
  refine V_iload (pc := 66) o dX7_take_66 rfl ?_
  refine V_iadd (pc := 68) o dX7_take_68 ?_
  refine V_iload_n (pc := 69) o dX7_take_69 rfl ?_
  refine V_iload_n (pc := 70) o dX7_take_70 rfl ?_
  refine V_rSi (pc := 71) o (cX3_versionSet_met _ _ _ v v) 0 0 gX7_take_X3_versionSet rfl hdX3_versionSet (by decide) rfl (Nat.le_of_ble_eq_true rfl) dX7_take_71 rfl ?_
  refine V_wVv (pc := 74) o (cX6_put_met _ _ _ cI ht _ _ 72 (tkC O1 d 8) (by decide) _ _) 3 2 (wSP cI ad ad2 O0 (rup 72 (tkC O1 d 8) (((d + 1) * 8) + (rat 8 O0 d)) (vset v v)) on oc P0 P1 P2 P3 P4 P5) gX7_take_X6_put rfl hdX6_put (by decide) rfl rfl rfl (Nat.le_of_ble_eq_true rfl) dX7_take_74 rfl rfl ?_
  refine V_aload_n (pc := 77) o dX7_take_77 rfl ?_
  refine V_iload (pc := 78) o dX7_take_78 rfl ?_
  refine V_iload_n (pc := 80) o dX7_take_80 rfl ?_
  refine V_rVi (pc := 81) o (cX3_needsOf_met _ _ _ cI ht ad2 P0 P1 P2 P3 P4 P5 (rat 8 O0 d) v) 5 13 gX7_take_X3_needsOf rfl hdX3_needsOf (by decide) rfl rfl rfl (Nat.le_of_ble_eq_true rfl) dX7_take_81 rfl ?_
  refine V_istore (pc := 84) o dX7_take_84 (by rw [hn]; decide) ?_
  refine V_iconst (pc := 86) o 0 dX7_take_86 (by decide) ?_
  refine V_istore (pc := 87) o dX7_take_87 (by rw [hn]; decide) ?_
  refine V_sub (lc2 := [(0, .ref (ad 0)), (1, .ref (ad2 0)), (2, .int d), (3, .int v), (4, .int (rat 8 O0 d)), (5, .int ((d + 1) * 8)), (6, .int (rat 24 P3 (plc (rat 8 O0 d) v))), (7, .int (nI 0))]) ⟨rfl, rfl, rfl, rfl, rfl, rfl, rfl, rfl, trivial⟩ ?_
  exact lp2X7_take o hn cI ht ad ad2 P0 P1 P2 P3 P4 P5 oc d v (rat 8 O0 d) ((d + 1) * 8) (rat 24 P3 (plc (rat 8 O0 d) v)) _ 0 (O0, rup 72 (tkC O1 d 8) ((d + 1) * 8 + rat 8 O0 d) (vset v v), on) (Nat.zero_add _).symm (fun pc lc x dg hb e => fin pc lc x () dg hb e)
end
section
/-! fill and find -/
abbrev TS : Type := (Nat → Int32) × (Nat → Int32) × Int32 × Int32
def fiV (f : TS → Int32 × TS) (P3 P4 P5 : Nat → Int32) (d part st bf v : Int32) (T : TS) : Int32 × TS :=
  if st &&& vset v v = 0 then (0, T.1, T.2.1, bf, T.2.2.2)
  else if (tkF P3 P4 P5 d v (T.1, T.2.1, T.2.2.1)).1 = 0 then (0, (tkF P3 P4 P5 d v (T.1, T.2.1, T.2.2.1)).2.1, (tkF P3 P4 P5 d v (T.1, T.2.1, T.2.2.1)).2.2.1, bf, T.2.2.2)
  else if (f ((tkF P3 P4 P5 d v (T.1, T.2.1, T.2.2.1)).2.1, (tkF P3 P4 P5 d v (T.1, T.2.1, T.2.2.1)).2.2.1, (tkF P3 P4 P5 d v (T.1, T.2.1, T.2.2.1)).2.2.2, T.2.2.2)).1 = 0 then
    (0, (f ((tkF P3 P4 P5 d v (T.1, T.2.1, T.2.2.1)).2.1, (tkF P3 P4 P5 d v (T.1, T.2.1, T.2.2.1)).2.2.1, (tkF P3 P4 P5 d v (T.1, T.2.1, T.2.2.1)).2.2.2, T.2.2.2)).2.1, (f ((tkF P3 P4 P5 d v (T.1, T.2.1, T.2.2.1)).2.1, (tkF P3 P4 P5 d v (T.1, T.2.1, T.2.2.1)).2.2.1, (tkF P3 P4 P5 d v (T.1, T.2.1, T.2.2.1)).2.2.2, T.2.2.2)).2.2.1, bf, (f ((tkF P3 P4 P5 d v (T.1, T.2.1, T.2.2.1)).2.1, (tkF P3 P4 P5 d v (T.1, T.2.1, T.2.2.1)).2.2.1, (tkF P3 P4 P5 d v (T.1, T.2.1, T.2.2.1)).2.2.2, T.2.2.2)).2.2.2.2)
  else (1, (f ((tkF P3 P4 P5 d v (T.1, T.2.1, T.2.2.1)).2.1, (tkF P3 P4 P5 d v (T.1, T.2.1, T.2.2.1)).2.2.1, (tkF P3 P4 P5 d v (T.1, T.2.1, T.2.2.1)).2.2.2, T.2.2.2)).2.1, (f ((tkF P3 P4 P5 d v (T.1, T.2.1, T.2.2.1)).2.1, (tkF P3 P4 P5 d v (T.1, T.2.1, T.2.2.1)).2.2.1, (tkF P3 P4 P5 d v (T.1, T.2.1, T.2.2.1)).2.2.2, T.2.2.2)).2.2.1, (f ((tkF P3 P4 P5 d v (T.1, T.2.1, T.2.2.1)).2.1, (tkF P3 P4 P5 d v (T.1, T.2.1, T.2.2.1)).2.2.1, (tkF P3 P4 P5 d v (T.1, T.2.1, T.2.2.1)).2.2.2, T.2.2.2)).2.2.2.1, chw (f ((tkF P3 P4 P5 d v (T.1, T.2.1, T.2.2.1)).2.1, (tkF P3 P4 P5 d v (T.1, T.2.1, T.2.2.1)).2.2.1, (tkF P3 P4 P5 d v (T.1, T.2.1, T.2.2.1)).2.2.2, T.2.2.2)).2.2.2.2 part v)
def fiW (f : TS → Int32 × TS) (P3 P4 P5 : Nat → Int32) (d part st bf : Int32) : Nat → TS → Int32 × TS
  | 0, T => (0, T)
  | n + 1, T => if (fiV f P3 P4 P5 d part st bf (nI (n + 1)) T).1 = 0 then fiW f P3 P4 P5 d part st bf n (fiV f P3 P4 P5 d part st bf (nI (n + 1)) T).2 else fiV f P3 P4 P5 d part st bf (nI (n + 1)) T
def fiF (P3 P4 P5 : Nat → Int32) : Nat → Int32 → TS → Int32 × TS
  | 0, _, T => (1, T)
  | k + 1, d, T => if T.2.2.1 ≤ d then (1, T) else fiW (fiF P3 P4 P5 k (d + 1)) P3 P4 P5 d (rat 8 T.1 d) (rat 72 T.2.1 (d * 8 + rat 8 T.1 d)) T.2.2.1 3 T
theorem hdX7_fill : yX7_fill.cls = RX7 ∧ yX7_fill.cls ≠ "java/lang/invoke/MethodHandle" ∧ yX7_fill.cls ≠ "java/lang/invoke/VarHandle" ∧ (parseMethodDescriptor yX7_fill.desc).map (fun d => d.parameters.length) = some 2 := by decide +kernel
theorem hiX7_fill_X7 : ∀ w ∈ wsX70, w ∈ wsX7_fill := by decide +kernel
theorem lkX7_fill_40 : Cond.fieldLink RX7 40 RX7 "number" "I" ∈ wsX7_fill := by decide +kernel
theorem lkX7_fill_46 : Cond.fieldLink RX7 46 RX7 "choice" "I" ∈ wsX7_fill := by decide +kernel
set_option maxHeartbeats 8000000 in
set_option maxRecDepth 100000 in
theorem lpX7_fill {X : XT} {k : Nat} (o : OkX X cX7_fill RX7 wsX7_fill (4 + (k + 1))) (hn : XN X = 8) (cI : ClassId) (ht : (XK X)[0]? = some (cI, .int)) (ad ad2 : Nat → Nat) (P0 P1 P2 P3 P4 P5 : Nat → Int32) (d pa st bf : Int32) (hF : ∀ T : TS, CId (XL X) yX7_fill wsX7_fill (4 + k) (XD X) (XK X) [.ref (ad 0), .ref (ad2 0), .int (d + 1)] (wSP cI ad ad2 T.1 T.2.1 T.2.2.1 T.2.2.2 P0 P1 P2 P3 P4 P5) (fiF P3 P4 P5 k (d + 1) T).1 (wSP cI ad ad2 (fiF P3 P4 P5 k (d + 1) T).2.1 (fiF P3 P4 P5 k (d + 1) T).2.2.1 (fiF P3 P4 P5 k (d + 1) T).2.2.2.1 (fiF P3 P4 P5 k (d + 1) T).2.2.2.2 P0 P1 P2 P3 P4 P5)) : ∀ (n : Nat) (T : TS), n ≤ 3 → (∀ (pc : Nat) (lc : List (Nat × Value)) (x : Int32), decode cX7_fill pc = .ok (.ireturn, 1) → narrow .boolean (.int x) = .int x → x = (fiW (fiF P3 P4 P5 k (d + 1)) P3 P4 P5 d pa st bf n T).1 → V X 0 0 (wSP cI ad ad2 (fiW (fiF P3 P4 P5 k (d + 1)) P3 P4 P5 d pa st bf n T).2.1 (fiW (fiF P3 P4 P5 k (d + 1)) P3 P4 P5 d pa st bf n T).2.2.1 (fiW (fiF P3 P4 P5 k (d + 1)) P3 P4 P5 d pa st bf n T).2.2.2.1 (fiW (fiF P3 P4 P5 k (d + 1)) P3 P4 P5 d pa st bf n T).2.2.2.2 P0 P1 P2 P3 P4 P5) pc lc [.int x]) → V X 0 0 (wSP cI ad ad2 T.1 T.2.1 T.2.2.1 T.2.2.2 P0 P1 P2 P3 P4 P5) 49 [(0, .ref (ad 0)), (1, .ref (ad2 0)), (2, .int d), (3, .int pa), (4, .int st), (5, .int bf), (6, .int (nI n))] [] := by
  intro n
  induction n with
  | zero =>
    intro T h1 fin
    refine V_iload (pc := 49) o dX7_fill_49 rfl ?_
    refine V_iconst (pc := 51) o 1 dX7_fill_51 (by decide) ?_
    refine V_icmp_lt (pc := 52) o 130 dX7_fill_52 (by decide) (fun c52 => ?_) (fun c52 => ?_)
    · refine V_iconst (pc := 130) o 0 dX7_fill_130 (by decide) ?_
      exact fin 131 _ _ dX7_fill_131 rfl rfl
    · exact absurd (show nI 0 < 1 by decide) c52
  | succ n ih =>
    intro T h1 fin
    refine V_iload (pc := 49) o dX7_fill_49 rfl ?_
    refine V_iconst (pc := 51) o 1 dX7_fill_51 (by decide) ?_
    refine V_icmp_lt (pc := 52) o 130 dX7_fill_52 (by decide) (fun c52 => ?_) (fun c52 => ?_)
    · refine V_iconst (pc := 130) o 0 dX7_fill_130 (by decide) ?_
      exact absurd c52 (by rw [show (1 : Int32) = nI 1 from rfl]; exact fun h => absurd ((nI_ltI (by omega) (by omega)).mp h) (by omega))
    · refine V_iload (pc := 55) o dX7_fill_55 rfl ?_
      refine V_iload (pc := 57) o dX7_fill_57 rfl ?_
      refine V_iload (pc := 59) o dX7_fill_59 rfl ?_
      refine V_rSi (pc := 61) o (cX3_versionSet_met _ _ _ (nI (n + 1)) (nI (n + 1))) 0 0 gX7_fill_X3_versionSet rfl hdX3_versionSet ⟨by omega, by decide⟩ rfl (Nat.le_of_ble_eq_true rfl) dX7_fill_61 rfl ?_
      refine V_iand (pc := 64) o dX7_fill_64 ?_
      refine V_if_eq (pc := 65) o 72 dX7_fill_65 (by decide) (fun c65 => ?_) (fun c65 => ?_)
      · refine V_iconst (pc := 72) o 0 dX7_fill_72 (by decide) ?_
        refine V_istore (pc := 73) o dX7_fill_73 (by rw [hn]; decide) ?_
        refine V_iload (pc := 75) o dX7_fill_75 rfl ?_
        refine V_if_eq (pc := 77) o 118 dX7_fill_77 (by decide) (fun _ => ?_) (fun c77 => absurd c77 (by decide))
        refine V_aload_n (pc := 118) o dX7_fill_118 rfl ?_
        refine V_iload (pc := 119) o dX7_fill_119 rfl ?_
        refine V_put (pc := 121) o 0 2 hiX7_fill_X7 tyX7 tyX7_ok nmX7 rfl rfl (by decide) lkX7_fill_40 rfl rfl rfl rfl rfl (Nat.le_of_ble_eq_true rfl) dX7_fill_121 ?_
        refine V_eq (ws2 := wSP cI ad ad2 T.1 T.2.1 bf T.2.2.2 P0 P1 P2 P3 P4 P5) rfl rfl ?_
        refine V_iinc (pc := 124) o (-1) dX7_fill_124 (by rw [hn]; decide) rfl (by decide) ?_
        refine V_goto (pc := 127) o 49 dX7_fill_127 (by decide) ?_
        have eV : (fiV (fiF P3 P4 P5 k (d + 1)) P3 P4 P5 d pa st bf (nI (n + 1)) T) = (0, (T.1, T.2.1, bf, T.2.2.2)) := by
          unfold fiV; first | (rw [if_pos (by assumption)]) | (rw [if_neg (by assumption), if_pos (by assumption)]) | (rw [if_neg (by assumption), if_neg (by assumption), if_pos (by assumption)])
        refine V_sub (lc2 := [(0, .ref (ad 0)), (1, .ref (ad2 0)), (2, .int d), (3, .int pa), (4, .int st), (5, .int bf), (6, .int (nI n))]) ⟨rfl, rfl, rfl, rfl, rfl, rfl, lc_e (pk_m1 n), trivial⟩ ?_
        exact ih (T.1, T.2.1, bf, T.2.2.2) (by omega) (fun pc lc x dg hb e => by have q := fin pc lc x dg hb; rw [fiW, eV, if_pos rfl] at q; exact q e)
      · refine V_iconst (pc := 68) o 1 dX7_fill_68 (by decide) ?_
        refine V_goto (pc := 69) o 73 dX7_fill_69 (by decide) ?_
        refine V_istore (pc := 73) o dX7_fill_73 (by rw [hn]; decide) ?_
        refine V_iload (pc := 75) o dX7_fill_75 rfl ?_
        refine V_if_eq (pc := 77) o 118 dX7_fill_77 (by decide) (fun c77 => absurd c77 (by decide)) (fun _ => ?_)
        refine V_aload_n (pc := 80) o dX7_fill_80 rfl ?_
        refine V_aload_n (pc := 81) o dX7_fill_81 rfl ?_
        refine V_iload_n (pc := 82) o dX7_fill_82 rfl ?_
        refine V_iload (pc := 83) o dX7_fill_83 rfl ?_
        refine V_wVi (pc := 85) o (cX7_take_met _ _ _ cI ht ad ad2 T.1 T.2.1 T.2.2.1 T.2.2.2 P0 P1 P2 P3 P4 P5 d (nI (n + 1))) 0 18 (wSP cI ad ad2 ((tkF P3 P4 P5 d (nI (n + 1)) (T.1, T.2.1, T.2.2.1)).2.1) ((tkF P3 P4 P5 d (nI (n + 1)) (T.1, T.2.1, T.2.2.1)).2.2.1) ((tkF P3 P4 P5 d (nI (n + 1)) (T.1, T.2.1, T.2.2.1)).2.2.2) T.2.2.2 P0 P1 P2 P3 P4 P5) gX7_fill_X7_take rfl hdX7_take ⟨by omega, by decide⟩ rfl rfl rfl (Nat.le_of_ble_eq_true rfl) dX7_fill_85 rfl rfl ?_
        refine V_if_eq (pc := 88) o 118 dX7_fill_88 (by decide) (fun c88 => ?_) (fun c88 => ?_)
        · refine V_aload_n (pc := 118) o dX7_fill_118 rfl ?_
          refine V_iload (pc := 119) o dX7_fill_119 rfl ?_
          refine V_put (pc := 121) o 0 2 hiX7_fill_X7 tyX7 tyX7_ok nmX7 rfl rfl (by decide) lkX7_fill_40 rfl rfl rfl rfl rfl (Nat.le_of_ble_eq_true rfl) dX7_fill_121 ?_
          refine V_eq (ws2 := wSP cI ad ad2 ((tkF P3 P4 P5 d (nI (n + 1)) (T.1, T.2.1, T.2.2.1)).2.1) ((tkF P3 P4 P5 d (nI (n + 1)) (T.1, T.2.1, T.2.2.1)).2.2.1) bf T.2.2.2 P0 P1 P2 P3 P4 P5) rfl rfl ?_
          refine V_iinc (pc := 124) o (-1) dX7_fill_124 (by rw [hn]; decide) rfl (by decide) ?_
          refine V_goto (pc := 127) o 49 dX7_fill_127 (by decide) ?_
          have eV : (fiV (fiF P3 P4 P5 k (d + 1)) P3 P4 P5 d pa st bf (nI (n + 1)) T) = (0, ((tkF P3 P4 P5 d (nI (n + 1)) (T.1, T.2.1, T.2.2.1)).2.1, (tkF P3 P4 P5 d (nI (n + 1)) (T.1, T.2.1, T.2.2.1)).2.2.1, bf, T.2.2.2)) := by
            unfold fiV; first | (rw [if_pos (by assumption)]) | (rw [if_neg (by assumption), if_pos (by assumption)]) | (rw [if_neg (by assumption), if_neg (by assumption), if_pos (by assumption)])
          refine V_sub (lc2 := [(0, .ref (ad 0)), (1, .ref (ad2 0)), (2, .int d), (3, .int pa), (4, .int st), (5, .int bf), (6, .int (nI n))]) ⟨rfl, rfl, rfl, rfl, rfl, rfl, lc_e (pk_m1 n), trivial⟩ ?_
          exact ih ((tkF P3 P4 P5 d (nI (n + 1)) (T.1, T.2.1, T.2.2.1)).2.1, (tkF P3 P4 P5 d (nI (n + 1)) (T.1, T.2.1, T.2.2.1)).2.2.1, bf, T.2.2.2) (by omega) (fun pc lc x dg hb e => by have q := fin pc lc x dg hb; rw [fiW, eV, if_pos rfl] at q; exact q e)
        · refine V_aload_n (pc := 91) o dX7_fill_91 rfl ?_
          refine V_aload_n (pc := 92) o dX7_fill_92 rfl ?_
          refine V_iload_n (pc := 93) o dX7_fill_93 rfl ?_
          refine V_iconst (pc := 94) o 1 dX7_fill_94 (by decide) ?_
          refine V_iadd (pc := 95) o dX7_fill_95 ?_
          refine V_wVi (pc := 96) o (hF ((tkF P3 P4 P5 d (nI (n + 1)) (T.1, T.2.1, T.2.2.1)).2.1, (tkF P3 P4 P5 d (nI (n + 1)) (T.1, T.2.1, T.2.2.1)).2.2.1, (tkF P3 P4 P5 d (nI (n + 1)) (T.1, T.2.1, T.2.2.1)).2.2.2, T.2.2.2)) 0 18 (wSP cI ad ad2 ((fiF P3 P4 P5 k (d + 1) ((tkF P3 P4 P5 d (nI (n + 1)) (T.1, T.2.1, T.2.2.1)).2.1, (tkF P3 P4 P5 d (nI (n + 1)) (T.1, T.2.1, T.2.2.1)).2.2.1, (tkF P3 P4 P5 d (nI (n + 1)) (T.1, T.2.1, T.2.2.1)).2.2.2, T.2.2.2)).2.1) ((fiF P3 P4 P5 k (d + 1) ((tkF P3 P4 P5 d (nI (n + 1)) (T.1, T.2.1, T.2.2.1)).2.1, (tkF P3 P4 P5 d (nI (n + 1)) (T.1, T.2.1, T.2.2.1)).2.2.1, (tkF P3 P4 P5 d (nI (n + 1)) (T.1, T.2.1, T.2.2.1)).2.2.2, T.2.2.2)).2.2.1) ((fiF P3 P4 P5 k (d + 1) ((tkF P3 P4 P5 d (nI (n + 1)) (T.1, T.2.1, T.2.2.1)).2.1, (tkF P3 P4 P5 d (nI (n + 1)) (T.1, T.2.1, T.2.2.1)).2.2.1, (tkF P3 P4 P5 d (nI (n + 1)) (T.1, T.2.1, T.2.2.1)).2.2.2, T.2.2.2)).2.2.2.1) ((fiF P3 P4 P5 k (d + 1) ((tkF P3 P4 P5 d (nI (n + 1)) (T.1, T.2.1, T.2.2.1)).2.1, (tkF P3 P4 P5 d (nI (n + 1)) (T.1, T.2.1, T.2.2.1)).2.2.1, (tkF P3 P4 P5 d (nI (n + 1)) (T.1, T.2.1, T.2.2.1)).2.2.2, T.2.2.2)).2.2.2.2) P0 P1 P2 P3 P4 P5) gX7_fill_X7_fill rfl hdX7_fill ⟨by omega, by decide⟩ rfl rfl rfl (Nat.le_of_ble_eq_true rfl) dX7_fill_96 rfl rfl ?_
          refine V_if_eq (pc := 99) o 118 dX7_fill_99 (by decide) (fun c99 => ?_) (fun c99 => ?_)
          · refine V_aload_n (pc := 118) o dX7_fill_118 rfl ?_
            refine V_iload (pc := 119) o dX7_fill_119 rfl ?_
            refine V_put (pc := 121) o 0 2 hiX7_fill_X7 tyX7 tyX7_ok nmX7 rfl rfl (by decide) lkX7_fill_40 rfl rfl rfl rfl rfl (Nat.le_of_ble_eq_true rfl) dX7_fill_121 ?_
            refine V_eq (ws2 := wSP cI ad ad2 ((fiF P3 P4 P5 k (d + 1) ((tkF P3 P4 P5 d (nI (n + 1)) (T.1, T.2.1, T.2.2.1)).2.1, (tkF P3 P4 P5 d (nI (n + 1)) (T.1, T.2.1, T.2.2.1)).2.2.1, (tkF P3 P4 P5 d (nI (n + 1)) (T.1, T.2.1, T.2.2.1)).2.2.2, T.2.2.2)).2.1) ((fiF P3 P4 P5 k (d + 1) ((tkF P3 P4 P5 d (nI (n + 1)) (T.1, T.2.1, T.2.2.1)).2.1, (tkF P3 P4 P5 d (nI (n + 1)) (T.1, T.2.1, T.2.2.1)).2.2.1, (tkF P3 P4 P5 d (nI (n + 1)) (T.1, T.2.1, T.2.2.1)).2.2.2, T.2.2.2)).2.2.1) bf ((fiF P3 P4 P5 k (d + 1) ((tkF P3 P4 P5 d (nI (n + 1)) (T.1, T.2.1, T.2.2.1)).2.1, (tkF P3 P4 P5 d (nI (n + 1)) (T.1, T.2.1, T.2.2.1)).2.2.1, (tkF P3 P4 P5 d (nI (n + 1)) (T.1, T.2.1, T.2.2.1)).2.2.2, T.2.2.2)).2.2.2.2) P0 P1 P2 P3 P4 P5) rfl rfl ?_
            refine V_iinc (pc := 124) o (-1) dX7_fill_124 (by rw [hn]; decide) rfl (by decide) ?_
            refine V_goto (pc := 127) o 49 dX7_fill_127 (by decide) ?_
            have eV : (fiV (fiF P3 P4 P5 k (d + 1)) P3 P4 P5 d pa st bf (nI (n + 1)) T) = (0, ((fiF P3 P4 P5 k (d + 1) ((tkF P3 P4 P5 d (nI (n + 1)) (T.1, T.2.1, T.2.2.1)).2.1, (tkF P3 P4 P5 d (nI (n + 1)) (T.1, T.2.1, T.2.2.1)).2.2.1, (tkF P3 P4 P5 d (nI (n + 1)) (T.1, T.2.1, T.2.2.1)).2.2.2, T.2.2.2)).2.1, (fiF P3 P4 P5 k (d + 1) ((tkF P3 P4 P5 d (nI (n + 1)) (T.1, T.2.1, T.2.2.1)).2.1, (tkF P3 P4 P5 d (nI (n + 1)) (T.1, T.2.1, T.2.2.1)).2.2.1, (tkF P3 P4 P5 d (nI (n + 1)) (T.1, T.2.1, T.2.2.1)).2.2.2, T.2.2.2)).2.2.1, bf, (fiF P3 P4 P5 k (d + 1) ((tkF P3 P4 P5 d (nI (n + 1)) (T.1, T.2.1, T.2.2.1)).2.1, (tkF P3 P4 P5 d (nI (n + 1)) (T.1, T.2.1, T.2.2.1)).2.2.1, (tkF P3 P4 P5 d (nI (n + 1)) (T.1, T.2.1, T.2.2.1)).2.2.2, T.2.2.2)).2.2.2.2)) := by
              unfold fiV; first | (rw [if_pos (by assumption)]) | (rw [if_neg (by assumption), if_pos (by assumption)]) | (rw [if_neg (by assumption), if_neg (by assumption), if_pos (by assumption)])
            refine V_sub (lc2 := [(0, .ref (ad 0)), (1, .ref (ad2 0)), (2, .int d), (3, .int pa), (4, .int st), (5, .int bf), (6, .int (nI n))]) ⟨rfl, rfl, rfl, rfl, rfl, rfl, lc_e (pk_m1 n), trivial⟩ ?_
            exact ih ((fiF P3 P4 P5 k (d + 1) ((tkF P3 P4 P5 d (nI (n + 1)) (T.1, T.2.1, T.2.2.1)).2.1, (tkF P3 P4 P5 d (nI (n + 1)) (T.1, T.2.1, T.2.2.1)).2.2.1, (tkF P3 P4 P5 d (nI (n + 1)) (T.1, T.2.1, T.2.2.1)).2.2.2, T.2.2.2)).2.1, (fiF P3 P4 P5 k (d + 1) ((tkF P3 P4 P5 d (nI (n + 1)) (T.1, T.2.1, T.2.2.1)).2.1, (tkF P3 P4 P5 d (nI (n + 1)) (T.1, T.2.1, T.2.2.1)).2.2.1, (tkF P3 P4 P5 d (nI (n + 1)) (T.1, T.2.1, T.2.2.1)).2.2.2, T.2.2.2)).2.2.1, bf, (fiF P3 P4 P5 k (d + 1) ((tkF P3 P4 P5 d (nI (n + 1)) (T.1, T.2.1, T.2.2.1)).2.1, (tkF P3 P4 P5 d (nI (n + 1)) (T.1, T.2.1, T.2.2.1)).2.2.1, (tkF P3 P4 P5 d (nI (n + 1)) (T.1, T.2.1, T.2.2.1)).2.2.2, T.2.2.2)).2.2.2.2) (by omega) (fun pc lc x dg hb e => by have q := fin pc lc x dg hb; rw [fiW, eV, if_pos rfl] at q; exact q e)
          · refine V_aload_n (pc := 102) o dX7_fill_102 rfl ?_
            refine V_aload_n (pc := 103) o dX7_fill_103 rfl ?_
            refine V_get (pc := 104) o 0 3 hiX7_fill_X7 rfl rfl (by decide) lkX7_fill_46 rfl rfl dX7_fill_104 ?_
            refine V_iload_n (pc := 107) o dX7_fill_107 rfl ?_
            refine V_iload (pc := 108) o dX7_fill_108 rfl ?_
            refine V_rSi (pc := 110) o (cX1_with_met _ _ _ ((fiF P3 P4 P5 k (d + 1) ((tkF P3 P4 P5 d (nI (n + 1)) (T.1, T.2.1, T.2.2.1)).2.1, (tkF P3 P4 P5 d (nI (n + 1)) (T.1, T.2.1, T.2.2.1)).2.2.1, (tkF P3 P4 P5 d (nI (n + 1)) (T.1, T.2.1, T.2.2.1)).2.2.2, T.2.2.2)).2.2.2.2) pa (nI (n + 1))) 0 0 gX7_fill_X1_with rfl hdX1_with ⟨by omega, by decide⟩ rfl (Nat.le_of_ble_eq_true rfl) dX7_fill_110 rfl ?_
            refine V_put (pc := 113) o 0 3 hiX7_fill_X7 tyX7 tyX7_ok nmX7 rfl rfl (by decide) lkX7_fill_46 rfl rfl rfl rfl rfl (Nat.le_of_ble_eq_true rfl) dX7_fill_113 ?_
            refine V_eq (ws2 := wSP cI ad ad2 ((fiF P3 P4 P5 k (d + 1) ((tkF P3 P4 P5 d (nI (n + 1)) (T.1, T.2.1, T.2.2.1)).2.1, (tkF P3 P4 P5 d (nI (n + 1)) (T.1, T.2.1, T.2.2.1)).2.2.1, (tkF P3 P4 P5 d (nI (n + 1)) (T.1, T.2.1, T.2.2.1)).2.2.2, T.2.2.2)).2.1) ((fiF P3 P4 P5 k (d + 1) ((tkF P3 P4 P5 d (nI (n + 1)) (T.1, T.2.1, T.2.2.1)).2.1, (tkF P3 P4 P5 d (nI (n + 1)) (T.1, T.2.1, T.2.2.1)).2.2.1, (tkF P3 P4 P5 d (nI (n + 1)) (T.1, T.2.1, T.2.2.1)).2.2.2, T.2.2.2)).2.2.1) ((fiF P3 P4 P5 k (d + 1) ((tkF P3 P4 P5 d (nI (n + 1)) (T.1, T.2.1, T.2.2.1)).2.1, (tkF P3 P4 P5 d (nI (n + 1)) (T.1, T.2.1, T.2.2.1)).2.2.1, (tkF P3 P4 P5 d (nI (n + 1)) (T.1, T.2.1, T.2.2.1)).2.2.2, T.2.2.2)).2.2.2.1) (chw ((fiF P3 P4 P5 k (d + 1) ((tkF P3 P4 P5 d (nI (n + 1)) (T.1, T.2.1, T.2.2.1)).2.1, (tkF P3 P4 P5 d (nI (n + 1)) (T.1, T.2.1, T.2.2.1)).2.2.1, (tkF P3 P4 P5 d (nI (n + 1)) (T.1, T.2.1, T.2.2.1)).2.2.2, T.2.2.2)).2.2.2.2) pa (nI (n + 1))) P0 P1 P2 P3 P4 P5) rfl rfl ?_
            refine V_iconst (pc := 116) o 1 dX7_fill_116 (by decide) ?_
            have eV : (fiV (fiF P3 P4 P5 k (d + 1)) P3 P4 P5 d pa st bf (nI (n + 1)) T) = (1, ((fiF P3 P4 P5 k (d + 1) ((tkF P3 P4 P5 d (nI (n + 1)) (T.1, T.2.1, T.2.2.1)).2.1, (tkF P3 P4 P5 d (nI (n + 1)) (T.1, T.2.1, T.2.2.1)).2.2.1, (tkF P3 P4 P5 d (nI (n + 1)) (T.1, T.2.1, T.2.2.1)).2.2.2, T.2.2.2)).2.1, (fiF P3 P4 P5 k (d + 1) ((tkF P3 P4 P5 d (nI (n + 1)) (T.1, T.2.1, T.2.2.1)).2.1, (tkF P3 P4 P5 d (nI (n + 1)) (T.1, T.2.1, T.2.2.1)).2.2.1, (tkF P3 P4 P5 d (nI (n + 1)) (T.1, T.2.1, T.2.2.1)).2.2.2, T.2.2.2)).2.2.1, (fiF P3 P4 P5 k (d + 1) ((tkF P3 P4 P5 d (nI (n + 1)) (T.1, T.2.1, T.2.2.1)).2.1, (tkF P3 P4 P5 d (nI (n + 1)) (T.1, T.2.1, T.2.2.1)).2.2.1, (tkF P3 P4 P5 d (nI (n + 1)) (T.1, T.2.1, T.2.2.1)).2.2.2, T.2.2.2)).2.2.2.1, chw ((fiF P3 P4 P5 k (d + 1) ((tkF P3 P4 P5 d (nI (n + 1)) (T.1, T.2.1, T.2.2.1)).2.1, (tkF P3 P4 P5 d (nI (n + 1)) (T.1, T.2.1, T.2.2.1)).2.2.1, (tkF P3 P4 P5 d (nI (n + 1)) (T.1, T.2.1, T.2.2.1)).2.2.2, T.2.2.2)).2.2.2.2) pa (nI (n + 1)))) := by
              unfold fiV; rw [if_neg (by assumption), if_neg (by assumption), if_neg (by assumption)]
            rw [show fiW (fiF P3 P4 P5 k (d + 1)) P3 P4 P5 d pa st bf (n + 1) T = (1, ((fiF P3 P4 P5 k (d + 1) ((tkF P3 P4 P5 d (nI (n + 1)) (T.1, T.2.1, T.2.2.1)).2.1, (tkF P3 P4 P5 d (nI (n + 1)) (T.1, T.2.1, T.2.2.1)).2.2.1, (tkF P3 P4 P5 d (nI (n + 1)) (T.1, T.2.1, T.2.2.1)).2.2.2, T.2.2.2)).2.1, (fiF P3 P4 P5 k (d + 1) ((tkF P3 P4 P5 d (nI (n + 1)) (T.1, T.2.1, T.2.2.1)).2.1, (tkF P3 P4 P5 d (nI (n + 1)) (T.1, T.2.1, T.2.2.1)).2.2.1, (tkF P3 P4 P5 d (nI (n + 1)) (T.1, T.2.1, T.2.2.1)).2.2.2, T.2.2.2)).2.2.1, (fiF P3 P4 P5 k (d + 1) ((tkF P3 P4 P5 d (nI (n + 1)) (T.1, T.2.1, T.2.2.1)).2.1, (tkF P3 P4 P5 d (nI (n + 1)) (T.1, T.2.1, T.2.2.1)).2.2.1, (tkF P3 P4 P5 d (nI (n + 1)) (T.1, T.2.1, T.2.2.1)).2.2.2, T.2.2.2)).2.2.2.1, chw ((fiF P3 P4 P5 k (d + 1) ((tkF P3 P4 P5 d (nI (n + 1)) (T.1, T.2.1, T.2.2.1)).2.1, (tkF P3 P4 P5 d (nI (n + 1)) (T.1, T.2.1, T.2.2.1)).2.2.1, (tkF P3 P4 P5 d (nI (n + 1)) (T.1, T.2.1, T.2.2.1)).2.2.2, T.2.2.2)).2.2.2.2) pa (nI (n + 1)))) from by rw [fiW, eV, if_neg (show ¬ (1 : Int32) = 0 by decide)]] at fin
            exact fin 117 _ _ dX7_fill_117 rfl rfl
theorem lkX7_fill_14 : Cond.fieldLink RX7 14 RX7 "order" "LApprovalyard$Row;" ∈ wsX7_fill := by decide +kernel
theorem lkX7_fill_20 : Cond.fieldLink RX7 20 RX7 "wanted" "LApprovalyard$Row;" ∈ wsX7_fill := by decide +kernel
set_option maxHeartbeats 8000000 in
set_option maxRecDepth 100000 in
theorem cX7_fill_met (cI : ClassId) (ad ad2 : Nat → Nat) (P0 P1 P2 P3 P4 P5 : Nat → Int32) : ∀ (k : Nat), k ≤ 8 → ∀ (T : TS) (l : Launch) (D : va_G) (tys : List (ClassId × FieldType)) (ht : tys[0]? = some (cI, .int)), CId l yX7_fill wsX7_fill (4 + k) D tys [.ref (ad 0), .ref (ad2 0), .int (nI (8 - k))] (wSP cI ad ad2 T.1 T.2.1 T.2.2.1 T.2.2.2 P0 P1 P2 P3 P4 P5) (fiF P3 P4 P5 k (nI (8 - k)) T).1 (wSP cI ad ad2 (fiF P3 P4 P5 k (nI (8 - k)) T).2.1 (fiF P3 P4 P5 k (nI (8 - k)) T).2.2.1 (fiF P3 P4 P5 k (nI (8 - k)) T).2.2.2.1 (fiF P3 P4 P5 k (nI (8 - k)) T).2.2.2.2 P0 P1 P2 P3 P4 P5) := by
  intro k
  induction k with
  | zero =>
    intro h1 T l D tys ht
    refine CI_of (maxL := 8) (cc := cX7_fill) (y := yX7_fill) rfl rfl (Nat.le_of_ble_eq_true rfl) (fun X hl hD hk hn hcz hsz o fin => ?_)
    subst hl; subst hD; subst hk
    refine V_iload_n (pc := 0) o dX7_fill_0 rfl ?_
    refine V_aload_n (pc := 1) o dX7_fill_1 rfl ?_
    refine V_get (pc := 2) o 0 2 hiX7_fill_X7 rfl rfl (by decide) lkX7_fill_40 rfl rfl dX7_fill_2 ?_
    refine V_icmp_ge (pc := 5) o 14 dX7_fill_5 (by decide) (fun c5 => ?_) (fun c5 => ?_)
    · refine V_iconst (pc := 14) o 1 dX7_fill_14 (by decide) ?_
      exact fin 15 _ _ () dX7_fill_15 rfl rfl
    · refine V_iload_n (pc := 8) o dX7_fill_8 rfl ?_
      refine V_bipush (pc := 9) o 8 dX7_fill_9 (by decide) ?_
      refine V_icmp_lt (pc := 11) o 16 dX7_fill_11 (by decide) (fun c11 => ?_) (fun c11 => ?_)
      · exact absurd (show nI 8 < (8 : Int32) from c11) (by decide)
      · refine V_iconst (pc := 14) o 1 dX7_fill_14 (by decide) ?_
        exact fin 15 _ _ () dX7_fill_15 rfl rfl
  | succ k ih =>
    intro h1 T l D tys ht
    refine CI_of (maxL := 8) (cc := cX7_fill) (y := yX7_fill) rfl rfl (Nat.le_of_ble_eq_true rfl) (fun X hl hD hk hn hcz hsz o fin => ?_)
    subst hl; subst hD; subst hk
    have h9 : nI (8 - (k + 1)) < 8 := nI_lt (b := 8) (by omega) (by decide)
    refine V_iload_n (pc := 0) o dX7_fill_0 rfl ?_
    refine V_aload_n (pc := 1) o dX7_fill_1 rfl ?_
    refine V_get (pc := 2) o 0 2 hiX7_fill_X7 rfl rfl (by decide) lkX7_fill_40 rfl rfl dX7_fill_2 ?_
    refine V_icmp_ge (pc := 5) o 14 dX7_fill_5 (by decide) (fun c5 => ?_) (fun c5 => ?_)
    · first | exact absurd h9 c11 | (refine V_iconst (pc := 14) o 1 dX7_fill_14 (by decide) ?_; rw [show fiF P3 P4 P5 (k + 1) (nI (8 - (k + 1))) T = (1, T) by rw [fiF]; exact if_pos c5] at fin; exact fin 15 _ _ () dX7_fill_15 rfl rfl)
    · refine V_iload_n (pc := 8) o dX7_fill_8 rfl ?_
      refine V_bipush (pc := 9) o 8 dX7_fill_9 (by decide) ?_
      refine V_icmp_lt (pc := 11) o 16 dX7_fill_11 (by decide) (fun c11 => ?_) (fun c11 => ?_)
      · refine V_aload_n (pc := 16) o dX7_fill_16 rfl ?_
        refine V_get (pc := 17) o 0 0 hiX7_fill_X7 rfl rfl (by decide) lkX7_fill_14 rfl rfl dX7_fill_17 ?_
        refine V_iload_n (pc := 20) o dX7_fill_20 rfl ?_
        refine V_rVi (pc := 21) o (cX6_at_met _ _ _ cI ht _ _ 8 T.1 (by decide) _) 1 2 gX7_fill_X6_at rfl hdX6_at ⟨by omega, by decide⟩ rfl rfl rfl (Nat.le_of_ble_eq_true rfl) dX7_fill_21 rfl ?_
        refine V_istore_n (pc := 24) o dX7_fill_24 (by rw [hn]; decide) ?_
        refine V_aload_n (pc := 25) o dX7_fill_25 rfl ?_
        refine V_get (pc := 26) o 0 1 hiX7_fill_X7 rfl rfl (by decide) lkX7_fill_20 rfl rfl dX7_fill_26 ?_
        refine V_iload_n (pc := 29) o dX7_fill_29 rfl ?_
        refine V_bipush (pc := 30) o 8 dX7_fill_30 (by decide) ?_
        refine V_imul (pc := 32) o dX7_fill_32 ?_
        refine V_iload_n (pc := 33) o dX7_fill_33 rfl ?_
        refine V_iadd (pc := 34) o dX7_fill_34 ?_
        refine V_rVi (pc := 35) o (cX6_at_met _ _ _ cI ht _ _ 72 T.2.1 (by decide) _) 3 2 gX7_fill_X6_at rfl hdX6_at ⟨by omega, by decide⟩ rfl rfl rfl (Nat.le_of_ble_eq_true rfl) dX7_fill_35 rfl ?_
        refine V_istore (pc := 38) o dX7_fill_38 (by rw [hn]; decide) ?_
        refine V_aload_n (pc := 40) o dX7_fill_40 rfl ?_
        refine V_get (pc := 41) o 0 2 hiX7_fill_X7 rfl rfl (by decide) lkX7_fill_40 rfl rfl dX7_fill_41 ?_
        refine V_istore (pc := 44) o dX7_fill_44 (by rw [hn]; decide) ?_
        refine V_iconst (pc := 46) o 3 dX7_fill_46 (by decide) ?_
        refine V_istore (pc := 47) o dX7_fill_47 (by rw [hn]; decide) ?_
        refine V_sub (lc2 := [(0, .ref (ad 0)), (1, .ref (ad2 0)), (2, .int (nI (8 - (k + 1)))), (3, .int (rat 8 T.1 (nI (8 - (k + 1))))), (4, .int (rat 72 T.2.1 (nI (8 - (k + 1)) * 8 + rat 8 T.1 (nI (8 - (k + 1)))))), (5, .int T.2.2.1), (6, .int (nI 3))]) ⟨rfl, rfl, rfl, rfl, rfl, rfl, rfl, trivial⟩ ?_
        refine lpX7_fill o hn cI ht ad ad2 P0 P1 P2 P3 P4 P5 _ _ _ _ (fun T2 => ?_) 3 T (by omega) (fun pc lc x dg hb e => ?_)
        · have q := ih (by omega) T2 (XL X) (XD X) (XK X) ht
          rw [show nI (8 - k) = nI (8 - (k + 1)) + 1 by rw [nI_1]; congr 1; omega] at q
          exact q
        · have q := fin pc lc x () dg hb
          rw [fiF, if_neg c5] at q
          exact q e
      · first | exact absurd h9 c11 | (refine V_iconst (pc := 14) o 1 dX7_fill_14 (by decide) ?_; rw [show fiF P3 P4 P5 (k + 1) (nI (8 - (k + 1))) T = (1, T) by rw [fiF]; exact if_pos c5] at fin; exact fin 15 _ _ () dX7_fill_15 rfl rfl)
def fnC (P0 P2 O1 : Nat → Int32) : Nat → Nat → Int32
  | 0 => O1
  | n + 1 => rup 72 (fnC P0 P2 O1 n) (nI n) (pcur P0 P2 (nI n))
def fnF (P0 P2 P3 P4 P5 O0 O1 : Nat → Int32) (p a : Int32) : TS := (fiF P3 P4 P5 8 0 (rup 8 O0 0 p, rup 72 (fnC P0 P2 O1 8) p (rat 72 (fnC P0 P2 O1 8) p &&& vset a 3), 1, 0)).2
theorem hiX7_find_X7 : ∀ w ∈ wsX70, w ∈ wsX7_find := by decide +kernel
theorem lkX7_find_20 : Cond.fieldLink RX7 20 RX7 "wanted" "LApprovalyard$Row;" ∈ wsX7_find := by decide +kernel
set_option maxHeartbeats 4000000 in
set_option maxRecDepth 100000 in
theorem lpX7_find {X : XT} (o : OkX X cX7_find RX7 wsX7_find 13) (hn : XN X = 5) (cI : ClassId) (ht : (XK X)[0]? = some (cI, .int)) (ad ad2 : Nat → Nat) (P0 P1 P2 P3 P4 P5 : Nat → Int32) (O0 O1 : Nat → Int32) (on oc p a : Int32) (kk : V X 0 0 (wSP cI ad ad2 O0 (fnC P0 P2 O1 8) on oc P0 P1 P2 P3 P4 P5) 31 [(0, .ref (ad 0)), (1, .ref (ad2 0)), (2, .int p), (3, .int a), (4, .int (nI 8))] []) : ∀ (m j : Nat), 8 - j < m → j ≤ 8 → V X 0 0 (wSP cI ad ad2 O0 (fnC P0 P2 O1 j) on oc P0 P1 P2 P3 P4 P5) 3 [(0, .ref (ad 0)), (1, .ref (ad2 0)), (2, .int p), (3, .int a), (4, .int (nI j))] [] := by
  intro m
  induction m with
  | zero => intro j h1; exact absurd h1 (Nat.not_lt_zero _)
  | succ m ih =>
    intro j h1 h2
    refine V_iload (pc := 3) o dX7_find_3 rfl ?_
    refine V_bipush (pc := 5) o 8 dX7_find_5 (by decide) ?_
    refine V_icmp_ge (pc := 7) o 31 dX7_find_7 (by decide) (fun c7 => ?_) (fun c7 => ?_)
    · have e1 : j = 8 := Nat.le_antisymm h2 (le_of_nI c7)
      rw [e1]
      exact kk
    · refine V_aload_n (pc := 10) o dX7_find_10 rfl ?_
      refine V_get (pc := 11) o 0 1 hiX7_find_X7 rfl rfl (by decide) lkX7_find_20 rfl rfl dX7_find_11 ?_
      refine V_iload (pc := 14) o dX7_find_14 rfl ?_
      refine V_aload_n (pc := 16) o dX7_find_16 rfl ?_
      refine V_iload (pc := 17) o dX7_find_17 rfl ?_
      refine V_rVi (pc := 19) o (cX3_current_met _ _ _ cI ht ad2 P0 P1 P2 P3 P4 P5 (nI j)) 5 13 gX7_find_X3_current rfl hdX3_current ⟨by omega, by decide⟩ rfl rfl rfl (Nat.le_of_ble_eq_true rfl) dX7_find_19 rfl ?_
      refine V_wVv (pc := 22) o (cX6_put_met _ _ _ cI ht _ _ 72 (fnC P0 P2 O1 j) (by decide) _ _) 3 2 (wSP cI ad ad2 O0 (rup 72 (fnC P0 P2 O1 j) (nI j) (pcur P0 P2 (nI j))) on oc P0 P1 P2 P3 P4 P5) gX7_find_X6_put rfl hdX6_put ⟨by omega, by decide⟩ rfl rfl rfl (Nat.le_of_ble_eq_true rfl) dX7_find_22 rfl rfl ?_
      refine V_iinc (pc := 25) o 1 dX7_find_25 (by rw [hn]; decide) rfl (by decide) ?_
      refine V_goto (pc := 28) o 3 dX7_find_28 (by decide) ?_
      have q1 : j < 8 := lt_of_nI (K := 8) c7
      refine V_eq (ws2 := wSP cI ad ad2 O0 (fnC P0 P2 O1 (j + 1)) on oc P0 P1 P2 P3 P4 P5) rfl rfl ?_
      refine V_sub (lc2 := [(0, .ref (ad 0)), (1, .ref (ad2 0)), (2, .int p), (3, .int a), (4, .int (nI (j + 1)))]) ⟨rfl, rfl, rfl, rfl, lc_e (nI_1 j), trivial⟩ ?_
      exact ih (j + 1) (by omega) (by omega)
theorem hdX7_find : yX7_find.cls = RX7 ∧ yX7_find.cls ≠ "java/lang/invoke/MethodHandle" ∧ yX7_find.cls ≠ "java/lang/invoke/VarHandle" ∧ (parseMethodDescriptor yX7_find.desc).map (fun d => d.parameters.length) = some 3 := by decide +kernel
theorem lkX7_find_14 : Cond.fieldLink RX7 14 RX7 "order" "LApprovalyard$Row;" ∈ wsX7_find := by decide +kernel
theorem lkX7_find_40 : Cond.fieldLink RX7 40 RX7 "number" "I" ∈ wsX7_find := by decide +kernel
theorem lkX7_find_46 : Cond.fieldLink RX7 46 RX7 "choice" "I" ∈ wsX7_find := by decide +kernel
set_option maxHeartbeats 4000000 in
set_option maxRecDepth 100000 in
theorem cX7_find_met (l : Launch) (D : va_G) (tys : List (ClassId × FieldType)) (cI : ClassId) (ht : tys[0]? = some (cI, .int)) (ad ad2 : Nat → Nat) (O0 O1 : Nat → Int32) (on oc : Int32) (P0 P1 P2 P3 P4 P5 : Nat → Int32) (p a : Int32) : CId l yX7_find wsX7_find 13 D tys [.ref (ad 0), .ref (ad2 0), .int p, .int a] (wSP cI ad ad2 O0 O1 on oc P0 P1 P2 P3 P4 P5) (fnF P0 P2 P3 P4 P5 O0 O1 p a).2.2.2 (wSP cI ad ad2 (fnF P0 P2 P3 P4 P5 O0 O1 p a).1 (fnF P0 P2 P3 P4 P5 O0 O1 p a).2.1 (fnF P0 P2 P3 P4 P5 O0 O1 p a).2.2.1 (fnF P0 P2 P3 P4 P5 O0 O1 p a).2.2.2 P0 P1 P2 P3 P4 P5) := by
  refine CI_of (maxL := 5) (cc := cX7_find) (y := yX7_find) rfl rfl (Nat.le_of_ble_eq_true rfl) (fun X hl hD hk hn hcz hsz o fin => ?_)
  subst hl; subst hD; subst hk
  refine V_iconst (pc := 0) o 0 dX7_find_0 (by decide) ?_
  refine V_istore (pc := 1) o dX7_find_1 (by rw [hn]; decide) ?_
  refine V_sub (lc2 := [(0, .ref (ad 0)), (1, .ref (ad2 0)), (2, .int p), (3, .int a), (4, .int (nI 0))]) ⟨rfl, rfl, rfl, rfl, rfl, trivial⟩ ?_
  refine lpX7_find o hn cI ht ad ad2 P0 P1 P2 P3 P4 P5 O0 O1 on oc p a ?_ 9 0 (by omega) (by omega)
  refine V_aload_n (pc := 31) o dX7_find_31 rfl ?_
  refine V_get (pc := 32) o 0 1 hiX7_find_X7 rfl rfl (by decide) lkX7_find_20 rfl rfl dX7_find_32 ?_
  refine V_iload_n (pc := 35) o dX7_find_35 rfl ?_
  refine V_aload_n (pc := 36) o dX7_find_36 rfl ?_
  refine V_get (pc := 37) o 0 1 hiX7_find_X7 rfl rfl (by decide) lkX7_find_20 rfl rfl dX7_find_37 ?_
  refine V_iload_n (pc := 40) o dX7_find_40 rfl ?_
  refine V_rVi (pc := 41) o (cX6_at_met _ _ _ cI ht _ _ 72 (fnC P0 P2 O1 8) (by decide) _) 3 2 gX7_find_X6_at rfl hdX6_at ⟨by omega, by decide⟩ rfl rfl rfl (Nat.le_of_ble_eq_true rfl) dX7_find_41 rfl ?_
  refine V_iload_n (pc := 44) o dX7_find_44 rfl ?_
  refine V_iconst (pc := 45) o 3 dX7_find_45 (by decide) ?_
  refine V_rSi (pc := 46) o (cX3_versionSet_met _ _ _ a 3) 0 0 gX7_find_X3_versionSet rfl hdX3_versionSet ⟨by omega, by decide⟩ rfl (Nat.le_of_ble_eq_true rfl) dX7_find_46 rfl ?_
  refine V_iand (pc := 49) o dX7_find_49 ?_
  refine V_wVv (pc := 50) o (cX6_put_met _ _ _ cI ht _ _ 72 (fnC P0 P2 O1 8) (by decide) _ _) 3 2 (wSP cI ad ad2 O0 (rup 72 (fnC P0 P2 O1 8) p ((rat 72 (fnC P0 P2 O1 8) p) &&& (vset a 3))) on oc P0 P1 P2 P3 P4 P5) gX7_find_X6_put rfl hdX6_put ⟨by omega, by decide⟩ rfl rfl rfl (Nat.le_of_ble_eq_true rfl) dX7_find_50 rfl rfl ?_
  refine V_aload_n (pc := 53) o dX7_find_53 rfl ?_
  refine V_get (pc := 54) o 0 0 hiX7_find_X7 rfl rfl (by decide) lkX7_find_14 rfl rfl dX7_find_54 ?_
  refine V_iconst (pc := 57) o 0 dX7_find_57 (by decide) ?_
  refine V_iload_n (pc := 58) o dX7_find_58 rfl ?_
  refine V_wVv (pc := 59) o (cX6_put_met _ _ _ cI ht _ _ 8 O0 (by decide) _ _) 1 2 (wSP cI ad ad2 (rup 8 O0 0 p) (rup 72 (fnC P0 P2 O1 8) p ((rat 72 (fnC P0 P2 O1 8) p) &&& (vset a 3))) on oc P0 P1 P2 P3 P4 P5) gX7_find_X6_put rfl hdX6_put ⟨by omega, by decide⟩ rfl rfl rfl (Nat.le_of_ble_eq_true rfl) dX7_find_59 rfl rfl ?_
  refine V_aload_n (pc := 62) o dX7_find_62 rfl ?_
  refine V_iconst (pc := 63) o 1 dX7_find_63 (by decide) ?_
  refine V_put (pc := 64) o 0 2 hiX7_find_X7 tyX7 tyX7_ok nmX7 rfl rfl (by decide) lkX7_find_40 rfl rfl rfl rfl rfl (Nat.le_of_ble_eq_true rfl) dX7_find_64 ?_
  refine V_eq (ws2 := wSP cI ad ad2 (rup 8 O0 0 p) (rup 72 (fnC P0 P2 O1 8) p ((rat 72 (fnC P0 P2 O1 8) p) &&& (vset a 3))) 1 oc P0 P1 P2 P3 P4 P5) rfl rfl ?_
  refine V_aload_n (pc := 67) o dX7_find_67 rfl ?_
  refine V_iconst (pc := 68) o 0 dX7_find_68 (by decide) ?_
  refine V_put (pc := 69) o 0 3 hiX7_find_X7 tyX7 tyX7_ok nmX7 rfl rfl (by decide) lkX7_find_46 rfl rfl rfl rfl rfl (Nat.le_of_ble_eq_true rfl) dX7_find_69 ?_
  refine V_eq (ws2 := wSP cI ad ad2 (rup 8 O0 0 p) (rup 72 (fnC P0 P2 O1 8) p ((rat 72 (fnC P0 P2 O1 8) p) &&& (vset a 3))) 1 0 P0 P1 P2 P3 P4 P5) rfl rfl ?_
  refine V_aload_n (pc := 72) o dX7_find_72 rfl ?_
  refine V_aload_n (pc := 73) o dX7_find_73 rfl ?_
  refine V_iconst (pc := 74) o 0 dX7_find_74 (by decide) ?_
  refine V_wVi (pc := 75) o (cX7_fill_met cI ad ad2 P0 P1 P2 P3 P4 P5 8 (Nat.le_refl _) (rup 8 O0 0 p, rup 72 (fnC P0 P2 O1 8) p ((rat 72 (fnC P0 P2 O1 8) p) &&& (vset a 3)), 1, 0) _ _ _ ht) 0 18 (wSP cI ad ad2 ((fnF P0 P2 P3 P4 P5 O0 O1 p a).1) ((fnF P0 P2 P3 P4 P5 O0 O1 p a).2.1) ((fnF P0 P2 P3 P4 P5 O0 O1 p a).2.2.1) ((fnF P0 P2 P3 P4 P5 O0 O1 p a).2.2.2) P0 P1 P2 P3 P4 P5) gX7_find_X7_fill rfl hdX7_fill (by decide) rfl rfl rfl (Nat.le_of_ble_eq_true rfl) dX7_find_75 rfl rfl ?_
  refine V_pop (pc := 78) o rfl dX7_find_78 ?_
  refine V_aload_n (pc := 79) o dX7_find_79 rfl ?_
  refine V_get (pc := 80) o 0 3 hiX7_find_X7 rfl rfl (by decide) lkX7_find_46 rfl rfl dX7_find_80 ?_
  exact fin 83 _ _ () dX7_find_83 rfl rfl
end
