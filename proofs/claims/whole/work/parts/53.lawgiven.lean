/-! What the Statement gives of the start. -/
set_option maxRecDepth 100000 in
theorem st_bx : ∀ w ∈ bxW, w ∈ lw_tbl := by decide +kernel
set_option maxRecDepth 100000 in
theorem st_bxo : ∀ w ∈ bxW, w.onTables = true := by decide +kernel
set_option maxRecDepth 100000 in
theorem st_str : ∀ q ∈ strsX8, Cond.stringRef RX8 q.1 q.2 ∈ lw_tbl := by decide +kernel
set_option maxRecDepth 100000 in
theorem st_strx : ∀ q ∈ strsX8, Cond.exactly (.string RX8 q.1) "java/lang/String" ∈ flatC (Jvm.Cond.and given_1 narrow_1) := by decide +kernel
set_option maxRecDepth 100000 in
theorem st_us : Cond.isRef (.static Bundle.tN "UNASSIGNED_STACK" Bundle.steD) ∈ flatC (Jvm.Cond.and given_1 narrow_1) := by decide +kernel
set_option maxRecDepth 100000 in
theorem st_ss : Cond.isRef (.static Bundle.tN "SUPPRESSED_SENTINEL" Bundle.listD) ∈ flatC (Jvm.Cond.and given_1 narrow_1) := by decide +kernel
set_option maxRecDepth 100000 in
theorem st_lu : Cond.laysStatic Bundle.tN "UNASSIGNED_STACK" Bundle.steD ∈ lw_tbl := by decide +kernel
set_option maxRecDepth 100000 in
theorem st_lsp : Cond.laysStatic Bundle.tN "SUPPRESSED_SENTINEL" Bundle.listD ∈ lw_tbl := by decide +kernel
set_option maxRecDepth 100000 in
theorem st_in : Cond.initialized Bundle.tN ∈ lw_tbl := by decide +kernel
set_option maxRecDepth 100000 in
theorem st_ca : ∀ a ∈ [1, 2, 3], Cond.castable (exn a) (exn a) ∈ lw_tbl := by decide +kernel
set_option maxRecDepth 100000 in
theorem st_nc : ∀ a ∈ [1, 2, 3], ∀ b ∈ [1, 2, 3], ¬ a = b → Cond.not (.castable (exn a) (exn b)) ∈ flatC (Jvm.Cond.and given_1 narrow_1) := by decide +kernel
set_option maxRecDepth 100000 in
theorem st_nw : ∀ w ∈ nwX8, isNest w = true ∧ w.onTables = true ∧ w ∈ lw_tbl := by decide +kernel
theorem st_EX {args : Array Value} {s : State} (hts : ∀ w ∈ lw_tbl, w.before args s = true) (hg : ∀ w ∈ flatC (Jvm.Cond.and given_1 narrow_1), w.before args s = true) : EX (fun q => s.heap.size ≤ q) s := by
  refine ⟨vx_Zqof (hts _ st_lu) (hts _ st_in) (hg _ st_us) (fun a h => Nat.not_le.mpr h), vx_Zqof (hts _ st_lsp) (hts _ st_in) (hg _ st_ss) (fun a h => Nat.not_le.mpr h), fun w hw => va_Nw.of (st_bxo w hw) (hts w (st_bx w hw)), fun q hq => ?_⟩
  obtain ⟨a, c, cell, k, q1, -⟩ := Cond.exactly_spec (args := args) (first := s) (o := none) (s := s) (idx := []) (t := .string RX8 q.1) (cls := "java/lang/String") (hg _ (st_strx q hq))
  exact ⟨a, vk_R.of (hts _ (st_str q hq)) q1⟩
theorem st_EXL {args : Array Value} {s : State} (hts : ∀ w ∈ lw_tbl, w.before args s = true) (hg : ∀ w ∈ flatC (Jvm.Cond.and given_1 narrow_1), w.before args s = true) : EXL s := by
  have hm : ∀ a : Nat, (a = 1 ∨ a = 2 ∨ a = 3) → a ∈ [1, 2, 3] := fun a h => by simpa using h
  exact ⟨fun a ha => va_Nw.of rfl (hts _ (st_ca a (hm a ha))), fun a b ha hb hab => va_Nc.of (hg _ (st_nc a (hm a ha) b (hm b hb) hab))⟩
theorem st_NW {args : Array Value} {s : State} (hts : ∀ w ∈ lw_tbl, w.before args s = true) : NestOk nwX8 s := fun w hw => ⟨(st_nw w hw).1, va_Nw.of (st_nw w hw).2.1 (hts w (st_nw w hw).2.2)⟩
theorem pm_law {α : Type} (A M : List α) (x y : α) : ((((([] : List α) ++ (A ++ [])) ++ (M ++ [])) ++ [x]) ++ [y]).Perm (x :: (A ++ (y :: M))) := by
  simp only [List.nil_append, List.append_nil]
  have h1 : (A ++ M ++ [x] ++ [y]).Perm (y :: (A ++ M ++ [x])) := List.perm_append_singleton y _
  have h2 : (A ++ M ++ [x]).Perm (x :: (A ++ M)) := List.perm_append_singleton x _
  have h3 : (x :: (A ++ y :: M)).Perm (x :: y :: (A ++ M)) := List.Perm.cons x List.perm_middle
  exact h1.trans ((List.Perm.cons y h2).trans ((List.Perm.swap x y _).trans h3.symm))
set_option maxHeartbeats 4000000 in
set_option maxRecDepth 100000 in
theorem st_known {args : Array Value} {s : State} (hts : ∀ w ∈ lw_tbl, w.before args s = true) : ∃ (dC : Nat → ClassId) (dI : Nat → Nat → Nat), ∀ (k : Nat) (q : vw_C), vwCl[k]? = some q → u_Kn s q.1 q.2.1 q.2.2 (dC k) (dI k) := by
  obtain ⟨c0, i0, k0⟩ := u_known (C := RX0) (T := TX0) (N := 2) (n := 2) hts inX0 (hts (.instantiable RX0 2) (by decide +kernel))
  obtain ⟨c1, i1, k1⟩ := u_known (C := RX2) (T := TX2) (N := 3) (n := 3) hts inX2 (hts (.instantiable RX2 3) (by decide +kernel))
  obtain ⟨c2, i2, k2⟩ := u_known (C := RX3) (T := TX3) (N := 6) (n := 6) hts inX3 (hts (.instantiable RX3 6) (by decide +kernel))
  obtain ⟨c3, i3, k3⟩ := u_known (C := RX4) (T := TX4) (N := 4) (n := 4) hts inX4 (hts (.instantiable RX4 4) (by decide +kernel))
  obtain ⟨c4, i4, k4⟩ := u_known (C := RX5) (T := TX5) (N := 8) (n := 8) hts inX5 (hts (.instantiable RX5 8) (by decide +kernel))
  obtain ⟨c5, i5, k5⟩ := u_known (C := RX6) (T := TX6) (N := 1) (n := 1) hts inX6 (hts (.instantiable RX6 1) (by decide +kernel))
  obtain ⟨c6, i6, k6⟩ := u_known (C := RX7) (T := TX7) (N := 4) (n := 4) hts inX7 (hts (.instantiable RX7 4) (by decide +kernel))
  obtain ⟨c7, i7, k7⟩ := u_known (C := RX8) (T := TX8) (N := 4) (n := 4) hts inX8 (hts (.instantiable RX8 4) (by decide +kernel))
  obtain ⟨c8, i8, k8⟩ := u_known (C := RX9) (T := TX9) (N := 24) (n := 24) hts inX9 (hts (.instantiable RX9 24) (by decide +kernel))
  refine ⟨fun k => match k with | 0 => c0 | 1 => c1 | 2 => c2 | 3 => c3 | 4 => c4 | 5 => c5 | 6 => c6 | 7 => c7 | _ => c8, fun k => match k with | 0 => i0 | 1 => i1 | 2 => i2 | 3 => i3 | 4 => i4 | 5 => i5 | 6 => i6 | 7 => i7 | _ => i8, ?_⟩
  intro k q hq
  match k, hq with
  | 0, hq => cases hq; exact k0
  | 1, hq => cases hq; exact k1
  | 2, hq => cases hq; exact k2
  | 3, hq => cases hq; exact k3
  | 4, hq => cases hq; exact k4
  | 5, hq => cases hq; exact k5
  | 6, hq => cases hq; exact k6
  | 7, hq => cases hq; exact k7
  | 8, hq => cases hq; exact k8
  | k + 9, hq => simp at hq
theorem st_K {s : State} {dC : Nat → ClassId} {dI : Nat → Nat → Nat} {cI cJ cD : ClassId} (hKc : ∀ (k : Nat) (q : vw_C), vwCl[k]? = some q → u_Kn s q.1 q.2.1 q.2.2 (dC k) (dI k)) (h1 : ArrOfT s cI .int ∧ va_RA s cI .int) (h2 : ArrOfT s cJ .long ∧ va_RA s cJ .long) (h3 : ArrOfT s cD .double ∧ va_RA s cD .double) : va_K (dC, dI) vwCl [(cI, .int), (cJ, .long), (cD, .double)] s := by
  refine ⟨hKc, fun k q hk => ?_⟩
  match k, hk with
  | 0, hk => cases hk; exact h1
  | 1, hk => cases hk; exact h2
  | 2, hk => cases hk; exact h3
  | k + 3, hk => simp at hk
def T00 : DS := mkD (rfi 8 zr 0) zr zr zr zr zr (rfi 8 zr 100) zr (rfi 8 zr 0) 0 zr zr zr zr zr zr zr 0
theorem inv_start (cI : ClassId) (uA uM : Nat → Nat) : InvW cI uA uM 0 (wApp cI uA zr 0 (rfi 8 zr 0) zr zr zr zr zr (rfi 8 zr 100) zr (rfi 8 zr 0) 0 zr zr zr zr zr zr zr 0 (rfi 8 zr 0) zr zr zr zr zr (rfi 8 zr 100) zr (rfi 8 zr 0) 0 zr zr zr zr zr zr zr 0 zr zr 0 0) (wMod cI uM (fun _ => 0) (fun _ => 0) (fun _ => 0) (fun _ => 0) (fun _ => 0) (lnF 8) (fun _ => 0) (fun _ => 0) (fun _ => 0) (fun _ => 0) (fun _ => 0) (fun _ => 0) (fun _ => 0) (fun _ => 0) (fun _ => 0) zr (fun _ => 0) (fun _ => 0) (fun _ => 0) zr 0 0 0 0) 0 :=
  ⟨zr, T00, T00, zr, zr, 0, 0, fun _ => S00, fun _ => 0, fun _ => 0, fun _ => 0, zr, rfl, rfl, rfl, fun j hj => absurd hj (Nat.not_lt_zero _), inv_00, rep_00 _ _ _ _ _ _ _ _ _ _ _ _ _ _ _ _, fun _ => Nat.zero_le _, fun _ => Nat.zero_le _, fun _ => Nat.zero_le _⟩
