/-! isCoveredAnew, strain -/
abbrev DS : Type := (Nat → Nat → Int32) × Int32 × Int32
def wDT (cI : ClassId) (ad : Nat → Nat) (T : DS) : va_W := wDesk cI ad (T.1 0) (T.1 1) (T.1 2) (T.1 3) (T.1 4) (T.1 5) (T.1 6) (T.1 7) (T.1 8) T.2.1 (T.1 9) (T.1 10) (T.1 11) (T.1 12) (T.1 13) (T.1 14) (T.1 15) T.2.2
section FRows
variable {X : XT} {k z : Nat} {ws : va_W} {pc : Nat} {lc : List (Nat × Value)} {st : List Value} {cc : ByteArray} {own : String} {Ts : List Cond} {d : Nat}
theorem V_fconst0 (o : OkX X cc own Ts d) (dg : decode cc pc = .ok (.fconst 0, 1)) (kk : V X k z ws (pc + 1) lc (.float FP.fconst0 :: st)) : V X k z ws pc lc st :=
  V_go o (fun _ _ _ _ _ _ _ _ _ _ _ _ _ _ _ _ _ hx hb _ K => lv_fconst0 hx hb dg K) kk
theorem V_fdiv (o : OkX X cc own Ts d) {x y : UInt32} (dg : decode cc pc = .ok (.fdiv, 1)) (hne : vf_n32 (FP.fdiv x y)) (kk : V X k z ws (pc + 1) lc (.float (FP.fdiv x y) :: st)) : V X k z ws pc lc (.float y :: .float x :: st) :=
  V_go o (fun _ _ _ _ _ _ _ _ _ _ _ _ _ _ _ _ _ hx hb _ K => lv_fdiv hx hb dg hne K) kk
theorem V_ldcf (o : OkX X cc own Ts d) {index : Nat} {v : UInt32} (hc : Cond.constantFloat own index v ∈ Ts) (dg : decode cc pc = .ok (.ldc index, 2)) (kk : V X k z ws (pc + 2) lc (.float v :: st)) : V X k z ws pc lc st := by
  obtain ⟨p, l, e, R, s, m, args, below, meth, c, D, tys, A, Q, n⟩ := X
  obtain ⟨hx, hb, -, hown, hts, -⟩ := o
  intro ls H locs hl hP hD hS
  exact lv_ldcf hx hb hown (hts _ hc) dg (kk ls H locs hl hP hD hS)
end FRows
def CXf (l : Launch) (y : MethodName) (w : List Cond) (d mc : Nat) (D : va_G) (tys : List (ClassId × FieldType)) (as : List Value) (ws : va_W) (th : Nat) (r : UInt32) (ws2 : va_W) : Prop :=
  l.stackTraces = false → ∀ sz : Nat, vx_Met l y w (rmd d mc (6 * mc)) (va_Pc as (PrX D tys sz ws)) (va_Qf (fun x (_ : Unit) => th = 0 ∧ x = r) (fun _ t => AtW D tys (va_A ws sz) ws2 t) (va_A ws sz)) (vx_X (fun _ : Unit => ¬ th = 0) (fun E _ t => E = exn th ∧ AtW D tys (va_A ws sz) ws t) (va_A ws sz)) mc (6 * mc) (va_A ws sz)
theorem CXf_of {l : Launch} {y : MethodName} {w w0 : List Cond} {cc : ByteArray} {maxL d mc th : Nat} {D : va_G} {tys : List (ClassId × FieldType)} {as : List Value} {ws ws2 : va_W} {r : UInt32}
    (hy : plainName y.cls = true) (hw : w = Cond.code y cc maxL (some .float) :: w0) (hlen : (lg_sl as).length ≤ maxL) (hy8 : y.cls = RX8) (hd6 : 6 ≤ d)
    (body : ∀ X : XT, XL X = l → XD X = D → XK X = tys → XN X = maxL → (XR X).cells = mc → (XR X).slots = 6 * mc → OkX X cc RX8 w d → OkE X →
      (∀ (pc : Nat) (lc : List (Nat × Value)) (v : UInt32), decode cc pc = .ok (.freturn, 1) → th = 0 → v = r → V X mc (6 * mc) ws2 pc lc [.float v]) →
      (∀ (k z pc : Nat) (lc : List (Nat × Value)) (st : List Value) (E : String), k ≤ mc → z ≤ 6 * mc → ¬ th = 0 → E = exn th → VX X k z ws pc lc st E) →
      V X 0 0 ws 0 (lv_args 0 as) []) :
    CXf l y w d mc D tys as ws th r ws2 := by
  intro hfl sz
  refine vx_ofW (cc := cc) (maxL := maxL) (ret := some .float) hy hw ?_
  intro p e s m args below meth c s₁ B hml hex hv
  obtain ⟨rfl, ⟨hsz, hP, hK, hD0⟩, hE⟩ := hv
  subst hsz
  have hlocks : meth.locks = false := B.notSynchronized
  have hx := B.exec
  have hb := B.bytes
  have hr := B.returns
  have hown : s.vm.findClass RX8 = some m.cls := by rw [← hy8]; exact findClass_of_methodNamed B.named
  have hts := atoms_spec (ws := w) B.pre
  rw [lg_entry_eq]
  refine body (p, l, e, (headSpec w (rmd d mc (6 * mc))).room, s, m, _, below, meth, c, D, tys, va_A ws s.heap.size, vx_MQ below (va_Qf (fun x (_ : Unit) => th = 0 ∧ x = r) (fun _ t => AtW D tys (va_A ws s.heap.size) ws2 t) (va_A ws s.heap.size)) (vx_X (fun _ : Unit => ¬ th = 0) (fun E _ t => E = exn th ∧ AtW D tys (va_A ws s.heap.size) ws t) (va_A ws s.heap.size)) _ s mc (6 * mc) (va_A ws s.heap.size), maxL) rfl rfl rfl rfl rfl rfl ⟨hx, hb, hml, hown, hts, hK, fun q h => Or.inr h, Nat.le_refl _, Nat.le_refl _⟩ ⟨hfl, hE⟩ ?_ ?_ _ s.heap [] (lv_entry as hlen) hP hD0.self va_S.rf
  · intro pc lc v dg h0 hp ls H locs hl hP1 hD1 hS
    exact vx_ret (W.fret hx hb hr (fun t ht hW => ⟨⟨v, (), rfl, ⟨h0, hp⟩, by rw [ht]; exact hP1, va_K.moved hW.alike hK, hD1⟩, hS.F ht⟩) hS.2.2 dg)
  · intro k z pc lc st E h1 h2 h3 h4 ls H locs q ce hl hP1 hD1 hS hc1 hc2 hc3
    exact vx_out (fun x hx => absurd (hex x hx) id) hlocks hc1 hc2 hc3 (fun t ht hW => ⟨(), h3, ⟨h4, by rw [ht]; exact hP1, va_K.moved hW hK, hD1⟩, hS.F ht⟩) hS.2.2 h1 h2
theorem ldfX8_strain : Cond.constantFloat RX8 165 3212836864 ∈ wsX8_strain := by decide +kernel
theorem hdX8_strain : yX8_strain.cls = RX8 ∧ yX8_strain.cls ≠ "java/lang/invoke/MethodHandle" ∧ yX8_strain.cls ≠ "java/lang/invoke/VarHandle" ∧ (parseMethodDescriptor yX8_strain.desc).map (fun d => d.parameters.length) = some 1 := by decide +kernel
theorem hiX8_strain_X8 : ∀ w ∈ wsX80, w ∈ wsX8_strain := by decide +kernel
theorem lkX8_strain_19 : Cond.fieldLink RX8 19 RX8 "desk" "LApprovalyard$Desk;" ∈ wsX8_strain := by decide +kernel
theorem hiX8_strain_X2 : ∀ w ∈ wsX20, w ∈ wsX8_strain := by decide +kernel
theorem lkX8_strain_97 : Cond.fieldLink RX8 97 RX2 "requests" "LApprovalyard$Requests;" ∈ wsX8_strain := by decide +kernel
theorem lkX8_strain_166 : Cond.fieldLink RX8 166 RX2 "people" "LApprovalyard$People;" ∈ wsX8_strain := by decide +kernel
set_option maxHeartbeats 4000000 in
set_option maxRecDepth 100000 in
theorem cX8_strain_met (l : Launch) (D : va_G) (tys : List (ClassId × FieldType)) (cI : ClassId) (ht : tys[0]? = some (cI, .int)) (ad : Nat → Nat) (B0 : Nat → Int32) (P0 P1 P2 P3 P4 P5 : Nat → Int32) (L0 L1 L2 : Nat → Int32) (dy : Int32) (Q0 Q1 Q2 Q3 Q4 Q5 Q6 : Nat → Int32) (nm : Int32) (P'0 P'1 P'2 P'3 P'4 P'5 : Nat → Int32) (L'0 L'1 L'2 : Nat → Int32) (dy2 : Int32) (Q'0 Q'1 Q'2 Q'3 Q'4 Q'5 Q'6 : Nat → Int32) (nm2 : Int32) (O0 O1 : Nat → Int32) (on : Int32) (oc : Int32) (q : Int32) (n : Nat) (hn9 : n < 512) : CXf l yX8_strain wsX8_strain 14 1 D tys [.ref (ad 0), .int q] (wApp cI ad B0 (nI n) P0 P1 P2 P3 P4 P5 L0 L1 L2 dy Q0 Q1 Q2 Q3 Q4 Q5 Q6 nm (P'0) (P'1) (P'2) (P'3) (P'4) (P'5) (L'0) (L'1) (L'2) dy2 (Q'0) (Q'1) (Q'2) (Q'3) (Q'4) (Q'5) (Q'6) nm2 O0 O1 on oc) (if (if q < 0 then 1 else (if q < nm then 0 else 1)) = 0 then 0 else if q < 0 then 1 else (if q < nm then 0 else 1)) (strF (rat 30 Q3 q) (rat 30 Q5 q) (glN L0 L2 dy (rat 30 Q0 q) (rat 30 Q5 q) 8)) (wApp cI ad B0 (nI n) P0 P1 P2 P3 P4 P5 L0 L1 L2 dy Q0 Q1 Q2 Q3 Q4 Q5 Q6 nm (P'0) (P'1) (P'2) (P'3) (P'4) (P'5) (L'0) (L'1) (L'2) dy2 (Q'0) (Q'1) (Q'2) (Q'3) (Q'4) (Q'5) (Q'6) nm2 O0 O1 on oc) := by
  refine CXf_of (maxL := 4) (cc := cX8_strain) (y := yX8_strain) rfl rfl (Nat.le_of_ble_eq_true rfl) rfl (by decide) (fun X hl hD hk hn hcz hsz o xo fin out => ?_)
  subst hl; subst hD; subst hk
  refine V_aload_n (pc := 0) o dX8_strain_0 rfl ?_
  refine V_iload_n (pc := 1) o dX8_strain_1 rfl ?_
  refine V_xVv (pc := 2) o xo (cX8_checkRequest_met _ _ _ cI ht ad B0 (nI n) P0 P1 P2 P3 P4 P5 L0 L1 L2 dy Q0 Q1 Q2 Q3 Q4 Q5 Q6 nm (P'0) (P'1) (P'2) (P'3) (P'4) (P'5) (L'0) (L'1) (L'2) dy2 (Q'0) (Q'1) (Q'2) (Q'3) (Q'4) (Q'5) (Q'6) nm2 O0 O1 on oc q) 0 81 gX8_strain_X8_checkRequest rfl hdX8_checkRequest ⟨by omega, by decide⟩ rfl rfl rfl (Nat.le_of_ble_eq_true rfl) ⟨by rw [hcz]; omega, by rw [hsz]; omega⟩ dX8_strain_2 rfl (fun t2 => out _ _ _ _ _ _ (by omega) (by omega) (by rw [if_neg t2]; exact t2) (by rw [if_neg t2])) (fun t2 => ?_)
  refine V_aload_n (pc := 5) o dX8_strain_5 rfl ?_
  refine V_get (pc := 6) o 0 1 hiX8_strain_X8 rfl rfl (by decide) lkX8_strain_19 rfl rfl dX8_strain_6 ?_
  refine V_get (pc := 9) o 4 2 hiX8_strain_X2 rfl rfl (by decide) lkX8_strain_97 rfl rfl dX8_strain_9 ?_
  refine V_iload_n (pc := 12) o dX8_strain_12 rfl ?_
  refine V_rVi (pc := 13) o (cX5_stateOf_met _ _ _ cI ht (fun k => ad (25 + k)) Q0 Q1 Q2 Q3 Q4 Q5 Q6 nm q) 25 15 gX8_strain_X5_stateOf rfl hdX5_stateOf ⟨by omega, by decide⟩ rfl rfl rfl (Nat.le_of_ble_eq_true rfl) dX8_strain_13 rfl ?_ ⟨by rw [hcz]; omega, by rw [hsz]; omega⟩
  refine V_if_ne (pc := 16) o 22 dX8_strain_16 (by decide) (fun c16 => ?_) (fun c16 => ?_)
  · refine V_aload_n (pc := 22) o dX8_strain_22 rfl ?_
    refine V_get (pc := 23) o 0 1 hiX8_strain_X8 rfl rfl (by decide) lkX8_strain_19 rfl rfl dX8_strain_23 ?_
    refine V_get (pc := 26) o 4 2 hiX8_strain_X2 rfl rfl (by decide) lkX8_strain_97 rfl rfl dX8_strain_26 ?_
    refine V_iload_n (pc := 29) o dX8_strain_29 rfl ?_
    refine V_rVi (pc := 30) o (cX5_costOf_met _ _ _ cI ht (fun k => ad (25 + k)) Q0 Q1 Q2 Q3 Q4 Q5 Q6 nm q) 25 15 gX8_strain_X5_costOf rfl hdX5_costOf ⟨by omega, by decide⟩ rfl rfl rfl (Nat.le_of_ble_eq_true rfl) dX8_strain_30 rfl ?_ ⟨by rw [hcz]; omega, by rw [hsz]; omega⟩
    refine V_istore_n (pc := 33) o dX8_strain_33 (by rw [hn]; decide) ?_
    refine V_aload_n (pc := 34) o dX8_strain_34 rfl ?_
    refine V_get (pc := 35) o 0 1 hiX8_strain_X8 rfl rfl (by decide) lkX8_strain_19 rfl rfl dX8_strain_35 ?_
    refine V_get (pc := 38) o 4 1 hiX8_strain_X2 rfl rfl (by decide) lkX8_strain_166 rfl rfl dX8_strain_38 ?_
    refine V_aload_n (pc := 41) o dX8_strain_41 rfl ?_
    refine V_get (pc := 42) o 0 1 hiX8_strain_X8 rfl rfl (by decide) lkX8_strain_19 rfl rfl dX8_strain_42 ?_
    refine V_get (pc := 45) o 4 2 hiX8_strain_X2 rfl rfl (by decide) lkX8_strain_97 rfl rfl dX8_strain_45 ?_
    refine V_iload_n (pc := 48) o dX8_strain_48 rfl ?_
    refine V_rVi (pc := 49) o (cX5_personOf_met _ _ _ cI ht (fun k => ad (25 + k)) Q0 Q1 Q2 Q3 Q4 Q5 Q6 nm q) 25 15 gX8_strain_X5_personOf rfl hdX5_personOf ⟨by omega, by decide⟩ rfl rfl rfl (Nat.le_of_ble_eq_true rfl) dX8_strain_49 rfl ?_ ⟨by rw [hcz]; omega, by rw [hsz]; omega⟩
    refine V_iload_n (pc := 52) o dX8_strain_52 rfl ?_
    refine V_rVi (pc := 53) o (cX4_greatestLimit_met _ _ _ cI ht (fun k => ad (18 + k)) L0 L1 L2 dy (rat 30 Q0 q) (rat 30 Q5 q)) 18 7 gX8_strain_X4_greatestLimit rfl hdX4_greatestLimit ⟨by omega, by decide⟩ rfl rfl rfl (Nat.le_of_ble_eq_true rfl) dX8_strain_53 rfl ?_ ⟨by rw [hcz]; omega, by rw [hsz]; omega⟩
    refine V_istore_n (pc := 56) o dX8_strain_56 (by rw [hn]; decide) ?_
    refine V_iload_n (pc := 57) o dX8_strain_57 rfl ?_
    refine V_iconst (pc := 58) o (-1) dX8_strain_58 (by decide) ?_
    refine V_icmp_ne (pc := 59) o 65 dX8_strain_59 (by decide) (fun c59 => ?_) (fun c59 => ?_)
    · refine V_iload_n (pc := 65) o dX8_strain_65 rfl ?_
      refine V_if_ne (pc := 66) o 73 dX8_strain_66 (by decide) (fun c66 => ?_) (fun c66 => ?_)
      · refine V_iload_n (pc := 73) o dX8_strain_73 rfl ?_
        refine V_i2f (pc := 74) o dX8_strain_74 ?_
        refine V_iload_n (pc := 75) o dX8_strain_75 rfl ?_
        refine V_i2f (pc := 76) o dX8_strain_76 ?_
        refine V_fdiv (pc := 77) o dX8_strain_77 (fdv_ok _ (by assumption)) ?_
        exact V_widen (by omega) (by omega) (fin 78 _ _ dX8_strain_78 (by rw [if_pos t2]) (by unfold strF; first | (rw [if_pos (by assumption)]; done) | (rw [if_neg (by assumption), if_pos (by assumption)]; done) | (rw [if_neg (by assumption), if_neg (by assumption), if_pos (by assumption)]; done) | (rw [if_neg (by assumption), if_neg (by assumption), if_neg (by assumption)]; done)))
      · refine V_fconst0 (pc := 69) o dX8_strain_69 ?_
        refine V_goto (pc := 70) o 78 dX8_strain_70 (by decide) ?_
        exact V_widen (by omega) (by omega) (fin 78 _ _ dX8_strain_78 (by rw [if_pos t2]) (by unfold strF; first | (rw [if_pos (by assumption)]; done) | (rw [if_neg (by assumption), if_pos (by assumption)]; done) | (rw [if_neg (by assumption), if_neg (by assumption), if_pos (by assumption)]; done) | (rw [if_neg (by assumption), if_neg (by assumption), if_neg (by assumption)]; done)))
    · refine V_ldcf (pc := 62) o ldfX8_strain dX8_strain_62 ?_
      exact V_widen (by omega) (by omega) (fin 64 _ _ dX8_strain_64 (by rw [if_pos t2]) (by unfold strF; first | (rw [if_pos (by assumption)]; done) | (rw [if_neg (by assumption), if_pos (by assumption)]; done) | (rw [if_neg (by assumption), if_neg (by assumption), if_pos (by assumption)]; done) | (rw [if_neg (by assumption), if_neg (by assumption), if_neg (by assumption)]; done)))
  · refine V_ldcf (pc := 19) o ldfX8_strain dX8_strain_19 ?_
    exact V_widen (by omega) (by omega) (fin 21 _ _ dX8_strain_21 (by rw [if_pos t2]) (by unfold strF; first | (rw [if_pos (by assumption)]; done) | (rw [if_neg (by assumption), if_pos (by assumption)]; done) | (rw [if_neg (by assumption), if_neg (by assumption), if_pos (by assumption)]; done) | (rw [if_neg (by assumption), if_neg (by assumption), if_neg (by assumption)]; done)))
theorem hiX8_isCoveredAnew_X8 : ∀ w ∈ wsX80, w ∈ wsX8_isCoveredAnew := by decide +kernel
theorem lkX8_isCoveredAnew_23 : Cond.fieldLink RX8 23 RX8 "deskAnew" "LApprovalyard$Desk;" ∈ wsX8_isCoveredAnew := by decide +kernel
theorem lkX8_isCoveredAnew_10 : Cond.fieldLink RX8 10 RX8 "book" "LApprovalyard$Book;" ∈ wsX8_isCoveredAnew := by decide +kernel
set_option maxHeartbeats 4000000 in
set_option maxRecDepth 100000 in
theorem lpX8_isCoveredAnew {X : XT} (o : OkX X cX8_isCoveredAnew RX8 wsX8_isCoveredAnew 14) (hn : XN X = 4) (hcz : (XR X).cells = 1) (hsz : (XR X).slots = 6 * 1) (cI : ClassId) (ht : (XK X)[0]? = some (cI, .int)) (ad : Nat → Nat) (B0 : Nat → Int32) (P0 P1 P2 P3 P4 P5 : Nat → Int32) (L0 L1 L2 : Nat → Int32) (dy : Int32) (Q0 Q1 Q2 Q3 Q4 Q5 Q6 : Nat → Int32) (nm : Int32) (O0 O1 : Nat → Int32) (on : Int32) (oc : Int32) (q : Int32) (n : Nat) (hn9 : n < 512) (T : Nat → DS) (hA : ∀ j : Nat, j < n → ∃ r : Int32, CId (XL X) yX2_apply wsX2_apply 5 (XD X) (XK X) [.ref (ad 40), .ref (ad 1), .int (nI j)] (wDT cI (fun k => ad (40 + k)) (T j) ++ wBook cI (fun k => ad (1 + k)) B0 (nI n)) r (wDT cI (fun k => ad (40 + k)) (T (j + 1)) ++ wBook cI (fun k => ad (1 + k)) B0 (nI n))) (kk : V X (0 + 1) (0 + 6 * 1) (wApp cI ad B0 (nI n) P0 P1 P2 P3 P4 P5 L0 L1 L2 dy Q0 Q1 Q2 Q3 Q4 Q5 Q6 nm ((T n).1 0) ((T n).1 1) ((T n).1 2) ((T n).1 3) ((T n).1 4) ((T n).1 5) ((T n).1 6) ((T n).1 7) ((T n).1 8) ((T n).2.1) ((T n).1 9) ((T n).1 10) ((T n).1 11) ((T n).1 12) ((T n).1 13) ((T n).1 14) ((T n).1 15) ((T n).2.2) O0 O1 on oc) 46 [(0, .ref (ad 0)), (1, .int q), (2, .int (nI n)), (3, .int (nI n))] []) : ∀ (m j : Nat), n - j < m → j ≤ n → V X (0 + 1) (0 + 6 * 1) (wApp cI ad B0 (nI n) P0 P1 P2 P3 P4 P5 L0 L1 L2 dy Q0 Q1 Q2 Q3 Q4 Q5 Q6 nm ((T j).1 0) ((T j).1 1) ((T j).1 2) ((T j).1 3) ((T j).1 4) ((T j).1 5) ((T j).1 6) ((T j).1 7) ((T j).1 8) ((T j).2.1) ((T j).1 9) ((T j).1 10) ((T j).1 11) ((T j).1 12) ((T j).1 13) ((T j).1 14) ((T j).1 15) ((T j).2.2) O0 O1 on oc) 22 [(0, .ref (ad 0)), (1, .int q), (2, .int (nI n)), (3, .int (nI j))] [] := by
  intro m
  induction m with
  | zero => intro j h1; exact absurd h1 (Nat.not_lt_zero _)
  | succ m ih =>
    intro j h1 h2
    refine V_iload_n (pc := 22) o dX8_isCoveredAnew_22 rfl ?_
    refine V_iload_n (pc := 23) o dX8_isCoveredAnew_23 rfl ?_
    refine V_icmp_ge (pc := 24) o 46 dX8_isCoveredAnew_24 (by decide) (fun c24 => ?_) (fun c24 => ?_)
    · have e1 : j = n := Nat.le_antisymm h2 (le_of_nI c24)
      rw [e1]
      exact kk
    · have q1 : j < n := lt_of_nI c24
      refine V_aload_n (pc := 27) o dX8_isCoveredAnew_27 rfl ?_
      refine V_get (pc := 28) o 0 2 hiX8_isCoveredAnew_X8 rfl rfl (by decide) lkX8_isCoveredAnew_23 rfl rfl dX8_isCoveredAnew_28 ?_
      refine V_aload_n (pc := 31) o dX8_isCoveredAnew_31 rfl ?_
      refine V_get (pc := 32) o 0 0 hiX8_isCoveredAnew_X8 rfl rfl (by decide) lkX8_isCoveredAnew_10 rfl rfl dX8_isCoveredAnew_32 ?_
      refine V_iload_n (pc := 35) o dX8_isCoveredAnew_35 rfl ?_
      obtain ⟨r9, hr9⟩ := hA j q1
      refine V_wVp (pc := 36) o hr9 _ (wApp cI ad B0 (nI n) P0 P1 P2 P3 P4 P5 L0 L1 L2 dy Q0 Q1 Q2 Q3 Q4 Q5 Q6 nm ((T (j + 1)).1 0) ((T (j + 1)).1 1) ((T (j + 1)).1 2) ((T (j + 1)).1 3) ((T (j + 1)).1 4) ((T (j + 1)).1 5) ((T (j + 1)).1 6) ((T (j + 1)).1 7) ((T (j + 1)).1 8) ((T (j + 1)).2.1) ((T (j + 1)).1 9) ((T (j + 1)).1 10) ((T (j + 1)).1 11) ((T (j + 1)).1 12) ((T (j + 1)).1 13) ((T (j + 1)).1 14) ((T (j + 1)).1 15) ((T (j + 1)).2.2) O0 O1 on oc) gX8_isCoveredAnew_X2_apply rfl hdX2_apply ⟨by omega, by decide⟩ rfl rfl rfl (Nat.le_of_ble_eq_true rfl) dX8_isCoveredAnew_36 (pm_2 _ _ _ _ _) (pm_2 _ _ _ _ _) ?_ ⟨by rw [hcz]; omega, by rw [hsz]; omega⟩
      refine V_pop (pc := 39) o rfl dX8_isCoveredAnew_39 ?_
      refine V_iinc (pc := 40) o 1 dX8_isCoveredAnew_40 (by rw [hn]; decide) rfl (by decide) ?_
      refine V_goto (pc := 43) o 22 dX8_isCoveredAnew_43 (by decide) ?_
      exact V_sub (lc2 := [(0, .ref (ad 0)), (1, .int q), (2, .int (nI n)), (3, .int (nI (j + 1)))]) ⟨rfl, rfl, rfl, lc_e (nI_1 j), trivial⟩ (ih (j + 1) (by omega) (by omega))
theorem covI_n (c n : Int32) : narrow .boolean (.int (covI c n)) = .int (covI c n) := by
  unfold covI; split <;> split <;> rfl
theorem wApp_desk2 {cI : ClassId} {ad : Nat → Nat} {B0 : Nat → Int32} {bn : Int32} {P0 P1 P2 P3 P4 P5 L0 L1 L2 : Nat → Int32} {dy : Int32} {Q0 Q1 Q2 Q3 Q4 Q5 Q6 : Nat → Int32} {nm : Int32} {P'0 P'1 P'2 P'3 P'4 P'5 L'0 L'1 L'2 : Nat → Int32} {dy2 : Int32} {Q'0 Q'1 Q'2 Q'3 Q'4 Q'5 Q'6 : Nat → Int32} {nm2 : Int32} {O0 O1 : Nat → Int32} {on oc : Int32} {T : DS}
    (h : wDesk cI (fun k => ad (40 + k)) P'0 P'1 P'2 P'3 P'4 P'5 L'0 L'1 L'2 dy2 Q'0 Q'1 Q'2 Q'3 Q'4 Q'5 Q'6 nm2 = wDT cI (fun k => ad (40 + k)) T) :
    wApp cI ad B0 bn P0 P1 P2 P3 P4 P5 L0 L1 L2 dy Q0 Q1 Q2 Q3 Q4 Q5 Q6 nm P'0 P'1 P'2 P'3 P'4 P'5 L'0 L'1 L'2 dy2 Q'0 Q'1 Q'2 Q'3 Q'4 Q'5 Q'6 nm2 O0 O1 on oc = wApp cI ad B0 bn P0 P1 P2 P3 P4 P5 L0 L1 L2 dy Q0 Q1 Q2 Q3 Q4 Q5 Q6 nm (T.1 0) (T.1 1) (T.1 2) (T.1 3) (T.1 4) (T.1 5) (T.1 6) (T.1 7) (T.1 8) T.2.1 (T.1 9) (T.1 10) (T.1 11) (T.1 12) (T.1 13) (T.1 14) (T.1 15) T.2.2 O0 O1 on oc := by
  unfold wApp
  rw [h]
  rfl
theorem hdX8_isCoveredAnew : yX8_isCoveredAnew.cls = RX8 ∧ yX8_isCoveredAnew.cls ≠ "java/lang/invoke/MethodHandle" ∧ yX8_isCoveredAnew.cls ≠ "java/lang/invoke/VarHandle" ∧ (parseMethodDescriptor yX8_isCoveredAnew.desc).map (fun d => d.parameters.length) = some 1 := by decide +kernel
set_option maxHeartbeats 4000000 in
set_option maxRecDepth 100000 in
theorem cX8_isCoveredAnew_met (l : Launch) (D : va_G) (tys : List (ClassId × FieldType)) (cI : ClassId) (ht : tys[0]? = some (cI, .int)) (ad : Nat → Nat) (B0 : Nat → Int32) (P0 P1 P2 P3 P4 P5 : Nat → Int32) (L0 L1 L2 : Nat → Int32) (dy : Int32) (Q0 Q1 Q2 Q3 Q4 Q5 Q6 : Nat → Int32) (nm : Int32) (P'0 P'1 P'2 P'3 P'4 P'5 : Nat → Int32) (L'0 L'1 L'2 : Nat → Int32) (dy2 : Int32) (Q'0 Q'1 Q'2 Q'3 Q'4 Q'5 Q'6 : Nat → Int32) (nm2 : Int32) (O0 O1 : Nat → Int32) (on : Int32) (oc : Int32) (q : Int32) (n : Nat) (hn9 : n < 512) (T : Nat → DS) (h0 : wDesk cI (fun k => ad (40 + k)) (rfi 8 P'0 0) (P'1) (P'2) (P'3) (P'4) (P'5) (rfi 8 L'0 100) (L'1) (rfi 8 L'2 0) 0 (Q'0) (Q'1) (Q'2) (Q'3) (Q'4) (Q'5) (Q'6) 0 = wDT cI (fun k => ad (40 + k)) (T 0)) (hA : ∀ j : Nat, j < n → ∃ r : Int32, CId l yX2_apply wsX2_apply 5 D tys [.ref (ad 40), .ref (ad 1), .int (nI j)] (wDT cI (fun k => ad (40 + k)) (T j) ++ wBook cI (fun k => ad (1 + k)) B0 (nI n)) r (wDT cI (fun k => ad (40 + k)) (T (j + 1)) ++ wBook cI (fun k => ad (1 + k)) B0 (nI n))) : CXi l yX8_isCoveredAnew wsX8_isCoveredAnew 14 1 D tys [.ref (ad 0), .int q] (wApp cI ad B0 (nI n) P0 P1 P2 P3 P4 P5 L0 L1 L2 dy Q0 Q1 Q2 Q3 Q4 Q5 Q6 nm (P'0) (P'1) (P'2) (P'3) (P'4) (P'5) (L'0) (L'1) (L'2) dy2 (Q'0) (Q'1) (Q'2) (Q'3) (Q'4) (Q'5) (Q'6) nm2 O0 O1 on oc) (if (if q < 0 then 1 else (if q < nm then 0 else 1)) = 0 then 0 else if q < 0 then 1 else (if q < nm then 0 else 1)) (covI (rat 30 ((T n).1 14) q) (apN ((T n).1 15) q (T n).2.1 8)) (wApp cI ad B0 (nI n) P0 P1 P2 P3 P4 P5 L0 L1 L2 dy Q0 Q1 Q2 Q3 Q4 Q5 Q6 nm ((T n).1 0) ((T n).1 1) ((T n).1 2) ((T n).1 3) ((T n).1 4) ((T n).1 5) ((T n).1 6) ((T n).1 7) ((T n).1 8) ((T n).2.1) ((T n).1 9) ((T n).1 10) ((T n).1 11) ((T n).1 12) ((T n).1 13) ((T n).1 14) ((T n).1 15) ((T n).2.2) O0 O1 on oc) := by
  have hb9 : nI n < 512 := nI_lt (b := 512) (by omega) (by decide)
  refine CXi_of (maxL := 4) (cc := cX8_isCoveredAnew) (y := yX8_isCoveredAnew) rfl rfl (Nat.le_of_ble_eq_true rfl) rfl (by decide) (fun X hl hD hk hn hcz hsz o xo fin out thr => ?_)
  subst hl; subst hD; subst hk
  refine V_aload_n (pc := 0) o dX8_isCoveredAnew_0 rfl ?_
  refine V_iload_n (pc := 1) o dX8_isCoveredAnew_1 rfl ?_
  refine V_xVv (pc := 2) o xo (cX8_checkRequest_met _ _ _ cI ht ad B0 (nI n) P0 P1 P2 P3 P4 P5 L0 L1 L2 dy Q0 Q1 Q2 Q3 Q4 Q5 Q6 nm (P'0) (P'1) (P'2) (P'3) (P'4) (P'5) (L'0) (L'1) (L'2) dy2 (Q'0) (Q'1) (Q'2) (Q'3) (Q'4) (Q'5) (Q'6) nm2 O0 O1 on oc q) 0 81 gX8_isCoveredAnew_X8_checkRequest rfl hdX8_checkRequest ⟨by omega, by decide⟩ rfl rfl rfl (Nat.le_of_ble_eq_true rfl) ⟨by rw [hcz]; omega, by rw [hsz]; omega⟩ dX8_isCoveredAnew_2 rfl (fun t2 => out _ _ _ _ _ _ (by omega) (by omega) (by rw [if_neg t2]; exact t2) (by rw [if_neg t2])) (fun t2 => ?_)
  refine V_aload_n (pc := 5) o dX8_isCoveredAnew_5 rfl ?_
  refine V_get (pc := 6) o 0 0 hiX8_isCoveredAnew_X8 rfl rfl (by decide) lkX8_isCoveredAnew_10 rfl rfl dX8_isCoveredAnew_6 ?_
  refine V_rVi (pc := 9) o (cX0_count_met _ _ _ cI ht (fun k => ad (1 + k)) B0 (nI n) ) 1 3 gX8_isCoveredAnew_X0_count rfl hdX0_count ⟨by omega, by decide⟩ rfl rfl rfl (Nat.le_of_ble_eq_true rfl) dX8_isCoveredAnew_9 rfl ?_ ⟨by rw [hcz]; omega, by rw [hsz]; omega⟩
  refine V_istore_n (pc := 12) o dX8_isCoveredAnew_12 (by rw [hn]; decide) ?_
  refine V_aload_n (pc := 13) o dX8_isCoveredAnew_13 rfl ?_
  refine V_get (pc := 14) o 0 2 hiX8_isCoveredAnew_X8 rfl rfl (by decide) lkX8_isCoveredAnew_23 rfl rfl dX8_isCoveredAnew_14 ?_
  refine V_wVv (pc := 17) o (cX2_clear_met _ _ _ cI ht (fun k => ad (40 + k)) (P'0) (P'1) (P'2) (P'3) (P'4) (P'5) (L'0) (L'1) (L'2) dy2 (Q'0) (Q'1) (Q'2) (Q'3) (Q'4) (Q'5) (Q'6) nm2 ) 40 36 (wApp cI ad B0 (nI n) P0 P1 P2 P3 P4 P5 L0 L1 L2 dy Q0 Q1 Q2 Q3 Q4 Q5 Q6 nm (rfi 8 (P'0) 0) (P'1) (P'2) (P'3) (P'4) (P'5) (rfi 8 (L'0) 100) (L'1) (rfi 8 (L'2) 0) 0 (Q'0) (Q'1) (Q'2) (Q'3) (Q'4) (Q'5) (Q'6) 0 O0 O1 on oc) gX8_isCoveredAnew_X2_clear rfl hdX2_clear ⟨by omega, by decide⟩ rfl rfl rfl (Nat.le_of_ble_eq_true rfl) dX8_isCoveredAnew_17 rfl rfl ?_ ⟨by rw [hcz]; omega, by rw [hsz]; omega⟩
  refine V_iconst (pc := 20) o 0 dX8_isCoveredAnew_20 (by decide) ?_
  refine V_istore_n (pc := 21) o dX8_isCoveredAnew_21 (by rw [hn]; decide) ?_
  refine V_eq (ws2 := wApp cI ad B0 (nI n) P0 P1 P2 P3 P4 P5 L0 L1 L2 dy Q0 Q1 Q2 Q3 Q4 Q5 Q6 nm ((T 0).1 0) ((T 0).1 1) ((T 0).1 2) ((T 0).1 3) ((T 0).1 4) ((T 0).1 5) ((T 0).1 6) ((T 0).1 7) ((T 0).1 8) ((T 0).2.1) ((T 0).1 9) ((T 0).1 10) ((T 0).1 11) ((T 0).1 12) ((T 0).1 13) ((T 0).1 14) ((T 0).1 15) ((T 0).2.2) O0 O1 on oc) (wApp_desk2 h0) rfl ?_
  refine V_sub (lc2 := [(0, .ref (ad 0)), (1, .int q), (2, .int (nI n)), (3, .int (nI 0))]) ⟨rfl, rfl, rfl, rfl, trivial⟩ ?_
  refine lpX8_isCoveredAnew o hn hcz hsz cI ht ad B0 P0 P1 P2 P3 P4 P5 L0 L1 L2 dy Q0 Q1 Q2 Q3 Q4 Q5 Q6 nm O0 O1 on oc q n hn9 T hA ?_ (n + 1) 0 (by omega) (by omega)
  refine V_aload_n (pc := 46) o dX8_isCoveredAnew_46 rfl ?_
  refine V_get (pc := 47) o 0 2 hiX8_isCoveredAnew_X8 rfl rfl (by decide) lkX8_isCoveredAnew_23 rfl rfl dX8_isCoveredAnew_47 ?_
  refine V_iload_n (pc := 50) o dX8_isCoveredAnew_50 rfl ?_
  refine V_rVi (pc := 51) o (cX2_isCovered_met _ _ _ cI ht (fun k => ad (40 + k)) ((T n).1 0) ((T n).1 1) ((T n).1 2) ((T n).1 3) ((T n).1 4) ((T n).1 5) ((T n).1 6) ((T n).1 7) ((T n).1 8) ((T n).2.1) ((T n).1 9) ((T n).1 10) ((T n).1 11) ((T n).1 12) ((T n).1 13) ((T n).1 14) ((T n).1 15) ((T n).2.2) q) 40 36 gX8_isCoveredAnew_X2_isCovered rfl hdX2_isCovered ⟨by omega, by decide⟩ rfl rfl rfl (Nat.le_of_ble_eq_true rfl) dX8_isCoveredAnew_51 rfl ?_ ⟨by rw [hcz]; omega, by rw [hsz]; omega⟩
  exact V_widen (by omega) (by omega) (fin 54 _ _ dX8_isCoveredAnew_54 (covI_n _ _) (by rw [if_pos t2]) rfl)
