/-! Approvalyard: the checks; the book's writing; what is told. -/
theorem V_wVp {X : XT} {k z : Nat} {ws : va_W} {pc : Nat} {lc : List (Nat × Value)} {st : List Value} {cc : ByteArray} {own : String} {Ts : List Cond} {d : Nat} (o : OkX X cc own Ts d) {C : String} {y : MethodName} {w w0 : List Cond} {bytes : ByteArray} {maxL index d2 b ci N : Nat} {ret : Option FieldType} {as rest fs : List Value} {T : u_T} {wc wc2 : va_W} {r : Int32}
    (hM : CId (XL X) y w d2 (XD X) (XK X) (.ref b :: as) wc r wc2) (w2 ws9 : va_W)
    (hG : GoodIn Ts (wsV own index C y w)) (hw : w = Cond.code y bytes maxL ret :: w0)
    (hd : y.cls = C ∧ y.cls ≠ "java/lang/invoke/MethodHandle" ∧ y.cls ≠ "java/lang/invoke/VarHandle" ∧ (parseMethodDescriptor y.desc).map (fun d => d.parameters.length) = some as.length)
    (hdd : d2 + 1 ≤ d ∧ maxL ≤ 21) (he : wc[0]? = some (b, .inr (ci, fs))) (hc : vwCl[ci]? = some (C, T, N))
    (hst : st = as.reverse ++ .ref b :: rest) (hcat : (rest.map fun v => v.category).sum ≤ 8)
    (dg : decode cc pc = .ok (.invokevirtual index, 3)) (hp : ws.Perm (wc ++ w2)) (hp9 : ws9.Perm (wc2 ++ w2))
    (kk : V X k z ws9 (pc + 3) lc (.int r :: rest)) (hcs : k ≤ (XR X).cells ∧ z ≤ (XR X).slots := by exact ⟨Nat.zero_le _, Nat.zero_le _⟩) : V X k z ws pc lc st :=
  V_perm hp (V_callVi o hM [] w2 hG hw hd hdd he hc hst hcat hcs dg rfl (fun r2 _ h => by subst h; exact V_perm hp9.symm kk))
theorem pm_1 {α : Type} (x : α) (b d r : List α) : (x :: (b ++ (d ++ r))).Perm ((d ++ b) ++ (x :: r)) := by
  refine List.Perm.trans (List.Perm.cons x ?_) List.perm_middle.symm
  rw [← List.append_assoc]
  exact List.Perm.append_right r List.perm_append_comm
theorem pm_2 {α : Type} (x : α) (b d e r : List α) : (x :: (b ++ (d ++ (e ++ r)))).Perm ((e ++ b) ++ (x :: (d ++ r))) := by
  refine List.Perm.trans (List.Perm.cons x ?_) List.perm_middle.symm
  have h : (d ++ (e ++ r)).Perm (e ++ (d ++ r)) := by
    rw [← List.append_assoc, ← List.append_assoc]
    exact List.Perm.append_right r List.perm_append_comm
  refine (List.Perm.append_left b h).trans ?_
  rw [← List.append_assoc]
  exact List.Perm.append_right _ List.perm_append_comm
theorem pm_3 {α : Type} (x y : α) (b p q e s : List α) : (x :: (b ++ ((y :: (p ++ q)) ++ (e ++ s)))).Perm ((s ++ p) ++ (x :: (y :: (b ++ (q ++ e))))) := by
  refine List.Perm.trans (List.Perm.cons x ?_) List.perm_middle.symm
  refine List.Perm.trans ?_ List.perm_middle.symm
  rw [List.cons_append]
  refine List.Perm.trans List.perm_middle (List.Perm.cons y ?_)
  have h1 : (p ++ q ++ (e ++ s)).Perm ((s ++ p) ++ (q ++ e)) := by
    refine List.perm_append_comm.trans ?_
    rw [List.append_assoc]
    refine (List.perm_append_comm (l₁ := e)).trans ?_
    simp only [List.append_assoc]
    exact List.Perm.refl _
  refine (List.Perm.append_left b h1).trans ?_
  rw [← List.append_assoc]
  refine (List.Perm.append_right _ List.perm_append_comm).trans ?_
  rw [List.append_assoc]
def bwr (B0 : Nat → Int32) (bn k a b c d e : Int32) : Nat → Int32 := rup 3072 (rup 3072 (rup 3072 (rup 3072 (rup 3072 (rup 3072 B0 (bn * 6) k) ((bn * 6) + 1) a) ((bn * 6) + 2) b) ((bn * 6) + 3) c) ((bn * 6) + 4) d) ((bn * 6) + 5) e
theorem rat_in {n j : Nat} {f : Nat → Int32} (hj : j < n) (hn : n < 2 ^ 31) : rat n f (nI j) = f j := by
  unfold rat
  rw [if_pos ⟨nI_pos' (by omega), nI_lt hj hn⟩, nI_clamp (by omega)]
theorem rup_in {n j : Nat} {f : Nat → Int32} {x : Int32} (hj : j < n) (hn : n < 2 ^ 31) : rup n f (nI j) x = upd f j x := by
  unfold rup
  rw [if_pos ⟨nI_pos' (by omega), nI_lt hj hn⟩, nI_clamp (by omega)]
theorem bwi {n i : Nat} (hi : i < 6) (hn : n < 512) : (nI n * 6) + nI i = nI (n * 6 + i) := by
  rw [show (6 : Int32) = nI 6 from rfl, pk_mul, nI_add]
theorem bwr_eq (B0 : Nat → Int32) {n : Nat} (hn : n < 512) (k a b c d e : Int32) : bwr B0 (nI n) k a b c d e = upd (upd (upd (upd (upd (upd B0 (n * 6) k) (n * 6 + 1) a) (n * 6 + 2) b) (n * 6 + 3) c) (n * 6 + 4) d) (n * 6 + 5) e := by
  unfold bwr
  have e0 : nI n * 6 = nI (n * 6) := by rw [show (6 : Int32) = nI 6 from rfl, pk_mul]
  have e1 : nI (n * 6) + 1 = nI (n * 6 + 1) := nI_1 _
  have e2 : nI (n * 6) + 2 = nI (n * 6 + 2) := nI_add _ 2
  have e3 : nI (n * 6) + 3 = nI (n * 6 + 3) := nI_add _ 3
  have e4 : nI (n * 6) + 4 = nI (n * 6 + 4) := nI_add _ 4
  have e5 : nI (n * 6) + 5 = nI (n * 6 + 5) := nI_add _ 5
  rw [e0, e1, e2, e3, e4, e5, rup_in (by omega) (by decide), rup_in (by omega) (by decide), rup_in (by omega) (by decide), rup_in (by omega) (by decide), rup_in (by omega) (by decide), rup_in (by omega) (by decide)]
theorem bwr_at (B0 : Nat → Int32) {n i : Nat} (hn : n < 512) (hi : i < 6) (k a b c d e : Int32) : bwr B0 (nI n) k a b c d e (n * 6 + i) = [k, a, b, c, d, e].getD i 0 := by
  rw [bwr_eq B0 hn]
  simp only [upd]
  rcases (show i = 0 ∨ i = 1 ∨ i = 2 ∨ i = 3 ∨ i = 4 ∨ i = 5 by omega) with rfl | rfl | rfl | rfl | rfl | rfl <;> simp
theorem bwr_old (B0 : Nat → Int32) {n j : Nat} (hn : n < 512) (hj : j < n * 6) (k a b c d e : Int32) : bwr B0 (nI n) k a b c d e j = B0 j := by
  rw [bwr_eq B0 hn]
  simp only [upd]
  rw [if_neg (by omega), if_neg (by omega), if_neg (by omega), if_neg (by omega), if_neg (by omega), if_neg (by omega)]
theorem bwr_rd (B0 : Nat → Int32) {n i : Nat} (hn : n < 512) (hi : i < 6) (k a b c d e : Int32) : rat 3072 (bwr B0 (nI n) k a b c d e) ((((nI n + 1) - 1) * 6) + nI i) = [k, a, b, c, d, e].getD i 0 := by
  rw [nI_1, show (nI (n + 1) - 1 : Int32) = nI n from nI_pred n, bwi hi hn, rat_in (by omega) (by decide), bwr_at B0 hn hi]
theorem bwr_ne {n : Nat} (hn : n < 512) : ¬ ((nI n + 1) - 1 : Int32) = -1 := by
  rw [nI_1, show (nI (n + 1) - 1 : Int32) = nI n from nI_pred n]
  intro h
  have := congrArg Int32.toInt h
  rw [nI_toInt (by omega)] at this
  simp at this
theorem hdX0_write : yX0_write.cls = RX0 ∧ yX0_write.cls ≠ "java/lang/invoke/MethodHandle" ∧ yX0_write.cls ≠ "java/lang/invoke/VarHandle" ∧ (parseMethodDescriptor yX0_write.desc).map (fun d => d.parameters.length) = some 6 := by decide +kernel
theorem hiX0_write_X0 : ∀ w ∈ wsX00, w ∈ wsX0_write := by decide +kernel
theorem lkX0_write_20 : Cond.fieldLink RX0 20 RX0 "number" "I" ∈ wsX0_write := by decide +kernel
theorem lkX0_write_16 : Cond.fieldLink RX0 16 RX0 "words" "LApprovalyard$Row;" ∈ wsX0_write := by decide +kernel
set_option maxHeartbeats 4000000 in
set_option maxRecDepth 100000 in
/-- X0.write -/
theorem cX0_write_met (l : Launch) (D : va_G) (tys : List (ClassId × FieldType)) (cI : ClassId) (ht : tys[0]? = some (cI, .int)) (ad : Nat → Nat) (B0 : Nat → Int32) (bn : Int32) (k a b c d e : Int32) (hbn : bn < 512) : CId l yX0_write wsX0_write 1 D tys [.ref (ad 0), .int k, .int a, .int b, .int c, .int d, .int e] (wBook cI ad B0 bn) ((bn + 1) - 1) (wBook cI ad (bwr B0 bn k a b c d e) (bn + 1)) := by
  refine CI_of (maxL := 8) (cc := cX0_write) (y := yX0_write) rfl rfl (Nat.le_of_ble_eq_true rfl) (fun X hl hD hk hn hcz hsz o fin => ?_)
  subst hl; subst hD; subst hk
  refine V_aload_n (pc := 0) o dX0_write_0 rfl ?_
  refine V_get (pc := 1) o 0 1 hiX0_write_X0 rfl rfl (by decide) lkX0_write_20 rfl rfl dX0_write_1 ?_
  refine V_sipush (pc := 4) o 512 dX0_write_4 (by decide) ?_
  refine V_icmp_lt (pc := 7) o 12 dX0_write_7 (by decide) (fun c7 => ?_) (fun c7 => ?_)
  · refine V_aload_n (pc := 12) o dX0_write_12 rfl ?_
    refine V_get (pc := 13) o 0 1 hiX0_write_X0 rfl rfl (by decide) lkX0_write_20 rfl rfl dX0_write_13 ?_
    refine V_bipush (pc := 16) o 6 dX0_write_16 (by decide) ?_
    refine V_imul (pc := 18) o dX0_write_18 ?_
    refine V_istore (pc := 19) o dX0_write_19 (by rw [hn]; decide) ?_
    refine V_aload_n (pc := 21) o dX0_write_21 rfl ?_
    refine V_get (pc := 22) o 0 0 hiX0_write_X0 rfl rfl (by decide) lkX0_write_16 rfl rfl dX0_write_22 ?_
    refine V_iload (pc := 25) o dX0_write_25 rfl ?_
    refine V_iload_n (pc := 27) o dX0_write_27 rfl ?_
    refine V_wVv (pc := 28) o (cX6_put_met _ _ _ cI ht _ _ 3072 B0 (by decide) _ _) 1 2 (wBook cI ad (rup 3072 B0 (bn * 6) k) bn) gX0_write_X6_put rfl hdX6_put ⟨by omega, by decide⟩ rfl rfl rfl (Nat.le_of_ble_eq_true rfl) dX0_write_28 rfl rfl ?_
    refine V_aload_n (pc := 31) o dX0_write_31 rfl ?_
    refine V_get (pc := 32) o 0 0 hiX0_write_X0 rfl rfl (by decide) lkX0_write_16 rfl rfl dX0_write_32 ?_
    refine V_iload (pc := 35) o dX0_write_35 rfl ?_
    refine V_iconst (pc := 37) o 1 dX0_write_37 (by decide) ?_
    refine V_iadd (pc := 38) o dX0_write_38 ?_
    refine V_iload_n (pc := 39) o dX0_write_39 rfl ?_
    refine V_wVv (pc := 40) o (cX6_put_met _ _ _ cI ht _ _ 3072 (rup 3072 B0 (bn * 6) k) (by decide) _ _) 1 2 (wBook cI ad (rup 3072 (rup 3072 B0 (bn * 6) k) ((bn * 6) + 1) a) bn) gX0_write_X6_put rfl hdX6_put ⟨by omega, by decide⟩ rfl rfl rfl (Nat.le_of_ble_eq_true rfl) dX0_write_40 rfl rfl ?_
    refine V_aload_n (pc := 43) o dX0_write_43 rfl ?_
    refine V_get (pc := 44) o 0 0 hiX0_write_X0 rfl rfl (by decide) lkX0_write_16 rfl rfl dX0_write_44 ?_
    refine V_iload (pc := 47) o dX0_write_47 rfl ?_
    refine V_iconst (pc := 49) o 2 dX0_write_49 (by decide) ?_
    refine V_iadd (pc := 50) o dX0_write_50 ?_
    refine V_iload_n (pc := 51) o dX0_write_51 rfl ?_
    refine V_wVv (pc := 52) o (cX6_put_met _ _ _ cI ht _ _ 3072 (rup 3072 (rup 3072 B0 (bn * 6) k) ((bn * 6) + 1) a) (by decide) _ _) 1 2 (wBook cI ad (rup 3072 (rup 3072 (rup 3072 B0 (bn * 6) k) ((bn * 6) + 1) a) ((bn * 6) + 2) b) bn) gX0_write_X6_put rfl hdX6_put ⟨by omega, by decide⟩ rfl rfl rfl (Nat.le_of_ble_eq_true rfl) dX0_write_52 rfl rfl ?_
    refine V_aload_n (pc := 55) o dX0_write_55 rfl ?_
    refine V_get (pc := 56) o 0 0 hiX0_write_X0 rfl rfl (by decide) lkX0_write_16 rfl rfl dX0_write_56 ?_
    refine V_iload (pc := 59) o dX0_write_59 rfl ?_
    refine V_iconst (pc := 61) o 3 dX0_write_61 (by decide) ?_
    refine V_iadd (pc := 62) o dX0_write_62 ?_
    refine V_iload (pc := 63) o dX0_write_63 rfl ?_
    refine V_wVv (pc := 65) o (cX6_put_met _ _ _ cI ht _ _ 3072 (rup 3072 (rup 3072 (rup 3072 B0 (bn * 6) k) ((bn * 6) + 1) a) ((bn * 6) + 2) b) (by decide) _ _) 1 2 (wBook cI ad (rup 3072 (rup 3072 (rup 3072 (rup 3072 B0 (bn * 6) k) ((bn * 6) + 1) a) ((bn * 6) + 2) b) ((bn * 6) + 3) c) bn) gX0_write_X6_put rfl hdX6_put ⟨by omega, by decide⟩ rfl rfl rfl (Nat.le_of_ble_eq_true rfl) dX0_write_65 rfl rfl ?_
    refine V_aload_n (pc := 68) o dX0_write_68 rfl ?_
    refine V_get (pc := 69) o 0 0 hiX0_write_X0 rfl rfl (by decide) lkX0_write_16 rfl rfl dX0_write_69 ?_
    refine V_iload (pc := 72) o dX0_write_72 rfl ?_
    refine V_iconst (pc := 74) o 4 dX0_write_74 (by decide) ?_
    refine V_iadd (pc := 75) o dX0_write_75 ?_
    refine V_iload (pc := 76) o dX0_write_76 rfl ?_
    refine V_wVv (pc := 78) o (cX6_put_met _ _ _ cI ht _ _ 3072 (rup 3072 (rup 3072 (rup 3072 (rup 3072 B0 (bn * 6) k) ((bn * 6) + 1) a) ((bn * 6) + 2) b) ((bn * 6) + 3) c) (by decide) _ _) 1 2 (wBook cI ad (rup 3072 (rup 3072 (rup 3072 (rup 3072 (rup 3072 B0 (bn * 6) k) ((bn * 6) + 1) a) ((bn * 6) + 2) b) ((bn * 6) + 3) c) ((bn * 6) + 4) d) bn) gX0_write_X6_put rfl hdX6_put ⟨by omega, by decide⟩ rfl rfl rfl (Nat.le_of_ble_eq_true rfl) dX0_write_78 rfl rfl ?_
    refine V_aload_n (pc := 81) o dX0_write_81 rfl ?_
    refine V_get (pc := 82) o 0 0 hiX0_write_X0 rfl rfl (by decide) lkX0_write_16 rfl rfl dX0_write_82 ?_
    refine V_iload (pc := 85) o dX0_write_85 rfl ?_
    refine V_iconst (pc := 87) o 5 dX0_write_87 (by decide) ?_
    refine V_iadd (pc := 88) o dX0_write_88 ?_
    refine V_iload (pc := 89) o dX0_write_89 rfl ?_
    refine V_wVv (pc := 91) o (cX6_put_met _ _ _ cI ht _ _ 3072 (rup 3072 (rup 3072 (rup 3072 (rup 3072 (rup 3072 B0 (bn * 6) k) ((bn * 6) + 1) a) ((bn * 6) + 2) b) ((bn * 6) + 3) c) ((bn * 6) + 4) d) (by decide) _ _) 1 2 (wBook cI ad (rup 3072 (rup 3072 (rup 3072 (rup 3072 (rup 3072 (rup 3072 B0 (bn * 6) k) ((bn * 6) + 1) a) ((bn * 6) + 2) b) ((bn * 6) + 3) c) ((bn * 6) + 4) d) ((bn * 6) + 5) e) bn) gX0_write_X6_put rfl hdX6_put ⟨by omega, by decide⟩ rfl rfl rfl (Nat.le_of_ble_eq_true rfl) dX0_write_91 rfl rfl ?_
    refine V_aload_n (pc := 94) o dX0_write_94 rfl ?_
    refine V_dup (pc := 95) o rfl dX0_write_95 ?_
    refine V_get (pc := 96) o 0 1 hiX0_write_X0 rfl rfl (by decide) lkX0_write_20 rfl rfl dX0_write_96 ?_
    refine V_iconst (pc := 99) o 1 dX0_write_99 (by decide) ?_
    refine V_iadd (pc := 100) o dX0_write_100 ?_
    refine V_put (pc := 101) o 0 1 hiX0_write_X0 tyX0 tyX0_ok nmX0 rfl rfl (by decide) lkX0_write_20 rfl rfl rfl rfl rfl (Nat.le_of_ble_eq_true rfl) dX0_write_101 ?_
    refine V_eq (ws2 := wBook cI ad (rup 3072 (rup 3072 (rup 3072 (rup 3072 (rup 3072 (rup 3072 B0 (bn * 6) k) ((bn * 6) + 1) a) ((bn * 6) + 2) b) ((bn * 6) + 3) c) ((bn * 6) + 4) d) ((bn * 6) + 5) e) (bn + 1)) rfl rfl ?_
    refine V_aload_n (pc := 104) o dX0_write_104 rfl ?_
    refine V_get (pc := 105) o 0 1 hiX0_write_X0 rfl rfl (by decide) lkX0_write_20 rfl rfl dX0_write_105 ?_
    refine V_iconst (pc := 108) o 1 dX0_write_108 (by decide) ?_
    refine V_isub (pc := 109) o dX0_write_109 ?_
    exact fin 110 _ _ () dX0_write_110 rfl rfl
  · exact absurd hbn c7
theorem cX2_ap1 (l : Launch) (D : va_G) (tys : List (ClassId × FieldType)) (cI : ClassId) (ht : tys[0]? = some (cI, .int)) (ad ad2 : Nat → Nat) (P0 P1 P2 P3 P4 P5 L0 L1 L2 : Nat → Int32) (dy : Int32) (Q0 Q1 Q2 Q3 Q4 Q5 Q6 : Nat → Int32) (nm : Int32) (B0 : Nat → Int32) (bn e a b c d f : Int32) (he : ¬ e = -1) (hk9 : rat 3072 B0 ((e * 6) + 0) = 1) (h1 : rat 3072 B0 ((e * 6) + 1) = a) (h2 : rat 3072 B0 ((e * 6) + 2) = b) (h3 : rat 3072 B0 ((e * 6) + 3) = c) (h4 : rat 3072 B0 ((e * 6) + 4) = d) (h5 : rat 3072 B0 ((e * 6) + 5) = f) : CId l yX2_apply wsX2_apply 5 D tys [.ref (ad 0), .ref (ad2 0), .int e] (wDB cI ad ad2 P0 P1 P2 P3 P4 P5 L0 L1 L2 dy Q0 Q1 Q2 Q3 Q4 Q5 Q6 nm B0 bn) (rat 8 P0 a + 1) (wDB cI ad ad2 (rup 8 P0 a (rat 8 P0 a + 1)) (rup 24 P1 (plc a (rat 8 P0 a + 1)) b) (rup 24 P2 (plc a (rat 8 P0 a + 1)) 0) (rup 24 P3 (plc a (rat 8 P0 a + 1)) 0) P4 P5 L0 L1 L2 dy Q0 Q1 Q2 Q3 Q4 Q5 Q6 nm B0 bn) := by
  subst h1; subst h2; subst h3; subst h4; subst h5
  exact cX2_apply_met1 l D tys cI ht ad ad2 P0 P1 P2 P3 P4 P5 L0 L1 L2 dy Q0 Q1 Q2 Q3 Q4 Q5 Q6 nm B0 bn e he hk9
theorem cX2_ap2 (l : Launch) (D : va_G) (tys : List (ClassId × FieldType)) (cI : ClassId) (ht : tys[0]? = some (cI, .int)) (ad ad2 : Nat → Nat) (P0 P1 P2 P3 P4 P5 L0 L1 L2 : Nat → Int32) (dy : Int32) (Q0 Q1 Q2 Q3 Q4 Q5 Q6 : Nat → Int32) (nm : Int32) (B0 : Nat → Int32) (bn e a b c d f : Int32) (he : ¬ e = -1) (hk9 : rat 3072 B0 ((e * 6) + 0) = 2) (h1 : rat 3072 B0 ((e * 6) + 1) = a) (h2 : rat 3072 B0 ((e * 6) + 2) = b) (h3 : rat 3072 B0 ((e * 6) + 3) = c) (h4 : rat 3072 B0 ((e * 6) + 4) = d) (h5 : rat 3072 B0 ((e * 6) + 5) = f) : CId l yX2_apply wsX2_apply 5 D tys [.ref (ad 0), .ref (ad2 0), .int e] (wDB cI ad ad2 P0 P1 P2 P3 P4 P5 L0 L1 L2 dy Q0 Q1 Q2 Q3 Q4 Q5 Q6 nm B0 bn) ((rat 24 P3 (plc a b)) + 1) (wDB cI ad ad2 P0 P1 P2 (rup 24 P3 (plc a b) ((rat 24 P3 (plc a b)) + 1)) (rup 96 P4 (plc a b * 4 + (rat 24 P3 (plc a b))) c) (rup 96 P5 (plc a b * 4 + (rat 24 P3 (plc a b))) (vset d f)) L0 L1 L2 dy Q0 Q1 Q2 Q3 Q4 Q5 Q6 nm B0 bn) := by
  subst h1; subst h2; subst h3; subst h4; subst h5
  exact cX2_apply_met2 l D tys cI ht ad ad2 P0 P1 P2 P3 P4 P5 L0 L1 L2 dy Q0 Q1 Q2 Q3 Q4 Q5 Q6 nm B0 bn e he hk9
theorem cX2_ap3 (l : Launch) (D : va_G) (tys : List (ClassId × FieldType)) (cI : ClassId) (ht : tys[0]? = some (cI, .int)) (ad ad2 : Nat → Nat) (P0 P1 P2 P3 P4 P5 L0 L1 L2 : Nat → Int32) (dy : Int32) (Q0 Q1 Q2 Q3 Q4 Q5 Q6 : Nat → Int32) (nm : Int32) (B0 : Nat → Int32) (bn e a b c d f : Int32) (he : ¬ e = -1) (hk9 : rat 3072 B0 ((e * 6) + 0) = 3) (h1 : rat 3072 B0 ((e * 6) + 1) = a) (h2 : rat 3072 B0 ((e * 6) + 2) = b) (h3 : rat 3072 B0 ((e * 6) + 3) = c) (h4 : rat 3072 B0 ((e * 6) + 4) = d) (h5 : rat 3072 B0 ((e * 6) + 5) = f) : CId l yX2_apply wsX2_apply 5 D tys [.ref (ad 0), .ref (ad2 0), .int e] (wDB cI ad ad2 P0 P1 P2 P3 P4 P5 L0 L1 L2 dy Q0 Q1 Q2 Q3 Q4 Q5 Q6 nm B0 bn) (lvE (Q3, Q4, Q5, Q6) a b dy nm.toNatClampNeg) (wDB cI ad ad2 P0 P1 (rup 24 P2 (plc a b) 1) P3 P4 P5 L0 L1 L2 dy Q0 Q1 Q2 ((lvT (Q3, Q4, Q5, Q6) a b nm.toNatClampNeg).1) ((lvT (Q3, Q4, Q5, Q6) a b nm.toNatClampNeg).2.1) ((lvT (Q3, Q4, Q5, Q6) a b nm.toNatClampNeg).2.2.1) ((lvT (Q3, Q4, Q5, Q6) a b nm.toNatClampNeg).2.2.2) nm B0 bn) := by
  subst h1; subst h2; subst h3; subst h4; subst h5
  exact cX2_apply_met3 l D tys cI ht ad ad2 P0 P1 P2 P3 P4 P5 L0 L1 L2 dy Q0 Q1 Q2 Q3 Q4 Q5 Q6 nm B0 bn e he hk9
theorem cX2_ap4 (l : Launch) (D : va_G) (tys : List (ClassId × FieldType)) (cI : ClassId) (ht : tys[0]? = some (cI, .int)) (ad ad2 : Nat → Nat) (P0 P1 P2 P3 P4 P5 L0 L1 L2 : Nat → Int32) (dy : Int32) (Q0 Q1 Q2 Q3 Q4 Q5 Q6 : Nat → Int32) (nm : Int32) (B0 : Nat → Int32) (bn e a b c d f : Int32) (he : ¬ e = -1) (hk9 : rat 3072 B0 ((e * 6) + 0) = 4) (h1 : rat 3072 B0 ((e * 6) + 1) = a) (h2 : rat 3072 B0 ((e * 6) + 2) = b) (h3 : rat 3072 B0 ((e * 6) + 3) = c) (h4 : rat 3072 B0 ((e * 6) + 4) = d) (h5 : rat 3072 B0 ((e * 6) + 5) = f) : CId l yX2_apply wsX2_apply 5 D tys [.ref (ad 0), .ref (ad2 0), .int e] (wDB cI ad ad2 P0 P1 P2 P3 P4 P5 L0 L1 L2 dy Q0 Q1 Q2 Q3 Q4 Q5 Q6 nm B0 bn) (nm) (wDB cI ad ad2 P0 P1 P2 P3 P4 P5 L0 L1 L2 dy (rup 30 Q0 nm a) (rup 30 Q1 nm b) (rup 30 Q2 nm c) (rup 30 Q3 nm 0) (rup 30 Q4 nm 0) (rup 30 Q5 nm 0) (erN Q6 nm 8) (nm + 1) B0 bn) := by
  subst h1; subst h2; subst h3; subst h4; subst h5
  exact cX2_apply_met4 l D tys cI ht ad ad2 P0 P1 P2 P3 P4 P5 L0 L1 L2 dy Q0 Q1 Q2 Q3 Q4 Q5 Q6 nm B0 bn e he hk9
theorem cX2_ap5 (l : Launch) (D : va_G) (tys : List (ClassId × FieldType)) (cI : ClassId) (ht : tys[0]? = some (cI, .int)) (ad ad2 : Nat → Nat) (P0 P1 P2 P3 P4 P5 L0 L1 L2 : Nat → Int32) (dy : Int32) (Q0 Q1 Q2 Q3 Q4 Q5 Q6 : Nat → Int32) (nm : Int32) (B0 : Nat → Int32) (bn e a b c d f : Int32) (he : ¬ e = -1) (hk9 : rat 3072 B0 ((e * 6) + 0) = 5) (h1 : rat 3072 B0 ((e * 6) + 1) = a) (h2 : rat 3072 B0 ((e * 6) + 2) = b) (h3 : rat 3072 B0 ((e * 6) + 3) = c) (h4 : rat 3072 B0 ((e * 6) + 4) = d) (h5 : rat 3072 B0 ((e * 6) + 5) = f) : CId l yX2_apply wsX2_apply 5 D tys [.ref (ad 0), .ref (ad2 0), .int e] (wDB cI ad ad2 P0 P1 P2 P3 P4 P5 L0 L1 L2 dy Q0 Q1 Q2 Q3 Q4 Q5 Q6 nm B0 bn) (pcostN P1 b 8) (wDB cI ad ad2 P0 P1 P2 P3 P4 P5 L0 L1 L2 dy Q0 Q1 Q2 (rup 30 Q3 a 1) (rup 30 Q4 a b) (rup 30 Q5 a (pcostN P1 b 8)) (erN Q6 a 8) nm B0 bn) := by
  subst h1; subst h2; subst h3; subst h4; subst h5
  exact cX2_apply_met5 l D tys cI ht ad ad2 P0 P1 P2 P3 P4 P5 L0 L1 L2 dy Q0 Q1 Q2 Q3 Q4 Q5 Q6 nm B0 bn e he hk9
theorem cX2_ap6 (l : Launch) (D : va_G) (tys : List (ClassId × FieldType)) (cI : ClassId) (ht : tys[0]? = some (cI, .int)) (ad ad2 : Nat → Nat) (P0 P1 P2 P3 P4 P5 L0 L1 L2 : Nat → Int32) (dy : Int32) (Q0 Q1 Q2 Q3 Q4 Q5 Q6 : Nat → Int32) (nm : Int32) (B0 : Nat → Int32) (bn e a b c d f : Int32) (he : ¬ e = -1) (hk9 : rat 3072 B0 ((e * 6) + 0) = 6) (h1 : rat 3072 B0 ((e * 6) + 1) = a) (h2 : rat 3072 B0 ((e * 6) + 2) = b) (h3 : rat 3072 B0 ((e * 6) + 3) = c) (h4 : rat 3072 B0 ((e * 6) + 4) = d) (h5 : rat 3072 B0 ((e * 6) + 5) = f) : CId l yX2_apply wsX2_apply 5 D tys [.ref (ad 0), .ref (ad2 0), .int e] (wDB cI ad ad2 P0 P1 P2 P3 P4 P5 L0 L1 L2 dy Q0 Q1 Q2 Q3 Q4 Q5 Q6 nm B0 bn) (rat 8 L0 a) (wDB cI ad ad2 P0 P1 P2 P3 P4 P5 (rup 8 L0 a b) L1 L2 dy Q0 Q1 Q2 Q3 Q4 Q5 Q6 nm B0 bn) := by
  subst h1; subst h2; subst h3; subst h4; subst h5
  exact cX2_apply_met6 l D tys cI ht ad ad2 P0 P1 P2 P3 P4 P5 L0 L1 L2 dy Q0 Q1 Q2 Q3 Q4 Q5 Q6 nm B0 bn e he hk9
theorem cX2_ap7 (l : Launch) (D : va_G) (tys : List (ClassId × FieldType)) (cI : ClassId) (ht : tys[0]? = some (cI, .int)) (ad ad2 : Nat → Nat) (P0 P1 P2 P3 P4 P5 L0 L1 L2 : Nat → Int32) (dy : Int32) (Q0 Q1 Q2 Q3 Q4 Q5 Q6 : Nat → Int32) (nm : Int32) (B0 : Nat → Int32) (bn e a b c d f : Int32) (he : ¬ e = -1) (hk9 : rat 3072 B0 ((e * 6) + 0) = 7) (h1 : rat 3072 B0 ((e * 6) + 1) = a) (h2 : rat 3072 B0 ((e * 6) + 2) = b) (h3 : rat 3072 B0 ((e * 6) + 3) = c) (h4 : rat 3072 B0 ((e * 6) + 4) = d) (h5 : rat 3072 B0 ((e * 6) + 5) = f) : CId l yX2_apply wsX2_apply 5 D tys [.ref (ad 0), .ref (ad2 0), .int e] (wDB cI ad ad2 P0 P1 P2 P3 P4 P5 L0 L1 L2 dy Q0 Q1 Q2 Q3 Q4 Q5 Q6 nm B0 bn) (rat 8 (rup 8 L2 a (dy + c)) a) (wDB cI ad ad2 P0 P1 P2 P3 P4 P5 L0 (rup 8 L1 a b) (rup 8 L2 a (dy + c)) dy Q0 Q1 Q2 Q3 Q4 Q5 Q6 nm B0 bn) := by
  subst h1; subst h2; subst h3; subst h4; subst h5
  exact cX2_apply_met7 l D tys cI ht ad ad2 P0 P1 P2 P3 P4 P5 L0 L1 L2 dy Q0 Q1 Q2 Q3 Q4 Q5 Q6 nm B0 bn e he hk9
theorem cX2_ap8 (l : Launch) (D : va_G) (tys : List (ClassId × FieldType)) (cI : ClassId) (ht : tys[0]? = some (cI, .int)) (ad ad2 : Nat → Nat) (P0 P1 P2 P3 P4 P5 L0 L1 L2 : Nat → Int32) (dy : Int32) (Q0 Q1 Q2 Q3 Q4 Q5 Q6 : Nat → Int32) (nm : Int32) (B0 : Nat → Int32) (bn e a b c d f : Int32) (he : ¬ e = -1) (hk9 : rat 3072 B0 ((e * 6) + 0) = 8) (h1 : rat 3072 B0 ((e * 6) + 1) = a) (h2 : rat 3072 B0 ((e * 6) + 2) = b) (h3 : rat 3072 B0 ((e * 6) + 3) = c) (h4 : rat 3072 B0 ((e * 6) + 4) = d) (h5 : rat 3072 B0 ((e * 6) + 5) = f) : CId l yX2_apply wsX2_apply 5 D tys [.ref (ad 0), .ref (ad2 0), .int e] (wDB cI ad ad2 P0 P1 P2 P3 P4 P5 L0 L1 L2 dy Q0 Q1 Q2 Q3 Q4 Q5 Q6 nm B0 bn) (prF L0 L1 L2 dy b (rat 30 Q5 a)) (wDB cI ad ad2 P0 P1 P2 P3 P4 P5 L0 L1 L2 dy Q0 Q1 Q2 Q3 Q4 Q5 (rup 240 Q6 (a * 8 + b) (tkE L0 L1 L2 dy b (rat 30 Q5 a))) nm B0 bn) := by
  subst h1; subst h2; subst h3; subst h4; subst h5
  exact cX2_apply_met8 l D tys cI ht ad ad2 P0 P1 P2 P3 P4 P5 L0 L1 L2 dy Q0 Q1 Q2 Q3 Q4 Q5 Q6 nm B0 bn e he hk9
theorem cX2_ap9 (l : Launch) (D : va_G) (tys : List (ClassId × FieldType)) (cI : ClassId) (ht : tys[0]? = some (cI, .int)) (ad ad2 : Nat → Nat) (P0 P1 P2 P3 P4 P5 L0 L1 L2 : Nat → Int32) (dy : Int32) (Q0 Q1 Q2 Q3 Q4 Q5 Q6 : Nat → Int32) (nm : Int32) (B0 : Nat → Int32) (bn e a b c d f : Int32) (he : ¬ e = -1) (hk9 : rat 3072 B0 ((e * 6) + 0) = 9) (h1 : rat 3072 B0 ((e * 6) + 1) = a) (h2 : rat 3072 B0 ((e * 6) + 2) = b) (h3 : rat 3072 B0 ((e * 6) + 3) = c) (h4 : rat 3072 B0 ((e * 6) + 4) = d) (h5 : rat 3072 B0 ((e * 6) + 5) = f) : CId l yX2_apply wsX2_apply 5 D tys [.ref (ad 0), .ref (ad2 0), .int e] (wDB cI ad ad2 P0 P1 P2 P3 P4 P5 L0 L1 L2 dy Q0 Q1 Q2 Q3 Q4 Q5 Q6 nm B0 bn) (2) (wDB cI ad ad2 P0 P1 P2 P3 P4 P5 L0 L1 L2 dy Q0 Q1 Q2 (rup 30 Q3 a 2) Q4 Q5 Q6 nm B0 bn) := by
  subst h1; subst h2; subst h3; subst h4; subst h5
  exact cX2_apply_met9 l D tys cI ht ad ad2 P0 P1 P2 P3 P4 P5 L0 L1 L2 dy Q0 Q1 Q2 Q3 Q4 Q5 Q6 nm B0 bn e he hk9
theorem cX2_ap10 (l : Launch) (D : va_G) (tys : List (ClassId × FieldType)) (cI : ClassId) (ht : tys[0]? = some (cI, .int)) (ad ad2 : Nat → Nat) (P0 P1 P2 P3 P4 P5 L0 L1 L2 : Nat → Int32) (dy : Int32) (Q0 Q1 Q2 Q3 Q4 Q5 Q6 : Nat → Int32) (nm : Int32) (B0 : Nat → Int32) (bn e a b c d f : Int32) (he : ¬ e = -1) (hk9 : rat 3072 B0 ((e * 6) + 0) = 10) (h1 : rat 3072 B0 ((e * 6) + 1) = a) (h2 : rat 3072 B0 ((e * 6) + 2) = b) (h3 : rat 3072 B0 ((e * 6) + 3) = c) (h4 : rat 3072 B0 ((e * 6) + 4) = d) (h5 : rat 3072 B0 ((e * 6) + 5) = f) : CId l yX2_apply wsX2_apply 5 D tys [.ref (ad 0), .ref (ad2 0), .int e] (wDB cI ad ad2 P0 P1 P2 P3 P4 P5 L0 L1 L2 dy Q0 Q1 Q2 Q3 Q4 Q5 Q6 nm B0 bn) (dy + a) (wDB cI ad ad2 P0 P1 P2 P3 P4 P5 L0 L1 L2 (dy + a) Q0 Q1 Q2 Q3 Q4 Q5 Q6 nm B0 bn) := by
  subst h1; subst h2; subst h3; subst h4; subst h5
  exact cX2_apply_met10 l D tys cI ht ad ad2 P0 P1 P2 P3 P4 P5 L0 L1 L2 dy Q0 Q1 Q2 Q3 Q4 Q5 Q6 nm B0 bn e he hk9
theorem hdX8_checkPart : yX8_checkPart.cls ≠ "java/lang/invoke/MethodHandle" ∧ yX8_checkPart.cls ≠ "java/lang/invoke/VarHandle" ∧ (parseMethodDescriptor yX8_checkPart.desc).map (fun d => d.parameters.length) = some 1 := by decide +kernel
theorem twX8_checkPart_1 : ThW 1 wsX8_checkPart := by refine ⟨?_, ?_, ?_⟩ <;> decide +kernel
set_option maxHeartbeats 4000000 in
set_option maxRecDepth 100000 in
/-- X8.checkPart -/
theorem cX8_checkPart_met (l : Launch) (D : va_G) (tys : List (ClassId × FieldType)) (p : Int32) : CXv l yX8_checkPart wsX8_checkPart 6 1 D tys [.int p] [] (if p < 0 then 1 else (if p < 8 then 0 else 1)) [] := by
  refine CXv_of (maxL := 1) (cc := cX8_checkPart) (y := yX8_checkPart) rfl rfl (Nat.le_of_ble_eq_true rfl) rfl (by decide) (fun X hl hD hk hn hcz hsz o xo fin out thr => ?_)
  subst hl; subst hD; subst hk
  refine V_iload_n (pc := 0) o dX8_checkPart_0 rfl ?_
  refine V_if_lt (pc := 1) o 10 dX8_checkPart_1 (by decide) (fun c1 => ?_) (fun c1 => ?_)
  · exact thr _ _ 10 1 180 "there is no such part" _ _ (by omega) (by omega) (by rw [if_pos c1]) (by decide) twX8_checkPart_1 (by decide) dX8_checkPart_10 dX8_checkPart_13 dX8_checkPart_14 dX8_checkPart_16 dX8_checkPart_19 (Nat.le_of_ble_eq_true rfl)
  · refine V_iload_n (pc := 4) o dX8_checkPart_4 rfl ?_
    refine V_bipush (pc := 5) o 8 dX8_checkPart_5 (by decide) ?_
    refine V_icmp_lt (pc := 7) o 20 dX8_checkPart_7 (by decide) (fun c7 => ?_) (fun c7 => ?_)
    · exact V_widen (by omega) (by omega) (fin 20 _ dX8_checkPart_20 (by rw [if_neg c1, if_pos c7]))
    · exact thr _ _ 10 1 180 "there is no such part" _ _ (by omega) (by omega) (by rw [if_neg c1, if_neg c7]) (by decide) twX8_checkPart_1 (by decide) dX8_checkPart_10 dX8_checkPart_13 dX8_checkPart_14 dX8_checkPart_16 dX8_checkPart_19 (Nat.le_of_ble_eq_true rfl)
theorem hdX8_checkPerson : yX8_checkPerson.cls ≠ "java/lang/invoke/MethodHandle" ∧ yX8_checkPerson.cls ≠ "java/lang/invoke/VarHandle" ∧ (parseMethodDescriptor yX8_checkPerson.desc).map (fun d => d.parameters.length) = some 1 := by decide +kernel
theorem twX8_checkPerson_1 : ThW 1 wsX8_checkPerson := by refine ⟨?_, ?_, ?_⟩ <;> decide +kernel
set_option maxHeartbeats 4000000 in
set_option maxRecDepth 100000 in
/-- X8.checkPerson -/
theorem cX8_checkPerson_met (l : Launch) (D : va_G) (tys : List (ClassId × FieldType)) (p : Int32) : CXv l yX8_checkPerson wsX8_checkPerson 6 1 D tys [.int p] [] (if p < 0 then 1 else (if p < 8 then 0 else 1)) [] := by
  refine CXv_of (maxL := 1) (cc := cX8_checkPerson) (y := yX8_checkPerson) rfl rfl (Nat.le_of_ble_eq_true rfl) rfl (by decide) (fun X hl hD hk hn hcz hsz o xo fin out thr => ?_)
  subst hl; subst hD; subst hk
  refine V_iload_n (pc := 0) o dX8_checkPerson_0 rfl ?_
  refine V_if_lt (pc := 1) o 10 dX8_checkPerson_1 (by decide) (fun c1 => ?_) (fun c1 => ?_)
  · exact thr _ _ 10 1 185 "there is no such person" _ _ (by omega) (by omega) (by rw [if_pos c1]) (by decide) twX8_checkPerson_1 (by decide) dX8_checkPerson_10 dX8_checkPerson_13 dX8_checkPerson_14 dX8_checkPerson_16 dX8_checkPerson_19 (Nat.le_of_ble_eq_true rfl)
  · refine V_iload_n (pc := 4) o dX8_checkPerson_4 rfl ?_
    refine V_bipush (pc := 5) o 8 dX8_checkPerson_5 (by decide) ?_
    refine V_icmp_lt (pc := 7) o 20 dX8_checkPerson_7 (by decide) (fun c7 => ?_) (fun c7 => ?_)
    · exact V_widen (by omega) (by omega) (fin 20 _ dX8_checkPerson_20 (by rw [if_neg c1, if_pos c7]))
    · exact thr _ _ 10 1 185 "there is no such person" _ _ (by omega) (by omega) (by rw [if_neg c1, if_neg c7]) (by decide) twX8_checkPerson_1 (by decide) dX8_checkPerson_10 dX8_checkPerson_13 dX8_checkPerson_14 dX8_checkPerson_16 dX8_checkPerson_19 (Nat.le_of_ble_eq_true rfl)
theorem hdX8_checkLeast : yX8_checkLeast.cls ≠ "java/lang/invoke/MethodHandle" ∧ yX8_checkLeast.cls ≠ "java/lang/invoke/VarHandle" ∧ (parseMethodDescriptor yX8_checkLeast.desc).map (fun d => d.parameters.length) = some 1 := by decide +kernel
theorem twX8_checkLeast_2 : ThW 2 wsX8_checkLeast := by refine ⟨?_, ?_, ?_⟩ <;> decide +kernel
set_option maxHeartbeats 4000000 in
set_option maxRecDepth 100000 in
/-- X8.checkLeast -/
theorem cX8_checkLeast_met (l : Launch) (D : va_G) (tys : List (ClassId × FieldType)) (a : Int32) : CXv l yX8_checkLeast wsX8_checkLeast 6 1 D tys [.int a] [] (if a < 1 then 2 else (if a ≤ 3 then 0 else 2)) [] := by
  refine CXv_of (maxL := 1) (cc := cX8_checkLeast) (y := yX8_checkLeast) rfl rfl (Nat.le_of_ble_eq_true rfl) rfl (by decide) (fun X hl hD hk hn hcz hsz o xo fin out thr => ?_)
  subst hl; subst hD; subst hk
  refine V_iload_n (pc := 0) o dX8_checkLeast_0 rfl ?_
  refine V_iconst (pc := 1) o 1 dX8_checkLeast_1 (by decide) ?_
  refine V_icmp_lt (pc := 2) o 10 dX8_checkLeast_2 (by decide) (fun c2 => ?_) (fun c2 => ?_)
  · exact thr _ _ 10 2 189 "the least version is out of range" _ _ (by omega) (by omega) (by rw [if_pos c2]) (by decide) twX8_checkLeast_2 (by decide) dX8_checkLeast_10 dX8_checkLeast_13 dX8_checkLeast_14 dX8_checkLeast_16 dX8_checkLeast_19 (Nat.le_of_ble_eq_true rfl)
  · refine V_iload_n (pc := 5) o dX8_checkLeast_5 rfl ?_
    refine V_iconst (pc := 6) o 3 dX8_checkLeast_6 (by decide) ?_
    refine V_icmp_le (pc := 7) o 20 dX8_checkLeast_7 (by decide) (fun c7 => ?_) (fun c7 => ?_)
    · exact V_widen (by omega) (by omega) (fin 20 _ dX8_checkLeast_20 (by rw [if_neg c2, if_pos c7]))
    · exact thr _ _ 10 2 189 "the least version is out of range" _ _ (by omega) (by omega) (by rw [if_neg c2, if_neg c7]) (by decide) twX8_checkLeast_2 (by decide) dX8_checkLeast_10 dX8_checkLeast_13 dX8_checkLeast_14 dX8_checkLeast_16 dX8_checkLeast_19 (Nat.le_of_ble_eq_true rfl)
theorem hdX8_checkDays : yX8_checkDays.cls ≠ "java/lang/invoke/MethodHandle" ∧ yX8_checkDays.cls ≠ "java/lang/invoke/VarHandle" ∧ (parseMethodDescriptor yX8_checkDays.desc).map (fun d => d.parameters.length) = some 1 := by decide +kernel
theorem twX8_checkDays_2 : ThW 2 wsX8_checkDays := by refine ⟨?_, ?_, ?_⟩ <;> decide +kernel
set_option maxHeartbeats 4000000 in
set_option maxRecDepth 100000 in
/-- X8.checkDays -/
theorem cX8_checkDays_met (l : Launch) (D : va_G) (tys : List (ClassId × FieldType)) (n : Int32) : CXv l yX8_checkDays wsX8_checkDays 6 1 D tys [.int n] [] (if n < 1 then 2 else (if n ≤ 60 then 0 else 2)) [] := by
  refine CXv_of (maxL := 1) (cc := cX8_checkDays) (y := yX8_checkDays) rfl rfl (Nat.le_of_ble_eq_true rfl) rfl (by decide) (fun X hl hD hk hn hcz hsz o xo fin out thr => ?_)
  subst hl; subst hD; subst hk
  refine V_iload_n (pc := 0) o dX8_checkDays_0 rfl ?_
  refine V_iconst (pc := 1) o 1 dX8_checkDays_1 (by decide) ?_
  refine V_icmp_lt (pc := 2) o 11 dX8_checkDays_2 (by decide) (fun c2 => ?_) (fun c2 => ?_)
  · exact thr _ _ 11 2 191 "the days are out of range" _ _ (by omega) (by omega) (by rw [if_pos c2]) (by decide) twX8_checkDays_2 (by decide) dX8_checkDays_11 dX8_checkDays_14 dX8_checkDays_15 dX8_checkDays_17 dX8_checkDays_20 (Nat.le_of_ble_eq_true rfl)
  · refine V_iload_n (pc := 5) o dX8_checkDays_5 rfl ?_
    refine V_bipush (pc := 6) o 60 dX8_checkDays_6 (by decide) ?_
    refine V_icmp_le (pc := 8) o 21 dX8_checkDays_8 (by decide) (fun c8 => ?_) (fun c8 => ?_)
    · exact V_widen (by omega) (by omega) (fin 21 _ dX8_checkDays_21 (by rw [if_neg c2, if_pos c8]))
    · exact thr _ _ 11 2 191 "the days are out of range" _ _ (by omega) (by omega) (by rw [if_neg c2, if_neg c8]) (by decide) twX8_checkDays_2 (by decide) dX8_checkDays_11 dX8_checkDays_14 dX8_checkDays_15 dX8_checkDays_17 dX8_checkDays_20 (Nat.le_of_ble_eq_true rfl)
theorem hdX8_checkVersion : yX8_checkVersion.cls = RX8 ∧ yX8_checkVersion.cls ≠ "java/lang/invoke/MethodHandle" ∧ yX8_checkVersion.cls ≠ "java/lang/invoke/VarHandle" ∧ (parseMethodDescriptor yX8_checkVersion.desc).map (fun d => d.parameters.length) = some 2 := by decide +kernel
theorem twX8_checkVersion_1 : ThW 1 wsX8_checkVersion := by refine ⟨?_, ?_, ?_⟩ <;> decide +kernel
theorem hiX8_checkVersion_X8 : ∀ w ∈ wsX80, w ∈ wsX8_checkVersion := by decide +kernel
theorem lkX8_checkVersion_19 : Cond.fieldLink RX8 19 RX8 "desk" "LApprovalyard$Desk;" ∈ wsX8_checkVersion := by decide +kernel
theorem hiX8_checkVersion_X2 : ∀ w ∈ wsX20, w ∈ wsX8_checkVersion := by decide +kernel
theorem lkX8_checkVersion_44 : Cond.fieldLink RX8 44 RX2 "parts" "LApprovalyard$Parts;" ∈ wsX8_checkVersion := by decide +kernel
set_option maxHeartbeats 4000000 in
set_option maxRecDepth 100000 in
/-- X8.checkVersion -/
theorem cX8_checkVersion_met (l : Launch) (D : va_G) (tys : List (ClassId × FieldType)) (cI : ClassId) (ht : tys[0]? = some (cI, .int)) (ad : Nat → Nat) (B0 : Nat → Int32) (bn : Int32) (P0 P1 P2 P3 P4 P5 : Nat → Int32) (L0 L1 L2 : Nat → Int32) (dy : Int32) (Q0 Q1 Q2 Q3 Q4 Q5 Q6 : Nat → Int32) (nm : Int32) (P'0 P'1 P'2 P'3 P'4 P'5 : Nat → Int32) (L'0 L'1 L'2 : Nat → Int32) (dy2 : Int32) (Q'0 Q'1 Q'2 Q'3 Q'4 Q'5 Q'6 : Nat → Int32) (nm2 : Int32) (O0 O1 : Nat → Int32) (on : Int32) (oc : Int32) (p v : Int32) : CXv l yX8_checkVersion wsX8_checkVersion 6 1 D tys [.ref (ad 0), .int p, .int v] (wApp cI ad B0 bn P0 P1 P2 P3 P4 P5 L0 L1 L2 dy Q0 Q1 Q2 Q3 Q4 Q5 Q6 nm (P'0) (P'1) (P'2) (P'3) (P'4) (P'5) (L'0) (L'1) (L'2) dy2 (Q'0) (Q'1) (Q'2) (Q'3) (Q'4) (Q'5) (Q'6) nm2 O0 O1 on oc) (if v < 1 then 1 else (if v ≤ rat 8 P0 p then 0 else 1)) (wApp cI ad B0 bn P0 P1 P2 P3 P4 P5 L0 L1 L2 dy Q0 Q1 Q2 Q3 Q4 Q5 Q6 nm (P'0) (P'1) (P'2) (P'3) (P'4) (P'5) (L'0) (L'1) (L'2) dy2 (Q'0) (Q'1) (Q'2) (Q'3) (Q'4) (Q'5) (Q'6) nm2 O0 O1 on oc) := by
  refine CXv_of (maxL := 3) (cc := cX8_checkVersion) (y := yX8_checkVersion) rfl rfl (Nat.le_of_ble_eq_true rfl) rfl (by decide) (fun X hl hD hk hn hcz hsz o xo fin out thr => ?_)
  subst hl; subst hD; subst hk
  refine V_iload_n (pc := 0) o dX8_checkVersion_0 rfl ?_
  refine V_iconst (pc := 1) o 1 dX8_checkVersion_1 (by decide) ?_
  refine V_icmp_lt (pc := 2) o 20 dX8_checkVersion_2 (by decide) (fun c2 => ?_) (fun c2 => ?_)
  · exact thr _ _ 20 1 183 "there is no such version" _ _ (by omega) (by omega) (by rw [if_pos c2]) (by decide) twX8_checkVersion_1 (by decide) dX8_checkVersion_20 dX8_checkVersion_23 dX8_checkVersion_24 dX8_checkVersion_26 dX8_checkVersion_29 (Nat.le_of_ble_eq_true rfl)
  · refine V_iload_n (pc := 5) o dX8_checkVersion_5 rfl ?_
    refine V_aload_n (pc := 6) o dX8_checkVersion_6 rfl ?_
    refine V_get (pc := 7) o 0 1 hiX8_checkVersion_X8 rfl rfl (by decide) lkX8_checkVersion_19 rfl rfl dX8_checkVersion_7 ?_
    refine V_get (pc := 10) o 4 0 hiX8_checkVersion_X2 rfl rfl (by decide) lkX8_checkVersion_44 rfl rfl dX8_checkVersion_10 ?_
    refine V_iload_n (pc := 13) o dX8_checkVersion_13 rfl ?_
    refine V_rVi (pc := 14) o (cX3_countOf_met _ _ _ cI ht (fun k => ad (5 + k)) P0 P1 P2 P3 P4 P5 p) 5 13 gX8_checkVersion_X3_countOf rfl hdX3_countOf ⟨by omega, by decide⟩ rfl rfl rfl (Nat.le_of_ble_eq_true rfl) dX8_checkVersion_14 rfl ?_ ⟨by rw [hcz]; omega, by rw [hsz]; omega⟩
    refine V_icmp_le (pc := 17) o 30 dX8_checkVersion_17 (by decide) (fun c17 => ?_) (fun c17 => ?_)
    · exact V_widen (by omega) (by omega) (fin 30 _ dX8_checkVersion_30 (by rw [if_neg c2, if_pos c17]))
    · exact thr _ _ 20 1 183 "there is no such version" _ _ (by omega) (by omega) (by rw [if_neg c2, if_neg c17]) (by decide) twX8_checkVersion_1 (by decide) dX8_checkVersion_20 dX8_checkVersion_23 dX8_checkVersion_24 dX8_checkVersion_26 dX8_checkVersion_29 (Nat.le_of_ble_eq_true rfl)
theorem hdX8_checkRequest : yX8_checkRequest.cls = RX8 ∧ yX8_checkRequest.cls ≠ "java/lang/invoke/MethodHandle" ∧ yX8_checkRequest.cls ≠ "java/lang/invoke/VarHandle" ∧ (parseMethodDescriptor yX8_checkRequest.desc).map (fun d => d.parameters.length) = some 1 := by decide +kernel
theorem twX8_checkRequest_1 : ThW 1 wsX8_checkRequest := by refine ⟨?_, ?_, ?_⟩ <;> decide +kernel
theorem hiX8_checkRequest_X8 : ∀ w ∈ wsX80, w ∈ wsX8_checkRequest := by decide +kernel
theorem lkX8_checkRequest_19 : Cond.fieldLink RX8 19 RX8 "desk" "LApprovalyard$Desk;" ∈ wsX8_checkRequest := by decide +kernel
theorem hiX8_checkRequest_X2 : ∀ w ∈ wsX20, w ∈ wsX8_checkRequest := by decide +kernel
theorem lkX8_checkRequest_97 : Cond.fieldLink RX8 97 RX2 "requests" "LApprovalyard$Requests;" ∈ wsX8_checkRequest := by decide +kernel
set_option maxHeartbeats 4000000 in
set_option maxRecDepth 100000 in
/-- X8.checkRequest -/
theorem cX8_checkRequest_met (l : Launch) (D : va_G) (tys : List (ClassId × FieldType)) (cI : ClassId) (ht : tys[0]? = some (cI, .int)) (ad : Nat → Nat) (B0 : Nat → Int32) (bn : Int32) (P0 P1 P2 P3 P4 P5 : Nat → Int32) (L0 L1 L2 : Nat → Int32) (dy : Int32) (Q0 Q1 Q2 Q3 Q4 Q5 Q6 : Nat → Int32) (nm : Int32) (P'0 P'1 P'2 P'3 P'4 P'5 : Nat → Int32) (L'0 L'1 L'2 : Nat → Int32) (dy2 : Int32) (Q'0 Q'1 Q'2 Q'3 Q'4 Q'5 Q'6 : Nat → Int32) (nm2 : Int32) (O0 O1 : Nat → Int32) (on : Int32) (oc : Int32) (q : Int32) : CXv l yX8_checkRequest wsX8_checkRequest 6 1 D tys [.ref (ad 0), .int q] (wApp cI ad B0 bn P0 P1 P2 P3 P4 P5 L0 L1 L2 dy Q0 Q1 Q2 Q3 Q4 Q5 Q6 nm (P'0) (P'1) (P'2) (P'3) (P'4) (P'5) (L'0) (L'1) (L'2) dy2 (Q'0) (Q'1) (Q'2) (Q'3) (Q'4) (Q'5) (Q'6) nm2 O0 O1 on oc) (if q < 0 then 1 else (if q < nm then 0 else 1)) (wApp cI ad B0 bn P0 P1 P2 P3 P4 P5 L0 L1 L2 dy Q0 Q1 Q2 Q3 Q4 Q5 Q6 nm (P'0) (P'1) (P'2) (P'3) (P'4) (P'5) (L'0) (L'1) (L'2) dy2 (Q'0) (Q'1) (Q'2) (Q'3) (Q'4) (Q'5) (Q'6) nm2 O0 O1 on oc) := by
  refine CXv_of (maxL := 2) (cc := cX8_checkRequest) (y := yX8_checkRequest) rfl rfl (Nat.le_of_ble_eq_true rfl) rfl (by decide) (fun X hl hD hk hn hcz hsz o xo fin out thr => ?_)
  subst hl; subst hD; subst hk
  refine V_iload_n (pc := 0) o dX8_checkRequest_0 rfl ?_
  refine V_if_lt (pc := 1) o 18 dX8_checkRequest_1 (by decide) (fun c1 => ?_) (fun c1 => ?_)
  · exact thr _ _ 18 1 187 "there is no such request" _ _ (by omega) (by omega) (by rw [if_pos c1]) (by decide) twX8_checkRequest_1 (by decide) dX8_checkRequest_18 dX8_checkRequest_21 dX8_checkRequest_22 dX8_checkRequest_24 dX8_checkRequest_27 (Nat.le_of_ble_eq_true rfl)
  · refine V_iload_n (pc := 4) o dX8_checkRequest_4 rfl ?_
    refine V_aload_n (pc := 5) o dX8_checkRequest_5 rfl ?_
    refine V_get (pc := 6) o 0 1 hiX8_checkRequest_X8 rfl rfl (by decide) lkX8_checkRequest_19 rfl rfl dX8_checkRequest_6 ?_
    refine V_get (pc := 9) o 4 2 hiX8_checkRequest_X2 rfl rfl (by decide) lkX8_checkRequest_97 rfl rfl dX8_checkRequest_9 ?_
    refine V_rVi (pc := 12) o (cX5_count_met _ _ _ cI ht (fun k => ad (25 + k)) Q0 Q1 Q2 Q3 Q4 Q5 Q6 nm ) 25 15 gX8_checkRequest_X5_count rfl hdX5_count ⟨by omega, by decide⟩ rfl rfl rfl (Nat.le_of_ble_eq_true rfl) dX8_checkRequest_12 rfl ?_ ⟨by rw [hcz]; omega, by rw [hsz]; omega⟩
    refine V_icmp_lt (pc := 15) o 28 dX8_checkRequest_15 (by decide) (fun c15 => ?_) (fun c15 => ?_)
    · exact V_widen (by omega) (by omega) (fin 28 _ dX8_checkRequest_28 (by rw [if_neg c1, if_pos c15]))
    · exact thr _ _ 18 1 187 "there is no such request" _ _ (by omega) (by omega) (by rw [if_neg c1, if_neg c15]) (by decide) twX8_checkRequest_1 (by decide) dX8_checkRequest_18 dX8_checkRequest_21 dX8_checkRequest_22 dX8_checkRequest_24 dX8_checkRequest_27 (Nat.le_of_ble_eq_true rfl)
