/-! The reference: the whole search. -/
set_option maxHeartbeats 8000000 in
set_option maxRecDepth 100000 in
theorem lpX9_searchN {X : XT} (o : OkX X cX9_search RX9 wsX9_search 3) (hn : XN X = 6) (cI : ClassId) (ht : (XK X)[0]? = some (cI, .int)) (ad : Nat → Nat) (vc : Nat → Nat) (vr : Nat → Nat) (vn : Nat → Nat) (ne : Nat → Nat) (vs : Nat → Nat) (li : Nat → Nat) (ba : Nat → Nat) (de : Nat → Nat) (qp : Nat → Nat) (qt : Nat → Nat) (ql : Nat → Nat) (qs : Nat → Nat) (qc : Nat → Nat) (ch : Nat → Nat) (ap : Nat → Nat) (un : Nat → Int32) (ro : Nat → Nat) (pi : Nat → Nat) (si : Nat → Nat) (pl : Nat → Int32) (rq : Nat) (dy : Nat) (en : Nat) (th : Int32) (q : Nat) (hq : q < 30) (hvn : ∀ k, vn k ≤ 4) (hne : ∀ k, ne k ≤ 7) (hvs : ∀ k, vs k ≤ 3) (hvr : ∀ k, vr k ≤ 1) (hql : 1 ≤ ql q ∧ ql q ≤ 3) (N : Nat) (St : Nat → SS) (hs : ∀ i, i < N → St (i + 1) = sF vr vn ne vs ql q (St i)) (hr : ∀ i, i < N → 1 ≤ (St i).1 ∧ (St i).1 ≤ (St i).2.1 ∧ sR vr vn ne ql q (St i)) (kk : V X 0 0 (wMod cI ad vc vr vn ne vs li ba de qp qt ql qs qc ch ap un ((St N).2.2.1) ((St N).2.2.2.1) ((St N).2.2.2.2.1) ((St N).2.2.2.2.2) rq dy en th) 75 [(0, .ref (ad 0)), (1, .int (nI q)), (2, .int (atI (St N).1)), (3, .int (nI (St N).2.1))] []) : ∀ j : Nat, j ≤ N → V X 0 0 (wMod cI ad vc vr vn ne vs li ba de qp qt ql qs qc ch ap un ((St (N - j)).2.2.1) ((St (N - j)).2.2.2.1) ((St (N - j)).2.2.2.2.1) ((St (N - j)).2.2.2.2.2) rq dy en th) 75 [(0, .ref (ad 0)), (1, .int (nI q)), (2, .int (atI (St (N - j)).1)), (3, .int (nI (St (N - j)).2.1))] [] := by
  intro j
  induction j with
  | zero => intro _; exact kk
  | succ j ih =>
    intro hj
    have hi : N - (j + 1) < N := by omega
    have e1 := hs _ hi
    obtain ⟨h1, h2, h3⟩ := hr _ hi
    rw [show N - (j + 1) + 1 = N - j by omega] at e1
    have K := ih (by omega)
    rw [e1] at K
    generalize St (N - (j + 1)) = T at h1 h2 h3 K
    obtain ⟨t', m', ro', pi', si', pl'⟩ := T
    obtain ⟨a, rfl⟩ : ∃ a, t' = a + 1 := ⟨t' - 1, by dsimp only at h1; omega⟩
    dsimp only at h1 h2
    have ea : a + 1 - 1 = a := Nat.add_sub_cancel a 1
    refine V_sub (lc2 := [(0, .ref (ad 0)), (1, .int (nI q)), (2, .int (nI a)), (3, .int (nI m'))]) ⟨rfl, rfl, lc_e (by unfold atI; rw [if_neg (by omega), ea]), rfl, trivial⟩ ?_
    refine lpX9_searchS o hn cI ht ad vc vr vn ne vs li ba de qp qt ql qs qc ch ap un (ro') (pi') (si') (pl') rq dy en th q a m' hq (by omega) hvn hne hvs hvr hql h3 (fun kf => ?_) (fun ko => ?_)
    · have e2 : sF vr vn ne vs ql q (a + 1, m', ro', pi', si', pl') = (a, si' a, ro', pi', si', fgP pl' (si' a) 8) := by
        unfold sF
        dsimp only
        rw [ea, if_pos kf]
      rw [e2] at K
      exact K
    · have e2 : sF vr vn ne vs ql q (a + 1, m', ro', pi', si', pl') = (a + 2, (sC vr vn ne ql q (a + 1, m', ro', pi', si', pl') a).2.2, (sC vr vn ne ql q (a + 1, m', ro', pi', si', pl') a).2.1, sP vr vn ne vs ql q (a + 1, m', ro', pi', si', pl') a, va_up si' (a + 1) (sC vr vn ne ql q (a + 1, m', ro', pi', si', pl') a).2.2, (sC vr vn ne ql q (a + 1, m', ro', pi', si', pl') a).1) := by
        unfold sF
        dsimp only
        rw [ea, if_neg ko]
      rw [e2] at K
      exact K
theorem hdX9_search : yX9_search.cls = RX9 ∧ yX9_search.cls ≠ "java/lang/invoke/MethodHandle" ∧ yX9_search.cls ≠ "java/lang/invoke/VarHandle" ∧ (parseMethodDescriptor yX9_search.desc).map (fun d => d.parameters.length) = some 1 := by decide +kernel
theorem lkX9_search_37 : Cond.fieldLink RX9 37 RX9 "qt" "[I" ∈ wsX9_search := by decide +kernel
set_option maxHeartbeats 4000000 in
set_option maxRecDepth 100000 in
/-- reference: search -/
theorem k9_search (l : Launch) (D : va_G) (tys : List (ClassId × FieldType)) (cI : ClassId) (ht : tys[0]? = some (cI, .int)) (ad : Nat → Nat) (vc : Nat → Nat) (vr : Nat → Nat) (vn : Nat → Nat) (ne : Nat → Nat) (vs : Nat → Nat) (li : Nat → Nat) (ba : Nat → Nat) (de : Nat → Nat) (qp : Nat → Nat) (qt : Nat → Nat) (ql : Nat → Nat) (qs : Nat → Nat) (qc : Nat → Nat) (ch : Nat → Nat) (ap : Nat → Nat) (un : Nat → Int32) (ro : Nat → Nat) (pi : Nat → Nat) (si : Nat → Nat) (pl : Nat → Int32) (rq : Nat) (dy : Nat) (en : Nat) (th : Int32) (q : Nat) (hq : q < 30) (hqt : ∀ k, qt k ≤ 7) (hvn : ∀ k, vn k ≤ 4) (hne : ∀ k, ne k ≤ 7) (hvs : ∀ k, vs k ≤ 3) (hvr : ∀ k, vr k ≤ 1) (hql : 1 ≤ ql q ∧ ql q ≤ 3) (N : Nat) (St : Nat → SS) (hs : ∀ i, i < N → St (i + 1) = sF vr vn ne vs ql q (St i)) (hr : ∀ i, i < N → 1 ≤ (St i).1 ∧ (St i).1 ≤ (St i).2.1 ∧ sR vr vn ne ql q (St i)) (h0 : St 0 = (1, 1, va_up ro 0 (qt q), va_up pi 0 (vs (qt q) + 1), va_up si 0 1, va_up (ipP pl 8) (qt q) 0)) (hex : (St N).1 = 0 ∨ (St N).2.1 < (St N).1) (hb : (St N).1 < 100 ∧ (St N).2.1 < 100) : CId l yX9_search wsX9_search 3 D tys [.ref (ad 0), .int (nI q)] (wMod cI ad vc vr vn ne vs li ba de qp qt ql qs qc ch ap un ro pi si pl rq dy en th) (if (St N).1 = 0 then 0 else nI (St N).2.1) (wMod cI ad vc vr vn ne vs li ba de qp qt ql qs qc ch ap un ((St N).2.2.1) ((St N).2.2.2.1) ((St N).2.2.2.2.1) ((St N).2.2.2.2.2) rq dy en th) := by
  refine CI_of (maxL := 6) (cc := cX9_search) (y := yX9_search) rfl rfl (Nat.le_of_ble_eq_true rfl) (fun X hl hD hk hn hcz hsz o fin => ?_)
  subst hl; subst hD; subst hk
  refine V_iconst (pc := 0) o 0 dX9_search_0 (by decide) ?_
  refine V_istore_n (pc := 1) o dX9_search_1 (by rw [hn]; decide) ?_
  refine V_eq (ws2 := wMod cI ad vc vr vn ne vs li ba de qp qt ql qs qc ch ap un ro pi si (ipP pl 0) rq dy en th) rfl rfl ?_
  refine V_sub (lc2 := [(0, .ref (ad 0)), (1, .int (nI q)), (2, .int (nI 0))]) ⟨rfl, rfl, rfl, trivial⟩ ?_
  refine lpX9_searchI o hn cI ht ad vc vr vn ne vs li ba de qp qt ql qs qc ch ap un ro pi si pl rq dy en th q ?_ (8 + 1) 0 (by omega) (by omega)
  refine V_aload_n (pc := 21) o dX9_search_21 rfl ?_
  refine V_get (pc := 22) o 0 19 hiX9_search rfl rfl (by decide) lkX9_search_58 rfl rfl dX9_search_22 ?_
  refine V_iconst (pc := 25) o 0 dX9_search_25 (by decide) ?_
  refine V_aload_n (pc := 26) o dX9_search_26 rfl ?_
  refine V_get (pc := 27) o 0 9 hiX9_search rfl rfl (by decide) lkX9_search_37 rfl rfl dX9_search_27 ?_
  refine V_iload_n (pc := 30) o dX9_search_30 rfl ?_
  refine V_ialdN (pc := 31) o 10 qt q rfl ht rfl (by have := hqt q; have := hvs (qt q); omega) (by decide) dX9_search_31 ?_
  refine V_iastN (pc := 32) o 17 ro 0 (qt q) rfl ht rfl rfl (by have := hqt q; have := hvs (qt q); omega) (by decide) dX9_search_32 ?_
  refine V_eq (ws2 := wMod cI ad vc vr vn ne vs li ba de qp qt ql qs qc ch ap un (va_up ro 0 (qt q)) pi si (ipP pl 8) rq dy en th) rfl rfl ?_
  refine V_aload_n (pc := 33) o dX9_search_33 rfl ?_
  refine V_get (pc := 34) o 0 22 hiX9_search rfl rfl (by decide) lkX9_search_67 rfl rfl dX9_search_34 ?_
  refine V_aload_n (pc := 37) o dX9_search_37 rfl ?_
  refine V_get (pc := 38) o 0 9 hiX9_search rfl rfl (by decide) lkX9_search_37 rfl rfl dX9_search_38 ?_
  refine V_iload_n (pc := 41) o dX9_search_41 rfl ?_
  refine V_ialdN (pc := 42) o 10 qt q rfl ht rfl (by have := hqt q; have := hvs (qt q); omega) (by decide) dX9_search_42 ?_
  refine V_iconst (pc := 43) o 0 dX9_search_43 (by decide) ?_
  refine V_iastI (pc := 44) o 20 (ipP pl 8) (qt q) rfl ht rfl (by have := hqt q; have := hvs (qt q); omega) (by decide) dX9_search_44 ?_
  refine V_eq (ws2 := wMod cI ad vc vr vn ne vs li ba de qp qt ql qs qc ch ap un (va_up ro 0 (qt q)) pi si (va_up (ipP pl 8) (qt q) (nI 0)) rq dy en th) rfl rfl ?_
  refine V_aload_n (pc := 45) o dX9_search_45 rfl ?_
  refine V_get (pc := 46) o 0 21 hiX9_search rfl rfl (by decide) lkX9_search_64 rfl rfl dX9_search_46 ?_
  refine V_iconst (pc := 49) o 0 dX9_search_49 (by decide) ?_
  refine V_iconst (pc := 50) o 1 dX9_search_50 (by decide) ?_
  refine V_iastN (pc := 51) o 19 si 0 1 rfl ht rfl rfl (by have := hqt q; have := hvs (qt q); omega) (by decide) dX9_search_51 ?_
  refine V_eq (ws2 := wMod cI ad vc vr vn ne vs li ba de qp qt ql qs qc ch ap un (va_up ro 0 (qt q)) pi (va_up si 0 1) (va_up (ipP pl 8) (qt q) (nI 0)) rq dy en th) rfl rfl ?_
  refine V_aload_n (pc := 52) o dX9_search_52 rfl ?_
  refine V_get (pc := 53) o 0 20 hiX9_search rfl rfl (by decide) lkX9_search_61 rfl rfl dX9_search_53 ?_
  refine V_iconst (pc := 56) o 0 dX9_search_56 (by decide) ?_
  refine V_aload_n (pc := 57) o dX9_search_57 rfl ?_
  refine V_get (pc := 58) o 0 4 hiX9_search rfl rfl (by decide) lkX9_search_22 rfl rfl dX9_search_58 ?_
  refine V_aload_n (pc := 61) o dX9_search_61 rfl ?_
  refine V_get (pc := 62) o 0 9 hiX9_search rfl rfl (by decide) lkX9_search_37 rfl rfl dX9_search_62 ?_
  refine V_iload_n (pc := 65) o dX9_search_65 rfl ?_
  refine V_ialdN (pc := 66) o 10 qt q rfl ht rfl (by have := hqt q; have := hvs (qt q); omega) (by decide) dX9_search_66 ?_
  refine V_ialdN (pc := 67) o 5 vs (qt q) rfl ht rfl (by have := hqt q; have := hvs (qt q); omega) (by decide) dX9_search_67 ?_
  refine V_iconst (pc := 68) o 1 dX9_search_68 (by decide) ?_
  refine V_iaddN (pc := 69) o (vs (qt q)) 1 rfl rfl dX9_search_69 ?_
  refine V_iastN (pc := 70) o 18 pi 0 ((vs (qt q)) + 1) rfl ht rfl rfl (by have := hqt q; have := hvs (qt q); omega) (by decide) dX9_search_70 ?_
  refine V_eq (ws2 := wMod cI ad vc vr vn ne vs li ba de qp qt ql qs qc ch ap un (va_up ro 0 (qt q)) (va_up pi 0 ((vs (qt q)) + 1)) (va_up si 0 1) (va_up (ipP pl 8) (qt q) (nI 0)) rq dy en th) rfl rfl ?_
  refine V_iconst (pc := 71) o 0 dX9_search_71 (by decide) ?_
  refine V_istore_n (pc := 72) o dX9_search_72 (by rw [hn]; decide) ?_
  refine V_iconst (pc := 73) o 1 dX9_search_73 (by decide) ?_
  refine V_istore_n (pc := 74) o dX9_search_74 (by rw [hn]; decide) ?_
  have KN : V X 0 0 (wMod cI ad vc vr vn ne vs li ba de qp qt ql qs qc ch ap un ((St N).2.2.1) ((St N).2.2.2.1) ((St N).2.2.2.2.1) ((St N).2.2.2.2.2) rq dy en th) 75 [(0, .ref (ad 0)), (1, .int (nI q)), (2, .int (atI (St N).1)), (3, .int (nI (St N).2.1))] [] := by
    by_cases hA : (St N).1 = 0
    · refine V_sub (lc2 := [(0, .ref (ad 0)), (1, .int (nI q)), (2, .int (-1)), (3, .int (nI (St N).2.1))]) ⟨rfl, rfl, lc_e (by unfold atI; rw [if_pos hA]), rfl, trivial⟩ ?_
      refine V_iload_n (pc := 75) o dX9_search_75 rfl ?_
      refine V_if_lt (pc := 76) o 215 dX9_search_76 (by decide) (fun _ => ?_) (fun c76 => absurd c76 (by decide))
      refine V_iload_n (pc := 215) o dX9_search_215 rfl ?_
      refine V_if_ge (pc := 216) o 223 dX9_search_216 (by decide) (fun c216 => absurd c216 (by decide)) (fun _ => ?_)
      refine V_iconst (pc := 219) o 0 dX9_search_219 (by decide) ?_
      refine V_goto (pc := 220) o 224 dX9_search_220 (by decide) ?_
      exact fin 224 _ _ () dX9_search_224 rfl (by rw [if_pos hA])
    · refine V_sub (lc2 := [(0, .ref (ad 0)), (1, .int (nI q)), (2, .int (nI ((St N).1 - 1))), (3, .int (nI (St N).2.1))]) ⟨rfl, rfl, lc_e (by unfold atI; rw [if_neg hA]), rfl, trivial⟩ ?_
      refine V_iload_n (pc := 75) o dX9_search_75 rfl ?_
      refine V_if_lt (pc := 76) o 215 dX9_search_76 (by decide) (fun c76 => absurd c76 (nI_pos (by omega))) (fun c76 => ?_)
      refine V_iload_n (pc := 79) o dX9_search_79 rfl ?_
      refine V_iload_n (pc := 80) o dX9_search_80 rfl ?_
      refine V_icmp_geN (pc := 81) o 215 ((St N).1 - 1) ((St N).2.1) rfl rfl (by omega) (by omega) dX9_search_81 (by decide) (fun c81 => ?_) (fun c81 => absurd c81 (by omega))
      refine V_iload_n (pc := 215) o dX9_search_215 rfl ?_
      refine V_if_ge (pc := 216) o 223 dX9_search_216 (by decide) (fun c216 => ?_) (fun c216 => absurd c216 (fun h => h (nI_pos' (by omega))))
      refine V_iload_n (pc := 223) o dX9_search_223 rfl ?_
      exact fin 224 _ _ () dX9_search_224 rfl (by rw [if_neg hA])
  have K := lpX9_searchN o hn cI ht ad vc vr vn ne vs li ba de qp qt ql qs qc ch ap un ro pi si pl rq dy en th q hq hvn hne hvs hvr hql N St hs hr KN N (Nat.le_refl N)
  rw [Nat.sub_self, h0] at K
  exact V_sub (lc2 := [(0, .ref (ad 0)), (1, .int (nI q)), (2, .int (atI 1)), (3, .int (nI 1))]) ⟨rfl, rfl, rfl, rfl, trivial⟩ K
