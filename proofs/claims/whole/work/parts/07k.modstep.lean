/-! The reference: the search, step by step. -/
abbrev SS : Type := Nat × Nat × (Nat → Nat) × (Nat → Nat) × (Nat → Nat) × (Nat → Int32)
def atI (t : Nat) : Int32 := if t = 0 then -1 else nI (t - 1)
def sLo (ql : Nat → Nat) (q a : Nat) : Nat := if a = 0 then ql q else 1
def sV (vr vn ne ql : Nat → Nat) (q : Nat) (T : SS) (a : Nat) : Nat := fdV (goF vr vn ne T.2.2.1 T.2.2.2.1 (fgP T.2.2.2.2.2 (T.2.2.2.2.1 a) 8) a) (sLo ql q a) (T.2.2.2.1 a - 1)
def sC (vr vn ne ql : Nat → Nat) (q : Nat) (T : SS) (a : Nat) : C3 := cmT ne (gx T.2.2.1 (va_up T.2.2.2.1 a (sV vr vn ne ql q T a)) a) (fgP T.2.2.2.2.2 (T.2.2.2.2.1 a) 8, T.2.2.1, T.2.2.2.2.1 a) (vn (gx T.2.2.1 (va_up T.2.2.2.1 a (sV vr vn ne ql q T a)) a))
def sP (vr vn ne vs ql : Nat → Nat) (q : Nat) (T : SS) (a : Nat) : Nat → Nat := if a + 1 < (sC vr vn ne ql q T a).2.2 then va_up (va_up T.2.2.2.1 a (sV vr vn ne ql q T a)) (a + 1) (vs ((sC vr vn ne ql q T a).2.1 (a + 1)) + 1) else va_up T.2.2.2.1 a (sV vr vn ne ql q T a)
/-- one round of the search's loop at the place a, T.1 = a + 1 -/
def sF (vr vn ne vs ql : Nat → Nat) (q : Nat) (T : SS) : SS :=
  if sV vr vn ne ql q T (T.1 - 1) < sLo ql q (T.1 - 1) then (T.1 - 1, T.2.2.2.2.1 (T.1 - 1), T.2.2.1, T.2.2.2.1, T.2.2.2.2.1, fgP T.2.2.2.2.2 (T.2.2.2.2.1 (T.1 - 1)) 8)
  else (T.1 + 1, (sC vr vn ne ql q T (T.1 - 1)).2.2, (sC vr vn ne ql q T (T.1 - 1)).2.1, sP vr vn ne vs ql q T (T.1 - 1), va_up T.2.2.2.2.1 (T.1 - 1 + 1) (sC vr vn ne ql q T (T.1 - 1)).2.2, (sC vr vn ne ql q T (T.1 - 1)).1)
/-- what a round asks -/
def sR (vr vn ne ql : Nat → Nat) (q : Nat) (T : SS) : Prop := T.1 ≤ 8 ∧ T.2.1 ≤ 9 ∧ (∀ k, T.2.2.1 k ≤ 7) ∧ (∀ k, T.2.2.2.1 k ≤ 4) ∧ (∀ k, k + 1 < T.1 → 1 ≤ T.2.2.2.1 k ∧ T.2.2.2.1 k ≤ 3) ∧ 1 ≤ T.2.2.2.1 (T.1 - 1) ∧ (∀ k, T.2.2.2.2.1 k ≤ 9) ∧ ∀ j, j ≤ 4 → (cmT ne (gx T.2.2.1 (va_up T.2.2.2.1 (T.1 - 1) (sV vr vn ne ql q T (T.1 - 1))) (T.1 - 1)) (fgP T.2.2.2.2.2 (T.2.2.2.2.1 (T.1 - 1)) 8, T.2.2.1, T.2.2.2.2.1 (T.1 - 1)) j).2.2 ≤ 8
theorem fdV_le (go : Nat → Bool) (lo : Nat) : ∀ v, fdV go lo v ≤ v
  | 0 => Nat.le_refl _
  | v + 1 => by
    unfold fdV
    have := fdV_le go lo v
    split
    · omega
    · split <;> omega
theorem cmT_ro {ne : Nat → Nat} (hne : ∀ k, ne k ≤ 7) (x : Nat) {T : C3} (h : ∀ k, T.2.1 k ≤ 7) : ∀ j k, (cmT ne x T j).2.1 k ≤ 7
  | 0, k => h k
  | j + 1, k => by
    unfold cmT cmS
    split
    · exact up_le (cmT_ro hne x h j) (hne _) k
    · exact cmT_ro hne x h j k
theorem va_up_at {α : Type} (f : Nat → α) (k : Nat) (v : α) : va_up f k v k = v := by simp [va_up]
theorem lkX9_search_64 : Cond.fieldLink RX9 64 RX9 "size" "[I" ∈ wsX9_search := by decide +kernel
theorem lkX9_search_61 : Cond.fieldLink RX9 61 RX9 "pick" "[I" ∈ wsX9_search := by decide +kernel
theorem lkX9_search_22 : Cond.fieldLink RX9 22 RX9 "versions" "[I" ∈ wsX9_search := by decide +kernel
theorem lkX9_search_58 : Cond.fieldLink RX9 58 RX9 "row" "[I" ∈ wsX9_search := by decide +kernel
theorem lkX9_search_40 : Cond.fieldLink RX9 40 RX9 "ql" "[I" ∈ wsX9_search := by decide +kernel
set_option maxHeartbeats 8000000 in
set_option maxRecDepth 100000 in
theorem lpX9_searchS {X : XT} (o : OkX X cX9_search RX9 wsX9_search 3) (hn : XN X = 6) (cI : ClassId) (ht : (XK X)[0]? = some (cI, .int)) (ad : Nat → Nat) (vc : Nat → Nat) (vr : Nat → Nat) (vn : Nat → Nat) (ne : Nat → Nat) (vs : Nat → Nat) (li : Nat → Nat) (ba : Nat → Nat) (de : Nat → Nat) (qp : Nat → Nat) (qt : Nat → Nat) (ql : Nat → Nat) (qs : Nat → Nat) (qc : Nat → Nat) (ch : Nat → Nat) (ap : Nat → Nat) (un : Nat → Int32) (ro : Nat → Nat) (pi : Nat → Nat) (si : Nat → Nat) (pl : Nat → Int32) (rq : Nat) (dy : Nat) (en : Nat) (th : Int32) (q a m : Nat) (hq : q < 30) (ham : a < m) (hvn : ∀ k, vn k ≤ 4) (hne : ∀ k, ne k ≤ 7) (hvs : ∀ k, vs k ≤ 3) (hvr : ∀ k, vr k ≤ 1) (hql : 1 ≤ ql q ∧ ql q ≤ 3) (hT : sR vr vn ne ql q (a + 1, m, ro, pi, si, pl)) (kf : (sV vr vn ne ql q (a + 1, m, ro, pi, si, pl) a) < (sLo ql q a) → V X 0 0 (wMod cI ad vc vr vn ne vs li ba de qp qt ql qs qc ch ap un ro pi si (fgP pl (si a) 8) rq dy en th) 75 [(0, .ref (ad 0)), (1, .int (nI q)), (2, .int (atI a)), (3, .int (nI (si a)))] []) (ko : ¬ (sV vr vn ne ql q (a + 1, m, ro, pi, si, pl) a) < (sLo ql q a) → V X 0 0 (wMod cI ad vc vr vn ne vs li ba de qp qt ql qs qc ch ap un ((sC vr vn ne ql q (a + 1, m, ro, pi, si, pl) a).2.1) ((sP vr vn ne vs ql q (a + 1, m, ro, pi, si, pl) a)) (va_up si (a + 1) (sC vr vn ne ql q (a + 1, m, ro, pi, si, pl) a).2.2) ((sC vr vn ne ql q (a + 1, m, ro, pi, si, pl) a).1) rq dy en th) 75 [(0, .ref (ad 0)), (1, .int (nI q)), (2, .int (atI (a + 2))), (3, .int (nI (sC vr vn ne ql q (a + 1, m, ro, pi, si, pl) a).2.2))] []) : V X 0 0 (wMod cI ad vc vr vn ne vs li ba de qp qt ql qs qc ch ap un ro pi si pl rq dy en th) 75 [(0, .ref (ad 0)), (1, .int (nI q)), (2, .int (nI a)), (3, .int (nI m))] [] := by
  obtain ⟨ha9, hm9, hro, hpi4, hpi0, hpa, hsi, hal⟩ := hT
  dsimp only at ha9 hm9 hro hpi4 hpi0 hpa hsi hal
  rw [show a + 1 - 1 = a from Nat.add_sub_cancel a 1] at hpa hal
  have hpi : ∀ k, k < a → 1 ≤ pi k ∧ pi k ≤ 3 := fun k hk => hpi0 k (by omega)
  have hlo : 1 ≤ (sLo ql q a) ∧ (sLo ql q a) ≤ 3 := by
    unfold sLo
    have := hql
    split <;> omega
  have hV3 : (sV vr vn ne ql q (a + 1, m, ro, pi, si, pl) a) ≤ 3 := Nat.le_trans (fdV_le _ _ _) (by have := hpi4 a; show pi a - 1 ≤ 3; omega)
  refine V_iload_n (pc := 75) o dX9_search_75 rfl ?_
  refine V_if_lt (pc := 76) o 215 dX9_search_76 (by decide) (fun c76 => absurd c76 (nI_pos (by omega))) (fun c76 => ?_)
  refine V_iload_n (pc := 79) o dX9_search_79 rfl ?_
  refine V_iload_n (pc := 80) o dX9_search_80 rfl ?_
  refine V_icmp_geN (pc := 81) o 215 a m rfl rfl (by have := hpi4 a; have := hsi a; have := hql; omega) (by have := hpi4 a; have := hsi a; have := hql; omega) dX9_search_81 (by decide) (fun c81 => absurd c81 (by omega)) (fun c81 => ?_)
  refine V_aload_n (pc := 84) o dX9_search_84 rfl ?_
  refine V_aload_n (pc := 85) o dX9_search_85 rfl ?_
  refine V_get (pc := 86) o 0 21 hiX9_search rfl rfl (by decide) lkX9_search_64 rfl rfl dX9_search_86 ?_
  refine V_iload_n (pc := 89) o dX9_search_89 rfl ?_
  refine V_ialdN (pc := 90) o 19 si a rfl ht rfl (by have := hpi4 a; have := hsi a; have := hql; omega) (by decide) dX9_search_90 ?_
  refine V_wVv (pc := 91) o (k9_forget _ _ _ cI ht ad vc vr vn ne vs li ba de qp qt ql qs qc ch ap un ro pi si pl rq dy en th (si a)) 0 21 (wMod cI ad vc vr vn ne vs li ba de qp qt ql qs qc ch ap un ro pi si (fgP pl (si a) 8) rq dy en th) gX9_search_X9_forget rfl hdX9_forget ⟨by omega, by decide⟩ rfl rfl rfl (Nat.le_of_ble_eq_true rfl) dX9_search_91 rfl rfl ?_
  refine V_aload_n (pc := 94) o dX9_search_94 rfl ?_
  refine V_get (pc := 95) o 0 21 hiX9_search rfl rfl (by decide) lkX9_search_64 rfl rfl dX9_search_95 ?_
  refine V_iload_n (pc := 98) o dX9_search_98 rfl ?_
  refine V_ialdN (pc := 99) o 19 si a rfl ht rfl (by have := hpi4 a; have := hsi a; have := hql; omega) (by decide) dX9_search_99 ?_
  refine V_istore_n (pc := 100) o dX9_search_100 (by rw [hn]; decide) ?_
  refine V_aload_n (pc := 101) o dX9_search_101 rfl ?_
  refine V_get (pc := 102) o 0 20 hiX9_search rfl rfl (by decide) lkX9_search_61 rfl rfl dX9_search_102 ?_
  refine V_iload_n (pc := 105) o dX9_search_105 rfl ?_
  refine V_ialdN (pc := 106) o 18 pi a rfl ht rfl (by have := hpi4 a; have := hsi a; have := hql; omega) (by decide) dX9_search_106 ?_
  refine V_iconst (pc := 107) o 1 dX9_search_107 (by decide) ?_
  refine V_isubN (pc := 108) o (pi a) 1 rfl rfl (by have := hpi4 a; have := hsi a; have := hql; omega) dX9_search_108 ?_
  refine V_istore (pc := 109) o dX9_search_109 (by rw [hn]; decide) ?_
  refine V_iload_n (pc := 111) o dX9_search_111 rfl ?_
  refine V_if_neN (pc := 112) o 124 a rfl (by have := hpi4 a; have := hsi a; have := hql; omega) dX9_search_112 (by decide) (fun c112 => ?_) (fun c112 => ?_)
  · refine V_iconst (pc := 124) o 1 dX9_search_124 (by decide) ?_
    refine V_istore (pc := 125) o dX9_search_125 (by rw [hn]; decide) ?_
    refine V_sub (lc2 := [(0, .ref (ad 0)), (1, .int (nI q)), (2, .int (nI a)), (3, .int (nI (si a))), (4, .int (nI (pi a - 1))), (5, .int (nI (sLo ql q a)))]) ⟨rfl, rfl, rfl, rfl, rfl, lc_e (by unfold sLo; first | (rw [if_pos (by omega)]; done) | (rw [if_neg (by omega)]; rfl)), trivial⟩ ?_
    refine lpX9_searchW o hn cI ht ad vc vr vn ne vs li ba de qp qt ql qs qc ch ap un ro pi si (fgP pl (si a) 8) rq dy en th q a (si a) (sLo ql q a) (by omega) hlo hro hpi hpi4 hvr hvn hne (pi a - 1) (by have := hpi4 a; omega) ?_
    refine V_sub (lc2 := [(0, .ref (ad 0)), (1, .int (nI q)), (2, .int (nI a)), (3, .int (nI (si a))), (4, .int (nI (sV vr vn ne ql q (a + 1, m, ro, pi, si, pl) a))), (5, .int (nI (sLo ql q a)))]) ⟨rfl, rfl, rfl, rfl, rfl, rfl, trivial⟩ ?_
    refine V_iload (pc := 150) o dX9_search_150 rfl ?_
    refine V_iload (pc := 152) o dX9_search_152 rfl ?_
    refine V_icmp_geN (pc := 154) o 163 (sV vr vn ne ql q (a + 1, m, ro, pi, si, pl) a) (sLo ql q a) rfl rfl (by have := hpi4 a; have := hsi a; have := hql; omega) (by have := hpi4 a; have := hsi a; have := hql; omega) dX9_search_154 (by decide) (fun c154 => ?_) (fun c154 => ?_)
    · refine V_aload_n (pc := 163) o dX9_search_163 rfl ?_
      refine V_get (pc := 164) o 0 20 hiX9_search rfl rfl (by decide) lkX9_search_61 rfl rfl dX9_search_164 ?_
      refine V_iload_n (pc := 167) o dX9_search_167 rfl ?_
      refine V_iload (pc := 168) o dX9_search_168 rfl ?_
      refine V_iastN (pc := 170) o 18 pi a (sV vr vn ne ql q (a + 1, m, ro, pi, si, pl) a) rfl ht rfl rfl (by have := hpi4 a; have := hsi a; have := hql; omega) (by decide) dX9_search_170 ?_
      refine V_eq (ws2 := wMod cI ad vc vr vn ne vs li ba de qp qt ql qs qc ch ap un ro (va_up pi a (sV vr vn ne ql q (a + 1, m, ro, pi, si, pl) a)) si (fgP pl (si a) 8) rq dy en th) rfl rfl ?_
      refine V_aload_n (pc := 171) o dX9_search_171 rfl ?_
      refine V_iload_n (pc := 172) o dX9_search_172 rfl ?_
      refine V_iload_n (pc := 173) o dX9_search_173 rfl ?_
      refine V_wVi (pc := 174) o (k9_comes _ _ _ cI ht ad vc vr vn ne vs li ba de qp qt ql qs qc ch ap un ro (va_up pi a (sV vr vn ne ql q (a + 1, m, ro, pi, si, pl) a)) si (fgP pl (si a) 8) rq dy en th a (si a) (by omega) hro (by rw [va_up_at]; omega) hvn hne (fun j hj => hal j (by have := hvn (gx ro (va_up pi a (sV vr vn ne ql q (a + 1, m, ro, pi, si, pl) a)) a); omega))) 0 21 (wMod cI ad vc vr vn ne vs li ba de qp qt ql qs qc ch ap un ((sC vr vn ne ql q (a + 1, m, ro, pi, si, pl) a).2.1) (va_up pi a (sV vr vn ne ql q (a + 1, m, ro, pi, si, pl) a)) si ((sC vr vn ne ql q (a + 1, m, ro, pi, si, pl) a).1) rq dy en th) gX9_search_X9_comes rfl hdX9_comes ⟨by omega, by decide⟩ rfl rfl rfl (Nat.le_of_ble_eq_true rfl) dX9_search_174 rfl rfl ?_
      refine V_istore_n (pc := 177) o dX9_search_177 (by rw [hn]; decide) ?_
      refine V_iincN (pc := 178) o a 1 rfl dX9_search_178 (by rw [hn]; decide) rfl (by decide) ?_
      refine V_aload_n (pc := 181) o dX9_search_181 rfl ?_
      refine V_get (pc := 182) o 0 21 hiX9_search rfl rfl (by decide) lkX9_search_64 rfl rfl dX9_search_182 ?_
      refine V_iload_n (pc := 185) o dX9_search_185 rfl ?_
      refine V_iload_n (pc := 186) o dX9_search_186 rfl ?_
      refine V_iastN (pc := 187) o 19 si (a + 1) ((sC vr vn ne ql q (a + 1, m, ro, pi, si, pl) a).2.2) rfl ht rfl rfl (by have h88 : (sC vr vn ne ql q (a + 1, m, ro, pi, si, pl) a).2.2 ≤ 8 := hal _ (hvn _); have h89 : (sC vr vn ne ql q (a + 1, m, ro, pi, si, pl) a).2.1 (a + 1) ≤ 7 := cmT_ro hne _ hro _ _; have := hvs ((sC vr vn ne ql q (a + 1, m, ro, pi, si, pl) a).2.1 (a + 1)); omega) (by decide) dX9_search_187 ?_
      refine V_eq (ws2 := wMod cI ad vc vr vn ne vs li ba de qp qt ql qs qc ch ap un ((sC vr vn ne ql q (a + 1, m, ro, pi, si, pl) a).2.1) (va_up pi a (sV vr vn ne ql q (a + 1, m, ro, pi, si, pl) a)) (va_up si (a + 1) ((sC vr vn ne ql q (a + 1, m, ro, pi, si, pl) a).2.2)) ((sC vr vn ne ql q (a + 1, m, ro, pi, si, pl) a).1) rq dy en th) rfl rfl ?_
      refine V_iload_n (pc := 188) o dX9_search_188 rfl ?_
      refine V_iload_n (pc := 189) o dX9_search_189 rfl ?_
      refine V_icmp_geN (pc := 190) o 212 (a + 1) ((sC vr vn ne ql q (a + 1, m, ro, pi, si, pl) a).2.2) rfl rfl (by have h88 : (sC vr vn ne ql q (a + 1, m, ro, pi, si, pl) a).2.2 ≤ 8 := hal _ (hvn _); have h89 : (sC vr vn ne ql q (a + 1, m, ro, pi, si, pl) a).2.1 (a + 1) ≤ 7 := cmT_ro hne _ hro _ _; have := hvs ((sC vr vn ne ql q (a + 1, m, ro, pi, si, pl) a).2.1 (a + 1)); omega) (by have h88 : (sC vr vn ne ql q (a + 1, m, ro, pi, si, pl) a).2.2 ≤ 8 := hal _ (hvn _); have h89 : (sC vr vn ne ql q (a + 1, m, ro, pi, si, pl) a).2.1 (a + 1) ≤ 7 := cmT_ro hne _ hro _ _; have := hvs ((sC vr vn ne ql q (a + 1, m, ro, pi, si, pl) a).2.1 (a + 1)); omega) dX9_search_190 (by decide) (fun c190 => ?_) (fun c190 => ?_)
      · refine V_goto (pc := 212) o 75 dX9_search_212 (by decide) ?_
        refine V_eq (ws2 := wMod cI ad vc vr vn ne vs li ba de qp qt ql qs qc ch ap un ((sC vr vn ne ql q (a + 1, m, ro, pi, si, pl) a).2.1) ((sP vr vn ne vs ql q (a + 1, m, ro, pi, si, pl) a)) (va_up si (a + 1) (sC vr vn ne ql q (a + 1, m, ro, pi, si, pl) a).2.2) ((sC vr vn ne ql q (a + 1, m, ro, pi, si, pl) a).1) rq dy en th) (by unfold sP; first | (rw [if_pos (by omega)]; done) | (rw [if_neg (by omega)]; done)) rfl ?_
        exact V_sub (lc2 := [(0, .ref (ad 0)), (1, .int (nI q)), (2, .int (atI (a + 2))), (3, .int (nI (sC vr vn ne ql q (a + 1, m, ro, pi, si, pl) a).2.2))]) ⟨rfl, rfl, rfl, rfl, trivial⟩ (ko (by omega))
      · refine V_aload_n (pc := 193) o dX9_search_193 rfl ?_
        refine V_get (pc := 194) o 0 20 hiX9_search rfl rfl (by decide) lkX9_search_61 rfl rfl dX9_search_194 ?_
        refine V_iload_n (pc := 197) o dX9_search_197 rfl ?_
        refine V_aload_n (pc := 198) o dX9_search_198 rfl ?_
        refine V_get (pc := 199) o 0 4 hiX9_search rfl rfl (by decide) lkX9_search_22 rfl rfl dX9_search_199 ?_
        refine V_aload_n (pc := 202) o dX9_search_202 rfl ?_
        refine V_get (pc := 203) o 0 19 hiX9_search rfl rfl (by decide) lkX9_search_58 rfl rfl dX9_search_203 ?_
        refine V_iload_n (pc := 206) o dX9_search_206 rfl ?_
        refine V_ialdN (pc := 207) o 17 ((sC vr vn ne ql q (a + 1, m, ro, pi, si, pl) a).2.1) (a + 1) rfl ht rfl (by have := hpi4 a; have := hsi a; have := hql; omega) (by decide) dX9_search_207 ?_
        refine V_ialdN (pc := 208) o 5 vs (((sC vr vn ne ql q (a + 1, m, ro, pi, si, pl) a).2.1) (a + 1)) rfl ht rfl (by have h88 : (sC vr vn ne ql q (a + 1, m, ro, pi, si, pl) a).2.2 ≤ 8 := hal _ (hvn _); have h89 : (sC vr vn ne ql q (a + 1, m, ro, pi, si, pl) a).2.1 (a + 1) ≤ 7 := cmT_ro hne _ hro _ _; have := hvs ((sC vr vn ne ql q (a + 1, m, ro, pi, si, pl) a).2.1 (a + 1)); omega) (by decide) dX9_search_208 ?_
        refine V_iconst (pc := 209) o 1 dX9_search_209 (by decide) ?_
        refine V_iaddN (pc := 210) o (vs (((sC vr vn ne ql q (a + 1, m, ro, pi, si, pl) a).2.1) (a + 1))) 1 rfl rfl dX9_search_210 ?_
        refine V_iastN (pc := 211) o 18 (va_up pi a (sV vr vn ne ql q (a + 1, m, ro, pi, si, pl) a)) (a + 1) ((vs (((sC vr vn ne ql q (a + 1, m, ro, pi, si, pl) a).2.1) (a + 1))) + 1) rfl ht rfl rfl (by have h88 : (sC vr vn ne ql q (a + 1, m, ro, pi, si, pl) a).2.2 ≤ 8 := hal _ (hvn _); have h89 : (sC vr vn ne ql q (a + 1, m, ro, pi, si, pl) a).2.1 (a + 1) ≤ 7 := cmT_ro hne _ hro _ _; have := hvs ((sC vr vn ne ql q (a + 1, m, ro, pi, si, pl) a).2.1 (a + 1)); omega) (by decide) dX9_search_211 ?_
        refine V_eq (ws2 := wMod cI ad vc vr vn ne vs li ba de qp qt ql qs qc ch ap un ((sC vr vn ne ql q (a + 1, m, ro, pi, si, pl) a).2.1) (va_up (va_up pi a (sV vr vn ne ql q (a + 1, m, ro, pi, si, pl) a)) (a + 1) ((vs (((sC vr vn ne ql q (a + 1, m, ro, pi, si, pl) a).2.1) (a + 1))) + 1)) (va_up si (a + 1) ((sC vr vn ne ql q (a + 1, m, ro, pi, si, pl) a).2.2)) ((sC vr vn ne ql q (a + 1, m, ro, pi, si, pl) a).1) rq dy en th) rfl rfl ?_
        refine V_goto (pc := 212) o 75 dX9_search_212 (by decide) ?_
        refine V_eq (ws2 := wMod cI ad vc vr vn ne vs li ba de qp qt ql qs qc ch ap un ((sC vr vn ne ql q (a + 1, m, ro, pi, si, pl) a).2.1) ((sP vr vn ne vs ql q (a + 1, m, ro, pi, si, pl) a)) (va_up si (a + 1) (sC vr vn ne ql q (a + 1, m, ro, pi, si, pl) a).2.2) ((sC vr vn ne ql q (a + 1, m, ro, pi, si, pl) a).1) rq dy en th) (by unfold sP; first | (rw [if_pos (by omega)]; done) | (rw [if_neg (by omega)]; done)) rfl ?_
        exact V_sub (lc2 := [(0, .ref (ad 0)), (1, .int (nI q)), (2, .int (atI (a + 2))), (3, .int (nI (sC vr vn ne ql q (a + 1, m, ro, pi, si, pl) a).2.2))]) ⟨rfl, rfl, rfl, rfl, trivial⟩ (ko (by omega))
    · refine V_iinc (pc := 157) o (-1) dX9_search_157 (by rw [hn]; decide) rfl (by decide) ?_
      refine V_goto (pc := 160) o 212 dX9_search_160 (by decide) ?_
      refine V_goto (pc := 212) o 75 dX9_search_212 (by decide) ?_
      exact V_sub (lc2 := [(0, .ref (ad 0)), (1, .int (nI q)), (2, .int (atI a)), (3, .int (nI (si a)))]) ⟨rfl, rfl, lc_e (by unfold atI; split <;> first | (subst a; decide) | (rw [show a = a - 1 + 1 by omega]; exact pk_m1 _) | skip), rfl, trivial⟩ (kf (by omega))
  · refine V_aload_n (pc := 115) o dX9_search_115 rfl ?_
    refine V_get (pc := 116) o 0 10 hiX9_search rfl rfl (by decide) lkX9_search_40 rfl rfl dX9_search_116 ?_
    refine V_iload_n (pc := 119) o dX9_search_119 rfl ?_
    refine V_ialdN (pc := 120) o 11 ql q rfl ht rfl (by have := hpi4 a; have := hsi a; have := hql; omega) (by decide) dX9_search_120 ?_
    refine V_goto (pc := 121) o 125 dX9_search_121 (by decide) ?_
    refine V_istore (pc := 125) o dX9_search_125 (by rw [hn]; decide) ?_
    refine V_sub (lc2 := [(0, .ref (ad 0)), (1, .int (nI q)), (2, .int (nI a)), (3, .int (nI (si a))), (4, .int (nI (pi a - 1))), (5, .int (nI (sLo ql q a)))]) ⟨rfl, rfl, rfl, rfl, rfl, lc_e (by unfold sLo; first | (rw [if_pos (by omega)]; done) | (rw [if_neg (by omega)]; rfl)), trivial⟩ ?_
    refine lpX9_searchW o hn cI ht ad vc vr vn ne vs li ba de qp qt ql qs qc ch ap un ro pi si (fgP pl (si a) 8) rq dy en th q a (si a) (sLo ql q a) (by omega) hlo hro hpi hpi4 hvr hvn hne (pi a - 1) (by have := hpi4 a; omega) ?_
    refine V_sub (lc2 := [(0, .ref (ad 0)), (1, .int (nI q)), (2, .int (nI a)), (3, .int (nI (si a))), (4, .int (nI (sV vr vn ne ql q (a + 1, m, ro, pi, si, pl) a))), (5, .int (nI (sLo ql q a)))]) ⟨rfl, rfl, rfl, rfl, rfl, rfl, trivial⟩ ?_
    refine V_iload (pc := 150) o dX9_search_150 rfl ?_
    refine V_iload (pc := 152) o dX9_search_152 rfl ?_
    refine V_icmp_geN (pc := 154) o 163 (sV vr vn ne ql q (a + 1, m, ro, pi, si, pl) a) (sLo ql q a) rfl rfl (by have := hpi4 a; have := hsi a; have := hql; omega) (by have := hpi4 a; have := hsi a; have := hql; omega) dX9_search_154 (by decide) (fun c154 => ?_) (fun c154 => ?_)
    · refine V_aload_n (pc := 163) o dX9_search_163 rfl ?_
      refine V_get (pc := 164) o 0 20 hiX9_search rfl rfl (by decide) lkX9_search_61 rfl rfl dX9_search_164 ?_
      refine V_iload_n (pc := 167) o dX9_search_167 rfl ?_
      refine V_iload (pc := 168) o dX9_search_168 rfl ?_
      refine V_iastN (pc := 170) o 18 pi a (sV vr vn ne ql q (a + 1, m, ro, pi, si, pl) a) rfl ht rfl rfl (by have := hpi4 a; have := hsi a; have := hql; omega) (by decide) dX9_search_170 ?_
      refine V_eq (ws2 := wMod cI ad vc vr vn ne vs li ba de qp qt ql qs qc ch ap un ro (va_up pi a (sV vr vn ne ql q (a + 1, m, ro, pi, si, pl) a)) si (fgP pl (si a) 8) rq dy en th) rfl rfl ?_
      refine V_aload_n (pc := 171) o dX9_search_171 rfl ?_
      refine V_iload_n (pc := 172) o dX9_search_172 rfl ?_
      refine V_iload_n (pc := 173) o dX9_search_173 rfl ?_
      refine V_wVi (pc := 174) o (k9_comes _ _ _ cI ht ad vc vr vn ne vs li ba de qp qt ql qs qc ch ap un ro (va_up pi a (sV vr vn ne ql q (a + 1, m, ro, pi, si, pl) a)) si (fgP pl (si a) 8) rq dy en th a (si a) (by omega) hro (by rw [va_up_at]; omega) hvn hne (fun j hj => hal j (by have := hvn (gx ro (va_up pi a (sV vr vn ne ql q (a + 1, m, ro, pi, si, pl) a)) a); omega))) 0 21 (wMod cI ad vc vr vn ne vs li ba de qp qt ql qs qc ch ap un ((sC vr vn ne ql q (a + 1, m, ro, pi, si, pl) a).2.1) (va_up pi a (sV vr vn ne ql q (a + 1, m, ro, pi, si, pl) a)) si ((sC vr vn ne ql q (a + 1, m, ro, pi, si, pl) a).1) rq dy en th) gX9_search_X9_comes rfl hdX9_comes ⟨by omega, by decide⟩ rfl rfl rfl (Nat.le_of_ble_eq_true rfl) dX9_search_174 rfl rfl ?_
      refine V_istore_n (pc := 177) o dX9_search_177 (by rw [hn]; decide) ?_
      refine V_iincN (pc := 178) o a 1 rfl dX9_search_178 (by rw [hn]; decide) rfl (by decide) ?_
      refine V_aload_n (pc := 181) o dX9_search_181 rfl ?_
      refine V_get (pc := 182) o 0 21 hiX9_search rfl rfl (by decide) lkX9_search_64 rfl rfl dX9_search_182 ?_
      refine V_iload_n (pc := 185) o dX9_search_185 rfl ?_
      refine V_iload_n (pc := 186) o dX9_search_186 rfl ?_
      refine V_iastN (pc := 187) o 19 si (a + 1) ((sC vr vn ne ql q (a + 1, m, ro, pi, si, pl) a).2.2) rfl ht rfl rfl (by have h88 : (sC vr vn ne ql q (a + 1, m, ro, pi, si, pl) a).2.2 ≤ 8 := hal _ (hvn _); have h89 : (sC vr vn ne ql q (a + 1, m, ro, pi, si, pl) a).2.1 (a + 1) ≤ 7 := cmT_ro hne _ hro _ _; have := hvs ((sC vr vn ne ql q (a + 1, m, ro, pi, si, pl) a).2.1 (a + 1)); omega) (by decide) dX9_search_187 ?_
      refine V_eq (ws2 := wMod cI ad vc vr vn ne vs li ba de qp qt ql qs qc ch ap un ((sC vr vn ne ql q (a + 1, m, ro, pi, si, pl) a).2.1) (va_up pi a (sV vr vn ne ql q (a + 1, m, ro, pi, si, pl) a)) (va_up si (a + 1) ((sC vr vn ne ql q (a + 1, m, ro, pi, si, pl) a).2.2)) ((sC vr vn ne ql q (a + 1, m, ro, pi, si, pl) a).1) rq dy en th) rfl rfl ?_
      refine V_iload_n (pc := 188) o dX9_search_188 rfl ?_
      refine V_iload_n (pc := 189) o dX9_search_189 rfl ?_
      refine V_icmp_geN (pc := 190) o 212 (a + 1) ((sC vr vn ne ql q (a + 1, m, ro, pi, si, pl) a).2.2) rfl rfl (by have h88 : (sC vr vn ne ql q (a + 1, m, ro, pi, si, pl) a).2.2 ≤ 8 := hal _ (hvn _); have h89 : (sC vr vn ne ql q (a + 1, m, ro, pi, si, pl) a).2.1 (a + 1) ≤ 7 := cmT_ro hne _ hro _ _; have := hvs ((sC vr vn ne ql q (a + 1, m, ro, pi, si, pl) a).2.1 (a + 1)); omega) (by have h88 : (sC vr vn ne ql q (a + 1, m, ro, pi, si, pl) a).2.2 ≤ 8 := hal _ (hvn _); have h89 : (sC vr vn ne ql q (a + 1, m, ro, pi, si, pl) a).2.1 (a + 1) ≤ 7 := cmT_ro hne _ hro _ _; have := hvs ((sC vr vn ne ql q (a + 1, m, ro, pi, si, pl) a).2.1 (a + 1)); omega) dX9_search_190 (by decide) (fun c190 => ?_) (fun c190 => ?_)
      · refine V_goto (pc := 212) o 75 dX9_search_212 (by decide) ?_
        refine V_eq (ws2 := wMod cI ad vc vr vn ne vs li ba de qp qt ql qs qc ch ap un ((sC vr vn ne ql q (a + 1, m, ro, pi, si, pl) a).2.1) ((sP vr vn ne vs ql q (a + 1, m, ro, pi, si, pl) a)) (va_up si (a + 1) (sC vr vn ne ql q (a + 1, m, ro, pi, si, pl) a).2.2) ((sC vr vn ne ql q (a + 1, m, ro, pi, si, pl) a).1) rq dy en th) (by unfold sP; first | (rw [if_pos (by omega)]; done) | (rw [if_neg (by omega)]; done)) rfl ?_
        exact V_sub (lc2 := [(0, .ref (ad 0)), (1, .int (nI q)), (2, .int (atI (a + 2))), (3, .int (nI (sC vr vn ne ql q (a + 1, m, ro, pi, si, pl) a).2.2))]) ⟨rfl, rfl, rfl, rfl, trivial⟩ (ko (by omega))
      · refine V_aload_n (pc := 193) o dX9_search_193 rfl ?_
        refine V_get (pc := 194) o 0 20 hiX9_search rfl rfl (by decide) lkX9_search_61 rfl rfl dX9_search_194 ?_
        refine V_iload_n (pc := 197) o dX9_search_197 rfl ?_
        refine V_aload_n (pc := 198) o dX9_search_198 rfl ?_
        refine V_get (pc := 199) o 0 4 hiX9_search rfl rfl (by decide) lkX9_search_22 rfl rfl dX9_search_199 ?_
        refine V_aload_n (pc := 202) o dX9_search_202 rfl ?_
        refine V_get (pc := 203) o 0 19 hiX9_search rfl rfl (by decide) lkX9_search_58 rfl rfl dX9_search_203 ?_
        refine V_iload_n (pc := 206) o dX9_search_206 rfl ?_
        refine V_ialdN (pc := 207) o 17 ((sC vr vn ne ql q (a + 1, m, ro, pi, si, pl) a).2.1) (a + 1) rfl ht rfl (by have := hpi4 a; have := hsi a; have := hql; omega) (by decide) dX9_search_207 ?_
        refine V_ialdN (pc := 208) o 5 vs (((sC vr vn ne ql q (a + 1, m, ro, pi, si, pl) a).2.1) (a + 1)) rfl ht rfl (by have h88 : (sC vr vn ne ql q (a + 1, m, ro, pi, si, pl) a).2.2 ≤ 8 := hal _ (hvn _); have h89 : (sC vr vn ne ql q (a + 1, m, ro, pi, si, pl) a).2.1 (a + 1) ≤ 7 := cmT_ro hne _ hro _ _; have := hvs ((sC vr vn ne ql q (a + 1, m, ro, pi, si, pl) a).2.1 (a + 1)); omega) (by decide) dX9_search_208 ?_
        refine V_iconst (pc := 209) o 1 dX9_search_209 (by decide) ?_
        refine V_iaddN (pc := 210) o (vs (((sC vr vn ne ql q (a + 1, m, ro, pi, si, pl) a).2.1) (a + 1))) 1 rfl rfl dX9_search_210 ?_
        refine V_iastN (pc := 211) o 18 (va_up pi a (sV vr vn ne ql q (a + 1, m, ro, pi, si, pl) a)) (a + 1) ((vs (((sC vr vn ne ql q (a + 1, m, ro, pi, si, pl) a).2.1) (a + 1))) + 1) rfl ht rfl rfl (by have h88 : (sC vr vn ne ql q (a + 1, m, ro, pi, si, pl) a).2.2 ≤ 8 := hal _ (hvn _); have h89 : (sC vr vn ne ql q (a + 1, m, ro, pi, si, pl) a).2.1 (a + 1) ≤ 7 := cmT_ro hne _ hro _ _; have := hvs ((sC vr vn ne ql q (a + 1, m, ro, pi, si, pl) a).2.1 (a + 1)); omega) (by decide) dX9_search_211 ?_
        refine V_eq (ws2 := wMod cI ad vc vr vn ne vs li ba de qp qt ql qs qc ch ap un ((sC vr vn ne ql q (a + 1, m, ro, pi, si, pl) a).2.1) (va_up (va_up pi a (sV vr vn ne ql q (a + 1, m, ro, pi, si, pl) a)) (a + 1) ((vs (((sC vr vn ne ql q (a + 1, m, ro, pi, si, pl) a).2.1) (a + 1))) + 1)) (va_up si (a + 1) ((sC vr vn ne ql q (a + 1, m, ro, pi, si, pl) a).2.2)) ((sC vr vn ne ql q (a + 1, m, ro, pi, si, pl) a).1) rq dy en th) rfl rfl ?_
        refine V_goto (pc := 212) o 75 dX9_search_212 (by decide) ?_
        refine V_eq (ws2 := wMod cI ad vc vr vn ne vs li ba de qp qt ql qs qc ch ap un ((sC vr vn ne ql q (a + 1, m, ro, pi, si, pl) a).2.1) ((sP vr vn ne vs ql q (a + 1, m, ro, pi, si, pl) a)) (va_up si (a + 1) (sC vr vn ne ql q (a + 1, m, ro, pi, si, pl) a).2.2) ((sC vr vn ne ql q (a + 1, m, ro, pi, si, pl) a).1) rq dy en th) (by unfold sP; first | (rw [if_pos (by omega)]; done) | (rw [if_neg (by omega)]; done)) rfl ?_
        exact V_sub (lc2 := [(0, .ref (ad 0)), (1, .int (nI q)), (2, .int (atI (a + 2))), (3, .int (nI (sC vr vn ne ql q (a + 1, m, ro, pi, si, pl) a).2.2))]) ⟨rfl, rfl, rfl, rfl, trivial⟩ (ko (by omega))
    · refine V_iinc (pc := 157) o (-1) dX9_search_157 (by rw [hn]; decide) rfl (by decide) ?_
      refine V_goto (pc := 160) o 212 dX9_search_160 (by decide) ?_
      refine V_goto (pc := 212) o 75 dX9_search_212 (by decide) ?_
      exact V_sub (lc2 := [(0, .ref (ad 0)), (1, .int (nI q)), (2, .int (atI a)), (3, .int (nI (si a)))]) ⟨rfl, rfl, lc_e (by unfold atI; split <;> first | (subst a; decide) | (rw [show a = a - 1 + 1 by omega]; exact pk_m1 _) | skip), rfl, trivial⟩ (kf (by omega))
