/-! fill and find -/
abbrev TS : Type := (Nat → Int32) × (Nat → Int32) × Int32 × Int32
def fiV (f : TS → Int32 × TS) (P3 P4 P5 : Nat → Int32) (d part st bf v : Int32) (T : TS) : Int32 × TS :=
  if st &&& vset v v = 0 then (0, T.1, T.2.1, bf, T.2.2.2)
  else if (tkF P3 P4 P5 d v (T.1, T.2.1, T.2.2.1)).1 = 0 then (0, (tkF P3 P4 P5 d v (T.1, T.2.1, T.2.2.1)).2.1, (tkF P3 P4 P5 d v (T.1, T.2.1, T.2.2.1)).2.2.1, bf, T.2.2.2)
  else if (f ((tkF P3 P4 P5 d v (T.1, T.2.1, T.2.2.1)).2.1, (tkF P3 P4 P5 d v (T.1, T.2.1, T.2.2.1)).2.2.1, (tkF P3 P4 P5 d v (T.1, T.2.1, T.2.2.1)).2.2.2, T.2.2.2)).1 = 0 then
    (0, (f ((tkF P3 P4 P5 d v (T.1, T.2.1, T.2.2.1)).2.1, (tkF P3 P4 P5 d v (T.1, T.2.1, T.2.2.1)).2.2.1, (tkF P3 P4 P5 d v (T.1, T.2.1, T.2.2.1)).2.2.2, T.2.2.2)).2.1, (f ((tkF P3 P4 P5 d v (T.1, T.2.1, T.2.2.1)).2.1, (tkF P3 P4 P5 d v (T.1, T.2.1, T.2.2.1)).2.2.1, (tkF P3 P4 P5 d v (T.1, T.2.1, T.2.2.1)).2.2.2, T.2.2.2)).2.2.1, bf, (f ((tkF P3 P4 P5 d v (T.1, T.2.1, T.2.2.1)).2.1, (tkF P3 P4 P5 d v (T.1, T.2.1, T.2.2.1)).2.2.1, (tkF P3 P4 P5 d v (T.1, T.2.1, T.2.2.1)).2.2.2, T.2.2.2)).2.2.2.2)
  else (1, (f ((tkF P3 P4 P5 d v (T.1, T.2.1, T.2.2.1)).2.1, (tkF P3 P4 P5 d v (T.1, T.2.1, T.2.2.1)).2.2.1, (tkF P3 P4 P5 d v (T.1, T.2.1, T.2.2.1)).2.2.2, T.2.2.2)).2.1, (f ((tkF P3 P4 P5 d v (T.1, T.2.1, T.2.2.1)).2.1, (tkF P3 P4 P5 d v (T.1, T.2.1, T.2.2.1)).2.2.1, (tkF P3 P4 P5 d v (T.1, T.2.1, T.2.2.1)).2.2.2, T.2.2.2)).2.2.1, (f ((tkF P3 P4 P5 d v (T.1, T.2.1, T.2.2.1)).2.1, (tkF P3 P4 P5 d v (T.1, T.2.1, T.2.2.1)).2.2.1, (tkF P3 P4 P5 d v (T.1, T.2.1, T.2.2.1)).2.2.2, T.2.2.2)).2.2.2.1, chw (f ((tkF P3 P4 P5 d v (T.1, T.2.1, T.2.2.1)).2.1, (tkF P3 P4 P5 d v (T.1, T.2.1, T.2.2.1)).2.2.1, (tkF P3 P4 P5 d v (T.1, T.2.1, T.2.2.1)).2.2.2, T.2.2.2)).2.2.2.2 part v)
def fiW (f : TS → Int32 × TS) (P3 P4 P5 : Nat → Int32) (d part st bf : Int32) : Nat → TS → Int32 × TS
  | 0, T => (0, T)
  | n + 1, T => if (fiV f P3 P4 P5 d part st bf (nI (n + 1)) T).1 = 0 then fiW f P3 P4 P5 d part st bf n (fiV f P3 P4 P5 d part st bf (nI (n + 1)) T).2 else fiV f P3 P4 P5 d part st bf (nI (n + 1)) T
def fiF (P3 P4 P5 : Nat → Int32) : Nat → Int32 → TS → Int32 × TS
  | 0, _, T => (1, T)
  | k + 1, d, T => if T.2.2.1 ≤ d then (1, T) else fiW (fiF P3 P4 P5 k (d + 1)) P3 P4 P5 d (rat 8 T.1 d) (rat 72 T.2.1 (d * 8 + rat 8 T.1 d)) T.2.2.1 3 T
theorem hdX7_fill : yX7_fill.cls = RX7 ∧ yX7_fill.cls ≠ "java/lang/invoke/MethodHandle" ∧ yX7_fill.cls ≠ "java/lang/invoke/VarHandle" ∧ (parseMethodDescriptor yX7_fill.desc).map (fun d => d.parameters.length) = some 2 := by decide +kernel
theorem hiX7_fill_X7 : ∀ w ∈ wsX70, w ∈ wsX7_fill := by decide +kernel
theorem lkX7_fill_40 : Cond.fieldLink RX7 40 RX7 "number" "I" ∈ wsX7_fill := by decide +kernel
theorem lkX7_fill_46 : Cond.fieldLink RX7 46 RX7 "choice" "I" ∈ wsX7_fill := by decide +kernel
set_option maxHeartbeats 8000000 in
set_option maxRecDepth 100000 in
theorem lpX7_fill {X : XT} {k : Nat} (o : OkX X cX7_fill RX7 wsX7_fill (4 + (k + 1))) (hn : XN X = 8) (cI : ClassId) (ht : (XK X)[0]? = some (cI, .int)) (ad ad2 : Nat → Nat) (P0 P1 P2 P3 P4 P5 : Nat → Int32) (d pa st bf : Int32) (hF : ∀ T : TS, CId (XL X) yX7_fill wsX7_fill (4 + k) (XD X) (XK X) [.ref (ad 0), .ref (ad2 0), .int (d + 1)] (wSP cI ad ad2 T.1 T.2.1 T.2.2.1 T.2.2.2 P0 P1 P2 P3 P4 P5) (fiF P3 P4 P5 k (d + 1) T).1 (wSP cI ad ad2 (fiF P3 P4 P5 k (d + 1) T).2.1 (fiF P3 P4 P5 k (d + 1) T).2.2.1 (fiF P3 P4 P5 k (d + 1) T).2.2.2.1 (fiF P3 P4 P5 k (d + 1) T).2.2.2.2 P0 P1 P2 P3 P4 P5)) : ∀ (n : Nat) (T : TS), n ≤ 3 → (∀ (pc : Nat) (lc : List (Nat × Value)) (x : Int32), decode cX7_fill pc = .ok (.ireturn, 1) → narrow .boolean (.int x) = .int x → x = (fiW (fiF P3 P4 P5 k (d + 1)) P3 P4 P5 d pa st bf n T).1 → V X 0 0 (wSP cI ad ad2 (fiW (fiF P3 P4 P5 k (d + 1)) P3 P4 P5 d pa st bf n T).2.1 (fiW (fiF P3 P4 P5 k (d + 1)) P3 P4 P5 d pa st bf n T).2.2.1 (fiW (fiF P3 P4 P5 k (d + 1)) P3 P4 P5 d pa st bf n T).2.2.2.1 (fiW (fiF P3 P4 P5 k (d + 1)) P3 P4 P5 d pa st bf n T).2.2.2.2 P0 P1 P2 P3 P4 P5) pc lc [.int x]) → V X 0 0 (wSP cI ad ad2 T.1 T.2.1 T.2.2.1 T.2.2.2 P0 P1 P2 P3 P4 P5) 49 [(0, .ref (ad 0)), (1, .ref (ad2 0)), (2, .int d), (3, .int pa), (4, .int st), (5, .int bf), (6, .int (nI n))] [] := by
  intro n
  induction n with
  | zero =>
    intro T h1 fin
    refine V_iload (pc := 49) o dX7_fill_49 rfl ?_
    refine V_iconst (pc := 51) o 1 dX7_fill_51 (by decide) ?_
    refine V_icmp_lt (pc := 52) o 130 dX7_fill_52 (by decide) (fun c52 => ?_) (fun c52 => ?_)
    · refine V_iconst (pc := 130) o 0 dX7_fill_130 (by decide) ?_
      exact fin 131 _ _ dX7_fill_131 rfl rfl
    · exact absurd (show nI 0 < 1 by decide) c52
  | succ n ih =>
    intro T h1 fin
    refine V_iload (pc := 49) o dX7_fill_49 rfl ?_
    refine V_iconst (pc := 51) o 1 dX7_fill_51 (by decide) ?_
    refine V_icmp_lt (pc := 52) o 130 dX7_fill_52 (by decide) (fun c52 => ?_) (fun c52 => ?_)
    · refine V_iconst (pc := 130) o 0 dX7_fill_130 (by decide) ?_
      exact absurd c52 (by rw [show (1 : Int32) = nI 1 from rfl]; exact fun h => absurd ((nI_ltI (by omega) (by omega)).mp h) (by omega))
    · refine V_iload (pc := 55) o dX7_fill_55 rfl ?_
      refine V_iload (pc := 57) o dX7_fill_57 rfl ?_
      refine V_iload (pc := 59) o dX7_fill_59 rfl ?_
      refine V_rSi (pc := 61) o (cX3_versionSet_met _ _ _ (nI (n + 1)) (nI (n + 1))) 0 0 gX7_fill_X3_versionSet rfl hdX3_versionSet ⟨by omega, by decide⟩ rfl (Nat.le_of_ble_eq_true rfl) dX7_fill_61 rfl ?_
      refine V_iand (pc := 64) o dX7_fill_64 ?_
      refine V_if_eq (pc := 65) o 72 dX7_fill_65 (by decide) (fun c65 => ?_) (fun c65 => ?_)
      · refine V_iconst (pc := 72) o 0 dX7_fill_72 (by decide) ?_
        refine V_istore (pc := 73) o dX7_fill_73 (by rw [hn]; decide) ?_
        refine V_iload (pc := 75) o dX7_fill_75 rfl ?_
        refine V_if_eq (pc := 77) o 118 dX7_fill_77 (by decide) (fun _ => ?_) (fun c77 => absurd c77 (by decide))
        refine V_aload_n (pc := 118) o dX7_fill_118 rfl ?_
        refine V_iload (pc := 119) o dX7_fill_119 rfl ?_
        refine V_put (pc := 121) o 0 2 hiX7_fill_X7 tyX7 tyX7_ok nmX7 rfl rfl (by decide) lkX7_fill_40 rfl rfl rfl rfl rfl (Nat.le_of_ble_eq_true rfl) dX7_fill_121 ?_
        refine V_eq (ws2 := wSP cI ad ad2 T.1 T.2.1 bf T.2.2.2 P0 P1 P2 P3 P4 P5) rfl rfl ?_
        refine V_iinc (pc := 124) o (-1) dX7_fill_124 (by rw [hn]; decide) rfl (by decide) ?_
        refine V_goto (pc := 127) o 49 dX7_fill_127 (by decide) ?_
        have eV : (fiV (fiF P3 P4 P5 k (d + 1)) P3 P4 P5 d pa st bf (nI (n + 1)) T) = (0, (T.1, T.2.1, bf, T.2.2.2)) := by
          unfold fiV; first | (rw [if_pos (by assumption)]) | (rw [if_neg (by assumption), if_pos (by assumption)]) | (rw [if_neg (by assumption), if_neg (by assumption), if_pos (by assumption)])
        refine V_sub (lc2 := [(0, .ref (ad 0)), (1, .ref (ad2 0)), (2, .int d), (3, .int pa), (4, .int st), (5, .int bf), (6, .int (nI n))]) ⟨rfl, rfl, rfl, rfl, rfl, rfl, lc_e (pk_m1 n), trivial⟩ ?_
        exact ih (T.1, T.2.1, bf, T.2.2.2) (by omega) (fun pc lc x dg hb e => by have q := fin pc lc x dg hb; rw [fiW, eV, if_pos rfl] at q; exact q e)
      · refine V_iconst (pc := 68) o 1 dX7_fill_68 (by decide) ?_
        refine V_goto (pc := 69) o 73 dX7_fill_69 (by decide) ?_
        refine V_istore (pc := 73) o dX7_fill_73 (by rw [hn]; decide) ?_
        refine V_iload (pc := 75) o dX7_fill_75 rfl ?_
        refine V_if_eq (pc := 77) o 118 dX7_fill_77 (by decide) (fun c77 => absurd c77 (by decide)) (fun _ => ?_)
        refine V_aload_n (pc := 80) o dX7_fill_80 rfl ?_
        refine V_aload_n (pc := 81) o dX7_fill_81 rfl ?_
        refine V_iload_n (pc := 82) o dX7_fill_82 rfl ?_
        refine V_iload (pc := 83) o dX7_fill_83 rfl ?_
        refine V_wVi (pc := 85) o (cX7_take_met _ _ _ cI ht ad ad2 T.1 T.2.1 T.2.2.1 T.2.2.2 P0 P1 P2 P3 P4 P5 d (nI (n + 1))) 0 18 (wSP cI ad ad2 ((tkF P3 P4 P5 d (nI (n + 1)) (T.1, T.2.1, T.2.2.1)).2.1) ((tkF P3 P4 P5 d (nI (n + 1)) (T.1, T.2.1, T.2.2.1)).2.2.1) ((tkF P3 P4 P5 d (nI (n + 1)) (T.1, T.2.1, T.2.2.1)).2.2.2) T.2.2.2 P0 P1 P2 P3 P4 P5) gX7_fill_X7_take rfl hdX7_take ⟨by omega, by decide⟩ rfl rfl rfl (Nat.le_of_ble_eq_true rfl) dX7_fill_85 rfl rfl ?_
        refine V_if_eq (pc := 88) o 118 dX7_fill_88 (by decide) (fun c88 => ?_) (fun c88 => ?_)
        · refine V_aload_n (pc := 118) o dX7_fill_118 rfl ?_
          refine V_iload (pc := 119) o dX7_fill_119 rfl ?_
          refine V_put (pc := 121) o 0 2 hiX7_fill_X7 tyX7 tyX7_ok nmX7 rfl rfl (by decide) lkX7_fill_40 rfl rfl rfl rfl rfl (Nat.le_of_ble_eq_true rfl) dX7_fill_121 ?_
          refine V_eq (ws2 := wSP cI ad ad2 ((tkF P3 P4 P5 d (nI (n + 1)) (T.1, T.2.1, T.2.2.1)).2.1) ((tkF P3 P4 P5 d (nI (n + 1)) (T.1, T.2.1, T.2.2.1)).2.2.1) bf T.2.2.2 P0 P1 P2 P3 P4 P5) rfl rfl ?_
          refine V_iinc (pc := 124) o (-1) dX7_fill_124 (by rw [hn]; decide) rfl (by decide) ?_
          refine V_goto (pc := 127) o 49 dX7_fill_127 (by decide) ?_
          have eV : (fiV (fiF P3 P4 P5 k (d + 1)) P3 P4 P5 d pa st bf (nI (n + 1)) T) = (0, ((tkF P3 P4 P5 d (nI (n + 1)) (T.1, T.2.1, T.2.2.1)).2.1, (tkF P3 P4 P5 d (nI (n + 1)) (T.1, T.2.1, T.2.2.1)).2.2.1, bf, T.2.2.2)) := by
            unfold fiV; first | (rw [if_pos (by assumption)]) | (rw [if_neg (by assumption), if_pos (by assumption)]) | (rw [if_neg (by assumption), if_neg (by assumption), if_pos (by assumption)])
          refine V_sub (lc2 := [(0, .ref (ad 0)), (1, .ref (ad2 0)), (2, .int d), (3, .int pa), (4, .int st), (5, .int bf), (6, .int (nI n))]) ⟨rfl, rfl, rfl, rfl, rfl, rfl, lc_e (pk_m1 n), trivial⟩ ?_
          exact ih ((tkF P3 P4 P5 d (nI (n + 1)) (T.1, T.2.1, T.2.2.1)).2.1, (tkF P3 P4 P5 d (nI (n + 1)) (T.1, T.2.1, T.2.2.1)).2.2.1, bf, T.2.2.2) (by omega) (fun pc lc x dg hb e => by have q := fin pc lc x dg hb; rw [fiW, eV, if_pos rfl] at q; exact q e)
        · refine V_aload_n (pc := 91) o dX7_fill_91 rfl ?_
          refine V_aload_n (pc := 92) o dX7_fill_92 rfl ?_
          refine V_iload_n (pc := 93) o dX7_fill_93 rfl ?_
          refine V_iconst (pc := 94) o 1 dX7_fill_94 (by decide) ?_
          refine V_iadd (pc := 95) o dX7_fill_95 ?_
          refine V_wVi (pc := 96) o (hF ((tkF P3 P4 P5 d (nI (n + 1)) (T.1, T.2.1, T.2.2.1)).2.1, (tkF P3 P4 P5 d (nI (n + 1)) (T.1, T.2.1, T.2.2.1)).2.2.1, (tkF P3 P4 P5 d (nI (n + 1)) (T.1, T.2.1, T.2.2.1)).2.2.2, T.2.2.2)) 0 18 (wSP cI ad ad2 ((fiF P3 P4 P5 k (d + 1) ((tkF P3 P4 P5 d (nI (n + 1)) (T.1, T.2.1, T.2.2.1)).2.1, (tkF P3 P4 P5 d (nI (n + 1)) (T.1, T.2.1, T.2.2.1)).2.2.1, (tkF P3 P4 P5 d (nI (n + 1)) (T.1, T.2.1, T.2.2.1)).2.2.2, T.2.2.2)).2.1) ((fiF P3 P4 P5 k (d + 1) ((tkF P3 P4 P5 d (nI (n + 1)) (T.1, T.2.1, T.2.2.1)).2.1, (tkF P3 P4 P5 d (nI (n + 1)) (T.1, T.2.1, T.2.2.1)).2.2.1, (tkF P3 P4 P5 d (nI (n + 1)) (T.1, T.2.1, T.2.2.1)).2.2.2, T.2.2.2)).2.2.1) ((fiF P3 P4 P5 k (d + 1) ((tkF P3 P4 P5 d (nI (n + 1)) (T.1, T.2.1, T.2.2.1)).2.1, (tkF P3 P4 P5 d (nI (n + 1)) (T.1, T.2.1, T.2.2.1)).2.2.1, (tkF P3 P4 P5 d (nI (n + 1)) (T.1, T.2.1, T.2.2.1)).2.2.2, T.2.2.2)).2.2.2.1) ((fiF P3 P4 P5 k (d + 1) ((tkF P3 P4 P5 d (nI (n + 1)) (T.1, T.2.1, T.2.2.1)).2.1, (tkF P3 P4 P5 d (nI (n + 1)) (T.1, T.2.1, T.2.2.1)).2.2.1, (tkF P3 P4 P5 d (nI (n + 1)) (T.1, T.2.1, T.2.2.1)).2.2.2, T.2.2.2)).2.2.2.2) P0 P1 P2 P3 P4 P5) gX7_fill_X7_fill rfl hdX7_fill ⟨by omega, by decide⟩ rfl rfl rfl (Nat.le_of_ble_eq_true rfl) dX7_fill_96 rfl rfl ?_
          refine V_if_eq (pc := 99) o 118 dX7_fill_99 (by decide) (fun c99 => ?_) (fun c99 => ?_)
          · refine V_aload_n (pc := 118) o dX7_fill_118 rfl ?_
            refine V_iload (pc := 119) o dX7_fill_119 rfl ?_
            refine V_put (pc := 121) o 0 2 hiX7_fill_X7 tyX7 tyX7_ok nmX7 rfl rfl (by decide) lkX7_fill_40 rfl rfl rfl rfl rfl (Nat.le_of_ble_eq_true rfl) dX7_fill_121 ?_
            refine V_eq (ws2 := wSP cI ad ad2 ((fiF P3 P4 P5 k (d + 1) ((tkF P3 P4 P5 d (nI (n + 1)) (T.1, T.2.1, T.2.2.1)).2.1, (tkF P3 P4 P5 d (nI (n + 1)) (T.1, T.2.1, T.2.2.1)).2.2.1, (tkF P3 P4 P5 d (nI (n + 1)) (T.1, T.2.1, T.2.2.1)).2.2.2, T.2.2.2)).2.1) ((fiF P3 P4 P5 k (d + 1) ((tkF P3 P4 P5 d (nI (n + 1)) (T.1, T.2.1, T.2.2.1)).2.1, (tkF P3 P4 P5 d (nI (n + 1)) (T.1, T.2.1, T.2.2.1)).2.2.1, (tkF P3 P4 P5 d (nI (n + 1)) (T.1, T.2.1, T.2.2.1)).2.2.2, T.2.2.2)).2.2.1) bf ((fiF P3 P4 P5 k (d + 1) ((tkF P3 P4 P5 d (nI (n + 1)) (T.1, T.2.1, T.2.2.1)).2.1, (tkF P3 P4 P5 d (nI (n + 1)) (T.1, T.2.1, T.2.2.1)).2.2.1, (tkF P3 P4 P5 d (nI (n + 1)) (T.1, T.2.1, T.2.2.1)).2.2.2, T.2.2.2)).2.2.2.2) P0 P1 P2 P3 P4 P5) rfl rfl ?_
            refine V_iinc (pc := 124) o (-1) dX7_fill_124 (by rw [hn]; decide) rfl (by decide) ?_
            refine V_goto (pc := 127) o 49 dX7_fill_127 (by decide) ?_
            have eV : (fiV (fiF P3 P4 P5 k (d + 1)) P3 P4 P5 d pa st bf (nI (n + 1)) T) = (0, ((fiF P3 P4 P5 k (d + 1) ((tkF P3 P4 P5 d (nI (n + 1)) (T.1, T.2.1, T.2.2.1)).2.1, (tkF P3 P4 P5 d (nI (n + 1)) (T.1, T.2.1, T.2.2.1)).2.2.1, (tkF P3 P4 P5 d (nI (n + 1)) (T.1, T.2.1, T.2.2.1)).2.2.2, T.2.2.2)).2.1, (fiF P3 P4 P5 k (d + 1) ((tkF P3 P4 P5 d (nI (n + 1)) (T.1, T.2.1, T.2.2.1)).2.1, (tkF P3 P4 P5 d (nI (n + 1)) (T.1, T.2.1, T.2.2.1)).2.2.1, (tkF P3 P4 P5 d (nI (n + 1)) (T.1, T.2.1, T.2.2.1)).2.2.2, T.2.2.2)).2.2.1, bf, (fiF P3 P4 P5 k (d + 1) ((tkF P3 P4 P5 d (nI (n + 1)) (T.1, T.2.1, T.2.2.1)).2.1, (tkF P3 P4 P5 d (nI (n + 1)) (T.1, T.2.1, T.2.2.1)).2.2.1, (tkF P3 P4 P5 d (nI (n + 1)) (T.1, T.2.1, T.2.2.1)).2.2.2, T.2.2.2)).2.2.2.2)) := by
              unfold fiV; first | (rw [if_pos (by assumption)]) | (rw [if_neg (by assumption), if_pos (by assumption)]) | (rw [if_neg (by assumption), if_neg (by assumption), if_pos (by assumption)])
            refine V_sub (lc2 := [(0, .ref (ad 0)), (1, .ref (ad2 0)), (2, .int d), (3, .int pa), (4, .int st), (5, .int bf), (6, .int (nI n))]) ⟨rfl, rfl, rfl, rfl, rfl, rfl, lc_e (pk_m1 n), trivial⟩ ?_
            exact ih ((fiF P3 P4 P5 k (d + 1) ((tkF P3 P4 P5 d (nI (n + 1)) (T.1, T.2.1, T.2.2.1)).2.1, (tkF P3 P4 P5 d (nI (n + 1)) (T.1, T.2.1, T.2.2.1)).2.2.1, (tkF P3 P4 P5 d (nI (n + 1)) (T.1, T.2.1, T.2.2.1)).2.2.2, T.2.2.2)).2.1, (fiF P3 P4 P5 k (d + 1) ((tkF P3 P4 P5 d (nI (n + 1)) (T.1, T.2.1, T.2.2.1)).2.1, (tkF P3 P4 P5 d (nI (n + 1)) (T.1, T.2.1, T.2.2.1)).2.2.1, (tkF P3 P4 P5 d (nI (n + 1)) (T.1, T.2.1, T.2.2.1)).2.2.2, T.2.2.2)).2.2.1, bf, (fiF P3 P4 P5 k (d + 1) ((tkF P3 P4 P5 d (nI (n + 1)) (T.1, T.2.1, T.2.2.1)).2.1, (tkF P3 P4 P5 d (nI (n + 1)) (T.1, T.2.1, T.2.2.1)).2.2.1, (tkF P3 P4 P5 d (nI (n + 1)) (T.1, T.2.1, T.2.2.1)).2.2.2, T.2.2.2)).2.2.2.2) (by omega) (fun pc lc x dg hb e => by have q := fin pc lc x dg hb; rw [fiW, eV, if_pos rfl] at q; exact q e)
          · refine V_aload_n (pc := 102) o dX7_fill_102 rfl ?_
            refine V_aload_n (pc := 103) o dX7_fill_103 rfl ?_
            refine V_get (pc := 104) o 0 3 hiX7_fill_X7 rfl rfl (by decide) lkX7_fill_46 rfl rfl dX7_fill_104 ?_
            refine V_iload_n (pc := 107) o dX7_fill_107 rfl ?_
            refine V_iload (pc := 108) o dX7_fill_108 rfl ?_
            refine V_rSi (pc := 110) o (cX1_with_met _ _ _ ((fiF P3 P4 P5 k (d + 1) ((tkF P3 P4 P5 d (nI (n + 1)) (T.1, T.2.1, T.2.2.1)).2.1, (tkF P3 P4 P5 d (nI (n + 1)) (T.1, T.2.1, T.2.2.1)).2.2.1, (tkF P3 P4 P5 d (nI (n + 1)) (T.1, T.2.1, T.2.2.1)).2.2.2, T.2.2.2)).2.2.2.2) pa (nI (n + 1))) 0 0 gX7_fill_X1_with rfl hdX1_with ⟨by omega, by decide⟩ rfl (Nat.le_of_ble_eq_true rfl) dX7_fill_110 rfl ?_
            refine V_put (pc := 113) o 0 3 hiX7_fill_X7 tyX7 tyX7_ok nmX7 rfl rfl (by decide) lkX7_fill_46 rfl rfl rfl rfl rfl (Nat.le_of_ble_eq_true rfl) dX7_fill_113 ?_
            refine V_eq (ws2 := wSP cI ad ad2 ((fiF P3 P4 P5 k (d + 1) ((tkF P3 P4 P5 d (nI (n + 1)) (T.1, T.2.1, T.2.2.1)).2.1, (tkF P3 P4 P5 d (nI (n + 1)) (T.1, T.2.1, T.2.2.1)).2.2.1, (tkF P3 P4 P5 d (nI (n + 1)) (T.1, T.2.1, T.2.2.1)).2.2.2, T.2.2.2)).2.1) ((fiF P3 P4 P5 k (d + 1) ((tkF P3 P4 P5 d (nI (n + 1)) (T.1, T.2.1, T.2.2.1)).2.1, (tkF P3 P4 P5 d (nI (n + 1)) (T.1, T.2.1, T.2.2.1)).2.2.1, (tkF P3 P4 P5 d (nI (n + 1)) (T.1, T.2.1, T.2.2.1)).2.2.2, T.2.2.2)).2.2.1) ((fiF P3 P4 P5 k (d + 1) ((tkF P3 P4 P5 d (nI (n + 1)) (T.1, T.2.1, T.2.2.1)).2.1, (tkF P3 P4 P5 d (nI (n + 1)) (T.1, T.2.1, T.2.2.1)).2.2.1, (tkF P3 P4 P5 d (nI (n + 1)) (T.1, T.2.1, T.2.2.1)).2.2.2, T.2.2.2)).2.2.2.1) (chw ((fiF P3 P4 P5 k (d + 1) ((tkF P3 P4 P5 d (nI (n + 1)) (T.1, T.2.1, T.2.2.1)).2.1, (tkF P3 P4 P5 d (nI (n + 1)) (T.1, T.2.1, T.2.2.1)).2.2.1, (tkF P3 P4 P5 d (nI (n + 1)) (T.1, T.2.1, T.2.2.1)).2.2.2, T.2.2.2)).2.2.2.2) pa (nI (n + 1))) P0 P1 P2 P3 P4 P5) rfl rfl ?_
            refine V_iconst (pc := 116) o 1 dX7_fill_116 (by decide) ?_
            have eV : (fiV (fiF P3 P4 P5 k (d + 1)) P3 P4 P5 d pa st bf (nI (n + 1)) T) = (1, ((fiF P3 P4 P5 k (d + 1) ((tkF P3 P4 P5 d (nI (n + 1)) (T.1, T.2.1, T.2.2.1)).2.1, (tkF P3 P4 P5 d (nI (n + 1)) (T.1, T.2.1, T.2.2.1)).2.2.1, (tkF P3 P4 P5 d (nI (n + 1)) (T.1, T.2.1, T.2.2.1)).2.2.2, T.2.2.2)).2.1, (fiF P3 P4 P5 k (d + 1) ((tkF P3 P4 P5 d (nI (n + 1)) (T.1, T.2.1, T.2.2.1)).2.1, (tkF P3 P4 P5 d (nI (n + 1)) (T.1, T.2.1, T.2.2.1)).2.2.1, (tkF P3 P4 P5 d (nI (n + 1)) (T.1, T.2.1, T.2.2.1)).2.2.2, T.2.2.2)).2.2.1, (fiF P3 P4 P5 k (d + 1) ((tkF P3 P4 P5 d (nI (n + 1)) (T.1, T.2.1, T.2.2.1)).2.1, (tkF P3 P4 P5 d (nI (n + 1)) (T.1, T.2.1, T.2.2.1)).2.2.1, (tkF P3 P4 P5 d (nI (n + 1)) (T.1, T.2.1, T.2.2.1)).2.2.2, T.2.2.2)).2.2.2.1, chw ((fiF P3 P4 P5 k (d + 1) ((tkF P3 P4 P5 d (nI (n + 1)) (T.1, T.2.1, T.2.2.1)).2.1, (tkF P3 P4 P5 d (nI (n + 1)) (T.1, T.2.1, T.2.2.1)).2.2.1, (tkF P3 P4 P5 d (nI (n + 1)) (T.1, T.2.1, T.2.2.1)).2.2.2, T.2.2.2)).2.2.2.2) pa (nI (n + 1)))) := by
              unfold fiV; rw [if_neg (by assumption), if_neg (by assumption), if_neg (by assumption)]
            rw [show fiW (fiF P3 P4 P5 k (d + 1)) P3 P4 P5 d pa st bf (n + 1) T = (1, ((fiF P3 P4 P5 k (d + 1) ((tkF P3 P4 P5 d (nI (n + 1)) (T.1, T.2.1, T.2.2.1)).2.1, (tkF P3 P4 P5 d (nI (n + 1)) (T.1, T.2.1, T.2.2.1)).2.2.1, (tkF P3 P4 P5 d (nI (n + 1)) (T.1, T.2.1, T.2.2.1)).2.2.2, T.2.2.2)).2.1, (fiF P3 P4 P5 k (d + 1) ((tkF P3 P4 P5 d (nI (n + 1)) (T.1, T.2.1, T.2.2.1)).2.1, (tkF P3 P4 P5 d (nI (n + 1)) (T.1, T.2.1, T.2.2.1)).2.2.1, (tkF P3 P4 P5 d (nI (n + 1)) (T.1, T.2.1, T.2.2.1)).2.2.2, T.2.2.2)).2.2.1, (fiF P3 P4 P5 k (d + 1) ((tkF P3 P4 P5 d (nI (n + 1)) (T.1, T.2.1, T.2.2.1)).2.1, (tkF P3 P4 P5 d (nI (n + 1)) (T.1, T.2.1, T.2.2.1)).2.2.1, (tkF P3 P4 P5 d (nI (n + 1)) (T.1, T.2.1, T.2.2.1)).2.2.2, T.2.2.2)).2.2.2.1, chw ((fiF P3 P4 P5 k (d + 1) ((tkF P3 P4 P5 d (nI (n + 1)) (T.1, T.2.1, T.2.2.1)).2.1, (tkF P3 P4 P5 d (nI (n + 1)) (T.1, T.2.1, T.2.2.1)).2.2.1, (tkF P3 P4 P5 d (nI (n + 1)) (T.1, T.2.1, T.2.2.1)).2.2.2, T.2.2.2)).2.2.2.2) pa (nI (n + 1)))) from by rw [fiW, eV, if_neg (show ¬ (1 : Int32) = 0 by decide)]] at fin
            exact fin 117 _ _ dX7_fill_117 rfl rfl
theorem lkX7_fill_14 : Cond.fieldLink RX7 14 RX7 "order" "LApprovalyard$Row;" ∈ wsX7_fill := by decide +kernel
theorem lkX7_fill_20 : Cond.fieldLink RX7 20 RX7 "wanted" "LApprovalyard$Row;" ∈ wsX7_fill := by decide +kernel
set_option maxHeartbeats 8000000 in
set_option maxRecDepth 100000 in
theorem cX7_fill_met (cI : ClassId) (ad ad2 : Nat → Nat) (P0 P1 P2 P3 P4 P5 : Nat → Int32) : ∀ (k : Nat), k ≤ 8 → ∀ (T : TS) (l : Launch) (D : va_G) (tys : List (ClassId × FieldType)) (ht : tys[0]? = some (cI, .int)), CId l yX7_fill wsX7_fill (4 + k) D tys [.ref (ad 0), .ref (ad2 0), .int (nI (8 - k))] (wSP cI ad ad2 T.1 T.2.1 T.2.2.1 T.2.2.2 P0 P1 P2 P3 P4 P5) (fiF P3 P4 P5 k (nI (8 - k)) T).1 (wSP cI ad ad2 (fiF P3 P4 P5 k (nI (8 - k)) T).2.1 (fiF P3 P4 P5 k (nI (8 - k)) T).2.2.1 (fiF P3 P4 P5 k (nI (8 - k)) T).2.2.2.1 (fiF P3 P4 P5 k (nI (8 - k)) T).2.2.2.2 P0 P1 P2 P3 P4 P5) := by
  intro k
  induction k with
  | zero =>
    intro h1 T l D tys ht
    refine CI_of (maxL := 8) (cc := cX7_fill) (y := yX7_fill) rfl rfl (Nat.le_of_ble_eq_true rfl) (fun X hl hD hk hn hcz hsz o fin => ?_)
    subst hl; subst hD; subst hk
    refine V_iload_n (pc := 0) o dX7_fill_0 rfl ?_
    refine V_aload_n (pc := 1) o dX7_fill_1 rfl ?_
    refine V_get (pc := 2) o 0 2 hiX7_fill_X7 rfl rfl (by decide) lkX7_fill_40 rfl rfl dX7_fill_2 ?_
    refine V_icmp_ge (pc := 5) o 14 dX7_fill_5 (by decide) (fun c5 => ?_) (fun c5 => ?_)
    · refine V_iconst (pc := 14) o 1 dX7_fill_14 (by decide) ?_
      exact fin 15 _ _ () dX7_fill_15 rfl rfl
    · refine V_iload_n (pc := 8) o dX7_fill_8 rfl ?_
      refine V_bipush (pc := 9) o 8 dX7_fill_9 (by decide) ?_
      refine V_icmp_lt (pc := 11) o 16 dX7_fill_11 (by decide) (fun c11 => ?_) (fun c11 => ?_)
      · exact absurd (show nI 8 < (8 : Int32) from c11) (by decide)
      · refine V_iconst (pc := 14) o 1 dX7_fill_14 (by decide) ?_
        exact fin 15 _ _ () dX7_fill_15 rfl rfl
  | succ k ih =>
    intro h1 T l D tys ht
    refine CI_of (maxL := 8) (cc := cX7_fill) (y := yX7_fill) rfl rfl (Nat.le_of_ble_eq_true rfl) (fun X hl hD hk hn hcz hsz o fin => ?_)
    subst hl; subst hD; subst hk
    have h9 : nI (8 - (k + 1)) < 8 := nI_lt (b := 8) (by omega) (by decide)
    refine V_iload_n (pc := 0) o dX7_fill_0 rfl ?_
    refine V_aload_n (pc := 1) o dX7_fill_1 rfl ?_
    refine V_get (pc := 2) o 0 2 hiX7_fill_X7 rfl rfl (by decide) lkX7_fill_40 rfl rfl dX7_fill_2 ?_
    refine V_icmp_ge (pc := 5) o 14 dX7_fill_5 (by decide) (fun c5 => ?_) (fun c5 => ?_)
    · first | exact absurd h9 c11 | (refine V_iconst (pc := 14) o 1 dX7_fill_14 (by decide) ?_; rw [show fiF P3 P4 P5 (k + 1) (nI (8 - (k + 1))) T = (1, T) by rw [fiF]; exact if_pos c5] at fin; exact fin 15 _ _ () dX7_fill_15 rfl rfl)
    · refine V_iload_n (pc := 8) o dX7_fill_8 rfl ?_
      refine V_bipush (pc := 9) o 8 dX7_fill_9 (by decide) ?_
      refine V_icmp_lt (pc := 11) o 16 dX7_fill_11 (by decide) (fun c11 => ?_) (fun c11 => ?_)
      · refine V_aload_n (pc := 16) o dX7_fill_16 rfl ?_
        refine V_get (pc := 17) o 0 0 hiX7_fill_X7 rfl rfl (by decide) lkX7_fill_14 rfl rfl dX7_fill_17 ?_
        refine V_iload_n (pc := 20) o dX7_fill_20 rfl ?_
        refine V_rVi (pc := 21) o (cX6_at_met _ _ _ cI ht _ _ 8 T.1 (by decide) _) 1 2 gX7_fill_X6_at rfl hdX6_at ⟨by omega, by decide⟩ rfl rfl rfl (Nat.le_of_ble_eq_true rfl) dX7_fill_21 rfl ?_
        refine V_istore_n (pc := 24) o dX7_fill_24 (by rw [hn]; decide) ?_
        refine V_aload_n (pc := 25) o dX7_fill_25 rfl ?_
        refine V_get (pc := 26) o 0 1 hiX7_fill_X7 rfl rfl (by decide) lkX7_fill_20 rfl rfl dX7_fill_26 ?_
        refine V_iload_n (pc := 29) o dX7_fill_29 rfl ?_
        refine V_bipush (pc := 30) o 8 dX7_fill_30 (by decide) ?_
        refine V_imul (pc := 32) o dX7_fill_32 ?_
        refine V_iload_n (pc := 33) o dX7_fill_33 rfl ?_
        refine V_iadd (pc := 34) o dX7_fill_34 ?_
        refine V_rVi (pc := 35) o (cX6_at_met _ _ _ cI ht _ _ 72 T.2.1 (by decide) _) 3 2 gX7_fill_X6_at rfl hdX6_at ⟨by omega, by decide⟩ rfl rfl rfl (Nat.le_of_ble_eq_true rfl) dX7_fill_35 rfl ?_
        refine V_istore (pc := 38) o dX7_fill_38 (by rw [hn]; decide) ?_
        refine V_aload_n (pc := 40) o dX7_fill_40 rfl ?_
        refine V_get (pc := 41) o 0 2 hiX7_fill_X7 rfl rfl (by decide) lkX7_fill_40 rfl rfl dX7_fill_41 ?_
        refine V_istore (pc := 44) o dX7_fill_44 (by rw [hn]; decide) ?_
        refine V_iconst (pc := 46) o 3 dX7_fill_46 (by decide) ?_
        refine V_istore (pc := 47) o dX7_fill_47 (by rw [hn]; decide) ?_
        refine V_sub (lc2 := [(0, .ref (ad 0)), (1, .ref (ad2 0)), (2, .int (nI (8 - (k + 1)))), (3, .int (rat 8 T.1 (nI (8 - (k + 1))))), (4, .int (rat 72 T.2.1 (nI (8 - (k + 1)) * 8 + rat 8 T.1 (nI (8 - (k + 1)))))), (5, .int T.2.2.1), (6, .int (nI 3))]) ⟨rfl, rfl, rfl, rfl, rfl, rfl, rfl, trivial⟩ ?_
        refine lpX7_fill o hn cI ht ad ad2 P0 P1 P2 P3 P4 P5 _ _ _ _ (fun T2 => ?_) 3 T (by omega) (fun pc lc x dg hb e => ?_)
        · have q := ih (by omega) T2 (XL X) (XD X) (XK X) ht
          rw [show nI (8 - k) = nI (8 - (k + 1)) + 1 by rw [nI_1]; congr 1; omega] at q
          exact q
        · have q := fin pc lc x () dg hb
          rw [fiF, if_neg c5] at q
          exact q e
      · first | exact absurd h9 c11 | (refine V_iconst (pc := 14) o 1 dX7_fill_14 (by decide) ?_; rw [show fiF P3 P4 P5 (k + 1) (nI (8 - (k + 1))) T = (1, T) by rw [fiF]; exact if_pos c5] at fin; exact fin 15 _ _ () dX7_fill_15 rfl rfl)
def fnC (P0 P2 O1 : Nat → Int32) : Nat → Nat → Int32
  | 0 => O1
  | n + 1 => rup 72 (fnC P0 P2 O1 n) (nI n) (pcur P0 P2 (nI n))
def fnF (P0 P2 P3 P4 P5 O0 O1 : Nat → Int32) (p a : Int32) : TS := (fiF P3 P4 P5 8 0 (rup 8 O0 0 p, rup 72 (fnC P0 P2 O1 8) p (rat 72 (fnC P0 P2 O1 8) p &&& vset a 3), 1, 0)).2
theorem hiX7_find_X7 : ∀ w ∈ wsX70, w ∈ wsX7_find := by decide +kernel
theorem lkX7_find_20 : Cond.fieldLink RX7 20 RX7 "wanted" "LApprovalyard$Row;" ∈ wsX7_find := by decide +kernel
set_option maxHeartbeats 4000000 in
set_option maxRecDepth 100000 in
theorem lpX7_find {X : XT} (o : OkX X cX7_find RX7 wsX7_find 13) (hn : XN X = 5) (cI : ClassId) (ht : (XK X)[0]? = some (cI, .int)) (ad ad2 : Nat → Nat) (P0 P1 P2 P3 P4 P5 : Nat → Int32) (O0 O1 : Nat → Int32) (on oc p a : Int32) (kk : V X 0 0 (wSP cI ad ad2 O0 (fnC P0 P2 O1 8) on oc P0 P1 P2 P3 P4 P5) 31 [(0, .ref (ad 0)), (1, .ref (ad2 0)), (2, .int p), (3, .int a), (4, .int (nI 8))] []) : ∀ (m j : Nat), 8 - j < m → j ≤ 8 → V X 0 0 (wSP cI ad ad2 O0 (fnC P0 P2 O1 j) on oc P0 P1 P2 P3 P4 P5) 3 [(0, .ref (ad 0)), (1, .ref (ad2 0)), (2, .int p), (3, .int a), (4, .int (nI j))] [] := by
  intro m
  induction m with
  | zero => intro j h1; exact absurd h1 (Nat.not_lt_zero _)
  | succ m ih =>
    intro j h1 h2
    refine V_iload (pc := 3) o dX7_find_3 rfl ?_
    refine V_bipush (pc := 5) o 8 dX7_find_5 (by decide) ?_
    refine V_icmp_ge (pc := 7) o 31 dX7_find_7 (by decide) (fun c7 => ?_) (fun c7 => ?_)
    · have e1 : j = 8 := Nat.le_antisymm h2 (le_of_nI c7)
      rw [e1]
      exact kk
    · refine V_aload_n (pc := 10) o dX7_find_10 rfl ?_
      refine V_get (pc := 11) o 0 1 hiX7_find_X7 rfl rfl (by decide) lkX7_find_20 rfl rfl dX7_find_11 ?_
      refine V_iload (pc := 14) o dX7_find_14 rfl ?_
      refine V_aload_n (pc := 16) o dX7_find_16 rfl ?_
      refine V_iload (pc := 17) o dX7_find_17 rfl ?_
      refine V_rVi (pc := 19) o (cX3_current_met _ _ _ cI ht ad2 P0 P1 P2 P3 P4 P5 (nI j)) 5 13 gX7_find_X3_current rfl hdX3_current ⟨by omega, by decide⟩ rfl rfl rfl (Nat.le_of_ble_eq_true rfl) dX7_find_19 rfl ?_
      refine V_wVv (pc := 22) o (cX6_put_met _ _ _ cI ht _ _ 72 (fnC P0 P2 O1 j) (by decide) _ _) 3 2 (wSP cI ad ad2 O0 (rup 72 (fnC P0 P2 O1 j) (nI j) (pcur P0 P2 (nI j))) on oc P0 P1 P2 P3 P4 P5) gX7_find_X6_put rfl hdX6_put ⟨by omega, by decide⟩ rfl rfl rfl (Nat.le_of_ble_eq_true rfl) dX7_find_22 rfl rfl ?_
      refine V_iinc (pc := 25) o 1 dX7_find_25 (by rw [hn]; decide) rfl (by decide) ?_
      refine V_goto (pc := 28) o 3 dX7_find_28 (by decide) ?_
      have q1 : j < 8 := lt_of_nI (K := 8) c7
      refine V_eq (ws2 := wSP cI ad ad2 O0 (fnC P0 P2 O1 (j + 1)) on oc P0 P1 P2 P3 P4 P5) rfl rfl ?_
      refine V_sub (lc2 := [(0, .ref (ad 0)), (1, .ref (ad2 0)), (2, .int p), (3, .int a), (4, .int (nI (j + 1)))]) ⟨rfl, rfl, rfl, rfl, lc_e (nI_1 j), trivial⟩ ?_
      exact ih (j + 1) (by omega) (by omega)
theorem hdX7_find : yX7_find.cls = RX7 ∧ yX7_find.cls ≠ "java/lang/invoke/MethodHandle" ∧ yX7_find.cls ≠ "java/lang/invoke/VarHandle" ∧ (parseMethodDescriptor yX7_find.desc).map (fun d => d.parameters.length) = some 3 := by decide +kernel
theorem lkX7_find_14 : Cond.fieldLink RX7 14 RX7 "order" "LApprovalyard$Row;" ∈ wsX7_find := by decide +kernel
theorem lkX7_find_40 : Cond.fieldLink RX7 40 RX7 "number" "I" ∈ wsX7_find := by decide +kernel
theorem lkX7_find_46 : Cond.fieldLink RX7 46 RX7 "choice" "I" ∈ wsX7_find := by decide +kernel
set_option maxHeartbeats 4000000 in
set_option maxRecDepth 100000 in
theorem cX7_find_met (l : Launch) (D : va_G) (tys : List (ClassId × FieldType)) (cI : ClassId) (ht : tys[0]? = some (cI, .int)) (ad ad2 : Nat → Nat) (O0 O1 : Nat → Int32) (on oc : Int32) (P0 P1 P2 P3 P4 P5 : Nat → Int32) (p a : Int32) : CId l yX7_find wsX7_find 13 D tys [.ref (ad 0), .ref (ad2 0), .int p, .int a] (wSP cI ad ad2 O0 O1 on oc P0 P1 P2 P3 P4 P5) (fnF P0 P2 P3 P4 P5 O0 O1 p a).2.2.2 (wSP cI ad ad2 (fnF P0 P2 P3 P4 P5 O0 O1 p a).1 (fnF P0 P2 P3 P4 P5 O0 O1 p a).2.1 (fnF P0 P2 P3 P4 P5 O0 O1 p a).2.2.1 (fnF P0 P2 P3 P4 P5 O0 O1 p a).2.2.2 P0 P1 P2 P3 P4 P5) := by
  refine CI_of (maxL := 5) (cc := cX7_find) (y := yX7_find) rfl rfl (Nat.le_of_ble_eq_true rfl) (fun X hl hD hk hn hcz hsz o fin => ?_)
  subst hl; subst hD; subst hk
  refine V_iconst (pc := 0) o 0 dX7_find_0 (by decide) ?_
  refine V_istore (pc := 1) o dX7_find_1 (by rw [hn]; decide) ?_
  refine V_sub (lc2 := [(0, .ref (ad 0)), (1, .ref (ad2 0)), (2, .int p), (3, .int a), (4, .int (nI 0))]) ⟨rfl, rfl, rfl, rfl, rfl, trivial⟩ ?_
  refine lpX7_find o hn cI ht ad ad2 P0 P1 P2 P3 P4 P5 O0 O1 on oc p a ?_ 9 0 (by omega) (by omega)
  refine V_aload_n (pc := 31) o dX7_find_31 rfl ?_
  refine V_get (pc := 32) o 0 1 hiX7_find_X7 rfl rfl (by decide) lkX7_find_20 rfl rfl dX7_find_32 ?_
  refine V_iload_n (pc := 35) o dX7_find_35 rfl ?_
  refine V_aload_n (pc := 36) o dX7_find_36 rfl ?_
  refine V_get (pc := 37) o 0 1 hiX7_find_X7 rfl rfl (by decide) lkX7_find_20 rfl rfl dX7_find_37 ?_
  refine V_iload_n (pc := 40) o dX7_find_40 rfl ?_
  refine V_rVi (pc := 41) o (cX6_at_met _ _ _ cI ht _ _ 72 (fnC P0 P2 O1 8) (by decide) _) 3 2 gX7_find_X6_at rfl hdX6_at ⟨by omega, by decide⟩ rfl rfl rfl (Nat.le_of_ble_eq_true rfl) dX7_find_41 rfl ?_
  refine V_iload_n (pc := 44) o dX7_find_44 rfl ?_
  refine V_iconst (pc := 45) o 3 dX7_find_45 (by decide) ?_
  refine V_rSi (pc := 46) o (cX3_versionSet_met _ _ _ a 3) 0 0 gX7_find_X3_versionSet rfl hdX3_versionSet ⟨by omega, by decide⟩ rfl (Nat.le_of_ble_eq_true rfl) dX7_find_46 rfl ?_
  refine V_iand (pc := 49) o dX7_find_49 ?_
  refine V_wVv (pc := 50) o (cX6_put_met _ _ _ cI ht _ _ 72 (fnC P0 P2 O1 8) (by decide) _ _) 3 2 (wSP cI ad ad2 O0 (rup 72 (fnC P0 P2 O1 8) p ((rat 72 (fnC P0 P2 O1 8) p) &&& (vset a 3))) on oc P0 P1 P2 P3 P4 P5) gX7_find_X6_put rfl hdX6_put ⟨by omega, by decide⟩ rfl rfl rfl (Nat.le_of_ble_eq_true rfl) dX7_find_50 rfl rfl ?_
  refine V_aload_n (pc := 53) o dX7_find_53 rfl ?_
  refine V_get (pc := 54) o 0 0 hiX7_find_X7 rfl rfl (by decide) lkX7_find_14 rfl rfl dX7_find_54 ?_
  refine V_iconst (pc := 57) o 0 dX7_find_57 (by decide) ?_
  refine V_iload_n (pc := 58) o dX7_find_58 rfl ?_
  refine V_wVv (pc := 59) o (cX6_put_met _ _ _ cI ht _ _ 8 O0 (by decide) _ _) 1 2 (wSP cI ad ad2 (rup 8 O0 0 p) (rup 72 (fnC P0 P2 O1 8) p ((rat 72 (fnC P0 P2 O1 8) p) &&& (vset a 3))) on oc P0 P1 P2 P3 P4 P5) gX7_find_X6_put rfl hdX6_put ⟨by omega, by decide⟩ rfl rfl rfl (Nat.le_of_ble_eq_true rfl) dX7_find_59 rfl rfl ?_
  refine V_aload_n (pc := 62) o dX7_find_62 rfl ?_
  refine V_iconst (pc := 63) o 1 dX7_find_63 (by decide) ?_
  refine V_put (pc := 64) o 0 2 hiX7_find_X7 tyX7 tyX7_ok nmX7 rfl rfl (by decide) lkX7_find_40 rfl rfl rfl rfl rfl (Nat.le_of_ble_eq_true rfl) dX7_find_64 ?_
  refine V_eq (ws2 := wSP cI ad ad2 (rup 8 O0 0 p) (rup 72 (fnC P0 P2 O1 8) p ((rat 72 (fnC P0 P2 O1 8) p) &&& (vset a 3))) 1 oc P0 P1 P2 P3 P4 P5) rfl rfl ?_
  refine V_aload_n (pc := 67) o dX7_find_67 rfl ?_
  refine V_iconst (pc := 68) o 0 dX7_find_68 (by decide) ?_
  refine V_put (pc := 69) o 0 3 hiX7_find_X7 tyX7 tyX7_ok nmX7 rfl rfl (by decide) lkX7_find_46 rfl rfl rfl rfl rfl (Nat.le_of_ble_eq_true rfl) dX7_find_69 ?_
  refine V_eq (ws2 := wSP cI ad ad2 (rup 8 O0 0 p) (rup 72 (fnC P0 P2 O1 8) p ((rat 72 (fnC P0 P2 O1 8) p) &&& (vset a 3))) 1 0 P0 P1 P2 P3 P4 P5) rfl rfl ?_
  refine V_aload_n (pc := 72) o dX7_find_72 rfl ?_
  refine V_aload_n (pc := 73) o dX7_find_73 rfl ?_
  refine V_iconst (pc := 74) o 0 dX7_find_74 (by decide) ?_
  refine V_wVi (pc := 75) o (cX7_fill_met cI ad ad2 P0 P1 P2 P3 P4 P5 8 (Nat.le_refl _) (rup 8 O0 0 p, rup 72 (fnC P0 P2 O1 8) p ((rat 72 (fnC P0 P2 O1 8) p) &&& (vset a 3)), 1, 0) _ _ _ ht) 0 18 (wSP cI ad ad2 ((fnF P0 P2 P3 P4 P5 O0 O1 p a).1) ((fnF P0 P2 P3 P4 P5 O0 O1 p a).2.1) ((fnF P0 P2 P3 P4 P5 O0 O1 p a).2.2.1) ((fnF P0 P2 P3 P4 P5 O0 O1 p a).2.2.2) P0 P1 P2 P3 P4 P5) gX7_find_X7_fill rfl hdX7_fill (by decide) rfl rfl rfl (Nat.le_of_ble_eq_true rfl) dX7_find_75 rfl rfl ?_
  refine V_pop (pc := 78) o rfl dX7_find_78 ?_
  refine V_aload_n (pc := 79) o dX7_find_79 rfl ?_
  refine V_get (pc := 80) o 0 3 hiX7_find_X7 rfl rfl (by decide) lkX7_find_46 rfl rfl dX7_find_80 ?_
  exact fin 83 _ _ () dX7_find_83 rfl rfl
