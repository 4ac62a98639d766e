/-! The reference's world in natural numbers, and rows over it. -/
def wMod (cI : ClassId) (ad : Nat → Nat) (vc vr vn ne vs li ba de qp qt ql qs qc ch ap : Nat → Nat) (un : Nat → Int32) (ro pi si : Nat → Nat) (pl : Nat → Int32) (rq dy en : Nat) (th : Int32) : va_W :=
  [(ad 0, .inr (8, [.ref (ad 1), .ref (ad 2), .ref (ad 3), .ref (ad 4), .ref (ad 5), .ref (ad 6), .ref (ad 7), .ref (ad 8), .ref (ad 9), .ref (ad 10), .ref (ad 11), .ref (ad 12), .ref (ad 13), .ref (ad 14), .ref (ad 15), .ref (ad 16), .int (nI rq), .int (nI dy), .int (nI en), .ref (ad 17), .ref (ad 18), .ref (ad 19), .ref (ad 20), .int th])),
   (ad 1, .inl (cI, 24, .inl (fun k => nI (vc k)))), (ad 2, .inl (cI, 24, .inl (fun k => nI (vr k)))), (ad 3, .inl (cI, 24, .inl (fun k => nI (vn k)))), (ad 4, .inl (cI, 288, .inl (fun k => nI (ne k)))), (ad 5, .inl (cI, 8, .inl (fun k => nI (vs k)))), (ad 6, .inl (cI, 8, .inl (fun k => nI (li k)))), (ad 7, .inl (cI, 8, .inl (fun k => nI (ba k)))), (ad 8, .inl (cI, 8, .inl (fun k => nI (de k)))),
   (ad 9, .inl (cI, 30, .inl (fun k => nI (qp k)))), (ad 10, .inl (cI, 30, .inl (fun k => nI (qt k)))), (ad 11, .inl (cI, 30, .inl (fun k => nI (ql k)))), (ad 12, .inl (cI, 30, .inl (fun k => nI (qs k)))), (ad 13, .inl (cI, 30, .inl (fun k => nI (qc k)))), (ad 14, .inl (cI, 240, .inl (fun k => nI (ch k)))), (ad 15, .inl (cI, 240, .inl (fun k => nI (ap k)))), (ad 16, .inl (cI, 240, .inl un)),
   (ad 17, .inl (cI, 9, .inl (fun k => nI (ro k)))), (ad 18, .inl (cI, 9, .inl (fun k => nI (pi k)))), (ad 19, .inl (cI, 9, .inl (fun k => nI (si k)))), (ad 20, .inl (cI, 8, .inl pl))]
section NRows
variable {X : XT} {k z : Nat} {ws : va_W} {pc : Nat} {lc : List (Nat × Value)} {st : List Value} {cc : ByteArray} {own : String} {Ts : List Cond} {d : Nat}
theorem V_dup2 (o : OkX X cc own Ts d) {v w : Value} (hv : v.category = 1) (hw : w.category = 1) (dg : decode cc pc = .ok (.dup2, 1)) (kk : V X k z ws (pc + 1) lc (v :: w :: v :: w :: st)) : V X k z ws pc lc (v :: w :: st) :=
  V_go o (fun _ _ _ _ _ _ _ _ _ _ _ _ _ _ _ _ _ hx hb _ K => lv_dup2_11 hx hb dg hv hw K) kk
theorem V_iaddN (o : OkX X cc own Ts d) {x y : Int32} (a b : Nat) (hx : x = nI a) (hy : y = nI b) (dg : decode cc pc = .ok (.iadd, 1)) (kk : V X k z ws (pc + 1) lc (.int (nI (a + b)) :: st)) : V X k z ws pc lc (.int y :: .int x :: st) := by
  subst hx; subst hy
  exact V_iadd o dg (by rw [nI_add]; exact kk)
theorem V_imulN (o : OkX X cc own Ts d) {x y : Int32} (a b : Nat) (hx : x = nI a) (hy : y = nI b) (dg : decode cc pc = .ok (.imul, 1)) (kk : V X k z ws (pc + 1) lc (.int (nI (a * b)) :: st)) : V X k z ws pc lc (.int y :: .int x :: st) := by
  subst hx; subst hy
  exact V_imul o dg (by rw [pk_mul]; exact kk)
theorem V_isubN (o : OkX X cc own Ts d) {x y : Int32} (a b : Nat) (hx : x = nI a) (hy : y = nI b) (h : b ≤ a) (dg : decode cc pc = .ok (.isub, 1)) (kk : V X k z ws (pc + 1) lc (.int (nI (a - b)) :: st)) : V X k z ws pc lc (.int y :: .int x :: st) := by
  subst hx; subst hy
  exact V_isub o dg (by rw [pk_sub h]; exact kk)
theorem V_ialdN (o : OkX X cc own Ts d) {a n : Nat} {cA : ClassId} {i : Int32} (q0 : Nat) (f : Nat → Nat) (j : Nat) (he : ws[q0]? = some (a, .inl (cA, n, .inl (fun k => nI (f k))))) (ht : (XK X)[0]? = some (cA, .int)) (hi : i = nI j) (hj : j < n) (hn : n ≤ 4000) (dg : decode cc pc = .ok (.iaload, 1)) (kk : V X k z ws (pc + 1) lc (.int (nI (f j)) :: st)) : V X k z ws pc lc (.int i :: .ref a :: st) := by
  subst hi
  exact V_iald o q0 0 he ht (vp_in_nI hj (by omega)) dg (by rw [nI_clamp (by omega)]; exact kk)
theorem V_ialdI (o : OkX X cc own Ts d) {a n : Nat} {cA : ClassId} {i : Int32} (q0 : Nat) (f : Nat → Int32) (j : Nat) (he : ws[q0]? = some (a, .inl (cA, n, .inl f))) (ht : (XK X)[0]? = some (cA, .int)) (hi : i = nI j) (hj : j < n) (hn : n ≤ 4000) (dg : decode cc pc = .ok (.iaload, 1)) (kk : V X k z ws (pc + 1) lc (.int (f j) :: st)) : V X k z ws pc lc (.int i :: .ref a :: st) := by
  subst hi
  exact V_iald o q0 0 he ht (vp_in_nI hj (by omega)) dg (by rw [nI_clamp (by omega)]; exact kk)
theorem up_nI (f : Nat → Nat) (j b : Nat) : upd (fun k => nI (f k)) j (nI b) = fun k => nI (va_up f j b k) := by
  funext k
  simp only [upd, va_up]
  by_cases h : k = j <;> simp [h]
theorem up_I (f : Nat → Int32) (j : Nat) (b : Int32) : upd f j b = va_up f j b := by
  funext k
  simp only [upd, va_up]
theorem V_iastN (o : OkX X cc own Ts d) {a n : Nat} {cA : ClassId} {i x : Int32} (q0 : Nat) (f : Nat → Nat) (j b : Nat) (he : ws[q0]? = some (a, .inl (cA, n, .inl (fun k => nI (f k))))) (ht : (XK X)[0]? = some (cA, .int)) (hi : i = nI j) (hx : x = nI b) (hj : j < n) (hn : n ≤ 4000) (dg : decode cc pc = .ok (.iastore, 1)) (kk : V X k z (ws.set q0 (a, .inl (cA, n, .inl (fun k => nI (va_up f j b k))))) (pc + 1) lc st) : V X k z ws pc lc (.int x :: .int i :: .ref a :: st) := by
  subst hi; subst hx
  refine V_iast o q0 0 he ht (vp_in_nI hj (by omega)) dg ?_
  rw [nI_clamp (by omega), up_nI]
  exact kk
theorem V_iastI (o : OkX X cc own Ts d) {a n : Nat} {cA : ClassId} {i x : Int32} (q0 : Nat) (f : Nat → Int32) (j : Nat) (he : ws[q0]? = some (a, .inl (cA, n, .inl f))) (ht : (XK X)[0]? = some (cA, .int)) (hi : i = nI j) (hj : j < n) (hn : n ≤ 4000) (dg : decode cc pc = .ok (.iastore, 1)) (kk : V X k z (ws.set q0 (a, .inl (cA, n, .inl (va_up f j x)))) (pc + 1) lc st) : V X k z ws pc lc (.int x :: .int i :: .ref a :: st) := by
  subst hi
  refine V_iast o q0 0 he ht (vp_in_nI hj (by omega)) dg ?_
  rw [nI_clamp (by omega), up_I]
  exact kk
theorem V_iincN (o : OkX X cc own Ts d) {i : Nat} {n : Int} {x : Int32} (a b : Nat) (hx : x = nI a) (dg : decode cc pc = .ok (.iinc i n, 3)) (hn : i < XN X) (e : lcAt lc i = some (.int x)) (hy : Int32.ofInt n = nI b) (kk : V X k z ws (pc + 3) (lcSet lc i (.int (nI (a + b)))) st) : V X k z ws pc lc st := by
  subst hx
  exact V_iinc o (nI b) dg hn e hy (by rw [nI_add]; exact kk)
theorem V_icmp_geN (o : OkX X cc own Ts d) {x y : Int32} {off : Int} (tgt : Nat) (a b : Nat) (hx : x = nI a) (hy : y = nI b) (ha : a < 2 ^ 31) (hb : b < 2 ^ 31) (dg : decode cc pc = .ok (.if_icmp .ge off, 3)) (ht : (pc : Int) + off = (tgt : Int)) (kt : b ≤ a → V X k z ws tgt lc st) (kf : a < b → V X k z ws (pc + 3) lc st) : V X k z ws pc lc (.int y :: .int x :: st) := by
  subst hx; subst hy
  exact V_icmp_ge o tgt dg ht (fun h => kt ((nI_leI hb ha).mp h)) (fun h => kf (Nat.not_le.mp (fun q => h ((nI_leI hb ha).mpr q))))
theorem V_icmp_ltN (o : OkX X cc own Ts d) {x y : Int32} {off : Int} (tgt : Nat) (a b : Nat) (hx : x = nI a) (hy : y = nI b) (ha : a < 2 ^ 31) (hb : b < 2 ^ 31) (dg : decode cc pc = .ok (.if_icmp .lt off, 3)) (ht : (pc : Int) + off = (tgt : Int)) (kt : a < b → V X k z ws tgt lc st) (kf : b ≤ a → V X k z ws (pc + 3) lc st) : V X k z ws pc lc (.int y :: .int x :: st) := by
  subst hx; subst hy
  exact V_icmp_lt o tgt dg ht (fun h => kt ((nI_ltI ha hb).mp h)) (fun h => kf (Nat.not_lt.mp (fun q => h ((nI_ltI ha hb).mpr q))))
theorem V_icmp_gtN (o : OkX X cc own Ts d) {x y : Int32} {off : Int} (tgt : Nat) (a b : Nat) (hx : x = nI a) (hy : y = nI b) (ha : a < 2 ^ 31) (hb : b < 2 ^ 31) (dg : decode cc pc = .ok (.if_icmp .gt off, 3)) (ht : (pc : Int) + off = (tgt : Int)) (kt : b < a → V X k z ws tgt lc st) (kf : a ≤ b → V X k z ws (pc + 3) lc st) : V X k z ws pc lc (.int y :: .int x :: st) := by
  subst hx; subst hy
  exact V_icmp_gt o tgt dg ht (fun h => kt ((nI_ltI hb ha).mp h)) (fun h => kf (Nat.not_lt.mp (fun q => h ((nI_ltI hb ha).mpr q))))
theorem V_icmp_leN (o : OkX X cc own Ts d) {x y : Int32} {off : Int} (tgt : Nat) (a b : Nat) (hx : x = nI a) (hy : y = nI b) (ha : a < 2 ^ 31) (hb : b < 2 ^ 31) (dg : decode cc pc = .ok (.if_icmp .le off, 3)) (ht : (pc : Int) + off = (tgt : Int)) (kt : a ≤ b → V X k z ws tgt lc st) (kf : b < a → V X k z ws (pc + 3) lc st) : V X k z ws pc lc (.int y :: .int x :: st) := by
  subst hx; subst hy
  exact V_icmp_le o tgt dg ht (fun h => kt ((nI_leI ha hb).mp h)) (fun h => kf (Nat.not_le.mp (fun q => h ((nI_leI ha hb).mpr q))))
theorem V_icmp_eqN (o : OkX X cc own Ts d) {x y : Int32} {off : Int} (tgt : Nat) (a b : Nat) (hx : x = nI a) (hy : y = nI b) (ha : a < 2 ^ 31) (hb : b < 2 ^ 31) (dg : decode cc pc = .ok (.if_icmp .eq off, 3)) (ht : (pc : Int) + off = (tgt : Int)) (kt : a = b → V X k z ws tgt lc st) (kf : ¬ a = b → V X k z ws (pc + 3) lc st) : V X k z ws pc lc (.int y :: .int x :: st) := by
  subst hx; subst hy
  exact V_icmp_eq o tgt dg ht (fun h => kt ((nI_eq ha hb).mp h)) (fun h => kf (fun q => h ((nI_eq ha hb).mpr q)))
theorem V_icmp_neN (o : OkX X cc own Ts d) {x y : Int32} {off : Int} (tgt : Nat) (a b : Nat) (hx : x = nI a) (hy : y = nI b) (ha : a < 2 ^ 31) (hb : b < 2 ^ 31) (dg : decode cc pc = .ok (.if_icmp .ne off, 3)) (ht : (pc : Int) + off = (tgt : Int)) (kt : ¬ a = b → V X k z ws tgt lc st) (kf : a = b → V X k z ws (pc + 3) lc st) : V X k z ws pc lc (.int y :: .int x :: st) := by
  subst hx; subst hy
  exact V_icmp_ne o tgt dg ht (fun h => kt (fun q => h ((nI_eq ha hb).mpr q))) (fun h => kf ((nI_eq ha hb).mp h))
theorem V_if_eqN (o : OkX X cc own Ts d) {x : Int32} {off : Int} (tgt : Nat) (a : Nat) (hx : x = nI a) (ha : a < 2 ^ 31) (dg : decode cc pc = .ok (.ifCond .eq off, 3)) (ht : (pc : Int) + off = (tgt : Int)) (kt : a = 0 → V X k z ws tgt lc st) (kf : 0 < a → V X k z ws (pc + 3) lc st) : V X k z ws pc lc (.int x :: st) := by
  subst hx
  refine V_if_eq o tgt dg ht (fun h => kt ((nI_eq (b := 0) ha (by decide)).mp h)) (fun h => kf (Nat.pos_of_ne_zero (fun q => h (by rw [q]; rfl))))
theorem V_if_neN (o : OkX X cc own Ts d) {x : Int32} {off : Int} (tgt : Nat) (a : Nat) (hx : x = nI a) (ha : a < 2 ^ 31) (dg : decode cc pc = .ok (.ifCond .ne off, 3)) (ht : (pc : Int) + off = (tgt : Int)) (kt : 0 < a → V X k z ws tgt lc st) (kf : a = 0 → V X k z ws (pc + 3) lc st) : V X k z ws pc lc (.int x :: st) := by
  subst hx
  refine V_if_ne o tgt dg ht (fun h => kt (Nat.pos_of_ne_zero (fun q => h (by rw [q]; rfl)))) (fun h => kf ((nI_eq (b := 0) ha (by decide)).mp h))
theorem V_if_leN (o : OkX X cc own Ts d) {x : Int32} {off : Int} (tgt : Nat) (a : Nat) (hx : x = nI a) (ha : a < 2 ^ 31) (dg : decode cc pc = .ok (.ifCond .le off, 3)) (ht : (pc : Int) + off = (tgt : Int)) (kt : a = 0 → V X k z ws tgt lc st) (kf : 0 < a → V X k z ws (pc + 3) lc st) : V X k z ws pc lc (.int x :: st) := by
  subst hx
  refine V_if_le o tgt dg ht (fun h => kt (Nat.le_zero.mp ((nI_leI (b := 0) ha (by decide)).mp h))) (fun h => kf (Nat.pos_of_ne_zero (fun q => h (by rw [q]; decide))))
theorem V_if_gtN (o : OkX X cc own Ts d) {x : Int32} {off : Int} (tgt : Nat) (a : Nat) (hx : x = nI a) (ha : a < 2 ^ 31) (dg : decode cc pc = .ok (.ifCond .gt off, 3)) (ht : (pc : Int) + off = (tgt : Int)) (kt : 0 < a → V X k z ws tgt lc st) (kf : a = 0 → V X k z ws (pc + 3) lc st) : V X k z ws pc lc (.int x :: st) := by
  subst hx
  refine V_if_gt o tgt dg ht (fun h => kt ((nI_ltI (a := 0) (by decide) ha).mp h)) (fun h => kf (Nat.eq_zero_of_not_pos (fun q => h ((nI_ltI (a := 0) (by decide) ha).mpr q))))
end NRows
