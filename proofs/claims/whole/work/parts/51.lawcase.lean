/-! The law's cases. -/
theorem LW_if {cJ cD : ClassId} {aL : Nat} {fL fL2 : Nat → Int64} {wA wB : va_W} {aD : Nat} {fD : Nat → UInt64} {wM : va_W} {c : Prop} [Decidable c] : ([] : va_W) ++ ((if c then (aL, .inl (cJ, 1, .inr (.inl fL2))) :: wB else (aL, .inl (cJ, 1, .inr (.inl fL))) :: wA) ++ ((aD, .inl (cD, 1, .inr (.inr (.inr (.inl fD))))) :: wM)) = LW cJ cD aL (if c then fL2 else fL) (if c then wB else wA) aD fD wM := by
  by_cases e : c <;> simp [LW, e]
theorem LW_ifD {cJ cD : ClassId} {aL : Nat} {fL : Nat → Int64} {wA wB : va_W} {aD : Nat} {fD fD2 : Nat → UInt64} {wM : va_W} {c : Prop} [Decidable c] : ([(aL, .inl (cJ, 1, .inr (.inl fL)))] : va_W) ++ ((if c then wB ++ [(aD, .inl (cD, 1, .inr (.inr (.inr (.inl fD2)))))] else wA ++ [(aD, .inl (cD, 1, .inr (.inr (.inr (.inl fD)))))]) ++ wM) = LW cJ cD aL fL (if c then wB else wA) aD (if c then fD2 else fD) wM := by
  by_cases e : c <;> simp [LW, e]
theorem LW_sp {cJ cD : ClassId} {aL : Nat} {fL : Nat → Int64} {wA : va_W} {aD : Nat} {fD : Nat → UInt64} {wM : va_W} : LW cJ cD aL fL wA aD fD wM = ((aL, .inl (cJ, 1, .inr (.inl fL))) :: (wA ++ [(aD, .inl (cD, 1, .inr (.inr (.inr (.inl fD)))))])) ++ (wM ++ []) := by
  simp [LW]
theorem LW_spD {cJ cD : ClassId} {aL : Nat} {fL : Nat → Int64} {wA : va_W} {aD : Nat} {fD : Nat → UInt64} {wM : va_W} : LW cJ cD aL fL wA aD fD wM = ([(aL, .inl (cJ, 1, .inr (.inl fL)))] : va_W) ++ ((wA ++ [(aD, .inl (cD, 1, .inr (.inr (.inr (.inl fD)))))]) ++ wM) := by
  simp [LW]
theorem al_version {th : Nat} (h : th ∈ [0, 1, 2, 3]) : th = 0 ∨ th = 1 ∨ th = 2 ∨ th = 3 := by simpa using h
theorem lw0_version {th : Nat} (h : th ∈ [0, 1, 2, 3]) (e : lwC_version th = 0) : th = 0 := by
  rcases al_version h with rfl | rfl | rfl | rfl
  · rfl
  · exact absurd e (by decide)
  · exact absurd e (by decide)
  · exact absurd e (by decide)
theorem hdL_version : yL_version.cls ≠ "java/lang/invoke/MethodHandle" ∧ yL_version.cls ≠ "java/lang/invoke/VarHandle" ∧ (parseMethodDescriptor yL_version.desc).map (fun d => d.parameters.length) = some 4 := by decide +kernel
set_option maxHeartbeats 4000000 in
set_option maxRecDepth 100000 in
theorem lc_version {X : XT} {cI cJ cD : ClassId} {b L : Nat} {xs : Nat → Int32} (cx : LCx X cI cJ cD b L xs) {adA adM : Nat → Nat} {n : Nat} {wA wM : va_W} {th0 : Int32} (hI : InvW cI adA adM n wA wM th0) (hn : n < 512) {aL aD : Nat} {fL : Nat → Int64} {fD : Nat → UInt64} {k z j : Nat} (hj : 6 * j + 6 ≤ L) (hk : k + 6 ≤ 601024 ∧ z + 36 ≤ 7293034)
    (kk : ∀ (n2 : Nat) (wA2 wM2 : va_W) (t2 : Int32) (fL2 : Nat → Int64) (fD2 : Nat → UInt64), n2 ≤ n + 1 → InvW cI adA adM n2 wA2 wM2 t2 → V X (k + 6) (z + 36) (LW cJ cD aL fL2 wA2 aD fD2 wM2) 1094 (lcL b (adA 0) (adM 0) aL aD (nI (6 * j))) []) :
    V X k z (LW cJ cD aL fL wA aD fD wM) 120 (lcL b (adA 0) (adM 0) aL aD (nI (6 * j))) [] := by
  obtain ⟨o, xo, xl, sc, hX8, hT0, hT1, hT2, hc9, hz9, hL9⟩ := cx
  obtain ⟨th, mc, d2, n2, r, b9, t2, wB, wM2, q1, q2, q3, q4, hA, hM, q5, q6, hI2⟩ := call_version (l := XL X) (D := XD X) (tys := XK X) hT0 hI hn (xs (6 * j + 1)) (xs (6 * j + 2))
  obtain ⟨fs9, hh9⟩ := hI.headM
  obtain ⟨fs8, hh8⟩ := hI2.headM
  refine V_aload_n (pc := 120) o dL_law_120 rfl ?_
  refine V_aload_n (pc := 121) o dL_law_121 rfl ?_
  refine V_iload (pc := 122) o dL_law_122 rfl ?_
  refine V_iconst (pc := 124) o (nI 1) dL_law_124 (by decide) ?_
  refine V_iaddN (pc := 125) o (6 * j) 1 rfl rfl dL_law_125 ?_
  refine V_sld (pc := 126) o sc (6 * j + 1) rfl (by omega) (by omega) dL_law_126 ?_
  refine V_aload_n (pc := 127) o dL_law_127 rfl ?_
  refine V_iload (pc := 128) o dL_law_128 rfl ?_
  refine V_iconst (pc := 130) o (nI 2) dL_law_130 (by decide) ?_
  refine V_iaddN (pc := 131) o (6 * j) 2 rfl rfl dL_law_131 ?_
  refine V_sld (pc := 132) o sc (6 * j + 2) rfl (by omega) (by omega) dL_law_132 ?_
  refine V_aload_n (pc := 133) o dL_law_133 rfl ?_
  refine V_cSi (pc := 134) o xo xl (cL_version_met _ _ _ (adA 0) aL (xs (6 * j + 1)) (xs (6 * j + 2)) _ wA wB hI.head th mc q1 (al_version q2) r hA cJ hT1 fL) [] ((aD, .inl (cD, 1, .inr (.inr (.inr (.inl fD))))) :: wM) gL_law_L_version rfl hdL_version ⟨by decide, by decide⟩ rfl (Nat.le_of_ble_eq_true rfl) ⟨by rw [hc9]; exact hk.1, by rw [hz9]; exact hk.2⟩ dL_law_134 rfl ?_
  refine V_eq LW_if rfl ?_
  generalize (if th = 0 then wB else wA) = wA2 at hI2 ⊢
  refine V_istore (pc := 137) o dL_law_137 (by rw [hX8]; decide) ?_
  refine V_aload_n (pc := 139) o dL_law_139 rfl ?_
  refine V_aload_n (pc := 140) o dL_law_140 rfl ?_
  refine V_iload (pc := 141) o dL_law_141 rfl ?_
  refine V_iconst (pc := 143) o (nI 1) dL_law_143 (by decide) ?_
  refine V_iaddN (pc := 144) o (6 * j) 1 rfl rfl dL_law_144 ?_
  refine V_sld (pc := 145) o sc (6 * j + 1) rfl (by omega) (by omega) dL_law_145 ?_
  refine V_aload_n (pc := 146) o dL_law_146 rfl ?_
  refine V_iload (pc := 147) o dL_law_147 rfl ?_
  refine V_iconst (pc := 149) o (nI 2) dL_law_149 (by decide) ?_
  refine V_iaddN (pc := 150) o (6 * j) 2 rfl rfl dL_law_150 ?_
  refine V_sld (pc := 151) o sc (6 * j + 2) rfl (by omega) (by omega) dL_law_151 ?_
  refine V_callVi (pc := 152) o hM ((aL, .inl (cJ, 1, .inr (.inl (if th = 0 then vp_updL fL 0 r.toInt64 else fL)))) :: (wA2 ++ [(aD, .inl (cD, 1, .inr (.inr (.inr (.inl fD)))))])) [] gL_law_X9_version rfl hdX9_version ⟨by omega, by decide⟩ (q0 := 0) hh9 rfl rfl (Nat.le_of_ble_eq_true rfl) ⟨by rw [hc9]; omega, by rw [hz9]; omega⟩ dL_law_152 LW_sp (fun r9 _ h9 => ?_)
  have h9' : r9 = b9 := h9
  subst h9'
  refine V_eq LW_sp.symm rfl ?_
  refine V_istore (pc := 155) o dL_law_155 (by rw [hX8]; decide) ?_
  refine V_aload_n (pc := 157) o dL_law_157 rfl ?_
  refine V_callVi (pc := 158) o (call_thrown (l := XL X) (D := XD X) (tys := XK X) hT0 hI2) ((aL, .inl (cJ, 1, .inr (.inl (if th = 0 then vp_updL fL 0 r.toInt64 else fL)))) :: (wA2 ++ [(aD, .inl (cD, 1, .inr (.inr (.inr (.inl fD)))))])) [] gL_law_X9_thrown rfl hdX9_thrown ⟨by decide, by decide⟩ (q0 := 0) hh8 rfl rfl (Nat.le_of_ble_eq_true rfl) ⟨by rw [hc9]; omega, by rw [hz9]; omega⟩ dL_law_158 LW_sp (fun r8 _ h8 => ?_)
  have h8' : r8 = t2 := h8
  subst h8'
  refine V_eq LW_sp.symm rfl ?_
  refine V_iload (pc := 161) o dL_law_161 rfl ?_
  refine V_icmp_eq (pc := 163) o 168 dL_law_163 (by decide) (fun _ => ?_) (fun h => absurd q5 h)
  refine V_iload (pc := 168) o dL_law_168 rfl ?_
  refine V_if_ne (pc := 170) o 185 dL_law_170 (by decide) (fun _ => ?_) (fun h => ?_)
  · skip
    refine V_goto (pc := 185) o 1094 dL_law_185 (by decide) ?_
    exact V_sub (lc2 := lcL b (adA 0) (adM 0) aL aD (nI (6 * j))) ⟨rfl, rfl, rfl, rfl, rfl, rfl, trivial⟩ (kk n2 wA2 wM2 _ _ _ q4 hI2)
  · have hth := lw0_version q2 h
    have hrb := q6 hth
    refine V_aload_n (pc := 173) o dL_law_173 rfl ?_
    refine V_iconst (pc := 174) o (nI 0) dL_law_174 (by decide) ?_
    refine V_lald (pc := 175) o 0 1 rfl hT1 (vp_in_nI (by omega) (by omega)) dL_law_175 ?_
    refine V_iload (pc := 176) o dL_law_176 rfl ?_
    refine V_i2l (pc := 178) o dL_law_178 ?_
    refine V_lcmp (pc := 179) o dL_law_179 ?_
    have e : (if th = 0 then vp_updL fL 0 r.toInt64 else fL) (nI 0).toNatClampNeg = r9.toInt64 := by
      rw [if_pos hth, nI_clamp (by omega), hrb]
      exact pk_uLs
    refine V_if_eq (pc := 180) o 185 dL_law_180 (by decide) (fun _ => ?_) (fun h2 => absurd (by rw [e]; exact lgc_refl _) h2)
    refine V_goto (pc := 185) o 1094 dL_law_185 (by decide) ?_
    exact V_sub (lc2 := lcL b (adA 0) (adM 0) aL aD (nI (6 * j))) ⟨rfl, rfl, rfl, rfl, rfl, rfl, trivial⟩ (kk n2 wA2 wM2 _ _ _ q4 hI2)
theorem al_need {th : Nat} (h : th ∈ [0, 1, 2, 3]) : th = 0 ∨ th = 1 ∨ th = 2 ∨ th = 3 := by simpa using h
theorem lw0_need {th : Nat} (h : th ∈ [0, 1, 2, 3]) (e : lwC_need th = 0) : th = 0 := by
  rcases al_need h with rfl | rfl | rfl | rfl
  · rfl
  · exact absurd e (by decide)
  · exact absurd e (by decide)
  · exact absurd e (by decide)
theorem hdL_need : yL_need.cls ≠ "java/lang/invoke/MethodHandle" ∧ yL_need.cls ≠ "java/lang/invoke/VarHandle" ∧ (parseMethodDescriptor yL_need.desc).map (fun d => d.parameters.length) = some 7 := by decide +kernel
set_option maxHeartbeats 4000000 in
set_option maxRecDepth 100000 in
theorem lc_need {X : XT} {cI cJ cD : ClassId} {b L : Nat} {xs : Nat → Int32} (cx : LCx X cI cJ cD b L xs) {adA adM : Nat → Nat} {n : Nat} {wA wM : va_W} {th0 : Int32} (hI : InvW cI adA adM n wA wM th0) (hn : n < 512) {aL aD : Nat} {fL : Nat → Int64} {fD : Nat → UInt64} {k z j : Nat} (hj : 6 * j + 6 ≤ L) (hk : k + 6 ≤ 601024 ∧ z + 36 ≤ 7293034)
    (kk : ∀ (n2 : Nat) (wA2 wM2 : va_W) (t2 : Int32) (fL2 : Nat → Int64) (fD2 : Nat → UInt64), n2 ≤ n + 1 → InvW cI adA adM n2 wA2 wM2 t2 → V X (k + 6) (z + 36) (LW cJ cD aL fL2 wA2 aD fD2 wM2) 1094 (lcL b (adA 0) (adM 0) aL aD (nI (6 * j))) []) :
    V X k z (LW cJ cD aL fL wA aD fD wM) 188 (lcL b (adA 0) (adM 0) aL aD (nI (6 * j))) [] := by
  obtain ⟨o, xo, xl, sc, hX8, hT0, hT1, hT2, hc9, hz9, hL9⟩ := cx
  obtain ⟨th, mc, d2, n2, r, b9, t2, wB, wM2, q1, q2, q3, q4, hA, hM, q5, q6, hI2⟩ := call_need (l := XL X) (D := XD X) (tys := XK X) hT0 hI hn (xs (6 * j + 1)) (xs (6 * j + 2)) (xs (6 * j + 3)) (xs (6 * j + 4)) (xs (6 * j + 5))
  obtain ⟨fs9, hh9⟩ := hI.headM
  obtain ⟨fs8, hh8⟩ := hI2.headM
  refine V_aload_n (pc := 188) o dL_law_188 rfl ?_
  refine V_aload_n (pc := 189) o dL_law_189 rfl ?_
  refine V_iload (pc := 190) o dL_law_190 rfl ?_
  refine V_iconst (pc := 192) o (nI 1) dL_law_192 (by decide) ?_
  refine V_iaddN (pc := 193) o (6 * j) 1 rfl rfl dL_law_193 ?_
  refine V_sld (pc := 194) o sc (6 * j + 1) rfl (by omega) (by omega) dL_law_194 ?_
  refine V_aload_n (pc := 195) o dL_law_195 rfl ?_
  refine V_iload (pc := 196) o dL_law_196 rfl ?_
  refine V_iconst (pc := 198) o (nI 2) dL_law_198 (by decide) ?_
  refine V_iaddN (pc := 199) o (6 * j) 2 rfl rfl dL_law_199 ?_
  refine V_sld (pc := 200) o sc (6 * j + 2) rfl (by omega) (by omega) dL_law_200 ?_
  refine V_aload_n (pc := 201) o dL_law_201 rfl ?_
  refine V_iload (pc := 202) o dL_law_202 rfl ?_
  refine V_iconst (pc := 204) o (nI 3) dL_law_204 (by decide) ?_
  refine V_iaddN (pc := 205) o (6 * j) 3 rfl rfl dL_law_205 ?_
  refine V_sld (pc := 206) o sc (6 * j + 3) rfl (by omega) (by omega) dL_law_206 ?_
  refine V_aload_n (pc := 207) o dL_law_207 rfl ?_
  refine V_iload (pc := 208) o dL_law_208 rfl ?_
  refine V_iconst (pc := 210) o (nI 4) dL_law_210 (by decide) ?_
  refine V_iaddN (pc := 211) o (6 * j) 4 rfl rfl dL_law_211 ?_
  refine V_sld (pc := 212) o sc (6 * j + 4) rfl (by omega) (by omega) dL_law_212 ?_
  refine V_aload_n (pc := 213) o dL_law_213 rfl ?_
  refine V_iload (pc := 214) o dL_law_214 rfl ?_
  refine V_iconst (pc := 216) o (nI 5) dL_law_216 (by decide) ?_
  refine V_iaddN (pc := 217) o (6 * j) 5 rfl rfl dL_law_217 ?_
  refine V_sld (pc := 218) o sc (6 * j + 5) rfl (by omega) (by omega) dL_law_218 ?_
  refine V_aload_n (pc := 219) o dL_law_219 rfl ?_
  refine V_cSi (pc := 220) o xo xl (cL_need_met _ _ _ (adA 0) aL (xs (6 * j + 1)) (xs (6 * j + 2)) (xs (6 * j + 3)) (xs (6 * j + 4)) (xs (6 * j + 5)) _ wA wB hI.head th mc q1 (al_need q2) r hA cJ hT1 fL) [] ((aD, .inl (cD, 1, .inr (.inr (.inr (.inl fD))))) :: wM) gL_law_L_need rfl hdL_need ⟨by decide, by decide⟩ rfl (Nat.le_of_ble_eq_true rfl) ⟨by rw [hc9]; exact hk.1, by rw [hz9]; exact hk.2⟩ dL_law_220 rfl ?_
  refine V_eq LW_if rfl ?_
  generalize (if th = 0 then wB else wA) = wA2 at hI2 ⊢
  refine V_istore (pc := 223) o dL_law_223 (by rw [hX8]; decide) ?_
  refine V_aload_n (pc := 225) o dL_law_225 rfl ?_
  refine V_aload_n (pc := 226) o dL_law_226 rfl ?_
  refine V_iload (pc := 227) o dL_law_227 rfl ?_
  refine V_iconst (pc := 229) o (nI 1) dL_law_229 (by decide) ?_
  refine V_iaddN (pc := 230) o (6 * j) 1 rfl rfl dL_law_230 ?_
  refine V_sld (pc := 231) o sc (6 * j + 1) rfl (by omega) (by omega) dL_law_231 ?_
  refine V_aload_n (pc := 232) o dL_law_232 rfl ?_
  refine V_iload (pc := 233) o dL_law_233 rfl ?_
  refine V_iconst (pc := 235) o (nI 2) dL_law_235 (by decide) ?_
  refine V_iaddN (pc := 236) o (6 * j) 2 rfl rfl dL_law_236 ?_
  refine V_sld (pc := 237) o sc (6 * j + 2) rfl (by omega) (by omega) dL_law_237 ?_
  refine V_aload_n (pc := 238) o dL_law_238 rfl ?_
  refine V_iload (pc := 239) o dL_law_239 rfl ?_
  refine V_iconst (pc := 241) o (nI 3) dL_law_241 (by decide) ?_
  refine V_iaddN (pc := 242) o (6 * j) 3 rfl rfl dL_law_242 ?_
  refine V_sld (pc := 243) o sc (6 * j + 3) rfl (by omega) (by omega) dL_law_243 ?_
  refine V_aload_n (pc := 244) o dL_law_244 rfl ?_
  refine V_iload (pc := 245) o dL_law_245 rfl ?_
  refine V_iconst (pc := 247) o (nI 4) dL_law_247 (by decide) ?_
  refine V_iaddN (pc := 248) o (6 * j) 4 rfl rfl dL_law_248 ?_
  refine V_sld (pc := 249) o sc (6 * j + 4) rfl (by omega) (by omega) dL_law_249 ?_
  refine V_aload_n (pc := 250) o dL_law_250 rfl ?_
  refine V_iload (pc := 251) o dL_law_251 rfl ?_
  refine V_iconst (pc := 253) o (nI 5) dL_law_253 (by decide) ?_
  refine V_iaddN (pc := 254) o (6 * j) 5 rfl rfl dL_law_254 ?_
  refine V_sld (pc := 255) o sc (6 * j + 5) rfl (by omega) (by omega) dL_law_255 ?_
  refine V_callVi (pc := 256) o hM ((aL, .inl (cJ, 1, .inr (.inl (if th = 0 then vp_updL fL 0 r.toInt64 else fL)))) :: (wA2 ++ [(aD, .inl (cD, 1, .inr (.inr (.inr (.inl fD)))))])) [] gL_law_X9_need rfl hdX9_need ⟨by omega, by decide⟩ (q0 := 0) hh9 rfl rfl (Nat.le_of_ble_eq_true rfl) ⟨by rw [hc9]; omega, by rw [hz9]; omega⟩ dL_law_256 LW_sp (fun r9 _ h9 => ?_)
  have h9' : r9 = b9 := h9
  subst h9'
  refine V_eq LW_sp.symm rfl ?_
  refine V_istore (pc := 259) o dL_law_259 (by rw [hX8]; decide) ?_
  refine V_aload_n (pc := 261) o dL_law_261 rfl ?_
  refine V_callVi (pc := 262) o (call_thrown (l := XL X) (D := XD X) (tys := XK X) hT0 hI2) ((aL, .inl (cJ, 1, .inr (.inl (if th = 0 then vp_updL fL 0 r.toInt64 else fL)))) :: (wA2 ++ [(aD, .inl (cD, 1, .inr (.inr (.inr (.inl fD)))))])) [] gL_law_X9_thrown rfl hdX9_thrown ⟨by decide, by decide⟩ (q0 := 0) hh8 rfl rfl (Nat.le_of_ble_eq_true rfl) ⟨by rw [hc9]; omega, by rw [hz9]; omega⟩ dL_law_262 LW_sp (fun r8 _ h8 => ?_)
  have h8' : r8 = t2 := h8
  subst h8'
  refine V_eq LW_sp.symm rfl ?_
  refine V_iload (pc := 265) o dL_law_265 rfl ?_
  refine V_icmp_eq (pc := 267) o 272 dL_law_267 (by decide) (fun _ => ?_) (fun h => absurd q5 h)
  refine V_iload (pc := 272) o dL_law_272 rfl ?_
  refine V_if_ne (pc := 274) o 289 dL_law_274 (by decide) (fun _ => ?_) (fun h => ?_)
  · skip
    refine V_goto (pc := 289) o 1094 dL_law_289 (by decide) ?_
    exact V_sub (lc2 := lcL b (adA 0) (adM 0) aL aD (nI (6 * j))) ⟨rfl, rfl, rfl, rfl, rfl, rfl, trivial⟩ (kk n2 wA2 wM2 _ _ _ q4 hI2)
  · have hth := lw0_need q2 h
    have hrb := q6 hth
    refine V_aload_n (pc := 277) o dL_law_277 rfl ?_
    refine V_iconst (pc := 278) o (nI 0) dL_law_278 (by decide) ?_
    refine V_lald (pc := 279) o 0 1 rfl hT1 (vp_in_nI (by omega) (by omega)) dL_law_279 ?_
    refine V_iload (pc := 280) o dL_law_280 rfl ?_
    refine V_i2l (pc := 282) o dL_law_282 ?_
    refine V_lcmp (pc := 283) o dL_law_283 ?_
    have e : (if th = 0 then vp_updL fL 0 r.toInt64 else fL) (nI 0).toNatClampNeg = r9.toInt64 := by
      rw [if_pos hth, nI_clamp (by omega), hrb]
      exact pk_uLs
    refine V_if_eq (pc := 284) o 289 dL_law_284 (by decide) (fun _ => ?_) (fun h2 => absurd (by rw [e]; exact lgc_refl _) h2)
    refine V_goto (pc := 289) o 1094 dL_law_289 (by decide) ?_
    exact V_sub (lc2 := lcL b (adA 0) (adM 0) aL aD (nI (6 * j))) ⟨rfl, rfl, rfl, rfl, rfl, rfl, trivial⟩ (kk n2 wA2 wM2 _ _ _ q4 hI2)
theorem al_replace {th : Nat} (h : th ∈ [0, 1, 3]) : th = 0 ∨ th = 1 ∨ th = 3 := by simpa using h
theorem lw0_replace {th : Nat} (h : th ∈ [0, 1, 3]) (e : lwC_replace th = 0) : th = 0 := by
  rcases al_replace h with rfl | rfl | rfl
  · rfl
  · exact absurd e (by decide)
  · exact absurd e (by decide)
theorem hdL_replace : yL_replace.cls ≠ "java/lang/invoke/MethodHandle" ∧ yL_replace.cls ≠ "java/lang/invoke/VarHandle" ∧ (parseMethodDescriptor yL_replace.desc).map (fun d => d.parameters.length) = some 4 := by decide +kernel
set_option maxHeartbeats 4000000 in
set_option maxRecDepth 100000 in
theorem lc_replace {X : XT} {cI cJ cD : ClassId} {b L : Nat} {xs : Nat → Int32} (cx : LCx X cI cJ cD b L xs) {adA adM : Nat → Nat} {n : Nat} {wA wM : va_W} {th0 : Int32} (hI : InvW cI adA adM n wA wM th0) (hn : n < 512) {aL aD : Nat} {fL : Nat → Int64} {fD : Nat → UInt64} {k z j : Nat} (hj : 6 * j + 6 ≤ L) (hk : k + 6 ≤ 601024 ∧ z + 36 ≤ 7293034)
    (kk : ∀ (n2 : Nat) (wA2 wM2 : va_W) (t2 : Int32) (fL2 : Nat → Int64) (fD2 : Nat → UInt64), n2 ≤ n + 1 → InvW cI adA adM n2 wA2 wM2 t2 → V X (k + 6) (z + 36) (LW cJ cD aL fL2 wA2 aD fD2 wM2) 1094 (lcL b (adA 0) (adM 0) aL aD (nI (6 * j))) []) :
    V X k z (LW cJ cD aL fL wA aD fD wM) 292 (lcL b (adA 0) (adM 0) aL aD (nI (6 * j))) [] := by
  obtain ⟨o, xo, xl, sc, hX8, hT0, hT1, hT2, hc9, hz9, hL9⟩ := cx
  obtain ⟨th, mc, d2, n2, r, b9, t2, wB, wM2, q1, q2, q3, q4, hA, hM, q5, q6, hI2⟩ := call_replace (l := XL X) (D := XD X) (tys := XK X) hT0 hI hn (xs (6 * j + 1)) (xs (6 * j + 2))
  obtain ⟨fs9, hh9⟩ := hI.headM
  obtain ⟨fs8, hh8⟩ := hI2.headM
  refine V_aload_n (pc := 292) o dL_law_292 rfl ?_
  refine V_aload_n (pc := 293) o dL_law_293 rfl ?_
  refine V_iload (pc := 294) o dL_law_294 rfl ?_
  refine V_iconst (pc := 296) o (nI 1) dL_law_296 (by decide) ?_
  refine V_iaddN (pc := 297) o (6 * j) 1 rfl rfl dL_law_297 ?_
  refine V_sld (pc := 298) o sc (6 * j + 1) rfl (by omega) (by omega) dL_law_298 ?_
  refine V_aload_n (pc := 299) o dL_law_299 rfl ?_
  refine V_iload (pc := 300) o dL_law_300 rfl ?_
  refine V_iconst (pc := 302) o (nI 2) dL_law_302 (by decide) ?_
  refine V_iaddN (pc := 303) o (6 * j) 2 rfl rfl dL_law_303 ?_
  refine V_sld (pc := 304) o sc (6 * j + 2) rfl (by omega) (by omega) dL_law_304 ?_
  refine V_aload_n (pc := 305) o dL_law_305 rfl ?_
  refine V_cSi (pc := 306) o xo xl (cL_replace_met _ _ _ (adA 0) aL (xs (6 * j + 1)) (xs (6 * j + 2)) _ wA wB hI.head th mc q1 (al_replace q2) r hA cJ hT1 fL) [] ((aD, .inl (cD, 1, .inr (.inr (.inr (.inl fD))))) :: wM) gL_law_L_replace rfl hdL_replace ⟨by decide, by decide⟩ rfl (Nat.le_of_ble_eq_true rfl) ⟨by rw [hc9]; exact hk.1, by rw [hz9]; exact hk.2⟩ dL_law_306 rfl ?_
  refine V_eq LW_if rfl ?_
  generalize (if th = 0 then wB else wA) = wA2 at hI2 ⊢
  refine V_istore (pc := 309) o dL_law_309 (by rw [hX8]; decide) ?_
  refine V_aload_n (pc := 311) o dL_law_311 rfl ?_
  refine V_aload_n (pc := 312) o dL_law_312 rfl ?_
  refine V_iload (pc := 313) o dL_law_313 rfl ?_
  refine V_iconst (pc := 315) o (nI 1) dL_law_315 (by decide) ?_
  refine V_iaddN (pc := 316) o (6 * j) 1 rfl rfl dL_law_316 ?_
  refine V_sld (pc := 317) o sc (6 * j + 1) rfl (by omega) (by omega) dL_law_317 ?_
  refine V_aload_n (pc := 318) o dL_law_318 rfl ?_
  refine V_iload (pc := 319) o dL_law_319 rfl ?_
  refine V_iconst (pc := 321) o (nI 2) dL_law_321 (by decide) ?_
  refine V_iaddN (pc := 322) o (6 * j) 2 rfl rfl dL_law_322 ?_
  refine V_sld (pc := 323) o sc (6 * j + 2) rfl (by omega) (by omega) dL_law_323 ?_
  refine V_callVi (pc := 324) o hM ((aL, .inl (cJ, 1, .inr (.inl (if th = 0 then vp_updL fL 0 r.toInt64 else fL)))) :: (wA2 ++ [(aD, .inl (cD, 1, .inr (.inr (.inr (.inl fD)))))])) [] gL_law_X9_replace rfl hdX9_replace ⟨by omega, by decide⟩ (q0 := 0) hh9 rfl rfl (Nat.le_of_ble_eq_true rfl) ⟨by rw [hc9]; omega, by rw [hz9]; omega⟩ dL_law_324 LW_sp (fun r9 _ h9 => ?_)
  have h9' : r9 = b9 := h9
  subst h9'
  refine V_eq LW_sp.symm rfl ?_
  refine V_istore (pc := 327) o dL_law_327 (by rw [hX8]; decide) ?_
  refine V_aload_n (pc := 329) o dL_law_329 rfl ?_
  refine V_callVi (pc := 330) o (call_thrown (l := XL X) (D := XD X) (tys := XK X) hT0 hI2) ((aL, .inl (cJ, 1, .inr (.inl (if th = 0 then vp_updL fL 0 r.toInt64 else fL)))) :: (wA2 ++ [(aD, .inl (cD, 1, .inr (.inr (.inr (.inl fD)))))])) [] gL_law_X9_thrown rfl hdX9_thrown ⟨by decide, by decide⟩ (q0 := 0) hh8 rfl rfl (Nat.le_of_ble_eq_true rfl) ⟨by rw [hc9]; omega, by rw [hz9]; omega⟩ dL_law_330 LW_sp (fun r8 _ h8 => ?_)
  have h8' : r8 = t2 := h8
  subst h8'
  refine V_eq LW_sp.symm rfl ?_
  refine V_iload (pc := 333) o dL_law_333 rfl ?_
  refine V_icmp_eq (pc := 335) o 340 dL_law_335 (by decide) (fun _ => ?_) (fun h => absurd q5 h)
  refine V_iload (pc := 340) o dL_law_340 rfl ?_
  refine V_if_ne (pc := 342) o 357 dL_law_342 (by decide) (fun _ => ?_) (fun h => ?_)
  · skip
    refine V_goto (pc := 357) o 1094 dL_law_357 (by decide) ?_
    exact V_sub (lc2 := lcL b (adA 0) (adM 0) aL aD (nI (6 * j))) ⟨rfl, rfl, rfl, rfl, rfl, rfl, trivial⟩ (kk n2 wA2 wM2 _ _ _ q4 hI2)
  · have hth := lw0_replace q2 h
    have hrb := q6 hth
    refine V_aload_n (pc := 345) o dL_law_345 rfl ?_
    refine V_iconst (pc := 346) o (nI 0) dL_law_346 (by decide) ?_
    refine V_lald (pc := 347) o 0 1 rfl hT1 (vp_in_nI (by omega) (by omega)) dL_law_347 ?_
    refine V_iload (pc := 348) o dL_law_348 rfl ?_
    refine V_i2l (pc := 350) o dL_law_350 ?_
    refine V_lcmp (pc := 351) o dL_law_351 ?_
    have e : (if th = 0 then vp_updL fL 0 r.toInt64 else fL) (nI 0).toNatClampNeg = r9.toInt64 := by
      rw [if_pos hth, nI_clamp (by omega), hrb]
      exact pk_uLs
    refine V_if_eq (pc := 352) o 357 dL_law_352 (by decide) (fun _ => ?_) (fun h2 => absurd (by rw [e]; exact lgc_refl _) h2)
    refine V_goto (pc := 357) o 1094 dL_law_357 (by decide) ?_
    exact V_sub (lc2 := lcL b (adA 0) (adM 0) aL aD (nI (6 * j))) ⟨rfl, rfl, rfl, rfl, rfl, rfl, trivial⟩ (kk n2 wA2 wM2 _ _ _ q4 hI2)
theorem al_request {th : Nat} (h : th ∈ [0, 1, 2, 3]) : th = 0 ∨ th = 1 ∨ th = 2 ∨ th = 3 := by simpa using h
theorem lw0_request {th : Nat} (h : th ∈ [0, 1, 2, 3]) (e : lwC_request th = 0) : th = 0 := by
  rcases al_request h with rfl | rfl | rfl | rfl
  · rfl
  · exact absurd e (by decide)
  · exact absurd e (by decide)
  · exact absurd e (by decide)
theorem hdL_request : yL_request.cls ≠ "java/lang/invoke/MethodHandle" ∧ yL_request.cls ≠ "java/lang/invoke/VarHandle" ∧ (parseMethodDescriptor yL_request.desc).map (fun d => d.parameters.length) = some 5 := by decide +kernel
set_option maxHeartbeats 4000000 in
set_option maxRecDepth 100000 in
theorem lc_request {X : XT} {cI cJ cD : ClassId} {b L : Nat} {xs : Nat → Int32} (cx : LCx X cI cJ cD b L xs) {adA adM : Nat → Nat} {n : Nat} {wA wM : va_W} {th0 : Int32} (hI : InvW cI adA adM n wA wM th0) (hn : n < 512) {aL aD : Nat} {fL : Nat → Int64} {fD : Nat → UInt64} {k z j : Nat} (hj : 6 * j + 6 ≤ L) (hk : k + 6 ≤ 601024 ∧ z + 36 ≤ 7293034)
    (kk : ∀ (n2 : Nat) (wA2 wM2 : va_W) (t2 : Int32) (fL2 : Nat → Int64) (fD2 : Nat → UInt64), n2 ≤ n + 1 → InvW cI adA adM n2 wA2 wM2 t2 → V X (k + 6) (z + 36) (LW cJ cD aL fL2 wA2 aD fD2 wM2) 1094 (lcL b (adA 0) (adM 0) aL aD (nI (6 * j))) []) :
    V X k z (LW cJ cD aL fL wA aD fD wM) 360 (lcL b (adA 0) (adM 0) aL aD (nI (6 * j))) [] := by
  obtain ⟨o, xo, xl, sc, hX8, hT0, hT1, hT2, hc9, hz9, hL9⟩ := cx
  obtain ⟨th, mc, d2, n2, r, b9, t2, wB, wM2, q1, q2, q3, q4, hA, hM, q5, q6, hI2⟩ := call_request (l := XL X) (D := XD X) (tys := XK X) hT0 hI hn (xs (6 * j + 1)) (xs (6 * j + 2)) (xs (6 * j + 3))
  obtain ⟨fs9, hh9⟩ := hI.headM
  obtain ⟨fs8, hh8⟩ := hI2.headM
  refine V_aload_n (pc := 360) o dL_law_360 rfl ?_
  refine V_aload_n (pc := 361) o dL_law_361 rfl ?_
  refine V_iload (pc := 362) o dL_law_362 rfl ?_
  refine V_iconst (pc := 364) o (nI 1) dL_law_364 (by decide) ?_
  refine V_iaddN (pc := 365) o (6 * j) 1 rfl rfl dL_law_365 ?_
  refine V_sld (pc := 366) o sc (6 * j + 1) rfl (by omega) (by omega) dL_law_366 ?_
  refine V_aload_n (pc := 367) o dL_law_367 rfl ?_
  refine V_iload (pc := 368) o dL_law_368 rfl ?_
  refine V_iconst (pc := 370) o (nI 2) dL_law_370 (by decide) ?_
  refine V_iaddN (pc := 371) o (6 * j) 2 rfl rfl dL_law_371 ?_
  refine V_sld (pc := 372) o sc (6 * j + 2) rfl (by omega) (by omega) dL_law_372 ?_
  refine V_aload_n (pc := 373) o dL_law_373 rfl ?_
  refine V_iload (pc := 374) o dL_law_374 rfl ?_
  refine V_iconst (pc := 376) o (nI 3) dL_law_376 (by decide) ?_
  refine V_iaddN (pc := 377) o (6 * j) 3 rfl rfl dL_law_377 ?_
  refine V_sld (pc := 378) o sc (6 * j + 3) rfl (by omega) (by omega) dL_law_378 ?_
  refine V_aload_n (pc := 379) o dL_law_379 rfl ?_
  refine V_cSi (pc := 380) o xo xl (cL_request_met _ _ _ (adA 0) aL (xs (6 * j + 1)) (xs (6 * j + 2)) (xs (6 * j + 3)) _ wA wB hI.head th mc q1 (al_request q2) r hA cJ hT1 fL) [] ((aD, .inl (cD, 1, .inr (.inr (.inr (.inl fD))))) :: wM) gL_law_L_request rfl hdL_request ⟨by decide, by decide⟩ rfl (Nat.le_of_ble_eq_true rfl) ⟨by rw [hc9]; exact hk.1, by rw [hz9]; exact hk.2⟩ dL_law_380 rfl ?_
  refine V_eq LW_if rfl ?_
  generalize (if th = 0 then wB else wA) = wA2 at hI2 ⊢
  refine V_istore (pc := 383) o dL_law_383 (by rw [hX8]; decide) ?_
  refine V_aload_n (pc := 385) o dL_law_385 rfl ?_
  refine V_aload_n (pc := 386) o dL_law_386 rfl ?_
  refine V_iload (pc := 387) o dL_law_387 rfl ?_
  refine V_iconst (pc := 389) o (nI 1) dL_law_389 (by decide) ?_
  refine V_iaddN (pc := 390) o (6 * j) 1 rfl rfl dL_law_390 ?_
  refine V_sld (pc := 391) o sc (6 * j + 1) rfl (by omega) (by omega) dL_law_391 ?_
  refine V_aload_n (pc := 392) o dL_law_392 rfl ?_
  refine V_iload (pc := 393) o dL_law_393 rfl ?_
  refine V_iconst (pc := 395) o (nI 2) dL_law_395 (by decide) ?_
  refine V_iaddN (pc := 396) o (6 * j) 2 rfl rfl dL_law_396 ?_
  refine V_sld (pc := 397) o sc (6 * j + 2) rfl (by omega) (by omega) dL_law_397 ?_
  refine V_aload_n (pc := 398) o dL_law_398 rfl ?_
  refine V_iload (pc := 399) o dL_law_399 rfl ?_
  refine V_iconst (pc := 401) o (nI 3) dL_law_401 (by decide) ?_
  refine V_iaddN (pc := 402) o (6 * j) 3 rfl rfl dL_law_402 ?_
  refine V_sld (pc := 403) o sc (6 * j + 3) rfl (by omega) (by omega) dL_law_403 ?_
  refine V_callVi (pc := 404) o hM ((aL, .inl (cJ, 1, .inr (.inl (if th = 0 then vp_updL fL 0 r.toInt64 else fL)))) :: (wA2 ++ [(aD, .inl (cD, 1, .inr (.inr (.inr (.inl fD)))))])) [] gL_law_X9_request rfl hdX9_request ⟨by omega, by decide⟩ (q0 := 0) hh9 rfl rfl (Nat.le_of_ble_eq_true rfl) ⟨by rw [hc9]; omega, by rw [hz9]; omega⟩ dL_law_404 LW_sp (fun r9 _ h9 => ?_)
  have h9' : r9 = b9 := h9
  subst h9'
  refine V_eq LW_sp.symm rfl ?_
  refine V_istore (pc := 407) o dL_law_407 (by rw [hX8]; decide) ?_
  refine V_aload_n (pc := 409) o dL_law_409 rfl ?_
  refine V_callVi (pc := 410) o (call_thrown (l := XL X) (D := XD X) (tys := XK X) hT0 hI2) ((aL, .inl (cJ, 1, .inr (.inl (if th = 0 then vp_updL fL 0 r.toInt64 else fL)))) :: (wA2 ++ [(aD, .inl (cD, 1, .inr (.inr (.inr (.inl fD)))))])) [] gL_law_X9_thrown rfl hdX9_thrown ⟨by decide, by decide⟩ (q0 := 0) hh8 rfl rfl (Nat.le_of_ble_eq_true rfl) ⟨by rw [hc9]; omega, by rw [hz9]; omega⟩ dL_law_410 LW_sp (fun r8 _ h8 => ?_)
  have h8' : r8 = t2 := h8
  subst h8'
  refine V_eq LW_sp.symm rfl ?_
  refine V_iload (pc := 413) o dL_law_413 rfl ?_
  refine V_icmp_eq (pc := 415) o 420 dL_law_415 (by decide) (fun _ => ?_) (fun h => absurd q5 h)
  refine V_iload (pc := 420) o dL_law_420 rfl ?_
  refine V_if_ne (pc := 422) o 437 dL_law_422 (by decide) (fun _ => ?_) (fun h => ?_)
  · skip
    refine V_goto (pc := 437) o 1094 dL_law_437 (by decide) ?_
    exact V_sub (lc2 := lcL b (adA 0) (adM 0) aL aD (nI (6 * j))) ⟨rfl, rfl, rfl, rfl, rfl, rfl, trivial⟩ (kk n2 wA2 wM2 _ _ _ q4 hI2)
  · have hth := lw0_request q2 h
    have hrb := q6 hth
    refine V_aload_n (pc := 425) o dL_law_425 rfl ?_
    refine V_iconst (pc := 426) o (nI 0) dL_law_426 (by decide) ?_
    refine V_lald (pc := 427) o 0 1 rfl hT1 (vp_in_nI (by omega) (by omega)) dL_law_427 ?_
    refine V_iload (pc := 428) o dL_law_428 rfl ?_
    refine V_i2l (pc := 430) o dL_law_430 ?_
    refine V_lcmp (pc := 431) o dL_law_431 ?_
    have e : (if th = 0 then vp_updL fL 0 r.toInt64 else fL) (nI 0).toNatClampNeg = r9.toInt64 := by
      rw [if_pos hth, nI_clamp (by omega), hrb]
      exact pk_uLs
    refine V_if_eq (pc := 432) o 437 dL_law_432 (by decide) (fun _ => ?_) (fun h2 => absurd (by rw [e]; exact lgc_refl _) h2)
    refine V_goto (pc := 437) o 1094 dL_law_437 (by decide) ?_
    exact V_sub (lc2 := lcL b (adA 0) (adM 0) aL aD (nI (6 * j))) ⟨rfl, rfl, rfl, rfl, rfl, rfl, trivial⟩ (kk n2 wA2 wM2 _ _ _ q4 hI2)
theorem al_resolve {th : Nat} (h : th ∈ [0, 1, 3]) : th = 0 ∨ th = 1 ∨ th = 3 := by simpa using h
theorem lw0_resolve {th : Nat} (h : th ∈ [0, 1, 3]) (e : lwC_resolve th = 0) : th = 0 := by
  rcases al_resolve h with rfl | rfl | rfl
  · rfl
  · exact absurd e (by decide)
  · exact absurd e (by decide)
theorem hdL_resolve : yL_resolve.cls ≠ "java/lang/invoke/MethodHandle" ∧ yL_resolve.cls ≠ "java/lang/invoke/VarHandle" ∧ (parseMethodDescriptor yL_resolve.desc).map (fun d => d.parameters.length) = some 3 := by decide +kernel
set_option maxHeartbeats 4000000 in
set_option maxRecDepth 100000 in
theorem lc_resolve {X : XT} {cI cJ cD : ClassId} {b L : Nat} {xs : Nat → Int32} (cx : LCx X cI cJ cD b L xs) {adA adM : Nat → Nat} {n : Nat} {wA wM : va_W} {th0 : Int32} (hI : InvW cI adA adM n wA wM th0) (hn : n < 512) {aL aD : Nat} {fL : Nat → Int64} {fD : Nat → UInt64} {k z j : Nat} (hj : 6 * j + 6 ≤ L) (hk : k + 6 ≤ 601024 ∧ z + 36 ≤ 7293034)
    (kk : ∀ (n2 : Nat) (wA2 wM2 : va_W) (t2 : Int32) (fL2 : Nat → Int64) (fD2 : Nat → UInt64), n2 ≤ n + 1 → InvW cI adA adM n2 wA2 wM2 t2 → V X (k + 6) (z + 36) (LW cJ cD aL fL2 wA2 aD fD2 wM2) 1094 (lcL b (adA 0) (adM 0) aL aD (nI (6 * j))) []) :
    V X k z (LW cJ cD aL fL wA aD fD wM) 440 (lcL b (adA 0) (adM 0) aL aD (nI (6 * j))) [] := by
  obtain ⟨o, xo, xl, sc, hX8, hT0, hT1, hT2, hc9, hz9, hL9⟩ := cx
  obtain ⟨th, mc, d2, n2, r, b9, t2, wB, wM2, q1, q2, q3, q4, hA, hM, q5, q6, hI2⟩ := call_resolve (l := XL X) (D := XD X) (tys := XK X) hT0 hI hn (xs (6 * j + 1))
  obtain ⟨fs9, hh9⟩ := hI.headM
  obtain ⟨fs8, hh8⟩ := hI2.headM
  refine V_aload_n (pc := 440) o dL_law_440 rfl ?_
  refine V_aload_n (pc := 441) o dL_law_441 rfl ?_
  refine V_iload (pc := 442) o dL_law_442 rfl ?_
  refine V_iconst (pc := 444) o (nI 1) dL_law_444 (by decide) ?_
  refine V_iaddN (pc := 445) o (6 * j) 1 rfl rfl dL_law_445 ?_
  refine V_sld (pc := 446) o sc (6 * j + 1) rfl (by omega) (by omega) dL_law_446 ?_
  refine V_aload_n (pc := 447) o dL_law_447 rfl ?_
  refine V_cSi (pc := 448) o xo xl (cL_resolve_met _ _ _ (adA 0) aL (xs (6 * j + 1)) _ wA wB hI.head th mc q1 (al_resolve q2) r hA cJ hT1 fL) [] ((aD, .inl (cD, 1, .inr (.inr (.inr (.inl fD))))) :: wM) gL_law_L_resolve rfl hdL_resolve ⟨by decide, by decide⟩ rfl (Nat.le_of_ble_eq_true rfl) ⟨by rw [hc9]; exact hk.1, by rw [hz9]; exact hk.2⟩ dL_law_448 rfl ?_
  refine V_eq LW_if rfl ?_
  generalize (if th = 0 then wB else wA) = wA2 at hI2 ⊢
  refine V_istore (pc := 451) o dL_law_451 (by rw [hX8]; decide) ?_
  refine V_aload_n (pc := 453) o dL_law_453 rfl ?_
  refine V_aload_n (pc := 454) o dL_law_454 rfl ?_
  refine V_iload (pc := 455) o dL_law_455 rfl ?_
  refine V_iconst (pc := 457) o (nI 1) dL_law_457 (by decide) ?_
  refine V_iaddN (pc := 458) o (6 * j) 1 rfl rfl dL_law_458 ?_
  refine V_sld (pc := 459) o sc (6 * j + 1) rfl (by omega) (by omega) dL_law_459 ?_
  refine V_callVi (pc := 460) o hM ((aL, .inl (cJ, 1, .inr (.inl (if th = 0 then vp_updL fL 0 r.toInt64 else fL)))) :: (wA2 ++ [(aD, .inl (cD, 1, .inr (.inr (.inr (.inl fD)))))])) [] gL_law_X9_resolve rfl hdX9_resolve ⟨by omega, by decide⟩ (q0 := 0) hh9 rfl rfl (Nat.le_of_ble_eq_true rfl) ⟨by rw [hc9]; omega, by rw [hz9]; omega⟩ dL_law_460 LW_sp (fun r9 _ h9 => ?_)
  have h9' : r9 = b9 := h9
  subst h9'
  refine V_eq LW_sp.symm rfl ?_
  refine V_istore (pc := 463) o dL_law_463 (by rw [hX8]; decide) ?_
  refine V_aload_n (pc := 465) o dL_law_465 rfl ?_
  refine V_callVi (pc := 466) o (call_thrown (l := XL X) (D := XD X) (tys := XK X) hT0 hI2) ((aL, .inl (cJ, 1, .inr (.inl (if th = 0 then vp_updL fL 0 r.toInt64 else fL)))) :: (wA2 ++ [(aD, .inl (cD, 1, .inr (.inr (.inr (.inl fD)))))])) [] gL_law_X9_thrown rfl hdX9_thrown ⟨by decide, by decide⟩ (q0 := 0) hh8 rfl rfl (Nat.le_of_ble_eq_true rfl) ⟨by rw [hc9]; omega, by rw [hz9]; omega⟩ dL_law_466 LW_sp (fun r8 _ h8 => ?_)
  have h8' : r8 = t2 := h8
  subst h8'
  refine V_eq LW_sp.symm rfl ?_
  refine V_iload (pc := 469) o dL_law_469 rfl ?_
  refine V_icmp_eq (pc := 471) o 476 dL_law_471 (by decide) (fun _ => ?_) (fun h => absurd q5 h)
  refine V_iload (pc := 476) o dL_law_476 rfl ?_
  refine V_if_ne (pc := 478) o 493 dL_law_478 (by decide) (fun _ => ?_) (fun h => ?_)
  · skip
    refine V_goto (pc := 493) o 1094 dL_law_493 (by decide) ?_
    exact V_sub (lc2 := lcL b (adA 0) (adM 0) aL aD (nI (6 * j))) ⟨rfl, rfl, rfl, rfl, rfl, rfl, trivial⟩ (kk n2 wA2 wM2 _ _ _ q4 hI2)
  · have hth := lw0_resolve q2 h
    have hrb := q6 hth
    refine V_aload_n (pc := 481) o dL_law_481 rfl ?_
    refine V_iconst (pc := 482) o (nI 0) dL_law_482 (by decide) ?_
    refine V_lald (pc := 483) o 0 1 rfl hT1 (vp_in_nI (by omega) (by omega)) dL_law_483 ?_
    refine V_iload (pc := 484) o dL_law_484 rfl ?_
    refine V_i2l (pc := 486) o dL_law_486 ?_
    refine V_lcmp (pc := 487) o dL_law_487 ?_
    have e : (if th = 0 then vp_updL fL 0 r.toInt64 else fL) (nI 0).toNatClampNeg = r9.toInt64 := by
      rw [if_pos hth, nI_clamp (by omega), hrb]
      exact pk_uLs
    refine V_if_eq (pc := 488) o 493 dL_law_488 (by decide) (fun _ => ?_) (fun h2 => absurd (by rw [e]; exact lgc_refl _) h2)
    refine V_goto (pc := 493) o 1094 dL_law_493 (by decide) ?_
    exact V_sub (lc2 := lcL b (adA 0) (adM 0) aL aD (nI (6 * j))) ⟨rfl, rfl, rfl, rfl, rfl, rfl, trivial⟩ (kk n2 wA2 wM2 _ _ _ q4 hI2)
theorem al_chosen {th : Nat} (h : th ∈ [0, 1]) : th = 0 ∨ th = 1 := by simpa using h
theorem lw0_chosen {th : Nat} (h : th ∈ [0, 1]) (e : lwC_chosen th = 0) : th = 0 := by
  rcases al_chosen h with rfl | rfl
  · rfl
  · exact absurd e (by decide)
theorem hdL_chosen : yL_chosen.cls ≠ "java/lang/invoke/MethodHandle" ∧ yL_chosen.cls ≠ "java/lang/invoke/VarHandle" ∧ (parseMethodDescriptor yL_chosen.desc).map (fun d => d.parameters.length) = some 4 := by decide +kernel
set_option maxHeartbeats 4000000 in
set_option maxRecDepth 100000 in
theorem lc_chosen {X : XT} {cI cJ cD : ClassId} {b L : Nat} {xs : Nat → Int32} (cx : LCx X cI cJ cD b L xs) {adA adM : Nat → Nat} {n : Nat} {wA wM : va_W} {th0 : Int32} (hI : InvW cI adA adM n wA wM th0) (hn : n < 512) {aL aD : Nat} {fL : Nat → Int64} {fD : Nat → UInt64} {k z j : Nat} (hj : 6 * j + 6 ≤ L) (hk : k + 6 ≤ 601024 ∧ z + 36 ≤ 7293034)
    (kk : ∀ (n2 : Nat) (wA2 wM2 : va_W) (t2 : Int32) (fL2 : Nat → Int64) (fD2 : Nat → UInt64), n2 ≤ n + 1 → InvW cI adA adM n2 wA2 wM2 t2 → V X (k + 6) (z + 36) (LW cJ cD aL fL2 wA2 aD fD2 wM2) 1094 (lcL b (adA 0) (adM 0) aL aD (nI (6 * j))) []) :
    V X k z (LW cJ cD aL fL wA aD fD wM) 496 (lcL b (adA 0) (adM 0) aL aD (nI (6 * j))) [] := by
  obtain ⟨o, xo, xl, sc, hX8, hT0, hT1, hT2, hc9, hz9, hL9⟩ := cx
  obtain ⟨th, mc, d2, n2, r, b9, t2, wB, wM2, q1, q2, q3, q4, hA, hM, q5, q6, hI2⟩ := call_chosen (l := XL X) (D := XD X) (tys := XK X) hT0 hI hn (xs (6 * j + 1)) (xs (6 * j + 2))
  obtain ⟨fs9, hh9⟩ := hI.headM
  obtain ⟨fs8, hh8⟩ := hI2.headM
  refine V_aload_n (pc := 496) o dL_law_496 rfl ?_
  refine V_aload_n (pc := 497) o dL_law_497 rfl ?_
  refine V_iload (pc := 498) o dL_law_498 rfl ?_
  refine V_iconst (pc := 500) o (nI 1) dL_law_500 (by decide) ?_
  refine V_iaddN (pc := 501) o (6 * j) 1 rfl rfl dL_law_501 ?_
  refine V_sld (pc := 502) o sc (6 * j + 1) rfl (by omega) (by omega) dL_law_502 ?_
  refine V_aload_n (pc := 503) o dL_law_503 rfl ?_
  refine V_iload (pc := 504) o dL_law_504 rfl ?_
  refine V_iconst (pc := 506) o (nI 2) dL_law_506 (by decide) ?_
  refine V_iaddN (pc := 507) o (6 * j) 2 rfl rfl dL_law_507 ?_
  refine V_sld (pc := 508) o sc (6 * j + 2) rfl (by omega) (by omega) dL_law_508 ?_
  refine V_aload_n (pc := 509) o dL_law_509 rfl ?_
  refine V_cSi (pc := 510) o xo xl (cL_chosen_met _ _ _ (adA 0) aL (xs (6 * j + 1)) (xs (6 * j + 2)) _ wA wB hI.head th mc q1 (al_chosen q2) r hA cJ hT1 fL) [] ((aD, .inl (cD, 1, .inr (.inr (.inr (.inl fD))))) :: wM) gL_law_L_chosen rfl hdL_chosen ⟨by decide, by decide⟩ rfl (Nat.le_of_ble_eq_true rfl) ⟨by rw [hc9]; exact hk.1, by rw [hz9]; exact hk.2⟩ dL_law_510 rfl ?_
  refine V_eq LW_if rfl ?_
  generalize (if th = 0 then wB else wA) = wA2 at hI2 ⊢
  refine V_istore (pc := 513) o dL_law_513 (by rw [hX8]; decide) ?_
  refine V_aload_n (pc := 515) o dL_law_515 rfl ?_
  refine V_aload_n (pc := 516) o dL_law_516 rfl ?_
  refine V_iload (pc := 517) o dL_law_517 rfl ?_
  refine V_iconst (pc := 519) o (nI 1) dL_law_519 (by decide) ?_
  refine V_iaddN (pc := 520) o (6 * j) 1 rfl rfl dL_law_520 ?_
  refine V_sld (pc := 521) o sc (6 * j + 1) rfl (by omega) (by omega) dL_law_521 ?_
  refine V_aload_n (pc := 522) o dL_law_522 rfl ?_
  refine V_iload (pc := 523) o dL_law_523 rfl ?_
  refine V_iconst (pc := 525) o (nI 2) dL_law_525 (by decide) ?_
  refine V_iaddN (pc := 526) o (6 * j) 2 rfl rfl dL_law_526 ?_
  refine V_sld (pc := 527) o sc (6 * j + 2) rfl (by omega) (by omega) dL_law_527 ?_
  refine V_callVi (pc := 528) o hM ((aL, .inl (cJ, 1, .inr (.inl (if th = 0 then vp_updL fL 0 r.toInt64 else fL)))) :: (wA2 ++ [(aD, .inl (cD, 1, .inr (.inr (.inr (.inl fD)))))])) [] gL_law_X9_chosen rfl hdX9_chosen ⟨by omega, by decide⟩ (q0 := 0) hh9 rfl rfl (Nat.le_of_ble_eq_true rfl) ⟨by rw [hc9]; omega, by rw [hz9]; omega⟩ dL_law_528 LW_sp (fun r9 _ h9 => ?_)
  have h9' : r9 = b9 := h9
  subst h9'
  refine V_eq LW_sp.symm rfl ?_
  refine V_istore (pc := 531) o dL_law_531 (by rw [hX8]; decide) ?_
  refine V_aload_n (pc := 533) o dL_law_533 rfl ?_
  refine V_callVi (pc := 534) o (call_thrown (l := XL X) (D := XD X) (tys := XK X) hT0 hI2) ((aL, .inl (cJ, 1, .inr (.inl (if th = 0 then vp_updL fL 0 r.toInt64 else fL)))) :: (wA2 ++ [(aD, .inl (cD, 1, .inr (.inr (.inr (.inl fD)))))])) [] gL_law_X9_thrown rfl hdX9_thrown ⟨by decide, by decide⟩ (q0 := 0) hh8 rfl rfl (Nat.le_of_ble_eq_true rfl) ⟨by rw [hc9]; omega, by rw [hz9]; omega⟩ dL_law_534 LW_sp (fun r8 _ h8 => ?_)
  have h8' : r8 = t2 := h8
  subst h8'
  refine V_eq LW_sp.symm rfl ?_
  refine V_iload (pc := 537) o dL_law_537 rfl ?_
  refine V_icmp_eq (pc := 539) o 544 dL_law_539 (by decide) (fun _ => ?_) (fun h => absurd q5 h)
  refine V_iload (pc := 544) o dL_law_544 rfl ?_
  refine V_if_ne (pc := 546) o 561 dL_law_546 (by decide) (fun _ => ?_) (fun h => ?_)
  · skip
    refine V_goto (pc := 561) o 1094 dL_law_561 (by decide) ?_
    exact V_sub (lc2 := lcL b (adA 0) (adM 0) aL aD (nI (6 * j))) ⟨rfl, rfl, rfl, rfl, rfl, rfl, trivial⟩ (kk n2 wA2 wM2 _ _ _ q4 hI2)
  · have hth := lw0_chosen q2 h
    have hrb := q6 hth
    refine V_aload_n (pc := 549) o dL_law_549 rfl ?_
    refine V_iconst (pc := 550) o (nI 0) dL_law_550 (by decide) ?_
    refine V_lald (pc := 551) o 0 1 rfl hT1 (vp_in_nI (by omega) (by omega)) dL_law_551 ?_
    refine V_iload (pc := 552) o dL_law_552 rfl ?_
    refine V_i2l (pc := 554) o dL_law_554 ?_
    refine V_lcmp (pc := 555) o dL_law_555 ?_
    have e : (if th = 0 then vp_updL fL 0 r.toInt64 else fL) (nI 0).toNatClampNeg = r9.toInt64 := by
      rw [if_pos hth, nI_clamp (by omega), hrb]
      exact pk_uLs
    refine V_if_eq (pc := 556) o 561 dL_law_556 (by decide) (fun _ => ?_) (fun h2 => absurd (by rw [e]; exact lgc_refl _) h2)
    refine V_goto (pc := 561) o 1094 dL_law_561 (by decide) ?_
    exact V_sub (lc2 := lcL b (adA 0) (adM 0) aL aD (nI (6 * j))) ⟨rfl, rfl, rfl, rfl, rfl, rfl, trivial⟩ (kk n2 wA2 wM2 _ _ _ q4 hI2)
theorem al_limit {th : Nat} (h : th ∈ [0, 1, 2]) : th = 0 ∨ th = 1 ∨ th = 2 := by simpa using h
theorem lw0_limit {th : Nat} (h : th ∈ [0, 1, 2]) (e : lwC_limit th = 0) : th = 0 := by
  rcases al_limit h with rfl | rfl | rfl
  · rfl
  · exact absurd e (by decide)
  · exact absurd e (by decide)
theorem hdL_limit : yL_limit.cls ≠ "java/lang/invoke/MethodHandle" ∧ yL_limit.cls ≠ "java/lang/invoke/VarHandle" ∧ (parseMethodDescriptor yL_limit.desc).map (fun d => d.parameters.length) = some 4 := by decide +kernel
set_option maxHeartbeats 4000000 in
set_option maxRecDepth 100000 in
theorem lc_limit {X : XT} {cI cJ cD : ClassId} {b L : Nat} {xs : Nat → Int32} (cx : LCx X cI cJ cD b L xs) {adA adM : Nat → Nat} {n : Nat} {wA wM : va_W} {th0 : Int32} (hI : InvW cI adA adM n wA wM th0) (hn : n < 512) {aL aD : Nat} {fL : Nat → Int64} {fD : Nat → UInt64} {k z j : Nat} (hj : 6 * j + 6 ≤ L) (hk : k + 6 ≤ 601024 ∧ z + 36 ≤ 7293034)
    (kk : ∀ (n2 : Nat) (wA2 wM2 : va_W) (t2 : Int32) (fL2 : Nat → Int64) (fD2 : Nat → UInt64), n2 ≤ n + 1 → InvW cI adA adM n2 wA2 wM2 t2 → V X (k + 6) (z + 36) (LW cJ cD aL fL2 wA2 aD fD2 wM2) 1094 (lcL b (adA 0) (adM 0) aL aD (nI (6 * j))) []) :
    V X k z (LW cJ cD aL fL wA aD fD wM) 564 (lcL b (adA 0) (adM 0) aL aD (nI (6 * j))) [] := by
  obtain ⟨o, xo, xl, sc, hX8, hT0, hT1, hT2, hc9, hz9, hL9⟩ := cx
  obtain ⟨th, mc, d2, n2, r, b9, t2, wB, wM2, q1, q2, q3, q4, hA, hM, q5, q6, hI2⟩ := call_limit (l := XL X) (D := XD X) (tys := XK X) hT0 hI hn (xs (6 * j + 1)) (xs (6 * j + 2))
  obtain ⟨fs9, hh9⟩ := hI.headM
  obtain ⟨fs8, hh8⟩ := hI2.headM
  refine V_aload_n (pc := 564) o dL_law_564 rfl ?_
  refine V_aload_n (pc := 565) o dL_law_565 rfl ?_
  refine V_iload (pc := 566) o dL_law_566 rfl ?_
  refine V_iconst (pc := 568) o (nI 1) dL_law_568 (by decide) ?_
  refine V_iaddN (pc := 569) o (6 * j) 1 rfl rfl dL_law_569 ?_
  refine V_sld (pc := 570) o sc (6 * j + 1) rfl (by omega) (by omega) dL_law_570 ?_
  refine V_aload_n (pc := 571) o dL_law_571 rfl ?_
  refine V_iload (pc := 572) o dL_law_572 rfl ?_
  refine V_iconst (pc := 574) o (nI 2) dL_law_574 (by decide) ?_
  refine V_iaddN (pc := 575) o (6 * j) 2 rfl rfl dL_law_575 ?_
  refine V_sld (pc := 576) o sc (6 * j + 2) rfl (by omega) (by omega) dL_law_576 ?_
  refine V_aload_n (pc := 577) o dL_law_577 rfl ?_
  refine V_cSi (pc := 578) o xo xl (cL_limit_met _ _ _ (adA 0) aL (xs (6 * j + 1)) (xs (6 * j + 2)) _ wA wB hI.head th mc q1 (al_limit q2) r hA cJ hT1 fL) [] ((aD, .inl (cD, 1, .inr (.inr (.inr (.inl fD))))) :: wM) gL_law_L_limit rfl hdL_limit ⟨by decide, by decide⟩ rfl (Nat.le_of_ble_eq_true rfl) ⟨by rw [hc9]; exact hk.1, by rw [hz9]; exact hk.2⟩ dL_law_578 rfl ?_
  refine V_eq LW_if rfl ?_
  generalize (if th = 0 then wB else wA) = wA2 at hI2 ⊢
  refine V_istore (pc := 581) o dL_law_581 (by rw [hX8]; decide) ?_
  refine V_aload_n (pc := 583) o dL_law_583 rfl ?_
  refine V_aload_n (pc := 584) o dL_law_584 rfl ?_
  refine V_iload (pc := 585) o dL_law_585 rfl ?_
  refine V_iconst (pc := 587) o (nI 1) dL_law_587 (by decide) ?_
  refine V_iaddN (pc := 588) o (6 * j) 1 rfl rfl dL_law_588 ?_
  refine V_sld (pc := 589) o sc (6 * j + 1) rfl (by omega) (by omega) dL_law_589 ?_
  refine V_aload_n (pc := 590) o dL_law_590 rfl ?_
  refine V_iload (pc := 591) o dL_law_591 rfl ?_
  refine V_iconst (pc := 593) o (nI 2) dL_law_593 (by decide) ?_
  refine V_iaddN (pc := 594) o (6 * j) 2 rfl rfl dL_law_594 ?_
  refine V_sld (pc := 595) o sc (6 * j + 2) rfl (by omega) (by omega) dL_law_595 ?_
  refine V_callVi (pc := 596) o hM ((aL, .inl (cJ, 1, .inr (.inl (if th = 0 then vp_updL fL 0 r.toInt64 else fL)))) :: (wA2 ++ [(aD, .inl (cD, 1, .inr (.inr (.inr (.inl fD)))))])) [] gL_law_X9_limit rfl hdX9_limit ⟨by omega, by decide⟩ (q0 := 0) hh9 rfl rfl (Nat.le_of_ble_eq_true rfl) ⟨by rw [hc9]; omega, by rw [hz9]; omega⟩ dL_law_596 LW_sp (fun r9 _ h9 => ?_)
  have h9' : r9 = b9 := h9
  subst h9'
  refine V_eq LW_sp.symm rfl ?_
  refine V_istore (pc := 599) o dL_law_599 (by rw [hX8]; decide) ?_
  refine V_aload_n (pc := 601) o dL_law_601 rfl ?_
  refine V_callVi (pc := 602) o (call_thrown (l := XL X) (D := XD X) (tys := XK X) hT0 hI2) ((aL, .inl (cJ, 1, .inr (.inl (if th = 0 then vp_updL fL 0 r.toInt64 else fL)))) :: (wA2 ++ [(aD, .inl (cD, 1, .inr (.inr (.inr (.inl fD)))))])) [] gL_law_X9_thrown rfl hdX9_thrown ⟨by decide, by decide⟩ (q0 := 0) hh8 rfl rfl (Nat.le_of_ble_eq_true rfl) ⟨by rw [hc9]; omega, by rw [hz9]; omega⟩ dL_law_602 LW_sp (fun r8 _ h8 => ?_)
  have h8' : r8 = t2 := h8
  subst h8'
  refine V_eq LW_sp.symm rfl ?_
  refine V_iload (pc := 605) o dL_law_605 rfl ?_
  refine V_icmp_eq (pc := 607) o 612 dL_law_607 (by decide) (fun _ => ?_) (fun h => absurd q5 h)
  refine V_iload (pc := 612) o dL_law_612 rfl ?_
  refine V_if_ne (pc := 614) o 629 dL_law_614 (by decide) (fun _ => ?_) (fun h => ?_)
  · skip
    refine V_goto (pc := 629) o 1094 dL_law_629 (by decide) ?_
    exact V_sub (lc2 := lcL b (adA 0) (adM 0) aL aD (nI (6 * j))) ⟨rfl, rfl, rfl, rfl, rfl, rfl, trivial⟩ (kk n2 wA2 wM2 _ _ _ q4 hI2)
  · have hth := lw0_limit q2 h
    have hrb := q6 hth
    refine V_aload_n (pc := 617) o dL_law_617 rfl ?_
    refine V_iconst (pc := 618) o (nI 0) dL_law_618 (by decide) ?_
    refine V_lald (pc := 619) o 0 1 rfl hT1 (vp_in_nI (by omega) (by omega)) dL_law_619 ?_
    refine V_iload (pc := 620) o dL_law_620 rfl ?_
    refine V_i2l (pc := 622) o dL_law_622 ?_
    refine V_lcmp (pc := 623) o dL_law_623 ?_
    have e : (if th = 0 then vp_updL fL 0 r.toInt64 else fL) (nI 0).toNatClampNeg = r9.toInt64 := by
      rw [if_pos hth, nI_clamp (by omega), hrb]
      exact pk_uLs
    refine V_if_eq (pc := 624) o 629 dL_law_624 (by decide) (fun _ => ?_) (fun h2 => absurd (by rw [e]; exact lgc_refl _) h2)
    refine V_goto (pc := 629) o 1094 dL_law_629 (by decide) ?_
    exact V_sub (lc2 := lcL b (adA 0) (adM 0) aL aD (nI (6 * j))) ⟨rfl, rfl, rfl, rfl, rfl, rfl, trivial⟩ (kk n2 wA2 wM2 _ _ _ q4 hI2)
theorem al_leave {th : Nat} (h : th ∈ [0, 1, 2]) : th = 0 ∨ th = 1 ∨ th = 2 := by simpa using h
theorem lw0_leave {th : Nat} (h : th ∈ [0, 1, 2]) (e : lwC_leave th = 0) : th = 0 := by
  rcases al_leave h with rfl | rfl | rfl
  · rfl
  · exact absurd e (by decide)
  · exact absurd e (by decide)
theorem hdL_leave : yL_leave.cls ≠ "java/lang/invoke/MethodHandle" ∧ yL_leave.cls ≠ "java/lang/invoke/VarHandle" ∧ (parseMethodDescriptor yL_leave.desc).map (fun d => d.parameters.length) = some 5 := by decide +kernel
set_option maxHeartbeats 4000000 in
set_option maxRecDepth 100000 in
theorem lc_leave {X : XT} {cI cJ cD : ClassId} {b L : Nat} {xs : Nat → Int32} (cx : LCx X cI cJ cD b L xs) {adA adM : Nat → Nat} {n : Nat} {wA wM : va_W} {th0 : Int32} (hI : InvW cI adA adM n wA wM th0) (hn : n < 512) {aL aD : Nat} {fL : Nat → Int64} {fD : Nat → UInt64} {k z j : Nat} (hj : 6 * j + 6 ≤ L) (hk : k + 6 ≤ 601024 ∧ z + 36 ≤ 7293034)
    (kk : ∀ (n2 : Nat) (wA2 wM2 : va_W) (t2 : Int32) (fL2 : Nat → Int64) (fD2 : Nat → UInt64), n2 ≤ n + 1 → InvW cI adA adM n2 wA2 wM2 t2 → V X (k + 6) (z + 36) (LW cJ cD aL fL2 wA2 aD fD2 wM2) 1094 (lcL b (adA 0) (adM 0) aL aD (nI (6 * j))) []) :
    V X k z (LW cJ cD aL fL wA aD fD wM) 632 (lcL b (adA 0) (adM 0) aL aD (nI (6 * j))) [] := by
  obtain ⟨o, xo, xl, sc, hX8, hT0, hT1, hT2, hc9, hz9, hL9⟩ := cx
  obtain ⟨th, mc, d2, n2, r, b9, t2, wB, wM2, q1, q2, q3, q4, hA, hM, q5, q6, hI2⟩ := call_leave (l := XL X) (D := XD X) (tys := XK X) hT0 hI hn (xs (6 * j + 1)) (xs (6 * j + 2)) (xs (6 * j + 3))
  obtain ⟨fs9, hh9⟩ := hI.headM
  obtain ⟨fs8, hh8⟩ := hI2.headM
  refine V_aload_n (pc := 632) o dL_law_632 rfl ?_
  refine V_aload_n (pc := 633) o dL_law_633 rfl ?_
  refine V_iload (pc := 634) o dL_law_634 rfl ?_
  refine V_iconst (pc := 636) o (nI 1) dL_law_636 (by decide) ?_
  refine V_iaddN (pc := 637) o (6 * j) 1 rfl rfl dL_law_637 ?_
  refine V_sld (pc := 638) o sc (6 * j + 1) rfl (by omega) (by omega) dL_law_638 ?_
  refine V_aload_n (pc := 639) o dL_law_639 rfl ?_
  refine V_iload (pc := 640) o dL_law_640 rfl ?_
  refine V_iconst (pc := 642) o (nI 2) dL_law_642 (by decide) ?_
  refine V_iaddN (pc := 643) o (6 * j) 2 rfl rfl dL_law_643 ?_
  refine V_sld (pc := 644) o sc (6 * j + 2) rfl (by omega) (by omega) dL_law_644 ?_
  refine V_aload_n (pc := 645) o dL_law_645 rfl ?_
  refine V_iload (pc := 646) o dL_law_646 rfl ?_
  refine V_iconst (pc := 648) o (nI 3) dL_law_648 (by decide) ?_
  refine V_iaddN (pc := 649) o (6 * j) 3 rfl rfl dL_law_649 ?_
  refine V_sld (pc := 650) o sc (6 * j + 3) rfl (by omega) (by omega) dL_law_650 ?_
  refine V_aload_n (pc := 651) o dL_law_651 rfl ?_
  refine V_cSi (pc := 652) o xo xl (cL_leave_met _ _ _ (adA 0) aL (xs (6 * j + 1)) (xs (6 * j + 2)) (xs (6 * j + 3)) _ wA wB hI.head th mc q1 (al_leave q2) r hA cJ hT1 fL) [] ((aD, .inl (cD, 1, .inr (.inr (.inr (.inl fD))))) :: wM) gL_law_L_leave rfl hdL_leave ⟨by decide, by decide⟩ rfl (Nat.le_of_ble_eq_true rfl) ⟨by rw [hc9]; exact hk.1, by rw [hz9]; exact hk.2⟩ dL_law_652 rfl ?_
  refine V_eq LW_if rfl ?_
  generalize (if th = 0 then wB else wA) = wA2 at hI2 ⊢
  refine V_istore (pc := 655) o dL_law_655 (by rw [hX8]; decide) ?_
  refine V_aload_n (pc := 657) o dL_law_657 rfl ?_
  refine V_aload_n (pc := 658) o dL_law_658 rfl ?_
  refine V_iload (pc := 659) o dL_law_659 rfl ?_
  refine V_iconst (pc := 661) o (nI 1) dL_law_661 (by decide) ?_
  refine V_iaddN (pc := 662) o (6 * j) 1 rfl rfl dL_law_662 ?_
  refine V_sld (pc := 663) o sc (6 * j + 1) rfl (by omega) (by omega) dL_law_663 ?_
  refine V_aload_n (pc := 664) o dL_law_664 rfl ?_
  refine V_iload (pc := 665) o dL_law_665 rfl ?_
  refine V_iconst (pc := 667) o (nI 2) dL_law_667 (by decide) ?_
  refine V_iaddN (pc := 668) o (6 * j) 2 rfl rfl dL_law_668 ?_
  refine V_sld (pc := 669) o sc (6 * j + 2) rfl (by omega) (by omega) dL_law_669 ?_
  refine V_aload_n (pc := 670) o dL_law_670 rfl ?_
  refine V_iload (pc := 671) o dL_law_671 rfl ?_
  refine V_iconst (pc := 673) o (nI 3) dL_law_673 (by decide) ?_
  refine V_iaddN (pc := 674) o (6 * j) 3 rfl rfl dL_law_674 ?_
  refine V_sld (pc := 675) o sc (6 * j + 3) rfl (by omega) (by omega) dL_law_675 ?_
  refine V_callVi (pc := 676) o hM ((aL, .inl (cJ, 1, .inr (.inl (if th = 0 then vp_updL fL 0 r.toInt64 else fL)))) :: (wA2 ++ [(aD, .inl (cD, 1, .inr (.inr (.inr (.inl fD)))))])) [] gL_law_X9_leave rfl hdX9_leave ⟨by omega, by decide⟩ (q0 := 0) hh9 rfl rfl (Nat.le_of_ble_eq_true rfl) ⟨by rw [hc9]; omega, by rw [hz9]; omega⟩ dL_law_676 LW_sp (fun r9 _ h9 => ?_)
  have h9' : r9 = b9 := h9
  subst h9'
  refine V_eq LW_sp.symm rfl ?_
  refine V_istore (pc := 679) o dL_law_679 (by rw [hX8]; decide) ?_
  refine V_aload_n (pc := 681) o dL_law_681 rfl ?_
  refine V_callVi (pc := 682) o (call_thrown (l := XL X) (D := XD X) (tys := XK X) hT0 hI2) ((aL, .inl (cJ, 1, .inr (.inl (if th = 0 then vp_updL fL 0 r.toInt64 else fL)))) :: (wA2 ++ [(aD, .inl (cD, 1, .inr (.inr (.inr (.inl fD)))))])) [] gL_law_X9_thrown rfl hdX9_thrown ⟨by decide, by decide⟩ (q0 := 0) hh8 rfl rfl (Nat.le_of_ble_eq_true rfl) ⟨by rw [hc9]; omega, by rw [hz9]; omega⟩ dL_law_682 LW_sp (fun r8 _ h8 => ?_)
  have h8' : r8 = t2 := h8
  subst h8'
  refine V_eq LW_sp.symm rfl ?_
  refine V_iload (pc := 685) o dL_law_685 rfl ?_
  refine V_icmp_eq (pc := 687) o 692 dL_law_687 (by decide) (fun _ => ?_) (fun h => absurd q5 h)
  refine V_iload (pc := 692) o dL_law_692 rfl ?_
  refine V_if_ne (pc := 694) o 709 dL_law_694 (by decide) (fun _ => ?_) (fun h => ?_)
  · skip
    refine V_goto (pc := 709) o 1094 dL_law_709 (by decide) ?_
    exact V_sub (lc2 := lcL b (adA 0) (adM 0) aL aD (nI (6 * j))) ⟨rfl, rfl, rfl, rfl, rfl, rfl, trivial⟩ (kk n2 wA2 wM2 _ _ _ q4 hI2)
  · have hth := lw0_leave q2 h
    have hrb := q6 hth
    refine V_aload_n (pc := 697) o dL_law_697 rfl ?_
    refine V_iconst (pc := 698) o (nI 0) dL_law_698 (by decide) ?_
    refine V_lald (pc := 699) o 0 1 rfl hT1 (vp_in_nI (by omega) (by omega)) dL_law_699 ?_
    refine V_iload (pc := 700) o dL_law_700 rfl ?_
    refine V_i2l (pc := 702) o dL_law_702 ?_
    refine V_lcmp (pc := 703) o dL_law_703 ?_
    have e : (if th = 0 then vp_updL fL 0 r.toInt64 else fL) (nI 0).toNatClampNeg = r9.toInt64 := by
      rw [if_pos hth, nI_clamp (by omega), hrb]
      exact pk_uLs
    refine V_if_eq (pc := 704) o 709 dL_law_704 (by decide) (fun _ => ?_) (fun h2 => absurd (by rw [e]; exact lgc_refl _) h2)
    refine V_goto (pc := 709) o 1094 dL_law_709 (by decide) ?_
    exact V_sub (lc2 := lcL b (adA 0) (adM 0) aL aD (nI (6 * j))) ⟨rfl, rfl, rfl, rfl, rfl, rfl, trivial⟩ (kk n2 wA2 wM2 _ _ _ q4 hI2)
theorem al_approve {th : Nat} (h : th ∈ [0, 1, 3]) : th = 0 ∨ th = 1 ∨ th = 3 := by simpa using h
theorem lw0_approve {th : Nat} (h : th ∈ [0, 1, 3]) (e : lwC_approve th = 0) : th = 0 := by
  rcases al_approve h with rfl | rfl | rfl
  · rfl
  · exact absurd e (by decide)
  · exact absurd e (by decide)
theorem hdL_approve : yL_approve.cls ≠ "java/lang/invoke/MethodHandle" ∧ yL_approve.cls ≠ "java/lang/invoke/VarHandle" ∧ (parseMethodDescriptor yL_approve.desc).map (fun d => d.parameters.length) = some 4 := by decide +kernel
set_option maxHeartbeats 4000000 in
set_option maxRecDepth 100000 in
theorem lc_approve {X : XT} {cI cJ cD : ClassId} {b L : Nat} {xs : Nat → Int32} (cx : LCx X cI cJ cD b L xs) {adA adM : Nat → Nat} {n : Nat} {wA wM : va_W} {th0 : Int32} (hI : InvW cI adA adM n wA wM th0) (hn : n < 512) {aL aD : Nat} {fL : Nat → Int64} {fD : Nat → UInt64} {k z j : Nat} (hj : 6 * j + 6 ≤ L) (hk : k + 6 ≤ 601024 ∧ z + 36 ≤ 7293034)
    (kk : ∀ (n2 : Nat) (wA2 wM2 : va_W) (t2 : Int32) (fL2 : Nat → Int64) (fD2 : Nat → UInt64), n2 ≤ n + 1 → InvW cI adA adM n2 wA2 wM2 t2 → V X (k + 6) (z + 36) (LW cJ cD aL fL2 wA2 aD fD2 wM2) 1094 (lcL b (adA 0) (adM 0) aL aD (nI (6 * j))) []) :
    V X k z (LW cJ cD aL fL wA aD fD wM) 712 (lcL b (adA 0) (adM 0) aL aD (nI (6 * j))) [] := by
  obtain ⟨o, xo, xl, sc, hX8, hT0, hT1, hT2, hc9, hz9, hL9⟩ := cx
  obtain ⟨th, mc, d2, n2, r, b9, t2, wB, wM2, q1, q2, q3, q4, hA, hM, q5, q6, hI2⟩ := call_approve (l := XL X) (D := XD X) (tys := XK X) hT0 hI hn (xs (6 * j + 1)) (xs (6 * j + 2))
  obtain ⟨fs9, hh9⟩ := hI.headM
  obtain ⟨fs8, hh8⟩ := hI2.headM
  refine V_aload_n (pc := 712) o dL_law_712 rfl ?_
  refine V_aload_n (pc := 713) o dL_law_713 rfl ?_
  refine V_iload (pc := 714) o dL_law_714 rfl ?_
  refine V_iconst (pc := 716) o (nI 1) dL_law_716 (by decide) ?_
  refine V_iaddN (pc := 717) o (6 * j) 1 rfl rfl dL_law_717 ?_
  refine V_sld (pc := 718) o sc (6 * j + 1) rfl (by omega) (by omega) dL_law_718 ?_
  refine V_aload_n (pc := 719) o dL_law_719 rfl ?_
  refine V_iload (pc := 720) o dL_law_720 rfl ?_
  refine V_iconst (pc := 722) o (nI 2) dL_law_722 (by decide) ?_
  refine V_iaddN (pc := 723) o (6 * j) 2 rfl rfl dL_law_723 ?_
  refine V_sld (pc := 724) o sc (6 * j + 2) rfl (by omega) (by omega) dL_law_724 ?_
  refine V_aload_n (pc := 725) o dL_law_725 rfl ?_
  refine V_cSi (pc := 726) o xo xl (cL_approve_met _ _ _ (adA 0) aL (xs (6 * j + 1)) (xs (6 * j + 2)) _ wA wB hI.head th mc q1 (al_approve q2) r hA cJ hT1 fL) [] ((aD, .inl (cD, 1, .inr (.inr (.inr (.inl fD))))) :: wM) gL_law_L_approve rfl hdL_approve ⟨by decide, by decide⟩ rfl (Nat.le_of_ble_eq_true rfl) ⟨by rw [hc9]; exact hk.1, by rw [hz9]; exact hk.2⟩ dL_law_726 rfl ?_
  refine V_eq LW_if rfl ?_
  generalize (if th = 0 then wB else wA) = wA2 at hI2 ⊢
  refine V_istore (pc := 729) o dL_law_729 (by rw [hX8]; decide) ?_
  refine V_aload_n (pc := 731) o dL_law_731 rfl ?_
  refine V_aload_n (pc := 732) o dL_law_732 rfl ?_
  refine V_iload (pc := 733) o dL_law_733 rfl ?_
  refine V_iconst (pc := 735) o (nI 1) dL_law_735 (by decide) ?_
  refine V_iaddN (pc := 736) o (6 * j) 1 rfl rfl dL_law_736 ?_
  refine V_sld (pc := 737) o sc (6 * j + 1) rfl (by omega) (by omega) dL_law_737 ?_
  refine V_aload_n (pc := 738) o dL_law_738 rfl ?_
  refine V_iload (pc := 739) o dL_law_739 rfl ?_
  refine V_iconst (pc := 741) o (nI 2) dL_law_741 (by decide) ?_
  refine V_iaddN (pc := 742) o (6 * j) 2 rfl rfl dL_law_742 ?_
  refine V_sld (pc := 743) o sc (6 * j + 2) rfl (by omega) (by omega) dL_law_743 ?_
  refine V_callVi (pc := 744) o hM ((aL, .inl (cJ, 1, .inr (.inl (if th = 0 then vp_updL fL 0 r.toInt64 else fL)))) :: (wA2 ++ [(aD, .inl (cD, 1, .inr (.inr (.inr (.inl fD)))))])) [] gL_law_X9_approve rfl hdX9_approve ⟨by omega, by decide⟩ (q0 := 0) hh9 rfl rfl (Nat.le_of_ble_eq_true rfl) ⟨by rw [hc9]; omega, by rw [hz9]; omega⟩ dL_law_744 LW_sp (fun r9 _ h9 => ?_)
  have h9' : r9 = b9 := h9
  subst h9'
  refine V_eq LW_sp.symm rfl ?_
  refine V_istore (pc := 747) o dL_law_747 (by rw [hX8]; decide) ?_
  refine V_aload_n (pc := 749) o dL_law_749 rfl ?_
  refine V_callVi (pc := 750) o (call_thrown (l := XL X) (D := XD X) (tys := XK X) hT0 hI2) ((aL, .inl (cJ, 1, .inr (.inl (if th = 0 then vp_updL fL 0 r.toInt64 else fL)))) :: (wA2 ++ [(aD, .inl (cD, 1, .inr (.inr (.inr (.inl fD)))))])) [] gL_law_X9_thrown rfl hdX9_thrown ⟨by decide, by decide⟩ (q0 := 0) hh8 rfl rfl (Nat.le_of_ble_eq_true rfl) ⟨by rw [hc9]; omega, by rw [hz9]; omega⟩ dL_law_750 LW_sp (fun r8 _ h8 => ?_)
  have h8' : r8 = t2 := h8
  subst h8'
  refine V_eq LW_sp.symm rfl ?_
  refine V_iload (pc := 753) o dL_law_753 rfl ?_
  refine V_icmp_eq (pc := 755) o 760 dL_law_755 (by decide) (fun _ => ?_) (fun h => absurd q5 h)
  refine V_iload (pc := 760) o dL_law_760 rfl ?_
  refine V_if_ne (pc := 762) o 777 dL_law_762 (by decide) (fun _ => ?_) (fun h => ?_)
  · skip
    refine V_goto (pc := 777) o 1094 dL_law_777 (by decide) ?_
    exact V_sub (lc2 := lcL b (adA 0) (adM 0) aL aD (nI (6 * j))) ⟨rfl, rfl, rfl, rfl, rfl, rfl, trivial⟩ (kk n2 wA2 wM2 _ _ _ q4 hI2)
  · have hth := lw0_approve q2 h
    have hrb := q6 hth
    refine V_aload_n (pc := 765) o dL_law_765 rfl ?_
    refine V_iconst (pc := 766) o (nI 0) dL_law_766 (by decide) ?_
    refine V_lald (pc := 767) o 0 1 rfl hT1 (vp_in_nI (by omega) (by omega)) dL_law_767 ?_
    refine V_iload (pc := 768) o dL_law_768 rfl ?_
    refine V_i2l (pc := 770) o dL_law_770 ?_
    refine V_lcmp (pc := 771) o dL_law_771 ?_
    have e : (if th = 0 then vp_updL fL 0 r.toInt64 else fL) (nI 0).toNatClampNeg = r9.toInt64 := by
      rw [if_pos hth, nI_clamp (by omega), hrb]
      exact pk_uLs
    refine V_if_eq (pc := 772) o 777 dL_law_772 (by decide) (fun _ => ?_) (fun h2 => absurd (by rw [e]; exact lgc_refl _) h2)
    refine V_goto (pc := 777) o 1094 dL_law_777 (by decide) ?_
    exact V_sub (lc2 := lcL b (adA 0) (adM 0) aL aD (nI (6 * j))) ⟨rfl, rfl, rfl, rfl, rfl, rfl, trivial⟩ (kk n2 wA2 wM2 _ _ _ q4 hI2)
theorem al_release {th : Nat} (h : th ∈ [0, 1, 3]) : th = 0 ∨ th = 1 ∨ th = 3 := by simpa using h
theorem lw0_release {th : Nat} (h : th ∈ [0, 1, 3]) (e : lwC_release th = 0) : th = 0 := by
  rcases al_release h with rfl | rfl | rfl
  · rfl
  · exact absurd e (by decide)
  · exact absurd e (by decide)
theorem hdL_release : yL_release.cls ≠ "java/lang/invoke/MethodHandle" ∧ yL_release.cls ≠ "java/lang/invoke/VarHandle" ∧ (parseMethodDescriptor yL_release.desc).map (fun d => d.parameters.length) = some 2 := by decide +kernel
set_option maxHeartbeats 4000000 in
set_option maxRecDepth 100000 in
theorem lc_release {X : XT} {cI cJ cD : ClassId} {b L : Nat} {xs : Nat → Int32} (cx : LCx X cI cJ cD b L xs) {adA adM : Nat → Nat} {n : Nat} {wA wM : va_W} {th0 : Int32} (hI : InvW cI adA adM n wA wM th0) (hn : n < 512) {aL aD : Nat} {fL : Nat → Int64} {fD : Nat → UInt64} {k z j : Nat} (hj : 6 * j + 6 ≤ L) (hk : k + 6 ≤ 601024 ∧ z + 36 ≤ 7293034)
    (kk : ∀ (n2 : Nat) (wA2 wM2 : va_W) (t2 : Int32) (fL2 : Nat → Int64) (fD2 : Nat → UInt64), n2 ≤ n + 1 → InvW cI adA adM n2 wA2 wM2 t2 → V X (k + 6) (z + 36) (LW cJ cD aL fL2 wA2 aD fD2 wM2) 1094 (lcL b (adA 0) (adM 0) aL aD (nI (6 * j))) []) :
    V X k z (LW cJ cD aL fL wA aD fD wM) 780 (lcL b (adA 0) (adM 0) aL aD (nI (6 * j))) [] := by
  obtain ⟨o, xo, xl, sc, hX8, hT0, hT1, hT2, hc9, hz9, hL9⟩ := cx
  obtain ⟨th, mc, d2, n2, t2, wB, wM2, q1, q2, q3, q4, hA, hM, q5, hI2⟩ := call_release (l := XL X) (D := XD X) (tys := XK X) hT0 hI hn (xs (6 * j + 1))
  obtain ⟨fs9, hh9⟩ := hI.headM
  obtain ⟨fs8, hh8⟩ := hI2.headM
  refine V_aload_n (pc := 780) o dL_law_780 rfl ?_
  refine V_aload_n (pc := 781) o dL_law_781 rfl ?_
  refine V_iload (pc := 782) o dL_law_782 rfl ?_
  refine V_iconst (pc := 784) o (nI 1) dL_law_784 (by decide) ?_
  refine V_iaddN (pc := 785) o (6 * j) 1 rfl rfl dL_law_785 ?_
  refine V_sld (pc := 786) o sc (6 * j + 1) rfl (by omega) (by omega) dL_law_786 ?_
  refine V_cSi (pc := 787) o xo xl (cL_release_met _ _ _ (adA 0) aL (xs (6 * j + 1)) _ wA wB hI.head th mc q1 (al_release q2) hA) [(aL, .inl (cJ, 1, .inr (.inl fL)))] ((aD, .inl (cD, 1, .inr (.inr (.inr (.inl fD))))) :: wM) gL_law_L_release rfl hdL_release ⟨by decide, by decide⟩ rfl (Nat.le_of_ble_eq_true rfl) ⟨by rw [hc9]; exact hk.1, by rw [hz9]; exact hk.2⟩ dL_law_787 rfl ?_
  refine V_eq (ws2 := LW cJ cD aL fL (if th = 0 then wB else wA) aD fD wM) rfl rfl ?_
  generalize (if th = 0 then wB else wA) = wA2 at hI2 ⊢
  refine V_istore (pc := 790) o dL_law_790 (by rw [hX8]; decide) ?_
  refine V_aload_n (pc := 792) o dL_law_792 rfl ?_
  refine V_aload_n (pc := 793) o dL_law_793 rfl ?_
  refine V_iload (pc := 794) o dL_law_794 rfl ?_
  refine V_iconst (pc := 796) o (nI 1) dL_law_796 (by decide) ?_
  refine V_iaddN (pc := 797) o (6 * j) 1 rfl rfl dL_law_797 ?_
  refine V_sld (pc := 798) o sc (6 * j + 1) rfl (by omega) (by omega) dL_law_798 ?_
  refine V_callVv (pc := 799) o hM ((aL, .inl (cJ, 1, .inr (.inl fL))) :: (wA2 ++ [(aD, .inl (cD, 1, .inr (.inr (.inr (.inl fD)))))])) [] gL_law_X9_release rfl hdX9_release ⟨by omega, by decide⟩ (q0 := 0) hh9 rfl rfl (Nat.le_of_ble_eq_true rfl) ⟨by rw [hc9]; omega, by rw [hz9]; omega⟩ dL_law_799 LW_sp (fun _ _ => ?_)
  refine V_eq LW_sp.symm rfl ?_
  refine V_aload_n (pc := 802) o dL_law_802 rfl ?_
  refine V_callVi (pc := 803) o (call_thrown (l := XL X) (D := XD X) (tys := XK X) hT0 hI2) ((aL, .inl (cJ, 1, .inr (.inl fL))) :: (wA2 ++ [(aD, .inl (cD, 1, .inr (.inr (.inr (.inl fD)))))])) [] gL_law_X9_thrown rfl hdX9_thrown ⟨by decide, by decide⟩ (q0 := 0) hh8 rfl rfl (Nat.le_of_ble_eq_true rfl) ⟨by rw [hc9]; omega, by rw [hz9]; omega⟩ dL_law_803 LW_sp (fun r8 _ h8 => ?_)
  have h8' : r8 = t2 := h8
  subst h8'
  refine V_eq LW_sp.symm rfl ?_
  refine V_iload (pc := 806) o dL_law_806 rfl ?_
  refine V_icmp_eq (pc := 808) o 813 dL_law_808 (by decide) (fun _ => ?_) (fun h => absurd q5 h)
  refine V_goto (pc := 813) o 1094 dL_law_813 (by decide) ?_
  exact V_sub (lc2 := lcL b (adA 0) (adM 0) aL aD (nI (6 * j))) ⟨rfl, rfl, rfl, rfl, rfl, rfl, trivial⟩ (kk n2 wA2 wM2 _ _ _ q4 hI2)
theorem al_pass {th : Nat} (h : th ∈ [0, 2]) : th = 0 ∨ th = 2 := by simpa using h
theorem lw0_pass {th : Nat} (h : th ∈ [0, 2]) (e : lwC_pass th = 0) : th = 0 := by
  rcases al_pass h with rfl | rfl
  · rfl
  · exact absurd e (by decide)
theorem hdL_pass : yL_pass.cls ≠ "java/lang/invoke/MethodHandle" ∧ yL_pass.cls ≠ "java/lang/invoke/VarHandle" ∧ (parseMethodDescriptor yL_pass.desc).map (fun d => d.parameters.length) = some 3 := by decide +kernel
set_option maxHeartbeats 4000000 in
set_option maxRecDepth 100000 in
theorem lc_pass {X : XT} {cI cJ cD : ClassId} {b L : Nat} {xs : Nat → Int32} (cx : LCx X cI cJ cD b L xs) {adA adM : Nat → Nat} {n : Nat} {wA wM : va_W} {th0 : Int32} (hI : InvW cI adA adM n wA wM th0) (hn : n < 512) {aL aD : Nat} {fL : Nat → Int64} {fD : Nat → UInt64} {k z j : Nat} (hj : 6 * j + 6 ≤ L) (hk : k + 6 ≤ 601024 ∧ z + 36 ≤ 7293034)
    (kk : ∀ (n2 : Nat) (wA2 wM2 : va_W) (t2 : Int32) (fL2 : Nat → Int64) (fD2 : Nat → UInt64), n2 ≤ n + 1 → InvW cI adA adM n2 wA2 wM2 t2 → V X (k + 6) (z + 36) (LW cJ cD aL fL2 wA2 aD fD2 wM2) 1094 (lcL b (adA 0) (adM 0) aL aD (nI (6 * j))) []) :
    V X k z (LW cJ cD aL fL wA aD fD wM) 816 (lcL b (adA 0) (adM 0) aL aD (nI (6 * j))) [] := by
  obtain ⟨o, xo, xl, sc, hX8, hT0, hT1, hT2, hc9, hz9, hL9⟩ := cx
  obtain ⟨th, mc, d2, n2, r, b9, t2, wB, wM2, q1, q2, q3, q4, hA, hM, q5, q6, hI2⟩ := call_pass (l := XL X) (D := XD X) (tys := XK X) hT0 hI hn (xs (6 * j + 1))
  obtain ⟨fs9, hh9⟩ := hI.headM
  obtain ⟨fs8, hh8⟩ := hI2.headM
  refine V_aload_n (pc := 816) o dL_law_816 rfl ?_
  refine V_aload_n (pc := 817) o dL_law_817 rfl ?_
  refine V_iload (pc := 818) o dL_law_818 rfl ?_
  refine V_iconst (pc := 820) o (nI 1) dL_law_820 (by decide) ?_
  refine V_iaddN (pc := 821) o (6 * j) 1 rfl rfl dL_law_821 ?_
  refine V_sld (pc := 822) o sc (6 * j + 1) rfl (by omega) (by omega) dL_law_822 ?_
  refine V_aload_n (pc := 823) o dL_law_823 rfl ?_
  refine V_cSi (pc := 824) o xo xl (cL_pass_met _ _ _ (adA 0) aL (xs (6 * j + 1)) _ wA wB hI.head th mc q1 (al_pass q2) r hA cJ hT1 fL) [] ((aD, .inl (cD, 1, .inr (.inr (.inr (.inl fD))))) :: wM) gL_law_L_pass rfl hdL_pass ⟨by decide, by decide⟩ rfl (Nat.le_of_ble_eq_true rfl) ⟨by rw [hc9]; exact hk.1, by rw [hz9]; exact hk.2⟩ dL_law_824 rfl ?_
  refine V_eq LW_if rfl ?_
  generalize (if th = 0 then wB else wA) = wA2 at hI2 ⊢
  refine V_istore (pc := 827) o dL_law_827 (by rw [hX8]; decide) ?_
  refine V_aload_n (pc := 829) o dL_law_829 rfl ?_
  refine V_aload_n (pc := 830) o dL_law_830 rfl ?_
  refine V_iload (pc := 831) o dL_law_831 rfl ?_
  refine V_iconst (pc := 833) o (nI 1) dL_law_833 (by decide) ?_
  refine V_iaddN (pc := 834) o (6 * j) 1 rfl rfl dL_law_834 ?_
  refine V_sld (pc := 835) o sc (6 * j + 1) rfl (by omega) (by omega) dL_law_835 ?_
  refine V_callVi (pc := 836) o hM ((aL, .inl (cJ, 1, .inr (.inl (if th = 0 then vp_updL fL 0 r.toInt64 else fL)))) :: (wA2 ++ [(aD, .inl (cD, 1, .inr (.inr (.inr (.inl fD)))))])) [] gL_law_X9_pass rfl hdX9_pass ⟨by omega, by decide⟩ (q0 := 0) hh9 rfl rfl (Nat.le_of_ble_eq_true rfl) ⟨by rw [hc9]; omega, by rw [hz9]; omega⟩ dL_law_836 LW_sp (fun r9 _ h9 => ?_)
  have h9' : r9 = b9 := h9
  subst h9'
  refine V_eq LW_sp.symm rfl ?_
  refine V_istore (pc := 839) o dL_law_839 (by rw [hX8]; decide) ?_
  refine V_aload_n (pc := 841) o dL_law_841 rfl ?_
  refine V_callVi (pc := 842) o (call_thrown (l := XL X) (D := XD X) (tys := XK X) hT0 hI2) ((aL, .inl (cJ, 1, .inr (.inl (if th = 0 then vp_updL fL 0 r.toInt64 else fL)))) :: (wA2 ++ [(aD, .inl (cD, 1, .inr (.inr (.inr (.inl fD)))))])) [] gL_law_X9_thrown rfl hdX9_thrown ⟨by decide, by decide⟩ (q0 := 0) hh8 rfl rfl (Nat.le_of_ble_eq_true rfl) ⟨by rw [hc9]; omega, by rw [hz9]; omega⟩ dL_law_842 LW_sp (fun r8 _ h8 => ?_)
  have h8' : r8 = t2 := h8
  subst h8'
  refine V_eq LW_sp.symm rfl ?_
  refine V_iload (pc := 845) o dL_law_845 rfl ?_
  refine V_icmp_eq (pc := 847) o 852 dL_law_847 (by decide) (fun _ => ?_) (fun h => absurd q5 h)
  refine V_iload (pc := 852) o dL_law_852 rfl ?_
  refine V_if_ne (pc := 854) o 869 dL_law_854 (by decide) (fun _ => ?_) (fun h => ?_)
  · skip
    refine V_goto (pc := 869) o 1094 dL_law_869 (by decide) ?_
    exact V_sub (lc2 := lcL b (adA 0) (adM 0) aL aD (nI (6 * j))) ⟨rfl, rfl, rfl, rfl, rfl, rfl, trivial⟩ (kk n2 wA2 wM2 _ _ _ q4 hI2)
  · have hth := lw0_pass q2 h
    have hrb := q6 hth
    refine V_aload_n (pc := 857) o dL_law_857 rfl ?_
    refine V_iconst (pc := 858) o (nI 0) dL_law_858 (by decide) ?_
    refine V_lald (pc := 859) o 0 1 rfl hT1 (vp_in_nI (by omega) (by omega)) dL_law_859 ?_
    refine V_iload (pc := 860) o dL_law_860 rfl ?_
    refine V_i2l (pc := 862) o dL_law_862 ?_
    refine V_lcmp (pc := 863) o dL_law_863 ?_
    have e : (if th = 0 then vp_updL fL 0 r.toInt64 else fL) (nI 0).toNatClampNeg = r9.toInt64 := by
      rw [if_pos hth, nI_clamp (by omega), hrb]
      exact pk_uLs
    refine V_if_eq (pc := 864) o 869 dL_law_864 (by decide) (fun _ => ?_) (fun h2 => absurd (by rw [e]; exact lgc_refl _) h2)
    refine V_goto (pc := 869) o 1094 dL_law_869 (by decide) ?_
    exact V_sub (lc2 := lcL b (adA 0) (adM 0) aL aD (nI (6 * j))) ⟨rfl, rfl, rfl, rfl, rfl, rfl, trivial⟩ (kk n2 wA2 wM2 _ _ _ q4 hI2)
theorem al_ofRequest {th : Nat} (h : th ∈ [0, 1, 2]) : th = 0 ∨ th = 1 ∨ th = 2 := by simpa using h
theorem lw0_ofRequest {th : Nat} (h : th ∈ [0, 1, 2]) (e : lwC_ofRequest th = 0) : th = 0 := by
  rcases al_ofRequest h with rfl | rfl | rfl
  · rfl
  · exact absurd e (by decide)
  · exact absurd e (by decide)
theorem hdL_ofRequest : yL_ofRequest.cls ≠ "java/lang/invoke/MethodHandle" ∧ yL_ofRequest.cls ≠ "java/lang/invoke/VarHandle" ∧ (parseMethodDescriptor yL_ofRequest.desc).map (fun d => d.parameters.length) = some 4 := by decide +kernel
set_option maxHeartbeats 4000000 in
set_option maxRecDepth 100000 in
theorem lc_ofRequest {X : XT} {cI cJ cD : ClassId} {b L : Nat} {xs : Nat → Int32} (cx : LCx X cI cJ cD b L xs) {adA adM : Nat → Nat} {n : Nat} {wA wM : va_W} {th0 : Int32} (hI : InvW cI adA adM n wA wM th0) (hn : n < 512) {aL aD : Nat} {fL : Nat → Int64} {fD : Nat → UInt64} {k z j : Nat} (hj : 6 * j + 6 ≤ L) (hk : k + 6 ≤ 601024 ∧ z + 36 ≤ 7293034)
    (kk : ∀ (n2 : Nat) (wA2 wM2 : va_W) (t2 : Int32) (fL2 : Nat → Int64) (fD2 : Nat → UInt64), n2 ≤ n + 1 → InvW cI adA adM n2 wA2 wM2 t2 → V X (k + 6) (z + 36) (LW cJ cD aL fL2 wA2 aD fD2 wM2) 1094 (lcL b (adA 0) (adM 0) aL aD (nI (6 * j))) []) :
    V X k z (LW cJ cD aL fL wA aD fD wM) 872 (lcL b (adA 0) (adM 0) aL aD (nI (6 * j))) [] := by
  obtain ⟨o, xo, xl, sc, hX8, hT0, hT1, hT2, hc9, hz9, hL9⟩ := cx
  obtain ⟨th, mc, d2, n2, r, b9, t2, wB, wM2, q1, q2, q3, q4, hA, hM, q5, q6, hI2⟩ := call_ofRequest (l := XL X) (D := XD X) (tys := XK X) hT0 hI hn (xs (6 * j + 1)) (xs (6 * j + 2))
  obtain ⟨fs9, hh9⟩ := hI.headM
  obtain ⟨fs8, hh8⟩ := hI2.headM
  refine V_aload_n (pc := 872) o dL_law_872 rfl ?_
  refine V_aload_n (pc := 873) o dL_law_873 rfl ?_
  refine V_iload (pc := 874) o dL_law_874 rfl ?_
  refine V_iconst (pc := 876) o (nI 1) dL_law_876 (by decide) ?_
  refine V_iaddN (pc := 877) o (6 * j) 1 rfl rfl dL_law_877 ?_
  refine V_sld (pc := 878) o sc (6 * j + 1) rfl (by omega) (by omega) dL_law_878 ?_
  refine V_aload_n (pc := 879) o dL_law_879 rfl ?_
  refine V_iload (pc := 880) o dL_law_880 rfl ?_
  refine V_iconst (pc := 882) o (nI 2) dL_law_882 (by decide) ?_
  refine V_iaddN (pc := 883) o (6 * j) 2 rfl rfl dL_law_883 ?_
  refine V_sld (pc := 884) o sc (6 * j + 2) rfl (by omega) (by omega) dL_law_884 ?_
  refine V_aload_n (pc := 885) o dL_law_885 rfl ?_
  refine V_cSi (pc := 886) o xo xl (cL_ofRequest_met _ _ _ (adA 0) aL (xs (6 * j + 1)) (xs (6 * j + 2)) _ wA wB hI.head th mc q1 (al_ofRequest q2) r hA cJ hT1 fL) [] ((aD, .inl (cD, 1, .inr (.inr (.inr (.inl fD))))) :: wM) gL_law_L_ofRequest rfl hdL_ofRequest ⟨by decide, by decide⟩ rfl (Nat.le_of_ble_eq_true rfl) ⟨by rw [hc9]; exact hk.1, by rw [hz9]; exact hk.2⟩ dL_law_886 rfl ?_
  refine V_eq LW_if rfl ?_
  generalize (if th = 0 then wB else wA) = wA2 at hI2 ⊢
  refine V_istore (pc := 889) o dL_law_889 (by rw [hX8]; decide) ?_
  refine V_aload_n (pc := 891) o dL_law_891 rfl ?_
  refine V_aload_n (pc := 892) o dL_law_892 rfl ?_
  refine V_iload (pc := 893) o dL_law_893 rfl ?_
  refine V_iconst (pc := 895) o (nI 1) dL_law_895 (by decide) ?_
  refine V_iaddN (pc := 896) o (6 * j) 1 rfl rfl dL_law_896 ?_
  refine V_sld (pc := 897) o sc (6 * j + 1) rfl (by omega) (by omega) dL_law_897 ?_
  refine V_aload_n (pc := 898) o dL_law_898 rfl ?_
  refine V_iload (pc := 899) o dL_law_899 rfl ?_
  refine V_iconst (pc := 901) o (nI 2) dL_law_901 (by decide) ?_
  refine V_iaddN (pc := 902) o (6 * j) 2 rfl rfl dL_law_902 ?_
  refine V_sld (pc := 903) o sc (6 * j + 2) rfl (by omega) (by omega) dL_law_903 ?_
  refine V_callVi (pc := 904) o hM ((aL, .inl (cJ, 1, .inr (.inl (if th = 0 then vp_updL fL 0 r.toInt64 else fL)))) :: (wA2 ++ [(aD, .inl (cD, 1, .inr (.inr (.inr (.inl fD)))))])) [] gL_law_X9_ofRequest rfl hdX9_ofRequest ⟨by omega, by decide⟩ (q0 := 0) hh9 rfl rfl (Nat.le_of_ble_eq_true rfl) ⟨by rw [hc9]; omega, by rw [hz9]; omega⟩ dL_law_904 LW_sp (fun r9 _ h9 => ?_)
  have h9' : r9 = b9 := h9
  subst h9'
  refine V_eq LW_sp.symm rfl ?_
  refine V_istore (pc := 907) o dL_law_907 (by rw [hX8]; decide) ?_
  refine V_aload_n (pc := 909) o dL_law_909 rfl ?_
  refine V_callVi (pc := 910) o (call_thrown (l := XL X) (D := XD X) (tys := XK X) hT0 hI2) ((aL, .inl (cJ, 1, .inr (.inl (if th = 0 then vp_updL fL 0 r.toInt64 else fL)))) :: (wA2 ++ [(aD, .inl (cD, 1, .inr (.inr (.inr (.inl fD)))))])) [] gL_law_X9_thrown rfl hdX9_thrown ⟨by decide, by decide⟩ (q0 := 0) hh8 rfl rfl (Nat.le_of_ble_eq_true rfl) ⟨by rw [hc9]; omega, by rw [hz9]; omega⟩ dL_law_910 LW_sp (fun r8 _ h8 => ?_)
  have h8' : r8 = t2 := h8
  subst h8'
  refine V_eq LW_sp.symm rfl ?_
  refine V_iload (pc := 913) o dL_law_913 rfl ?_
  refine V_icmp_eq (pc := 915) o 920 dL_law_915 (by decide) (fun _ => ?_) (fun h => absurd q5 h)
  refine V_iload (pc := 920) o dL_law_920 rfl ?_
  refine V_if_ne (pc := 922) o 937 dL_law_922 (by decide) (fun _ => ?_) (fun h => ?_)
  · skip
    refine V_goto (pc := 937) o 1094 dL_law_937 (by decide) ?_
    exact V_sub (lc2 := lcL b (adA 0) (adM 0) aL aD (nI (6 * j))) ⟨rfl, rfl, rfl, rfl, rfl, rfl, trivial⟩ (kk n2 wA2 wM2 _ _ _ q4 hI2)
  · have hth := lw0_ofRequest q2 h
    have hrb := q6 hth
    refine V_aload_n (pc := 925) o dL_law_925 rfl ?_
    refine V_iconst (pc := 926) o (nI 0) dL_law_926 (by decide) ?_
    refine V_lald (pc := 927) o 0 1 rfl hT1 (vp_in_nI (by omega) (by omega)) dL_law_927 ?_
    refine V_iload (pc := 928) o dL_law_928 rfl ?_
    refine V_i2l (pc := 930) o dL_law_930 ?_
    refine V_lcmp (pc := 931) o dL_law_931 ?_
    have e : (if th = 0 then vp_updL fL 0 r.toInt64 else fL) (nI 0).toNatClampNeg = r9.toInt64 := by
      rw [if_pos hth, nI_clamp (by omega), hrb]
      exact pk_uLs
    refine V_if_eq (pc := 932) o 937 dL_law_932 (by decide) (fun _ => ?_) (fun h2 => absurd (by rw [e]; exact lgc_refl _) h2)
    refine V_goto (pc := 937) o 1094 dL_law_937 (by decide) ?_
    exact V_sub (lc2 := lcL b (adA 0) (adM 0) aL aD (nI (6 * j))) ⟨rfl, rfl, rfl, rfl, rfl, rfl, trivial⟩ (kk n2 wA2 wM2 _ _ _ q4 hI2)
theorem al_isCoveredAnew {th : Nat} (h : th ∈ [0, 1]) : th = 0 ∨ th = 1 := by simpa using h
theorem lw0_isCoveredAnew {th : Nat} (h : th ∈ [0, 1]) (e : lwC_isCoveredAnew th = 0) : th = 0 := by
  rcases al_isCoveredAnew h with rfl | rfl
  · rfl
  · exact absurd e (by decide)
theorem hdL_isCoveredAnew : yL_isCoveredAnew.cls ≠ "java/lang/invoke/MethodHandle" ∧ yL_isCoveredAnew.cls ≠ "java/lang/invoke/VarHandle" ∧ (parseMethodDescriptor yL_isCoveredAnew.desc).map (fun d => d.parameters.length) = some 3 := by decide +kernel
set_option maxHeartbeats 4000000 in
set_option maxRecDepth 100000 in
theorem lc_isCoveredAnew {X : XT} {cI cJ cD : ClassId} {b L : Nat} {xs : Nat → Int32} (cx : LCx X cI cJ cD b L xs) {adA adM : Nat → Nat} {n : Nat} {wA wM : va_W} {th0 : Int32} (hI : InvW cI adA adM n wA wM th0) (hn : n < 512) {aL aD : Nat} {fL : Nat → Int64} {fD : Nat → UInt64} {k z j : Nat} (hj : 6 * j + 6 ≤ L) (hk : k + 6 ≤ 601024 ∧ z + 36 ≤ 7293034)
    (kk : ∀ (n2 : Nat) (wA2 wM2 : va_W) (t2 : Int32) (fL2 : Nat → Int64) (fD2 : Nat → UInt64), n2 ≤ n + 1 → InvW cI adA adM n2 wA2 wM2 t2 → V X (k + 6) (z + 36) (LW cJ cD aL fL2 wA2 aD fD2 wM2) 1094 (lcL b (adA 0) (adM 0) aL aD (nI (6 * j))) []) :
    V X k z (LW cJ cD aL fL wA aD fD wM) 940 (lcL b (adA 0) (adM 0) aL aD (nI (6 * j))) [] := by
  obtain ⟨o, xo, xl, sc, hX8, hT0, hT1, hT2, hc9, hz9, hL9⟩ := cx
  obtain ⟨th, mc, d2, n2, r, b9, t2, wB, wM2, q1, q2, q3, q4, hA, hM, q5, q6, hI2⟩ := call_isCoveredAnew (l := XL X) (D := XD X) (tys := XK X) hT0 hI hn (xs (6 * j + 1))
  obtain ⟨fs9, hh9⟩ := hI.headM
  obtain ⟨fs8, hh8⟩ := hI2.headM
  refine V_aload_n (pc := 940) o dL_law_940 rfl ?_
  refine V_aload_n (pc := 941) o dL_law_941 rfl ?_
  refine V_iload (pc := 942) o dL_law_942 rfl ?_
  refine V_iconst (pc := 944) o (nI 1) dL_law_944 (by decide) ?_
  refine V_iaddN (pc := 945) o (6 * j) 1 rfl rfl dL_law_945 ?_
  refine V_sld (pc := 946) o sc (6 * j + 1) rfl (by omega) (by omega) dL_law_946 ?_
  refine V_aload_n (pc := 947) o dL_law_947 rfl ?_
  refine V_cSi (pc := 948) o xo xl (cL_isCoveredAnew_met _ _ _ (adA 0) aL (xs (6 * j + 1)) _ wA wB hI.head th mc q1 (al_isCoveredAnew q2) r hA cJ hT1 fL) [] ((aD, .inl (cD, 1, .inr (.inr (.inr (.inl fD))))) :: wM) gL_law_L_isCoveredAnew rfl hdL_isCoveredAnew ⟨by decide, by decide⟩ rfl (Nat.le_of_ble_eq_true rfl) ⟨by rw [hc9]; exact hk.1, by rw [hz9]; exact hk.2⟩ dL_law_948 rfl ?_
  refine V_eq LW_if rfl ?_
  generalize (if th = 0 then wB else wA) = wA2 at hI2 ⊢
  refine V_istore (pc := 951) o dL_law_951 (by rw [hX8]; decide) ?_
  refine V_aload_n (pc := 953) o dL_law_953 rfl ?_
  refine V_aload_n (pc := 954) o dL_law_954 rfl ?_
  refine V_iload (pc := 955) o dL_law_955 rfl ?_
  refine V_iconst (pc := 957) o (nI 1) dL_law_957 (by decide) ?_
  refine V_iaddN (pc := 958) o (6 * j) 1 rfl rfl dL_law_958 ?_
  refine V_sld (pc := 959) o sc (6 * j + 1) rfl (by omega) (by omega) dL_law_959 ?_
  refine V_callVi (pc := 960) o hM ((aL, .inl (cJ, 1, .inr (.inl (if th = 0 then vp_updL fL 0 (if r = 0 then 0 else 1) else fL)))) :: (wA2 ++ [(aD, .inl (cD, 1, .inr (.inr (.inr (.inl fD)))))])) [] gL_law_X9_isCoveredAnew rfl hdX9_isCoveredAnew ⟨by omega, by decide⟩ (q0 := 0) hh9 rfl rfl (Nat.le_of_ble_eq_true rfl) ⟨by rw [hc9]; omega, by rw [hz9]; omega⟩ dL_law_960 LW_sp (fun r9 _ h9 => ?_)
  have h9' : r9 = b9 := h9
  subst h9'
  refine V_eq LW_sp.symm rfl ?_
  refine V_istore (pc := 963) o dL_law_963 (by rw [hX8]; decide) ?_
  refine V_aload_n (pc := 965) o dL_law_965 rfl ?_
  refine V_callVi (pc := 966) o (call_thrown (l := XL X) (D := XD X) (tys := XK X) hT0 hI2) ((aL, .inl (cJ, 1, .inr (.inl (if th = 0 then vp_updL fL 0 (if r = 0 then 0 else 1) else fL)))) :: (wA2 ++ [(aD, .inl (cD, 1, .inr (.inr (.inr (.inl fD)))))])) [] gL_law_X9_thrown rfl hdX9_thrown ⟨by decide, by decide⟩ (q0 := 0) hh8 rfl rfl (Nat.le_of_ble_eq_true rfl) ⟨by rw [hc9]; omega, by rw [hz9]; omega⟩ dL_law_966 LW_sp (fun r8 _ h8 => ?_)
  have h8' : r8 = t2 := h8
  subst h8'
  refine V_eq LW_sp.symm rfl ?_
  refine V_iload (pc := 969) o dL_law_969 rfl ?_
  refine V_icmp_eq (pc := 971) o 976 dL_law_971 (by decide) (fun _ => ?_) (fun h => absurd q5 h)
  refine V_iload (pc := 976) o dL_law_976 rfl ?_
  refine V_if_ne (pc := 978) o 1000 dL_law_978 (by decide) (fun _ => ?_) (fun h => ?_)
  · skip
    refine V_goto (pc := 1000) o 1094 dL_law_1000 (by decide) ?_
    exact V_sub (lc2 := lcL b (adA 0) (adM 0) aL aD (nI (6 * j))) ⟨rfl, rfl, rfl, rfl, rfl, rfl, trivial⟩ (kk n2 wA2 wM2 _ _ _ q4 hI2)
  · have hth := lw0_isCoveredAnew q2 h
    have hrb := q6 hth
    refine V_aload_n (pc := 981) o dL_law_981 rfl ?_
    refine V_iconst (pc := 982) o (nI 0) dL_law_982 (by decide) ?_
    refine V_lald (pc := 983) o 0 1 rfl hT1 (vp_in_nI (by omega) (by omega)) dL_law_983 ?_
    refine V_iload (pc := 984) o dL_law_984 rfl ?_
    have e : (if th = 0 then vp_updL fL 0 (if r = 0 then 0 else 1) else fL) (nI 0).toNatClampNeg = if r9 = 0 then 0 else 1 := by
      rw [if_pos hth, nI_clamp (by omega), hrb]
      exact pk_uLs
    refine V_if_eq (pc := 986) o 993 dL_law_986 (by decide) (fun h0 => ?_) (fun h0 => ?_)
    · refine V_lconst (pc := 993) o 0 dL_law_993 (by decide) ?_
      refine V_lcmp (pc := 994) o dL_law_994 ?_
      refine V_if_eq (pc := 995) o 1000 dL_law_995 (by decide) (fun _ => ?_) (fun h2 => absurd (by rw [e, if_pos h0]; exact lgc_refl _) h2)
      refine V_goto (pc := 1000) o 1094 dL_law_1000 (by decide) ?_
      exact V_sub (lc2 := lcL b (adA 0) (adM 0) aL aD (nI (6 * j))) ⟨rfl, rfl, rfl, rfl, rfl, rfl, trivial⟩ (kk n2 wA2 wM2 _ _ _ q4 hI2)
    · refine V_lconst (pc := 989) o 1 dL_law_989 (by decide) ?_
      refine V_goto (pc := 990) o 994 dL_law_990 (by decide) ?_
      refine V_lcmp (pc := 994) o dL_law_994 ?_
      refine V_if_eq (pc := 995) o 1000 dL_law_995 (by decide) (fun _ => ?_) (fun h2 => absurd (by rw [e, if_neg h0]; exact lgc_refl _) h2)
      refine V_goto (pc := 1000) o 1094 dL_law_1000 (by decide) ?_
      exact V_sub (lc2 := lcL b (adA 0) (adM 0) aL aD (nI (6 * j))) ⟨rfl, rfl, rfl, rfl, rfl, rfl, trivial⟩ (kk n2 wA2 wM2 _ _ _ q4 hI2)
theorem al_strain {th : Nat} (h : th ∈ [0, 1]) : th = 0 ∨ th = 1 := by simpa using h
theorem lw0_strain {th : Nat} (h : th ∈ [0, 1]) (e : lwC_strain th = 0) : th = 0 := by
  rcases al_strain h with rfl | rfl
  · rfl
  · exact absurd e (by decide)
theorem hdL_strain : yL_strain.cls ≠ "java/lang/invoke/MethodHandle" ∧ yL_strain.cls ≠ "java/lang/invoke/VarHandle" ∧ (parseMethodDescriptor yL_strain.desc).map (fun d => d.parameters.length) = some 3 := by decide +kernel
set_option maxHeartbeats 4000000 in
set_option maxRecDepth 100000 in
theorem lc_strain {X : XT} {cI cJ cD : ClassId} {b L : Nat} {xs : Nat → Int32} (cx : LCx X cI cJ cD b L xs) {adA adM : Nat → Nat} {n : Nat} {wA wM : va_W} {th0 : Int32} (hI : InvW cI adA adM n wA wM th0) (hn : n < 512) {aL aD : Nat} {fL : Nat → Int64} {fD : Nat → UInt64} {k z j : Nat} (hj : 6 * j + 6 ≤ L) (hk : k + 6 ≤ 601024 ∧ z + 36 ≤ 7293034)
    (kk : ∀ (n2 : Nat) (wA2 wM2 : va_W) (t2 : Int32) (fL2 : Nat → Int64) (fD2 : Nat → UInt64), n2 ≤ n + 1 → InvW cI adA adM n2 wA2 wM2 t2 → V X (k + 6) (z + 36) (LW cJ cD aL fL2 wA2 aD fD2 wM2) 1094 (lcL b (adA 0) (adM 0) aL aD (nI (6 * j))) []) :
    V X k z (LW cJ cD aL fL wA aD fD wM) 1003 (lcL b (adA 0) (adM 0) aL aD (nI (6 * j))) [] := by
  obtain ⟨o, xo, xl, sc, hX8, hT0, hT1, hT2, hc9, hz9, hL9⟩ := cx
  obtain ⟨th, mc, d2, n2, r, b9, t2, wB, wM2, q1, q2, q3, q4, hA, hM, q5, q6, q7, q8, hI2⟩ := call_strain (l := XL X) (D := XD X) (tys := XK X) hT0 hI hn (xs (6 * j + 1))
  obtain ⟨fs9, hh9⟩ := hI.headM
  obtain ⟨fs8, hh8⟩ := hI2.headM
  refine V_aload_n (pc := 1003) o dL_law_1003 rfl ?_
  refine V_aload_n (pc := 1004) o dL_law_1004 rfl ?_
  refine V_iload (pc := 1005) o dL_law_1005 rfl ?_
  refine V_iconst (pc := 1007) o (nI 1) dL_law_1007 (by decide) ?_
  refine V_iaddN (pc := 1008) o (6 * j) 1 rfl rfl dL_law_1008 ?_
  refine V_sld (pc := 1009) o sc (6 * j + 1) rfl (by omega) (by omega) dL_law_1009 ?_
  refine V_aload (pc := 1010) o dL_law_1010 rfl ?_
  refine V_cSi (pc := 1012) o xo xl (cL_strain_met _ _ _ (adA 0) aD (xs (6 * j + 1)) _ wA wB hI.head th mc q1 (al_strain q2) r q7 hA cD hT2 fD) [(aL, .inl (cJ, 1, .inr (.inl fL)))] wM gL_law_L_strain rfl hdL_strain ⟨by decide, by decide⟩ rfl (Nat.le_of_ble_eq_true rfl) ⟨by rw [hc9]; exact hk.1, by rw [hz9]; exact hk.2⟩ dL_law_1012 LW_spD ?_
  refine V_eq LW_ifD rfl ?_
  generalize (if th = 0 then wB else wA) = wA2 at hI2 ⊢
  refine V_istore (pc := 1015) o dL_law_1015 (by rw [hX8]; decide) ?_
  refine V_aload_n (pc := 1017) o dL_law_1017 rfl ?_
  refine V_aload_n (pc := 1018) o dL_law_1018 rfl ?_
  refine V_iload (pc := 1019) o dL_law_1019 rfl ?_
  refine V_iconst (pc := 1021) o (nI 1) dL_law_1021 (by decide) ?_
  refine V_iaddN (pc := 1022) o (6 * j) 1 rfl rfl dL_law_1022 ?_
  refine V_sld (pc := 1023) o sc (6 * j + 1) rfl (by omega) (by omega) dL_law_1023 ?_
  refine V_callVf (pc := 1024) (q0 := 0) o hM ((aL, .inl (cJ, 1, .inr (.inl fL))) :: (wA2 ++ [(aD, .inl (cD, 1, .inr (.inr (.inr (.inl (if th = 0 then vf_upd fD 0 (FP.f2d r) else fD))))))])) [] gL_law_X9_strain rfl hdX9_strain ⟨by omega, by decide⟩ hh9 rfl rfl (Nat.le_of_ble_eq_true rfl) ⟨by rw [hc9]; omega, by rw [hz9]; omega⟩ dL_law_1024 LW_sp ?_
  refine V_eq LW_sp.symm rfl ?_
  refine V_fstore (pc := 1027) o dL_law_1027 (by rw [hX8]; decide) ?_
  refine V_aload_n (pc := 1029) o dL_law_1029 rfl ?_
  refine V_callVi (pc := 1030) o (call_thrown (l := XL X) (D := XD X) (tys := XK X) hT0 hI2) ((aL, .inl (cJ, 1, .inr (.inl fL))) :: (wA2 ++ [(aD, .inl (cD, 1, .inr (.inr (.inr (.inl (if th = 0 then vf_upd fD 0 (FP.f2d r) else fD))))))])) [] gL_law_X9_thrown rfl hdX9_thrown ⟨by decide, by decide⟩ (q0 := 0) hh8 rfl rfl (Nat.le_of_ble_eq_true rfl) ⟨by rw [hc9]; omega, by rw [hz9]; omega⟩ dL_law_1030 LW_sp (fun r8 _ h8 => ?_)
  have h8' : r8 = t2 := h8
  subst h8'
  refine V_eq LW_sp.symm rfl ?_
  refine V_iload (pc := 1033) o dL_law_1033 rfl ?_
  refine V_icmp_eq (pc := 1035) o 1040 dL_law_1035 (by decide) (fun _ => ?_) (fun h => absurd q5 h)
  refine V_iload (pc := 1040) o dL_law_1040 rfl ?_
  refine V_if_ne (pc := 1042) o 1078 dL_law_1042 (by decide) (fun _ => ?_) (fun h => ?_)
  · skip
    refine V_goto (pc := 1078) o 1094 dL_law_1078 (by decide) ?_
    exact V_sub (lc2 := lcL b (adA 0) (adM 0) aL aD (nI (6 * j))) ⟨rfl, rfl, rfl, rfl, rfl, rfl, trivial⟩ (kk n2 wA2 wM2 _ _ _ q4 hI2)
  · have hth := lw0_strain q2 h
    have hrb := q6 hth
    refine V_aload (pc := 1045) o dL_law_1045 rfl ?_
    refine V_iconst (pc := 1047) o (nI 0) dL_law_1047 (by decide) ?_
    refine V_dald (pc := 1048) o (wA2.length + 1) 2 LW_d hT2 (vp_in_nI (by omega) (by omega)) dL_law_1048 ?_
    refine V_fload (pc := 1049) o dL_law_1049 rfl ?_
    refine V_f2d (pc := 1051) o dL_law_1051 (f2d_ok q8) ?_
    refine V_dcmp (pc := 1052) o dL_law_1052 ?_
    have e : (if th = 0 then vf_upd fD 0 (FP.f2d r) else fD) (nI 0).toNatClampNeg = FP.f2d b9 := by
      rw [if_pos hth, nI_clamp (by omega), hrb]
      exact if_pos rfl
    refine V_if_eq (pc := 1053) o 1078 dL_law_1053 (by decide) (fun _ => ?_) (fun h2 => absurd (by rw [e, f2d_cmp q8]; rfl) h2)
    refine V_goto (pc := 1078) o 1094 dL_law_1078 (by decide) ?_
    exact V_sub (lc2 := lcL b (adA 0) (adM 0) aL aD (nI (6 * j))) ⟨rfl, rfl, rfl, rfl, rfl, rfl, trivial⟩ (kk n2 wA2 wM2 _ _ _ q4 hI2)
set_option maxHeartbeats 4000000 in
set_option maxRecDepth 100000 in
theorem lc_entries {X : XT} {cI cJ cD : ClassId} {b L : Nat} {xs : Nat → Int32} (cx : LCx X cI cJ cD b L xs) {adA adM : Nat → Nat} {n : Nat} {wA wM : va_W} {th0 : Int32} (hI : InvW cI adA adM n wA wM th0) (hn : n < 512) {aL aD : Nat} {fL : Nat → Int64} {fD : Nat → UInt64} {k z j : Nat} (hk : k + 6 ≤ 601024 ∧ z + 36 ≤ 7293034)
    (kk : ∀ (n2 : Nat) (wA2 wM2 : va_W) (t2 : Int32) (fL2 : Nat → Int64) (fD2 : Nat → UInt64), n2 ≤ n + 1 → InvW cI adA adM n2 wA2 wM2 t2 → V X (k + 6) (z + 36) (LW cJ cD aL fL2 wA2 aD fD2 wM2) 1094 (lcL b (adA 0) (adM 0) aL aD (nI (6 * j))) []) :
    V X k z (LW cJ cD aL fL wA aD fD wM) 1081 (lcL b (adA 0) (adM 0) aL aD (nI (6 * j))) [] := by
  obtain ⟨o, xo, xl, sc, hX8, hT0, hT1, hT2, hc9, hz9, hL9⟩ := cx
  obtain ⟨hA, wM2, hM, hI2⟩ := call_entries (l := XL X) (D := XD X) (tys := XK X) hT0 hI hn
  obtain ⟨fs9, hh9⟩ := hI.headM
  refine V_aload_n (pc := 1081) o dL_law_1081 rfl ?_
  refine V_callVi (pc := 1082) o hA [(aL, .inl (cJ, 1, .inr (.inl fL)))] ((aD, .inl (cD, 1, .inr (.inr (.inr (.inl fD))))) :: wM) gL_law_X8_entries rfl hdX8_entries ⟨by decide, by decide⟩ (q0 := 0) hI.head rfl rfl (Nat.le_of_ble_eq_true rfl) ⟨by rw [hc9]; omega, by rw [hz9]; omega⟩ dL_law_1082 rfl (fun r9 _ h9 => ?_)
  have h9' : r9 = nI n := h9
  subst h9'
  refine V_eq (ws2 := LW cJ cD aL fL wA aD fD wM) rfl rfl ?_
  refine V_aload_n (pc := 1085) o dL_law_1085 rfl ?_
  refine V_callVi (pc := 1086) o hM ((aL, .inl (cJ, 1, .inr (.inl fL))) :: (wA ++ [(aD, .inl (cD, 1, .inr (.inr (.inr (.inl fD)))))])) [] gL_law_X9_entries rfl hdX9_entries ⟨by decide, by decide⟩ (q0 := 0) hh9 rfl rfl (Nat.le_of_ble_eq_true rfl) ⟨by rw [hc9]; omega, by rw [hz9]; omega⟩ dL_law_1086 LW_sp (fun r8 _ h8 => ?_)
  have h8' : r8 = nI n := h8
  subst h8'
  refine V_eq LW_sp.symm rfl ?_
  refine V_icmp_eq (pc := 1089) o 1094 dL_law_1089 (by decide) (fun _ => ?_) (fun h => absurd rfl h)
  exact V_widen (k := k) (z := z) (by omega) (by omega) (kk n wA wM2 _ fL fD (Nat.le_succ _) hI2)
