section C27
variable {D : va_G} {d : Nat} {ty : zT} {sz : Nat} {h : zH} {Q : zQ}
/-! the reference's state -/
def mT (h : zH) (m : Int) (T : List Int) : Prop := MTx h m T ∧ TxOK T
def mE (h : zH) (m : Int) (E : List (List Row)) : Prop := h m 10 = E.length ∧ E.length ≤ 5 ∧ ∀ (j : Nat) (l : List Row), E[j]? = some l → MR h m (520 * j) l ∧ h (m + 6) j = l.length ∧ WF l ∧ l.length ≤ 510
def mI (h : zH) (m : Int) (I : List IT) : Prop := h m 12 = I.length ∧ I.length ≤ 100 ∧ (∀ (j : Nat) (it : IT), I[j]? = some it → (h (m + 7) j = it.1 ∧ h (m + 8) j = it.2.1 ∧ h (m + 9) j = it.2.2.1 ∧ h (m + 10) j = it.2.2.2.1 ∧ h (m + 11) j = it.2.2.2.2.1) ∧ itB it ∧ ∀ s : Nat, s < 10 → h (m + 12) (10 * j + s) = if it.2.2.2.2.2.testBit s = true then 1 else 0) ∧ ∀ k : Int, 10 * I.length ≤ k → k < 1000 → h (m + 12) k = 0
def mB (h : zH) (m : Int) (B : List PT) : Prop := h m 19 = B.length ∧ B.length ≤ 13 ∧ ∀ (i : Nat) (q : PT), B[i]? = some q → h (m + 13) i = q.1 ∧ h (m + 14) i = q.2.1 ∧ h (m + 15) i = q.2.2
def mP (h : zH) (m : Int) (P : List Int) : Prop := h m 23 = P.length ∧ P.length ≤ 1500 ∧ ∀ (i : Nat) (c : Int), P[i]? = some c → h (m + 16) i = c
def mAbs (ty : zT) (h : zH) (m : Int) (S : CS) : Prop := isMT ty m ∧ mT h m (cT S) ∧ mE h m (cE S) ∧ mI h m (cI S) ∧ mB h m (cB S) ∧ mP h m (cP S)
def FrM (m : Int) (h h' : zH) : Prop := ∀ a, a < m ∨ m + 21 < a → h' a = h a
theorem mE.fr {h h' : zH} {m : Int} {E : List (List Row)} (hE : mE h m E) (e10 : h' m 10 = h m 10) (er : ∀ a k, m + 2 ≤ a → a ≤ m + 5 → k < 2600 → h' a k = h a k) (e6 : ∀ k, k ≠ 5 → h' (m + 6) k = h (m + 6) k) : mE h' m E := by
  refine ⟨e10.trans hE.1, hE.2.1, fun j l hj => ?_⟩
  obtain ⟨q1, q2, q3, q4⟩ := hE.2.2 j l hj
  have hjl := (List.getElem?_eq_some_iff.mp hj).1
  have := hE.2.1
  refine ⟨fun i r hi => ?_, by rw [e6 _ (by omega)]; exact q2, q3, q4⟩
  have hil := (List.getElem?_eq_some_iff.mp hi).1
  rw [er _ _ (by omega) (by omega) (by omega), er _ _ (by omega) (by omega) (by omega), er _ _ (by omega) (by omega) (by omega), er _ _ (by omega) (by omega) (by omega)]
  exact q1 i r hi
theorem mI.fr {h h' : zH} {m : Int} {I : List IT} (hI : mI h m I) (e0 : h' m 12 = h m 12) (e : ∀ a, m + 7 ≤ a → a ≤ m + 12 → h' a = h a) : mI h' m I := by
  unfold mI at *
  rw [e0, e (m + 7) (by omega) (by omega), e (m + 8) (by omega) (by omega), e (m + 9) (by omega) (by omega), e (m + 10) (by omega) (by omega), e (m + 11) (by omega) (by omega), e (m + 12) (by omega) (by omega)]
  exact hI
theorem mB.fr {h h' : zH} {m : Int} {B : List PT} (hB : mB h m B) (e0 : h' m 19 = h m 19) (e : ∀ a, m + 13 ≤ a → a ≤ m + 15 → h' a = h a) : mB h' m B := by
  unfold mB at *
  rw [e0, e (m + 13) (by omega) (by omega), e (m + 14) (by omega) (by omega), e (m + 15) (by omega) (by omega)]
  exact hB
theorem mP.fr {h h' : zH} {m : Int} {P : List Int} (hP : mP h m P) (e0 : h' m 23 = h m 23) (e : h' (m + 16) = h (m + 16)) : mP h' m P := by
  unfold mP at *
  rw [e0, e]
  exact hP
theorem FrR.M {m : Int} {h h' : zH} (hF : FrR m h h') : FrM m h h' := fun a ha => hF.1 a (by omega) (by omega)
theorem FrM.t {m : Int} {h h' h2 : zH} (a : FrM m h h') (b : FrM m h' h2) : FrM m h h2 := fun q hq => (b q hq).trans (a q hq)
theorem FrM.up {m a k v : Int} (h : zH) (ha : m ≤ a ∧ a ≤ m + 21) : FrM m h (zup h a k v) := fun q hq => zup_ne (by omega)

set_option maxHeartbeats 4000000 in
set_option maxRecDepth 100000 in
theorem c_m_read171F {m : Int} (hM : isMT ty m) {f : Int} (h4 : h m 4 = f) (hf : 0 ≤ f ∧ f ≤ 2000) (hq : Q (some (iV (-1 - f))) ty sz (zup h m 2 0)) : zX D mX7_read (d + 6) 0 0 171 [(0, rV m)] [] ty sz h Q := by
  have hM0 := hM
  obtain ⟨m9, m0, a1, a2, a3, a4, a5, a6, a7, a8, a9, a10, a11, a12, a13, a14, a15, a16, a17, a18, a19, a20, a21⟩ := hM
  have e4 : zup h m 2 0 m 4 = f := by rw [zup_app, if_neg (by omega)]; exact h4
  refine x_aload_n (pc := 171) dX7_read_171 rfl ?_
  refine x_iconst (pc := 172) dX7_read_172 ?_
  refine y_putI 2 (pc := 173) dX7_read_173 f_RX7_79 (by assumption) rfl (by rfl) (by omega) rfl ?_
  refine x_aload_n (pc := 176) dX7_read_176 rfl ?_
  refine y_getI 4 (pc := 177) dX7_read_177 f_RX7_85 (by assumption) rfl (fun b_177 => ?_)
  rw [e4]
  refine x_iconst (pc := 180) dX7_read_180 ?_
  refine x_icmp_eq (pc := 181) 191 dX7_read_181 rfl (fun c_181 => ?_) (fun c_181 => ?_)
  · (try simp (disch := omega) only [zb_e0, zb_n0, w32_id, w64_id, ne_eq, Classical.not_not] at c_181)
    omega
  · (try simp (disch := omega) only [zb_e0, zb_n0, w32_id, w64_id, ne_eq, Classical.not_not] at c_181)
    refine x_iconst (pc := 184) dX7_read_184 ?_
    refine x_aload_n (pc := 185) dX7_read_185 rfl ?_
    refine y_getI 4 (pc := 186) dX7_read_186 f_RX7_85 (by assumption) rfl (fun b_186 => ?_)
    rw [e4]
    refine x_isub (pc := 189) dX7_read_189 ?_
    refine x_retv (pc := 190) ⟨dX7_read_190, Or.inl rfl⟩ ?_
    exact hq

set_option maxHeartbeats 4000000 in
set_option maxRecDepth 100000 in
theorem c_m_read204 {m : Int} (hM : isMT ty m) {l : List Row} {N : Int} (hR : MR h m 2600 l) (h5 : h (m + 6) 5 = l.length) (hl : l.length ≤ 510) (hN : h m 10 = N ∧ 0 ≤ N ∧ N ≤ 4) (hk : ∀ g, (∀ a, (a < m + 2 ∨ m + 5 < a) → g a = h a) → (∀ a k, m + 2 ≤ a → a ≤ m + 5 → (k < 520 * N ∨ 520 * N + l.length ≤ k) → g a k = h a k) → MR g m (520 * N) l → zX D mX7_read (d + 6) 0 0 286 [(0, rV m)] [] ty sz g Q) : ∀ (n : Nat) (i : Nat) (g : zH), i ≤ l.length → (∀ a, (a < m + 2 ∨ m + 5 < a) → g a = h a) ∧ (∀ a k, m + 2 ≤ a → a ≤ m + 5 → (k < 520 * N ∨ 520 * N + l.length ≤ k) → g a k = h a k) ∧ MR g m (520 * N) (l.take i) → l.length - i < n → zX D mX7_read (d + 6) 0 0 204 [(1, iV (i : Int)), (0, rV m)] [] ty sz g Q := by
  intro n
  induction n with
  | zero =>
    intro i g h1 hC hm
    exfalso
    omega
  | succ n ih =>
    intro i g h1 hC hm
    have hM0 := hM
    obtain ⟨m9, m0, a1, a2, a3, a4, a5, a6, a7, a8, a9, a10, a11, a12, a13, a14, a15, a16, a17, a18, a19, a20, a21⟩ := hM
    obtain ⟨c1, c2, c3⟩ := hC
    have e5 : g (m + 6) 5 = l.length := by rw [c1 _ (by omega)]; exact h5
    have e10 : g m 10 = N := by rw [c1 _ (by omega)]; exact hN.1
    refine x_iload_n (pc := 204) dX7_read_204 rfl ?_
    refine x_aload_n (pc := 205) dX7_read_205 rfl ?_
    refine x_getF (pc := 206) dX7_read_206 f_RX7_25 (by assumption) (by rfl) ?_
    refine x_iconst (pc := 209) dX7_read_209 ?_
    refine x_iald (pc := 210) dX7_read_210 (by assumption) (by omega) (by omega) (fun b_210 => ?_)
    rw [e5] at b_210 ⊢
    refine x_icmp_ge (pc := 211) 286 dX7_read_211 rfl (fun c_211 => ?_) (fun c_211 => ?_)
    · (try simp (disch := omega) only [zb_e0, zb_n0, w32_id, w64_id, ne_eq, Classical.not_not] at c_211)
      have ei : i = l.length := by omega
      subst ei
      rw [List.take_length] at c3
      exact x_loc _ (by exact ⟨rfl, trivial⟩) (hk g c1 c2 c3)
    · (try simp (disch := omega) only [zb_e0, zb_n0, w32_id, w64_id, ne_eq, Classical.not_not] at c_211)
      refine x_aload_n (pc := 214) dX7_read_214 rfl ?_
      refine x_callV0 (pc := 215) dX7_read_215 (k_RX7_104 _ rfl) tmv_X7_base (by assumption) rfl rfl rfl ?_
      refine x_room (d' := d) (by omega) (Nat.le_refl _) (Nat.le_refl _) (c_m_base ?_)
      dsimp only [Option.toList, List.cons_append, List.nil_append]
      refine x_iload_n (pc := 218) dX7_read_218 rfl ?_
      refine x_iadd (pc := 219) dX7_read_219 ?_
      refine x_istore_n (pc := 220) dX7_read_220 (by decide) ?_
      refine x_sipush (pc := 221) dX7_read_221 (by decide) ?_
      refine x_aload_n (pc := 224) dX7_read_224 rfl ?_
      refine y_getI 10 (pc := 225) dX7_read_225 f_RX7_155 (by assumption) rfl (fun b_225 => ?_)
      rw [e10]
      refine x_imul (pc := 228) dX7_read_228 ?_
      refine x_iload_n (pc := 229) dX7_read_229 rfl ?_
      refine x_iadd (pc := 230) dX7_read_230 ?_
      refine x_istore_n (pc := 231) dX7_read_231 (by decide) ?_
      refine x_aload_n (pc := 232) dX7_read_232 rfl ?_
      refine x_getF (pc := 233) dX7_read_233 f_RX7_13 (by assumption) (by rfl) ?_
      refine x_iload_n (pc := 236) dX7_read_236 rfl ?_
      refine x_aload_n (pc := 237) dX7_read_237 rfl ?_
      refine x_getF (pc := 238) dX7_read_238 f_RX7_13 (by assumption) (by rfl) ?_
      refine x_iload_n (pc := 241) dX7_read_241 rfl ?_
      refine x_iald (pc := 242) dX7_read_242 (by assumption) (by omega) (by omega) (fun b_242 => ?_)
      refine x_iast (pc := 243) dX7_read_243 (by assumption) (by omega) (by omega) (by rfl) (by omega) ?_
      refine x_aload_n (pc := 244) dX7_read_244 rfl ?_
      refine x_getF (pc := 245) dX7_read_245 f_RX7_16 (by assumption) (by rfl) ?_
      refine x_iload_n (pc := 248) dX7_read_248 rfl ?_
      refine x_aload_n (pc := 249) dX7_read_249 rfl ?_
      refine x_getF (pc := 250) dX7_read_250 f_RX7_16 (by assumption) (by rfl) ?_
      refine x_iload_n (pc := 253) dX7_read_253 rfl ?_
      refine x_iald (pc := 254) dX7_read_254 (by assumption) (by omega) (by omega) (fun b_254 => ?_)
      refine x_iast (pc := 255) dX7_read_255 (by assumption) (by omega) (by omega) (by rfl) (by omega) ?_
      refine x_aload_n (pc := 256) dX7_read_256 rfl ?_
      refine x_getF (pc := 257) dX7_read_257 f_RX7_19 (by assumption) (by rfl) ?_
      refine x_iload_n (pc := 260) dX7_read_260 rfl ?_
      refine x_aload_n (pc := 261) dX7_read_261 rfl ?_
      refine x_getF (pc := 262) dX7_read_262 f_RX7_19 (by assumption) (by rfl) ?_
      refine x_iload_n (pc := 265) dX7_read_265 rfl ?_
      refine x_iald (pc := 266) dX7_read_266 (by assumption) (by omega) (by omega) (fun b_266 => ?_)
      refine x_iast (pc := 267) dX7_read_267 (by assumption) (by omega) (by omega) (by rfl) (by omega) ?_
      refine x_aload_n (pc := 268) dX7_read_268 rfl ?_
      refine x_getF (pc := 269) dX7_read_269 f_RX7_22 (by assumption) (by rfl) ?_
      refine x_iload_n (pc := 272) dX7_read_272 rfl ?_
      refine x_aload_n (pc := 273) dX7_read_273 rfl ?_
      refine x_getF (pc := 274) dX7_read_274 f_RX7_22 (by assumption) (by rfl) ?_
      refine x_iload_n (pc := 277) dX7_read_277 rfl ?_
      refine x_iald (pc := 278) dX7_read_278 (by assumption) (by omega) (by omega) (fun b_278 => ?_)
      refine x_iast (pc := 279) dX7_read_279 (by assumption) (by omega) (by omega) (by rfl) (by omega) ?_
      refine x_iinc (pc := 280) dX7_read_280 rfl (by decide) ?_
      refine x_goto (pc := 283) 204 dX7_read_283 rfl ?_
      obtain ⟨r, hr⟩ : ∃ r, l[i]? = some r := ⟨_, List.getElem?_eq_getElem (by omega)⟩
      obtain ⟨r1, r2, r3, r4⟩ := hR i r hr
      have htk := take_snoc hr
      have v1 : g (m + 2) (2600 + i) = r.1 := by rw [c2 _ _ (by omega) (by omega) (by omega)]; exact r1
      have v2 : g (m + 3) (2600 + i) = r.2.1 := by rw [c2 _ _ (by omega) (by omega) (by omega)]; exact r2
      have v3 : g (m + 4) (2600 + i) = r.2.2.1 := by rw [c2 _ _ (by omega) (by omega) (by omega)]; exact r3
      have v4 : g (m + 5) (2600 + i) = r.2.2.2 := by rw [c2 _ _ (by omega) (by omega) (by omega)]; exact r4
      refine x_loc [(1, iV ((i + 1 : Nat) : Int)), (0, rV m)] (by exact ⟨rfl, rfl, trivial⟩) (ih (i + 1) _ (by omega) ⟨fun a ha => ?_, fun a k a1 a2 a3 => ?_, fun j q hj => ?_⟩ (by omega))
      · rw [zup_ne (by omega), zup_ne (by omega), zup_ne (by omega), zup_ne (by omega)]
        exact c1 a ha
      · rw [zup_app, if_neg (by omega), zup_app, if_neg (by omega), zup_app, if_neg (by omega), zup_app, if_neg (by omega)]
        exact c2 a k a1 a2 a3
      · rw [htk] at hj
        have htl : (l.take i).length = i := by rw [List.length_take]; omega
        by_cases hji : j < i
        · rw [List.getElem?_append_left (by omega)] at hj
          have ne : ¬ (520 * N + (j : Int) = 520 * N + i) := by omega
          have := c3 j q hj
          simp only [zup_app, zo1, ne, and_false, if_false]
          exact this
        · rw [List.getElem?_append_right (by omega)] at hj
          have h0 : j - (l.take i).length = 0 := by
            have := (List.getElem?_eq_some_iff.mp hj).1
            simp at this
            omega
          rw [h0] at hj
          cases hj
          have ej : j = i := by omega
          subst ej
          simp [zup_app, zo1, v1, v2, v3, v4]

set_option maxHeartbeats 4000000 in
set_option maxRecDepth 100000 in
theorem c_m_read286 {m : Int} (hM : isMT ty m) {l : List Row} {N : Int} (h5 : h (m + 6) 5 = l.length) (hl : l.length ≤ 510) (hN : h m 10 = N ∧ 0 ≤ N ∧ N ≤ 4) (hq : Q (some (iV (l.length : Int))) ty sz (zup (zup h (m + 6) N l.length) m 10 (N + 1))) : zX D mX7_read (d + 6) 0 0 286 [(0, rV m)] [] ty sz h Q := by
  have hM0 := hM
  obtain ⟨m9, m0, a1, a2, a3, a4, a5, a6, a7, a8, a9, a10, a11, a12, a13, a14, a15, a16, a17, a18, a19, a20, a21⟩ := hM
  refine x_aload_n (pc := 286) dX7_read_286 rfl ?_
  refine x_getF (pc := 287) dX7_read_287 f_RX7_25 (by assumption) (by rfl) ?_
  refine x_aload_n (pc := 290) dX7_read_290 rfl ?_
  refine y_getI 10 (pc := 291) dX7_read_291 f_RX7_155 (by assumption) rfl (fun b_291 => ?_)
  rw [hN.1]
  refine x_aload_n (pc := 294) dX7_read_294 rfl ?_
  refine x_getF (pc := 295) dX7_read_295 f_RX7_25 (by assumption) (by rfl) ?_
  refine x_iconst (pc := 298) dX7_read_298 ?_
  refine x_iald (pc := 299) dX7_read_299 (by assumption) (by omega) (by omega) (fun b_299 => ?_)
  rw [h5] at b_299 ⊢
  refine x_iast (pc := 300) dX7_read_300 (by assumption) (by omega) (by omega) (by rfl) (by omega) ?_
  refine x_aload_n (pc := 301) dX7_read_301 rfl ?_
  refine x_dup (pc := 302) dX7_read_302 rfl ?_
  refine y_getI 10 (pc := 303) dX7_read_303 f_RX7_155 (by assumption) rfl (fun b_303 => ?_)
  rw [show zup h (m + 6) N (l.length : Int) m 10 = N by rw [zup_ne (by omega)]; exact hN.1]
  refine x_iconst (pc := 306) dX7_read_306 ?_
  refine x_iadd (pc := 307) dX7_read_307 ?_
  refine y_putI 10 (pc := 308) dX7_read_308 f_RX7_155 (by assumption) rfl (by rfl) (by omega) rfl ?_
  refine x_aload_n (pc := 311) dX7_read_311 rfl ?_
  refine x_getF (pc := 312) dX7_read_312 f_RX7_25 (by assumption) (by rfl) ?_
  refine x_iconst (pc := 315) dX7_read_315 ?_
  refine x_iald (pc := 316) dX7_read_316 (by assumption) (by omega) (by omega) (fun b_316 => ?_)
  rw [show zup (zup h (m + 6) N (l.length : Int)) m 10 (N + 1) (m + 6) 5 = l.length by rw [zup_ne (by omega), zup_app, if_neg (by omega)]; exact h5] at b_316 ⊢
  refine x_retv (pc := 317) ⟨dX7_read_317, Or.inl rfl⟩ ?_
  exact hq

set_option maxHeartbeats 4000000 in
set_option maxRecDepth 100000 in
theorem c_m_read171 {m : Int} (hM : isMT ty m) {l : List Row} {N : Int} (hR : MR h m 2600 l) (h4 : h m 4 = -1) (h5 : h (m + 6) 5 = l.length) (hl : l.length ≤ 510) (hN : h m 10 = N ∧ 0 ≤ N ∧ N ≤ 5) (hq5 : N = 5 → Q (some (iV (-1000004))) ty sz (zup h m 2 0)) (hk : N ≠ 5 → ∀ g, (∀ a, (a < m + 2 ∨ m + 5 < a) → g a = zup h m 2 0 a) → (∀ a k, m + 2 ≤ a → a ≤ m + 5 → (k < 520 * N ∨ 520 * N + l.length ≤ k) → g a k = h a k) → MR g m (520 * N) l → Q (some (iV (l.length : Int))) ty sz (zup (zup g (m + 6) N l.length) m 10 (N + 1))) : zX D mX7_read (d + 6) 0 0 171 [(0, rV m)] [] ty sz h Q := by
  have hM0 := hM
  obtain ⟨m9, m0, a1, a2, a3, a4, a5, a6, a7, a8, a9, a10, a11, a12, a13, a14, a15, a16, a17, a18, a19, a20, a21⟩ := hM
  have e4 : zup h m 2 0 m 4 = -1 := by rw [zup_app, if_neg (by omega)]; exact h4
  have e10 : zup h m 2 0 m 10 = N := by rw [zup_app, if_neg (by omega)]; exact hN.1
  have e5 : zup h m 2 0 (m + 6) 5 = l.length := by rw [zup_ne (by omega)]; exact h5
  refine x_aload_n (pc := 171) dX7_read_171 rfl ?_
  refine x_iconst (pc := 172) dX7_read_172 ?_
  refine y_putI 2 (pc := 173) dX7_read_173 f_RX7_79 (by assumption) rfl (by rfl) (by omega) rfl ?_
  refine x_aload_n (pc := 176) dX7_read_176 rfl ?_
  refine y_getI 4 (pc := 177) dX7_read_177 f_RX7_85 (by assumption) rfl (fun b_177 => ?_)
  rw [e4]
  refine x_iconst (pc := 180) dX7_read_180 ?_
  refine x_icmp_eq (pc := 181) 191 dX7_read_181 rfl (fun c_181 => ?_) (fun c_181 => ?_)
  · (try simp (disch := omega) only [zb_e0, zb_n0, w32_id, w64_id, ne_eq, Classical.not_not] at c_181)
    refine x_aload_n (pc := 191) dX7_read_191 rfl ?_
    refine y_getI 10 (pc := 192) dX7_read_192 f_RX7_155 (by assumption) rfl (fun b_192 => ?_)
    rw [e10]
    refine x_iconst (pc := 195) dX7_read_195 ?_
    refine x_icmp_ne (pc := 196) 202 dX7_read_196 rfl (fun c_196 => ?_) (fun c_196 => ?_)
    · (try simp (disch := omega) only [zb_e0, zb_n0, w32_id, w64_id, ne_eq, Classical.not_not] at c_196)
      refine x_iconst (pc := 202) dX7_read_202 ?_
      refine x_istore_n (pc := 203) dX7_read_203 (by decide) ?_
      refine x_loc [(1, iV ((0 : Nat) : Int)), (0, rV m)] (by exact ⟨rfl, rfl, trivial⟩) (c_m_read204 (h := zup h m 2 0) (l := l) (N := N) hM0 (hR.fr (fun q q1 q2 => zup_ne (by omega))) e5 hl ⟨e10, by omega, by omega⟩ (fun g g1 g2 g3 => ?_) (l.length + 1) 0 _ (by omega) ⟨fun _ _ => rfl, fun _ _ _ _ _ => rfl, fun i q hi => by simp at hi⟩ (by omega))
      refine c_m_read286 (N := N) hM0 (by rw [g1 _ (by omega)]; exact e5) hl ⟨by rw [g1 _ (by omega)]; exact e10, by omega, by omega⟩ ?_
      exact hk (by omega) g g1 (fun a k a1 a2 a3 => by rw [g2 a k a1 a2 a3, zup_ne (by omega)]) g3
    · (try simp (disch := omega) only [zb_e0, zb_n0, w32_id, w64_id, ne_eq, Classical.not_not] at c_196)
      refine x_ldc (pc := 199) dX7_read_199 (-1000004) tc_RX7_158 (by decide) ?_
      refine x_retv (pc := 201) ⟨dX7_read_201, Or.inl rfl⟩ ?_
      exact hq5 (by omega)
  · (try simp (disch := omega) only [zb_e0, zb_n0, w32_id, w64_id, ne_eq, Classical.not_not] at c_181)
    exact absurd trivial c_181

end C27
