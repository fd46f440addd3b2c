section C44
variable {D : va_G} {d : Nat} {ty : zT} {sz : Nat} {h : zH} {Q : zQ}
theorem liL_68 (kr : List Row) : (if fl 68 (fun r => r.2.1) kr = -1 then ([] : List PR) else [(68, fl 68 (fun r => r.2.1) kr, fl 68 (fun r => r.2.2.1) kr, fl 68 (fun r => r.2.2.2) kr)]) = liL 68 kr := by simp [liL, nms]
theorem liL_77 (kr : List Row) : (if fl 77 (fun r => r.2.1) kr = -1 then ([] : List PR) else [(77, fl 77 (fun r => r.2.1) kr, -1, -1)]) = liL 77 kr := by simp [liL, nms]
theorem liL_70 (kr : List Row) : (if fl 70 (fun r => r.2.1) kr = -1 then ([] : List PR) else [(70, fl 70 (fun r => r.2.1) kr, fl 70 (fun r => r.2.2.1) kr, -1)]) = liL 70 kr := by simp [liL, nms]
theorem liL_82 (kr : List Row) : (if fl 82 (fun r => r.2.1) kr = -1 then ([] : List PR) else [(82, fl 82 (fun r => r.2.1) kr, -1, -1)]) = liL 82 kr := by simp [liL, nms]

set_option maxHeartbeats 4000000 in
set_option maxRecDepth 100000 in
theorem c_m_pk224 {m : Int} (hM : isMT ty m) {T : List Int} {b to : Int} {kr : List Row} (hR : MR h m b kr) (hto : to = b + kr.length) (hb : 0 ≤ b ∧ b + kr.length ≤ 3120) (hB : ∀ r ∈ kr, rowB r) (hP : PA h m T) (hl : (T ++ semT (liL 68 kr ++ (liL 77 kr ++ (liL 70 kr ++ liL 82 kr)))).length ≤ 2000) (hq : ∀ h', FrQ m h h' → PA h' m (T ++ semT (liL 68 kr ++ (liL 77 kr ++ (liL 70 kr ++ liL 82 kr)))) → Q (some (iV 1)) ty sz h') : zX D mX7_putKind (d + 4) 0 0 224 [(3, iV b), (4, iV to), (0, rV m)] [] ty sz h Q := by
  have hM0 := hM
  obtain ⟨m9, m0, a1, a2, a3, a4, a5, a6, a7, a8, a9, a10, a11, a12, a13, a14, a15, a16, a17, a18, a19, a20, a21⟩ := hM
  refine x_aload_n (pc := 224) dX7_putKind_224 rfl ?_
  refine x_iload_n (pc := 225) dX7_putKind_225 rfl ?_
  refine x_iload (pc := 226) dX7_putKind_226 rfl ?_
  refine x_bipush (pc := 228) dX7_putKind_228 (by decide) ?_
  refine x_iconst (pc := 230) dX7_putKind_230 ?_
  refine x_callV4 (pc := 231) dX7_putKind_231 (k_RX7_237 _ rfl) tmv_X7_putOnly (by assumption) rfl rfl rfl ?_
  refine x_room (d' := d + 3) (by omega) (Nat.le_refl _) (Nat.le_refl _) (c_m_putOnly3 hM0 (hR) hto hb hB (by omega) hP (by rw [liL_68]; simp only [List.length_append, semT_app, semT_w, wS_app] at hl ⊢; omega) (fun g1 F1 P1 => ?_))
  rw [liL_68] at P1
  dsimp only [Option.toList, List.cons_append, List.nil_append]
  refine x_aload_n (pc := 234) dX7_putKind_234 rfl ?_
  refine x_iload_n (pc := 235) dX7_putKind_235 rfl ?_
  refine x_iload (pc := 236) dX7_putKind_236 rfl ?_
  refine x_bipush (pc := 238) dX7_putKind_238 (by decide) ?_
  refine x_iconst (pc := 240) dX7_putKind_240 ?_
  refine x_callV4 (pc := 241) dX7_putKind_241 (k_RX7_237 _ rfl) tmv_X7_putOnly (by assumption) rfl rfl rfl ?_
  refine x_room (d' := d + 3) (by omega) (Nat.le_refl _) (Nat.le_refl _) (c_m_putOnly1 hM0 (hR.frq F1) hto hb hB (by omega) P1 (by rw [liL_77]; simp only [List.length_append, semT_app, semT_w, wS_app] at hl ⊢; omega) (fun g2 F2 P2 => ?_))
  rw [liL_77] at P2
  dsimp only [Option.toList, List.cons_append, List.nil_append]
  refine x_aload_n (pc := 244) dX7_putKind_244 rfl ?_
  refine x_iload_n (pc := 245) dX7_putKind_245 rfl ?_
  refine x_iload (pc := 246) dX7_putKind_246 rfl ?_
  refine x_bipush (pc := 248) dX7_putKind_248 (by decide) ?_
  refine x_iconst (pc := 250) dX7_putKind_250 ?_
  refine x_callV4 (pc := 251) dX7_putKind_251 (k_RX7_237 _ rfl) tmv_X7_putOnly (by assumption) rfl rfl rfl ?_
  refine x_room (d' := d + 3) (by omega) (Nat.le_refl _) (Nat.le_refl _) (c_m_putOnly2 hM0 (hR.frq (F1.t F2)) hto hb hB (by omega) P2 (by rw [liL_70]; simp only [List.length_append, semT_app, semT_w, wS_app] at hl ⊢; omega) (fun g3 F3 P3 => ?_))
  rw [liL_70] at P3
  dsimp only [Option.toList, List.cons_append, List.nil_append]
  refine x_aload_n (pc := 254) dX7_putKind_254 rfl ?_
  refine x_iload_n (pc := 255) dX7_putKind_255 rfl ?_
  refine x_iload (pc := 256) dX7_putKind_256 rfl ?_
  refine x_bipush (pc := 258) dX7_putKind_258 (by decide) ?_
  refine x_iconst (pc := 260) dX7_putKind_260 ?_
  refine x_callV4 (pc := 261) dX7_putKind_261 (k_RX7_237 _ rfl) tmv_X7_putOnly (by assumption) rfl rfl rfl ?_
  refine x_room (d' := d + 3) (by omega) (Nat.le_refl _) (Nat.le_refl _) (c_m_putOnly1 hM0 (hR.frq ((F1.t F2).t F3)) hto hb hB (by omega) P3 (by rw [liL_82]; simp only [List.length_append, semT_app, semT_w, wS_app] at hl ⊢; omega) (fun g4 F4 P4 => ?_))
  rw [liL_82] at P4
  dsimp only [Option.toList, List.cons_append, List.nil_append]
  refine x_iconst (pc := 264) dX7_putKind_264 ?_
  refine x_retv (pc := 265) ⟨dX7_putKind_265, Or.inr ⟨rfl, (by decide)⟩⟩ ?_
  refine hq g4 (((F1.t F2).t F3).t F4) ?_
  simp only [semT_app, List.append_assoc] at P4 ⊢
  exact P4

set_option maxHeartbeats 4000000 in
set_option maxRecDepth 100000 in
theorem c_m_pk127 {m : Int} (hM : isMT ty m) {T : List Int} {s t : Nat} (hst : s < 10 ∧ t < 10) {b to : Int} {kr : List Row} (hR : MR h m b kr) (hto : to = b + kr.length) (hb : 0 ≤ b ∧ b + kr.length ≤ 3120) (hB : ∀ r ∈ kr, rowB r) (hl : (T ++ semT (exP s t kr)).length ≤ 2000) (hk : ∀ g, FrQ m h g → PA g m (T ++ semT (exP s t kr)) → zX D mX7_putKind (d + 4) 0 0 212 [(6, iV (t : Int)), (5, iV (s : Int)), (3, iV b), (4, iV to), (0, rV m)] [] ty sz g Q) : ∀ (n : Nat) (u : Nat) (g : zH), u ≤ kr.length → FrQ m h g → PA g m (T ++ semT (exP s t (kr.take u))) → kr.length - u < n → zX D mX7_putKind (d + 4) 0 0 127 [(7, iV (b + u)), (6, iV (t : Int)), (5, iV (s : Int)), (3, iV b), (4, iV to), (0, rV m)] [] ty sz g Q := by
  intro n
  induction n with
  | zero =>
    intro u g h1 F hP hm9
    exfalso
    omega
  | succ n ih =>
    intro u g h1 F hP hm9
    have hM0 := hM
    obtain ⟨m9, m0, a1, a2, a3, a4, a5, a6, a7, a8, a9, a10, a11, a12, a13, a14, a15, a16, a17, a18, a19, a20, a21⟩ := hM
    refine x_iload (pc := 127) dX7_putKind_127 rfl ?_
    refine x_iload (pc := 129) dX7_putKind_129 rfl ?_
    refine x_icmp_ge (pc := 131) 212 dX7_putKind_131 rfl (fun c_131 => ?_) (fun c_131 => ?_)
    · (try simp (disch := omega) only [zb_e0, zb_n0, w32_id, w64_id, ne_eq, Classical.not_not] at c_131)
      rw [show u = kr.length by omega, List.take_length] at hP
      exact x_loc _ (by exact ⟨rfl, rfl, rfl, rfl, rfl, trivial⟩) (hk g F hP)
    · (try simp (disch := omega) only [zb_e0, zb_n0, w32_id, w64_id, ne_eq, Classical.not_not] at c_131)
      obtain ⟨r, hr⟩ : ∃ r, kr[u]? = some r := ⟨_, List.getElem?_eq_getElem (by omega)⟩
      obtain ⟨r1, r2, r3, r4⟩ := (hR.frq F) u r hr
      have htk := take_snoc hr
      have hBR := hB r (List.mem_of_getElem? hr)
      have hrl : 0 ≤ r.1 ∧ r.1 ≤ 100 := by
        have := hBR.1
        unfold isRowL at this
        omega
      have hb2 := hBR.2.1
      have hb3 := hBR.2.2.1
      refine x_aload_n (pc := 134) dX7_putKind_134 rfl ?_
      refine x_getF (pc := 135) dX7_putKind_135 f_RX7_13 (by assumption) (by rfl) ?_
      refine x_iload (pc := 138) dX7_putKind_138 rfl ?_
      refine x_iald (pc := 140) dX7_putKind_140 (by assumption) (by omega) (by omega) (fun b_140 => ?_)
      rw [r1] at b_140 ⊢
      refine x_bipush (pc := 141) dX7_putKind_141 (by decide) ?_
      refine x_icmp_ne (pc := 143) 206 dX7_putKind_143 rfl (fun c_143 => ?_) (fun c_143 => ?_)
      · (try simp (disch := omega) only [zb_e0, zb_n0, w32_id, w64_id, ne_eq, Classical.not_not] at c_143)
        refine x_iinc (pc := 206) dX7_putKind_206 rfl (by decide) ?_
        refine x_goto (pc := 209) 127 dX7_putKind_209 rfl ?_
        have hm0 : ¬ mEx s t r = true := fun z => by
          obtain ⟨z1, z2⟩ := (mEx_iff _ _ r).mp z
          omega
        refine x_loc _ (by exact ⟨by show _ = some (iV (b + ((u + 1 : Nat) : Int))); rw [show b + ((u + 1 : Nat) : Int) = b + u + 1 by omega]; rfl, rfl, rfl, rfl, rfl, rfl, trivial⟩) (ih (u + 1) g (by omega) F ?_ (by omega))
        rw [htk, exP_n hm0]
        exact hP
      · (try simp (disch := omega) only [zb_e0, zb_n0, w32_id, w64_id, ne_eq, Classical.not_not] at c_143)
        refine x_aload_n (pc := 146) dX7_putKind_146 rfl ?_
        refine x_getF (pc := 147) dX7_putKind_147 f_RX7_16 (by assumption) (by rfl) ?_
        refine x_iload (pc := 150) dX7_putKind_150 rfl ?_
        refine x_iald (pc := 152) dX7_putKind_152 (by assumption) (by omega) (by omega) (fun b_152 => ?_)
        rw [r2] at b_152 ⊢
        refine x_iload (pc := 153) dX7_putKind_153 rfl ?_
        refine x_icmp_ne (pc := 155) 170 dX7_putKind_155 rfl (fun c_155 => ?_) (fun c_155 => ?_)
        · (try simp (disch := omega) only [zb_e0, zb_n0, w32_id, w64_id, ne_eq, Classical.not_not] at c_155)
          refine x_aload_n (pc := 170) dX7_putKind_170 rfl ?_
          refine x_getF (pc := 171) dX7_putKind_171 f_RX7_16 (by assumption) (by rfl) ?_
          refine x_iload (pc := 174) dX7_putKind_174 rfl ?_
          refine x_iald (pc := 176) dX7_putKind_176 (by assumption) (by omega) (by omega) (fun b_176 => ?_)
          rw [r2] at b_176 ⊢
          refine x_iload (pc := 177) dX7_putKind_177 rfl ?_
          refine x_icmp_ne (pc := 179) 206 dX7_putKind_179 rfl (fun c_179 => ?_) (fun c_179 => ?_)
          · (try simp (disch := omega) only [zb_e0, zb_n0, w32_id, w64_id, ne_eq, Classical.not_not] at c_179)
            refine x_iinc (pc := 206) dX7_putKind_206 rfl (by decide) ?_
            refine x_goto (pc := 209) 127 dX7_putKind_209 rfl ?_
            have hm0 : ¬ mEx s t r = true := fun z => by
              obtain ⟨z1, z2⟩ := (mEx_iff _ _ r).mp z
              omega
            refine x_loc _ (by exact ⟨by show _ = some (iV (b + ((u + 1 : Nat) : Int))); rw [show b + ((u + 1 : Nat) : Int) = b + u + 1 by omega]; rfl, rfl, rfl, rfl, rfl, rfl, trivial⟩) (ih (u + 1) g (by omega) F ?_ (by omega))
            rw [htk, exP_n hm0]
            exact hP
          · (try simp (disch := omega) only [zb_e0, zb_n0, w32_id, w64_id, ne_eq, Classical.not_not] at c_179)
            refine x_aload_n (pc := 182) dX7_putKind_182 rfl ?_
            refine x_getF (pc := 183) dX7_putKind_183 f_RX7_19 (by assumption) (by rfl) ?_
            refine x_iload (pc := 186) dX7_putKind_186 rfl ?_
            refine x_iald (pc := 188) dX7_putKind_188 (by assumption) (by omega) (by omega) (fun b_188 => ?_)
            rw [r3] at b_188 ⊢
            refine x_iload (pc := 189) dX7_putKind_189 rfl ?_
            refine x_icmp_ne (pc := 191) 206 dX7_putKind_191 rfl (fun c_191 => ?_) (fun c_191 => ?_)
            · (try simp (disch := omega) only [zb_e0, zb_n0, w32_id, w64_id, ne_eq, Classical.not_not] at c_191)
              refine x_iinc (pc := 206) dX7_putKind_206 rfl (by decide) ?_
              refine x_goto (pc := 209) 127 dX7_putKind_209 rfl ?_
              have hm0 : ¬ mEx s t r = true := fun z => by
                obtain ⟨z1, z2⟩ := (mEx_iff _ _ r).mp z
                omega
              refine x_loc _ (by exact ⟨by show _ = some (iV (b + ((u + 1 : Nat) : Int))); rw [show b + ((u + 1 : Nat) : Int) = b + u + 1 by omega]; rfl, rfl, rfl, rfl, rfl, rfl, trivial⟩) (ih (u + 1) g (by omega) F ?_ (by omega))
              rw [htk, exP_n hm0]
              exact hP
            · (try simp (disch := omega) only [zb_e0, zb_n0, w32_id, w64_id, ne_eq, Classical.not_not] at c_191)
              refine x_aload_n (pc := 194) dX7_putKind_194 rfl ?_
              refine x_bipush (pc := 195) dX7_putKind_195 (by decide) ?_
              refine x_iconst (pc := 197) dX7_putKind_197 ?_
              refine x_iload (pc := 198) dX7_putKind_198 rfl ?_
              refine x_iload (pc := 200) dX7_putKind_200 rfl ?_
              refine x_iconst (pc := 202) dX7_putKind_202 ?_
              refine x_callV5 (pc := 203) dX7_putKind_203 (k_RX7_229 _ rfl) tmv_X7_putRow (by assumption) rfl rfl rfl ?_
              have hm : mEx s t r = true := (mEx_iff _ _ r).mpr ⟨by omega, by omega⟩
              have hw9 : wS (exP s t (kr.take (u + 1))) ≤ wS (exP s t kr) := wS_filter _ kr (u + 1)
              rw [htk, exP_y hm, wS_app, wS_1] at hw9
              have e9 : (59 :: rT (69, (s : Int), (t : Int), -1)).length = wR (69, (s : Int), (t : Int), -1) := rfl
              refine x_room (d' := d + 2) (by omega) (Nat.le_refl _) (Nat.le_refl _) (c_m_putRow2 hM0 (by omega) (by omega) (by omega) hP (by rw [List.length_append, e9]; simp only [List.length_append, semT_w] at hl ⊢; omega) (fun g1 F1 P1 => ?_))
              dsimp only [Option.toList, List.cons_append, List.nil_append]
              refine x_iinc (pc := 206) dX7_putKind_206 rfl (by decide) ?_
              refine x_goto (pc := 209) 127 dX7_putKind_209 rfl ?_
              refine x_loc _ (by exact ⟨by show _ = some (iV (b + ((u + 1 : Nat) : Int))); rw [show b + ((u + 1 : Nat) : Int) = b + u + 1 by omega]; rfl, rfl, rfl, rfl, rfl, rfl, trivial⟩) (ih (u + 1) g1 (by omega) (F.t F1) ?_ (by omega))
              rw [htk, exP_y hm, semT_app, semT_1, ← List.append_assoc]
              exact P1
        · (try simp (disch := omega) only [zb_e0, zb_n0, w32_id, w64_id, ne_eq, Classical.not_not] at c_155)
          refine x_aload_n (pc := 158) dX7_putKind_158 rfl ?_
          refine x_getF (pc := 159) dX7_putKind_159 f_RX7_19 (by assumption) (by rfl) ?_
          refine x_iload (pc := 162) dX7_putKind_162 rfl ?_
          refine x_iald (pc := 164) dX7_putKind_164 (by assumption) (by omega) (by omega) (fun b_164 => ?_)
          rw [r3] at b_164 ⊢
          refine x_iload (pc := 165) dX7_putKind_165 rfl ?_
          refine x_icmp_eq (pc := 167) 194 dX7_putKind_167 rfl (fun c_167 => ?_) (fun c_167 => ?_)
          · (try simp (disch := omega) only [zb_e0, zb_n0, w32_id, w64_id, ne_eq, Classical.not_not] at c_167)
            refine x_aload_n (pc := 194) dX7_putKind_194 rfl ?_
            refine x_bipush (pc := 195) dX7_putKind_195 (by decide) ?_
            refine x_iconst (pc := 197) dX7_putKind_197 ?_
            refine x_iload (pc := 198) dX7_putKind_198 rfl ?_
            refine x_iload (pc := 200) dX7_putKind_200 rfl ?_
            refine x_iconst (pc := 202) dX7_putKind_202 ?_
            refine x_callV5 (pc := 203) dX7_putKind_203 (k_RX7_229 _ rfl) tmv_X7_putRow (by assumption) rfl rfl rfl ?_
            have hm : mEx s t r = true := (mEx_iff _ _ r).mpr ⟨by omega, by omega⟩
            have hw9 : wS (exP s t (kr.take (u + 1))) ≤ wS (exP s t kr) := wS_filter _ kr (u + 1)
            rw [htk, exP_y hm, wS_app, wS_1] at hw9
            have e9 : (59 :: rT (69, (s : Int), (t : Int), -1)).length = wR (69, (s : Int), (t : Int), -1) := rfl
            refine x_room (d' := d + 2) (by omega) (Nat.le_refl _) (Nat.le_refl _) (c_m_putRow2 hM0 (by omega) (by omega) (by omega) hP (by rw [List.length_append, e9]; simp only [List.length_append, semT_w] at hl ⊢; omega) (fun g1 F1 P1 => ?_))
            dsimp only [Option.toList, List.cons_append, List.nil_append]
            refine x_iinc (pc := 206) dX7_putKind_206 rfl (by decide) ?_
            refine x_goto (pc := 209) 127 dX7_putKind_209 rfl ?_
            refine x_loc _ (by exact ⟨by show _ = some (iV (b + ((u + 1 : Nat) : Int))); rw [show b + ((u + 1 : Nat) : Int) = b + u + 1 by omega]; rfl, rfl, rfl, rfl, rfl, rfl, trivial⟩) (ih (u + 1) g1 (by omega) (F.t F1) ?_ (by omega))
            rw [htk, exP_y hm, semT_app, semT_1, ← List.append_assoc]
            exact P1
          · (try simp (disch := omega) only [zb_e0, zb_n0, w32_id, w64_id, ne_eq, Classical.not_not] at c_167)
            refine x_aload_n (pc := 170) dX7_putKind_170 rfl ?_
            refine x_getF (pc := 171) dX7_putKind_171 f_RX7_16 (by assumption) (by rfl) ?_
            refine x_iload (pc := 174) dX7_putKind_174 rfl ?_
            refine x_iald (pc := 176) dX7_putKind_176 (by assumption) (by omega) (by omega) (fun b_176 => ?_)
            rw [r2] at b_176 ⊢
            refine x_iload (pc := 177) dX7_putKind_177 rfl ?_
            refine x_icmp_ne (pc := 179) 206 dX7_putKind_179 rfl (fun c_179 => ?_) (fun c_179 => ?_)
            · (try simp (disch := omega) only [zb_e0, zb_n0, w32_id, w64_id, ne_eq, Classical.not_not] at c_179)
              refine x_iinc (pc := 206) dX7_putKind_206 rfl (by decide) ?_
              refine x_goto (pc := 209) 127 dX7_putKind_209 rfl ?_
              have hm0 : ¬ mEx s t r = true := fun z => by
                obtain ⟨z1, z2⟩ := (mEx_iff _ _ r).mp z
                omega
              refine x_loc _ (by exact ⟨by show _ = some (iV (b + ((u + 1 : Nat) : Int))); rw [show b + ((u + 1 : Nat) : Int) = b + u + 1 by omega]; rfl, rfl, rfl, rfl, rfl, rfl, trivial⟩) (ih (u + 1) g (by omega) F ?_ (by omega))
              rw [htk, exP_n hm0]
              exact hP
            · (try simp (disch := omega) only [zb_e0, zb_n0, w32_id, w64_id, ne_eq, Classical.not_not] at c_179)
              refine x_aload_n (pc := 182) dX7_putKind_182 rfl ?_
              refine x_getF (pc := 183) dX7_putKind_183 f_RX7_19 (by assumption) (by rfl) ?_
              refine x_iload (pc := 186) dX7_putKind_186 rfl ?_
              refine x_iald (pc := 188) dX7_putKind_188 (by assumption) (by omega) (by omega) (fun b_188 => ?_)
              rw [r3] at b_188 ⊢
              refine x_iload (pc := 189) dX7_putKind_189 rfl ?_
              refine x_icmp_ne (pc := 191) 206 dX7_putKind_191 rfl (fun c_191 => ?_) (fun c_191 => ?_)
              · (try simp (disch := omega) only [zb_e0, zb_n0, w32_id, w64_id, ne_eq, Classical.not_not] at c_191)
                refine x_iinc (pc := 206) dX7_putKind_206 rfl (by decide) ?_
                refine x_goto (pc := 209) 127 dX7_putKind_209 rfl ?_
                have hm0 : ¬ mEx s t r = true := fun z => by
                  obtain ⟨z1, z2⟩ := (mEx_iff _ _ r).mp z
                  omega
                refine x_loc _ (by exact ⟨by show _ = some (iV (b + ((u + 1 : Nat) : Int))); rw [show b + ((u + 1 : Nat) : Int) = b + u + 1 by omega]; rfl, rfl, rfl, rfl, rfl, rfl, trivial⟩) (ih (u + 1) g (by omega) F ?_ (by omega))
                rw [htk, exP_n hm0]
                exact hP
              · (try simp (disch := omega) only [zb_e0, zb_n0, w32_id, w64_id, ne_eq, Classical.not_not] at c_191)
                refine x_aload_n (pc := 194) dX7_putKind_194 rfl ?_
                refine x_bipush (pc := 195) dX7_putKind_195 (by decide) ?_
                refine x_iconst (pc := 197) dX7_putKind_197 ?_
                refine x_iload (pc := 198) dX7_putKind_198 rfl ?_
                refine x_iload (pc := 200) dX7_putKind_200 rfl ?_
                refine x_iconst (pc := 202) dX7_putKind_202 ?_
                refine x_callV5 (pc := 203) dX7_putKind_203 (k_RX7_229 _ rfl) tmv_X7_putRow (by assumption) rfl rfl rfl ?_
                have hm : mEx s t r = true := (mEx_iff _ _ r).mpr ⟨by omega, by omega⟩
                have hw9 : wS (exP s t (kr.take (u + 1))) ≤ wS (exP s t kr) := wS_filter _ kr (u + 1)
                rw [htk, exP_y hm, wS_app, wS_1] at hw9
                have e9 : (59 :: rT (69, (s : Int), (t : Int), -1)).length = wR (69, (s : Int), (t : Int), -1) := rfl
                refine x_room (d' := d + 2) (by omega) (Nat.le_refl _) (Nat.le_refl _) (c_m_putRow2 hM0 (by omega) (by omega) (by omega) hP (by rw [List.length_append, e9]; simp only [List.length_append, semT_w] at hl ⊢; omega) (fun g1 F1 P1 => ?_))
                dsimp only [Option.toList, List.cons_append, List.nil_append]
                refine x_iinc (pc := 206) dX7_putKind_206 rfl (by decide) ?_
                refine x_goto (pc := 209) 127 dX7_putKind_209 rfl ?_
                refine x_loc _ (by exact ⟨by show _ = some (iV (b + ((u + 1 : Nat) : Int))); rw [show b + ((u + 1 : Nat) : Int) = b + u + 1 by omega]; rfl, rfl, rfl, rfl, rfl, rfl, trivial⟩) (ih (u + 1) g1 (by omega) (F.t F1) ?_ (by omega))
                rw [htk, exP_y hm, semT_app, semT_1, ← List.append_assoc]
                exact P1

set_option maxHeartbeats 4000000 in
set_option maxRecDepth 100000 in
theorem c_m_pk212 {m b to : Int} {t s : Nat} {kr : List Row} (kk : zX D mX7_putKind (d + 4) 0 0 117 [(6, iV ((t + 1 : Nat) : Int)), (5, iV (s : Int)), (3, iV b), (4, iV to), (0, rV m)] [] ty sz h Q) : zX D mX7_putKind (d + 4) 0 0 212 [(6, iV (t : Int)), (5, iV (s : Int)), (3, iV b), (4, iV to), (0, rV m)] [] ty sz h Q := by
  refine x_iinc (pc := 212) dX7_putKind_212 rfl (by decide) ?_
  refine x_goto (pc := 215) 117 dX7_putKind_215 rfl ?_
  exact x_loc _ (by exact ⟨rfl, rfl, rfl, rfl, rfl, trivial⟩) kk

set_option maxHeartbeats 4000000 in
set_option maxRecDepth 100000 in
theorem c_m_pk117 {m : Int} (hM : isMT ty m) {T : List Int} {s : Nat} (hs : s < 10) {b to : Int} {kr : List Row} (hR : MR h m b kr) (hto : to = b + kr.length) (hb : 0 ≤ b ∧ b + kr.length ≤ 3120) (hB : ∀ r ∈ kr, rowB r) (hu : ∀ s t : Int, (kr.filter (mEx s t)).length ≤ 1) (hl : (T ++ semT (gL (apF kr s) 10)).length ≤ 2000) (hk : ∀ g, FrQ m h g → PA g m (T ++ semT (gL (apF kr s) 10)) → zX D mX7_putKind (d + 4) 0 0 218 [(5, iV (s : Int)), (3, iV b), (4, iV to), (0, rV m)] [] ty sz g Q) : ∀ (n : Nat) (t : Nat) (g : zH), s < t ∧ t ≤ 10 → FrQ m h g → PA g m (T ++ semT (gL (apF kr s) t)) → 10 - t < n → zX D mX7_putKind (d + 4) 0 0 117 [(6, iV (t : Int)), (5, iV (s : Int)), (3, iV b), (4, iV to), (0, rV m)] [] ty sz g Q := by
  intro n
  induction n with
  | zero =>
    intro t g h1 F hP hm9
    exfalso
    omega
  | succ n ih =>
    intro t g h1 F hP hm9
    have hM0 := hM
    obtain ⟨m9, m0, a1, a2, a3, a4, a5, a6, a7, a8, a9, a10, a11, a12, a13, a14, a15, a16, a17, a18, a19, a20, a21⟩ := hM
    refine x_iload (pc := 117) dX7_putKind_117 rfl ?_
    refine x_bipush (pc := 119) dX7_putKind_119 (by decide) ?_
    refine x_icmp_ge (pc := 121) 218 dX7_putKind_121 rfl (fun c_121 => ?_) (fun c_121 => ?_)
    · (try simp (disch := omega) only [zb_e0, zb_n0, w32_id, w64_id, ne_eq, Classical.not_not] at c_121)
      rw [show t = 10 by omega] at hP
      exact x_loc _ (by exact ⟨rfl, rfl, rfl, rfl, trivial⟩) (hk g F hP)
    · (try simp (disch := omega) only [zb_e0, zb_n0, w32_id, w64_id, ne_eq, Classical.not_not] at c_121)
      refine x_iload_n (pc := 124) dX7_putKind_124 rfl ?_
      refine x_istore (pc := 125) dX7_putKind_125 (by decide) ?_
      have he := exP_ap hu (s := s) (t := t) h1.1
      have hw9 : wS (gL (apF kr s) (t + 1)) ≤ wS (gL (apF kr s) 10) := gL_wle (by omega)
      rw [gL_s, wS_app] at hw9
      refine x_loc _ (by exact ⟨by show _ = some (iV (b + ((0 : Nat) : Int))); rw [show b + ((0 : Nat) : Int) = b by omega]; rfl, rfl, rfl, rfl, rfl, rfl, trivial⟩) (c_m_pk127 (T := T ++ semT (gL (apF kr s) t)) (s := s) (t := t) hM0 (by omega) (hR.frq F) hto hb hB (by rw [he]; simp only [List.length_append, semT_w] at hl ⊢; omega) (fun g1 F1 P1 => ?_) (kr.length + 1) 0 g (by omega) (FrQ.rf _ _) (by rw [List.take_zero, exP_nil]; show PA g m (T ++ semT (gL (apF kr s) t) ++ []); rw [List.append_nil]; exact hP) (by omega))
      refine c_m_pk212 (kr := kr) (ih (t + 1) g1 (by omega) (F.t F1) ?_ (by omega))
      rw [he] at P1
      rw [gL_s, semT_app, ← List.append_assoc]
      exact P1

set_option maxHeartbeats 4000000 in
set_option maxRecDepth 100000 in
theorem c_m_pk218 {m b to : Int} {s : Nat} (kk : zX D mX7_putKind (d + 4) 0 0 104 [(5, iV ((s + 1 : Nat) : Int)), (3, iV b), (4, iV to), (0, rV m)] [] ty sz h Q) : zX D mX7_putKind (d + 4) 0 0 218 [(5, iV (s : Int)), (3, iV b), (4, iV to), (0, rV m)] [] ty sz h Q := by
  refine x_iinc (pc := 218) dX7_putKind_218 rfl (by decide) ?_
  refine x_goto (pc := 221) 104 dX7_putKind_221 rfl ?_
  exact x_loc _ (by exact ⟨rfl, rfl, rfl, rfl, trivial⟩) kk

set_option maxHeartbeats 4000000 in
set_option maxRecDepth 100000 in
theorem c_m_pk104 {m : Int} (hM : isMT ty m) {T : List Int} {b to : Int} {kr : List Row} (hR : MR h m b kr) (hto : to = b + kr.length) (hb : 0 ≤ b ∧ b + kr.length ≤ 3120) (hB : ∀ r ∈ kr, rowB r) (hu : ∀ s t : Int, (kr.filter (mEx s t)).length ≤ 1) (hl : (T ++ semT (gL (fun s => gL (apF kr s) 10) 10)).length ≤ 2000) (hk : ∀ g, FrQ m h g → PA g m (T ++ semT (gL (fun s => gL (apF kr s) 10) 10)) → zX D mX7_putKind (d + 4) 0 0 224 [(3, iV b), (4, iV to), (0, rV m)] [] ty sz g Q) : ∀ (n : Nat) (s : Nat) (g : zH), s ≤ 10 → FrQ m h g → PA g m (T ++ semT (gL (fun s => gL (apF kr s) 10) s)) → 10 - s < n → zX D mX7_putKind (d + 4) 0 0 104 [(5, iV (s : Int)), (3, iV b), (4, iV to), (0, rV m)] [] ty sz g Q := by
  intro n
  induction n with
  | zero =>
    intro s g h1 F hP hm9
    exfalso
    omega
  | succ n ih =>
    intro s g h1 F hP hm9
    have hM0 := hM
    obtain ⟨m9, m0, a1, a2, a3, a4, a5, a6, a7, a8, a9, a10, a11, a12, a13, a14, a15, a16, a17, a18, a19, a20, a21⟩ := hM
    refine x_iload (pc := 104) dX7_putKind_104 rfl ?_
    refine x_bipush (pc := 106) dX7_putKind_106 (by decide) ?_
    refine x_icmp_ge (pc := 108) 224 dX7_putKind_108 rfl (fun c_108 => ?_) (fun c_108 => ?_)
    · (try simp (disch := omega) only [zb_e0, zb_n0, w32_id, w64_id, ne_eq, Classical.not_not] at c_108)
      rw [show s = 10 by omega] at hP
      exact x_loc _ (by exact ⟨rfl, rfl, rfl, trivial⟩) (hk g F hP)
    · (try simp (disch := omega) only [zb_e0, zb_n0, w32_id, w64_id, ne_eq, Classical.not_not] at c_108)
      refine x_iload (pc := 111) dX7_putKind_111 rfl ?_
      refine x_iconst (pc := 113) dX7_putKind_113 ?_
      refine x_iadd (pc := 114) dX7_putKind_114 ?_
      refine x_istore (pc := 115) dX7_putKind_115 (by decide) ?_
      have hw9 : wS (gL (fun s => gL (apF kr s) 10) (s + 1)) ≤ wS (gL (fun s => gL (apF kr s) 10) 10) := gL_wle (by omega)
      rw [gL_s, wS_app] at hw9
      refine x_loc _ (by exact ⟨by show _ = some (iV ((s + 1 : Nat) : Int)); rfl, rfl, rfl, rfl, rfl, trivial⟩) (c_m_pk117 (T := T ++ semT (gL (fun s => gL (apF kr s) 10) s)) (s := s) hM0 (by omega) (hR.frq F) hto hb hB hu (by simp only [List.length_append, semT_w] at hl ⊢; omega) (fun g1 F1 P1 => ?_) 11 (s + 1) g (by omega) (FrQ.rf _ _) (by rw [gL_apF0 kr s (s + 1) (Nat.le_refl _)]; show PA g m (T ++ semT (gL (fun s => gL (apF kr s) 10) s) ++ []); rw [List.append_nil]; exact hP) (by omega))
      refine c_m_pk218 (ih (s + 1) g1 (by omega) (F.t F1) ?_ (by omega))
      rw [gL_s, semT_app, ← List.append_assoc]
      exact P1

set_option maxHeartbeats 4000000 in
set_option maxRecDepth 100000 in
theorem c_m_pk83 {m : Int} (hM : isMT ty m) {T : List Int} {b to : Int} {kr : List Row} (hR : MR h m b kr) (hto : to = b + kr.length) (hb : 0 ≤ b ∧ b + kr.length ≤ 3120) (hB : ∀ r ∈ kr, rowB r) (hu : ∀ s t : Int, (kr.filter (mEx s t)).length ≤ 1) (hP : PA h m T) (hl : (T ++ semT (nmL 90 kr ++ (nmL 88 kr ++ (exL9 kr ++ (liL 68 kr ++ (liL 77 kr ++ (liL 70 kr ++ liL 82 kr))))))).length ≤ 2000) (hq : ∀ h', FrQ m h h' → PA h' m (T ++ semT (nmL 90 kr ++ (nmL 88 kr ++ (exL9 kr ++ (liL 68 kr ++ (liL 77 kr ++ (liL 70 kr ++ liL 82 kr))))))) → Q (some (iV 1)) ty sz h') : zX D mX7_putKind (d + 4) 0 0 83 [(3, iV b), (4, iV to), (0, rV m)] [] ty sz h Q := by
  have hM0 := hM
  obtain ⟨m9, m0, a1, a2, a3, a4, a5, a6, a7, a8, a9, a10, a11, a12, a13, a14, a15, a16, a17, a18, a19, a20, a21⟩ := hM
  refine x_aload_n (pc := 83) dX7_putKind_83 rfl ?_
  refine x_iload_n (pc := 84) dX7_putKind_84 rfl ?_
  refine x_iload (pc := 85) dX7_putKind_85 rfl ?_
  refine x_bipush (pc := 87) dX7_putKind_87 (by decide) ?_
  refine x_callV3 (pc := 89) dX7_putKind_89 (k_RX7_233 _ rfl) tmv_X7_putEach (by assumption) rfl rfl rfl ?_
  refine x_room (d' := d + 3) (by omega) (Nat.le_refl _) (Nat.le_refl _) (c_m_putEach (c := 90) hM0 hR hto hb hB (by omega) hP (by show (T ++ semT (nmL 90 kr)).length ≤ 2000; simp only [List.length_append, semT_app, semT_w, wS_app] at hl ⊢; omega) (fun g1 F1 P1 => ?_))
  dsimp only [Option.toList, List.cons_append, List.nil_append]
  refine x_aload_n (pc := 92) dX7_putKind_92 rfl ?_
  refine x_iload_n (pc := 93) dX7_putKind_93 rfl ?_
  refine x_iload (pc := 94) dX7_putKind_94 rfl ?_
  refine x_bipush (pc := 96) dX7_putKind_96 (by decide) ?_
  refine x_callV3 (pc := 98) dX7_putKind_98 (k_RX7_233 _ rfl) tmv_X7_putEach (by assumption) rfl rfl rfl ?_
  refine x_room (d' := d + 3) (by omega) (Nat.le_refl _) (Nat.le_refl _) (c_m_putEach (c := 88) hM0 (hR.frq F1) hto hb hB (by omega) P1 (by show (T ++ semT (nmL 90 kr) ++ semT (nmL 88 kr)).length ≤ 2000; simp only [List.length_append, semT_app, semT_w, wS_app] at hl ⊢; omega) (fun g2 F2 P2 => ?_))
  dsimp only [Option.toList, List.cons_append, List.nil_append]
  refine x_iconst (pc := 101) dX7_putKind_101 ?_
  refine x_istore (pc := 102) dX7_putKind_102 (by decide) ?_
  have P3 : PA g2 m (T ++ semT (nmL 90 kr) ++ semT (nmL 88 kr)) := P2
  refine x_loc _ (by exact ⟨by show _ = some (iV ((0 : Nat) : Int)); rfl, rfl, rfl, rfl, trivial⟩) (c_m_pk104 (T := T ++ semT (nmL 90 kr) ++ semT (nmL 88 kr)) hM0 (hR.frq (F1.t F2)) hto hb hB hu (by show (T ++ semT (nmL 90 kr) ++ semT (nmL 88 kr) ++ semT (exL9 kr)).length ≤ 2000; simp only [List.length_append, semT_app, semT_w, wS_app] at hl ⊢; omega) (fun g3 F3 P4 => ?_) 11 0 g2 (by omega) (FrQ.rf _ _) (by show PA g2 m (T ++ semT (nmL 90 kr) ++ semT (nmL 88 kr) ++ []); rw [List.append_nil]; exact P3) (by omega))
  have P5 : PA g3 m (T ++ semT (nmL 90 kr) ++ semT (nmL 88 kr) ++ semT (exL9 kr)) := P4
  refine c_m_pk224 hM0 (hR.frq ((F1.t F2).t F3)) hto hb hB P5 (by simp only [List.length_append, semT_app, semT_w, wS_app] at hl ⊢; omega) (fun g4 F4 P6 => ?_)
  refine hq g4 (((F1.t F2).t F3).t F4) ?_
  simp only [semT_app, List.append_assoc] at P6 ⊢
  exact P6

set_option maxHeartbeats 4000000 in
set_option maxRecDepth 100000 in
theorem c_m_pk36 {m : Int} (hM : isMT ty m) {T : List Int} {b to : Int} {kr : List Row} (hR : MR h m b kr) (hto : to = b + kr.length) (hb : 0 ≤ b ∧ b + kr.length ≤ 3120) (hB : ∀ r ∈ kr, rowB r) (hl : (T ++ semT (stL kr)).length ≤ 2000) (hk : ∀ g, FrQ m h g → PA g m (T ++ semT (stL kr)) → zX D mX7_putKind (d + 4) 0 0 83 [(3, iV b), (4, iV to), (0, rV m)] [] ty sz g Q) : ∀ (n : Nat) (u : Nat) (g : zH), u ≤ kr.length → FrQ m h g → PA g m (T ++ semT (stL (kr.take u))) → kr.length - u < n → zX D mX7_putKind (d + 4) 0 0 36 [(5, iV (b + u)), (3, iV b), (4, iV to), (0, rV m)] [] ty sz g Q := by
  intro n
  induction n with
  | zero =>
    intro u g h1 F hP hm9
    exfalso
    omega
  | succ n ih =>
    intro u g h1 F hP hm9
    have hM0 := hM
    obtain ⟨m9, m0, a1, a2, a3, a4, a5, a6, a7, a8, a9, a10, a11, a12, a13, a14, a15, a16, a17, a18, a19, a20, a21⟩ := hM
    refine x_iload (pc := 36) dX7_putKind_36 rfl ?_
    refine x_iload (pc := 38) dX7_putKind_38 rfl ?_
    refine x_icmp_ge (pc := 40) 83 dX7_putKind_40 rfl (fun c_40 => ?_) (fun c_40 => ?_)
    · (try simp (disch := omega) only [zb_e0, zb_n0, w32_id, w64_id, ne_eq, Classical.not_not] at c_40)
      rw [show u = kr.length by omega, List.take_length] at hP
      exact x_loc _ (by exact ⟨rfl, rfl, rfl, trivial⟩) (hk g F hP)
    · (try simp (disch := omega) only [zb_e0, zb_n0, w32_id, w64_id, ne_eq, Classical.not_not] at c_40)
      obtain ⟨r, hr⟩ : ∃ r, kr[u]? = some r := ⟨_, List.getElem?_eq_getElem (by omega)⟩
      obtain ⟨r1, r2, r3, r4⟩ := (hR.frq F) u r hr
      have htk := take_snoc hr
      have hBR := hB r (List.mem_of_getElem? hr)
      have hrl : 0 ≤ r.1 ∧ r.1 ≤ 100 := by
        have := hBR.1
        unfold isRowL at this
        omega
      have hb2 := hBR.2.1
      have hb3 := hBR.2.2.1
      refine x_aload_n (pc := 43) dX7_putKind_43 rfl ?_
      refine x_getF (pc := 44) dX7_putKind_44 f_RX7_13 (by assumption) (by rfl) ?_
      refine x_iload (pc := 47) dX7_putKind_47 rfl ?_
      refine x_iald (pc := 49) dX7_putKind_49 (by assumption) (by omega) (by omega) (fun b_49 => ?_)
      rw [r1] at b_49 ⊢
      refine x_bipush (pc := 50) dX7_putKind_50 (by decide) ?_
      refine x_icmp_ne (pc := 52) 77 dX7_putKind_52 rfl (fun c_52 => ?_) (fun c_52 => ?_)
      · (try simp (disch := omega) only [zb_e0, zb_n0, w32_id, w64_id, ne_eq, Classical.not_not] at c_52)
        refine x_iinc (pc := 77) dX7_putKind_77 rfl (by decide) ?_
        refine x_goto (pc := 80) 36 dX7_putKind_80 rfl ?_
        refine x_loc _ (by exact ⟨by show _ = some (iV (b + ((u + 1 : Nat) : Int))); rw [show b + ((u + 1 : Nat) : Int) = b + u + 1 by omega]; rfl, rfl, rfl, rfl, trivial⟩) (ih (u + 1) g (by omega) F ?_ (by omega))
        rw [htk, stL_snoc, if_neg (by omega)]
        exact hP
      · (try simp (disch := omega) only [zb_e0, zb_n0, w32_id, w64_id, ne_eq, Classical.not_not] at c_52)
        refine x_aload_n (pc := 55) dX7_putKind_55 rfl ?_
        refine x_bipush (pc := 56) dX7_putKind_56 (by decide) ?_
        refine x_iconst (pc := 58) dX7_putKind_58 ?_
        refine x_aload_n (pc := 59) dX7_putKind_59 rfl ?_
        refine x_getF (pc := 60) dX7_putKind_60 f_RX7_16 (by assumption) (by rfl) ?_
        refine x_iload (pc := 63) dX7_putKind_63 rfl ?_
        refine x_iald (pc := 65) dX7_putKind_65 (by assumption) (by omega) (by omega) (fun b_65 => ?_)
        rw [r2] at b_65 ⊢
        refine x_aload_n (pc := 66) dX7_putKind_66 rfl ?_
        refine x_getF (pc := 67) dX7_putKind_67 f_RX7_19 (by assumption) (by rfl) ?_
        refine x_iload (pc := 70) dX7_putKind_70 rfl ?_
        refine x_iald (pc := 72) dX7_putKind_72 (by assumption) (by omega) (by omega) (fun b_72 => ?_)
        rw [r3] at b_72 ⊢
        refine x_iconst (pc := 73) dX7_putKind_73 ?_
        refine x_callV5 (pc := 74) dX7_putKind_74 (k_RX7_229 _ rfl) tmv_X7_putRow (by assumption) rfl rfl rfl ?_
        have hw9 := stL_wle kr (u + 1)
        rw [htk, stL_snoc, if_pos (by omega), wS_app, wS_1] at hw9
        have e9 : (59 :: rT (83, r.2.1, r.2.2.1, -1)).length = wR (83, r.2.1, r.2.2.1, -1) := rfl
        refine x_room (d' := d + 2) (by omega) (Nat.le_refl _) (Nat.le_refl _) (c_m_putRow2 hM0 (by omega) (by omega) (by omega) hP (by rw [List.length_append, e9]; simp only [List.length_append, semT_w] at hl ⊢; omega) (fun g1 F1 P1 => ?_))
        dsimp only [Option.toList, List.cons_append, List.nil_append]
        refine x_iinc (pc := 77) dX7_putKind_77 rfl (by decide) ?_
        refine x_goto (pc := 80) 36 dX7_putKind_80 rfl ?_
        refine x_loc _ (by exact ⟨by show _ = some (iV (b + ((u + 1 : Nat) : Int))); rw [show b + ((u + 1 : Nat) : Int) = b + u + 1 by omega]; rfl, rfl, rfl, rfl, trivial⟩) (ih (u + 1) g1 (by omega) (F.t F1) ?_ (by omega))
        rw [htk, stL_snoc, if_pos (by omega), semT_app, semT_1, ← List.append_assoc]
        exact P1

set_option maxHeartbeats 4000000 in
set_option maxRecDepth 100000 in
theorem c_m_putKind {m : Int} (hM : isMT ty m) {e k : Int} {l : List Row} {T : List Int} (hk : 0 ≤ k ∧ k ≤ 9) (he : 0 ≤ e ∧ e ≤ 4) (hR : MR h m (520 * e) l) (hn : h (m + 6) e = l.length ∧ l.length ≤ 510) (hW : WF l) (hP : PA h m T) (hl : kR k l ≠ [] → T.length + (semT (krPR k (kR k l))).length ≤ 2001) (hq0 : kR k l = [] → Q (some (iV 0)) ty sz h) (hq1 : kR k l ≠ [] → ∀ h', FrQ m h h' → PA h' m (T ++ (semT (krPR k (kR k l))).tail) → Q (some (iV 1)) ty sz h') : zXM D mX7_putKind (d + 4) 0 0 [rV m, iV e, iV k] ty sz h Q := by
  have hM0 := hM
  obtain ⟨m9, m0, a1, a2, a3, a4, a5, a6, a7, a8, a9, a10, a11, a12, a13, a14, a15, a16, a17, a18, a19, a20, a21⟩ := hM
  refine x_aload_n (pc := 0) dX7_putKind_0 rfl ?_
  refine x_iload_n (pc := 1) dX7_putKind_1 rfl ?_
  refine x_iload_n (pc := 2) dX7_putKind_2 rfl ?_
  refine x_callV2 (pc := 3) dX7_putKind_3 (k_RX7_187 _ rfl) tmv_X7_kindRow (by assumption) rfl rfl rfl ?_
  refine x_room (d' := d) (by omega) (Nat.le_refl _) (Nat.le_refl _) (c_m_kindRow hM0 (by omega) (by omega) hR hn hW (fun res hres => ?_))
  have hrs : -1 ≤ res ∧ res ≤ 4000 := by
    rcases hres with ⟨z, -⟩ | ⟨j, R, z1, z2, -⟩
    · omega
    · have := (List.getElem?_eq_some_iff.mp z2).1
      omega
  dsimp only [Option.toList, List.cons_append, List.nil_append]
  refine x_istore_n (pc := 6) dX7_putKind_6 (by decide) ?_
  refine x_iload_n (pc := 7) dX7_putKind_7 rfl ?_
  refine x_iconst (pc := 8) dX7_putKind_8 ?_
  refine x_icmp_ne (pc := 9) 14 dX7_putKind_9 rfl (fun c_9 => ?_) (fun c_9 => ?_)
  · (try simp (disch := omega) only [zb_e0, zb_n0, w32_id, w64_id, ne_eq, Classical.not_not] at c_9)
    refine x_aload_n (pc := 14) dX7_putKind_14 rfl ?_
    refine x_iload_n (pc := 15) dX7_putKind_15 rfl ?_
    refine x_iload_n (pc := 16) dX7_putKind_16 rfl ?_
    refine x_callV2 (pc := 17) dX7_putKind_17 (k_RX7_192 _ rfl) tmv_X7_kindEnd (by assumption) rfl rfl rfl ?_
    rcases hres with ⟨z, -⟩ | ⟨j, R, z1, z2, z3, z4⟩
    · exact absurd z c_9
    have hjl := (List.getElem?_eq_some_iff.mp z2).1
    refine x_room (d' := d) (by omega) (Nat.le_refl _) (Nat.le_refl _) (c_m_kindEnd hM0 z1 z2 z3 z4 (by omega) hR hn hW (fun hMR => ?_))
    have hkn : kR k l ≠ [] := (kR_ne k l hW).mpr ⟨R, List.mem_of_getElem? z2, z3, z4⟩
    have hkl : (kR k l).length ≤ l.length := kR_le k l
    have hB : ∀ r ∈ kR k l, rowB r := fun r hr => WF_B l hW r (kR_sub k l r hr)
    have hl := hl hkn
    have hu : ∀ s t : Int, ((kR k l).filter (mEx s t)).length ≤ 1 := fun s t => ex_one s t l hW k
    rw [krPR_eq hB, semT_c] at hl
    have hq2 := hq1 hkn
    rw [krPR_eq hB, semT_c, List.tail_cons] at hq2
    have hrT : rT (75, k, -1, -1) = [75] ++ numT k := by simp [rT]
    rw [hrT] at hl hq2
    generalize kR k l = kr at *
    have hKT : krT kr = stL kr ++ (nmL 90 kr ++ (nmL 88 kr ++ (exL9 kr ++ (liL 68 kr ++ (liL 77 kr ++ (liL 70 kr ++ liL 82 kr)))))) := rfl
    rw [hKT] at hl hq2
    simp only [List.length_cons, List.length_append, List.length_nil, semT_app, semT_w, wS_app] at hl
    dsimp only [Option.toList, List.cons_append, List.nil_append]
    refine x_istore (pc := 20) dX7_putKind_20 (by decide) ?_
    refine x_aload_n (pc := 22) dX7_putKind_22 rfl ?_
    refine x_bipush (pc := 23) dX7_putKind_23 (by decide) ?_
    refine x_callV1 (pc := 25) dX7_putKind_25 (k_RX7_223 _ rfl) tmv_X7_put (by assumption) rfl rfl rfl ?_
    refine x_room (d' := d) (by omega) (Nat.le_refl _) (Nat.le_refl _) (c_m_put hM0 (by omega) hP (by omega) (fun g1 F1 P1 => ?_))
    dsimp only [Option.toList, List.cons_append, List.nil_append]
    refine x_aload_n (pc := 28) dX7_putKind_28 rfl ?_
    refine x_iload_n (pc := 29) dX7_putKind_29 rfl ?_
    refine x_callV1 (pc := 30) dX7_putKind_30 (k_RX7_226 _ rfl) tmv_X7_putNumber (by assumption) rfl rfl rfl ?_
    refine x_room (d' := d + 1) (by omega) (Nat.le_refl _) (Nat.le_refl _) (c_m_putNumber hM0 (by omega) P1 (by simp only [List.length_append, List.length_cons, List.length_nil]; omega) (fun g2 F2 P2 => ?_))
    dsimp only [Option.toList, List.cons_append, List.nil_append]
    refine x_iload_n (pc := 33) dX7_putKind_33 rfl ?_
    refine x_istore (pc := 34) dX7_putKind_34 (by decide) ?_
    refine x_loc _ (by exact ⟨by show _ = some (iV (res + ((0 : Nat) : Int))); rw [show res + ((0 : Nat) : Int) = res by omega]; rfl, rfl, rfl, rfl, trivial⟩) (c_m_pk36 (T := T ++ [75] ++ numT k) hM0 (hMR.frq (F1.t F2)) rfl (by omega) hB (by simp only [List.length_append, List.length_cons, List.length_nil, semT_w]; omega) (fun g3 F3 P3 => ?_) (kr.length + 1) 0 g2 (by omega) (FrQ.rf _ _) (by rw [List.take_zero]; show PA g2 m (T ++ [75] ++ numT k ++ []); rw [List.append_nil]; exact P2) (by omega))
    refine c_m_pk83 hM0 (hMR.frq ((F1.t F2).t F3)) rfl (by omega) hB hu P3 (by simp only [List.length_append, List.length_cons, List.length_nil, semT_app, semT_w, wS_app]; omega) (fun g4 F4 P4 => ?_)
    refine hq2 g4 (((F1.t F2).t F3).t F4) ?_
    simp only [semT_app, List.append_assoc] at P4 ⊢
    exact P4
  · (try simp (disch := omega) only [zb_e0, zb_n0, w32_id, w64_id, ne_eq, Classical.not_not] at c_9)
    refine x_iconst (pc := 12) dX7_putKind_12 ?_
    refine x_retv (pc := 13) ⟨dX7_putKind_13, Or.inr ⟨rfl, (by decide)⟩⟩ ?_
    rcases hres with ⟨-, z⟩ | ⟨j, R, z1, -⟩
    · exact hq0 z
    · omega

end C44
