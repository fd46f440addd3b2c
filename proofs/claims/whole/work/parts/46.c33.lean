section C33
variable {D : va_G} {d : Nat} {ty : zT} {sz : Nat} {h : zH} {Q : zQ}
def srv1 (kr : List Row) (k : Nat) (n : Nat) : Prop := ∀ s : Nat, s < n → k.testBit s = true → exL 88 s kr
def srvR (k : Nat) (r : Row) : Prop := r.1 = 69 ∧ k.testBit r.2.1.toNat = true ∧ k.testBit r.2.2.1.toNat = true
def srv2 (k : Nat) (l : List Row) : Prop := ∀ r ∈ l, ¬ srvR k r
theorem srv1_0 (kr : List Row) (k : Nat) : srv1 kr k 0 := fun s hs => by omega
theorem srv1_s (kr : List Row) (k n : Nat) : srv1 kr k (n + 1) ↔ srv1 kr k n ∧ (k.testBit n = true → exL 88 n kr) := by
  constructor
  · exact fun h => ⟨fun s hs => h s (by omega), h n (by omega)⟩
  · intro ⟨h1, h2⟩ s hs
    by_cases e : s = n
    · subst e; exact h2
    · exact h1 s (by omega)
theorem srv2_nil (k : Nat) : srv2 k [] := fun r hr => by simp at hr
theorem srv2_s (k : Nat) (l : List Row) (r : Row) : srv2 k (l ++ [r]) ↔ srv2 k l ∧ ¬ srvR k r := by
  constructor
  · exact fun h => ⟨fun q hq => h q (List.mem_append_left _ hq), h r (by simp)⟩
  · intro ⟨h1, h2⟩ q hq
    rcases List.mem_append.mp hq with z | z
    · exact h1 q z
    · rw [List.mem_singleton.mp z]; exact h2
theorem PK_lk {b : Int} {kr : List Row} {c z res : Int} (hb : 0 ≤ b) (hp : PK (fun r => r.1 == c && r.2.1 == z) b kr kr.length res) : (res = -1 ∧ ¬ exL c z kr ∧ lk c z kr = -1) ∨ ∃ (j : Nat) (R : Row), res = b + j ∧ 0 ≤ res ∧ kr[j]? = some R ∧ R.1 = c ∧ R.2.1 = z ∧ exL c z kr ∧ lk c z kr = R.2.2.1 := by
  rcases hp with ⟨p1, p2⟩ | ⟨j, R, p1, p2, p3⟩
  · rw [List.take_length] at p2
    refine Or.inl ⟨p1, fun ⟨r, hr, e1, e2⟩ => (lastR_none kr).mp p2 r hr (by simp [e1, e2]), ?_⟩
    unfold lk
    rw [p2]
  · rw [List.take_length] at p3
    obtain ⟨h1, h2⟩ := lastR_mem kr p3
    simp at h2
    refine Or.inr ⟨j, R, p1, by omega, p2, h2.1, h2.2, ⟨R, h1, h2⟩, ?_⟩
    unfold lk
    rw [p3]
theorem PK_fl {b : Int} {kr : List Row} {c res : Int} (hb : 0 ≤ b) (hp : PK (fun r => r.1 == c) b kr kr.length res) : (res = -1 ∧ ∀ f, fl c f kr = -1) ∨ ∃ (j : Nat) (R : Row), res = b + j ∧ 0 ≤ res ∧ kr[j]? = some R ∧ R.1 = c ∧ ∀ f, fl c f kr = f R := by
  rcases hp with ⟨p1, p2⟩ | ⟨j, R, p1, p2, p3⟩
  · rw [List.take_length] at p2
    refine Or.inl ⟨p1, fun f => ?_⟩
    unfold fl
    rw [p2]
  · rw [List.take_length] at p3
    obtain ⟨h1, h2⟩ := lastR_mem kr p3
    simp at h2
    refine Or.inr ⟨j, R, p1, by omega, p2, h2, fun f => ?_⟩
    unfold fl
    rw [p3]
theorem vH_has {kr : List Row} {it : IT} (hb : it.2.2.2.2.2 < 1024) {s : Int} (h0 : 0 ≤ s) (h1 : s ≤ 9) : hasS (vH kr it) 10 s ↔ it.2.2.2.2.2.testBit s.toNat = true := by
  unfold hasS
  rw [(vH_I kr it).2.2.2.2.2]
  exact zbit hb h0 h1
theorem kServ_srv {kr : List Row} {it : IT} (hB : ∀ r ∈ kr, rowB r) (hb : it.2.2.2.2.2 < 1024) : kServ (vH kr it) 0 10 ↔ srv1 kr it.2.2.2.2.2 10 ∧ srv2 it.2.2.2.2.2 kr := by
  have hK := vH_K kr it
  have hI := vH_I kr it
  unfold kServ
  constructor
  · intro h
    refine ⟨fun s hs ht => ?_, fun r hr ⟨e, t1, t2⟩ => ?_⟩
    · have := (h s (by omega) (by omega) ((vH_has hb (by omega) (by omega)).mpr (by rw [Int.toNat_natCast]; exact ht))).1
      rw [(hK.2.2.2.1 s (by omega) (by omega)).2.1] at this
      exact (lk_ex hB).mp this
    · obtain ⟨r1, r2, r3⟩ := (hB r hr).2.2.2.2.2.2.2.1 e
      have := (h r.2.1 (by omega) (by omega) ((vH_has hb (by omega) (by omega)).mpr t1)).2
      rw [(hK.2.2.2.1 r.2.1 (by omega) (by omega)).2.2, hI.2.2.2.2.2, zmeet (exM_lt _ _ hB) hb] at this
      exact this r.2.2.1.toNat (by omega) ⟨(ap_ex r2 kr hB).mpr ⟨r, hr, e, Or.inl ⟨rfl, rfl⟩⟩, t2⟩
  · intro ⟨h1, h2⟩ s s0 s1 hs
    have ht := (vH_has hb s0 (by omega)).mp hs
    rw [(hK.2.2.2.1 s s0 s1).2.1, (hK.2.2.2.1 s s0 s1).2.2, hI.2.2.2.2.2, zmeet (exM_lt _ _ hB) hb]
    refine ⟨?_, fun t ht2 ⟨z1, z2⟩ => ?_⟩
    · have := h1 s.toNat (by omega) ht
      rw [show ((s.toNat : Nat) : Int) = s by omega] at this
      exact (lk_ex hB).mpr this
    · have z1' : (exM kr s).testBit ((t : Int)).toNat = true := by rw [Int.toNat_natCast]; exact z1
      obtain ⟨r, hr, e, q⟩ := (ap_ex (by omega) kr hB).mp z1'
      rcases q with ⟨q1, q2⟩ | ⟨q1, q2⟩
      · exact h2 r hr ⟨e, by rw [q1]; exact ht, by rw [q2, Int.toNat_natCast]; exact z2⟩
      · exact h2 r hr ⟨e, by rw [q1, Int.toNat_natCast]; exact z2, by rw [q2]; exact ht⟩

set_option maxHeartbeats 4000000 in
set_option maxRecDepth 100000 in
theorem c_m_serve63 {m : Int} (hM : isMT ty m) {i b to : Int} {kr : List Row} {k : Nat} (hi : 0 ≤ i ∧ i < 100) (hH : HasIs h m i k) (hR : MR h m b kr) (hto : to = b + kr.length) (hb : 0 ≤ b ∧ b + kr.length ≤ 3120) (hB : ∀ r ∈ kr, rowB r) {P : Prop} (hq : Q (some (iV (zb (P ∧ srv2 k kr)))) ty sz h) : ∀ (n : Nat) (u : Nat), u ≤ kr.length → kr.length - u < n → zX D mX7_mayServe (d + 1) 0 0 63 [(5, iV (b + u)), (4, iV (zb (P ∧ srv2 k (kr.take u)))), (0, rV m), (1, iV i), (2, iV b), (3, iV to)] [] ty sz h Q := by
  intro n
  induction n with
  | zero =>
    intro u h1 hm
    exfalso
    omega
  | succ n ih =>
    intro u h1 hm
    have hM0 := hM
    obtain ⟨m9, m0, a1, a2, a3, a4, a5, a6, a7, a8, a9, a10, a11, a12, a13, a14, a15, a16, a17, a18, a19, a20, a21⟩ := hM
    refine x_iload (pc := 63) dX7_mayServe_63 rfl ?_
    refine x_iload_n (pc := 65) dX7_mayServe_65 rfl ?_
    refine x_icmp_ge (pc := 66) 139 dX7_mayServe_66 rfl (fun c_66 => ?_) (fun c_66 => ?_)
    · (try simp (disch := omega) only [zb_e0, zb_n0, w32_id, w64_id, ne_eq, Classical.not_not] at c_66)
      refine x_iload (pc := 139) dX7_mayServe_139 rfl ?_
      refine x_retv (pc := 141) ⟨dX7_mayServe_141, Or.inr ⟨rfl, (zb_01 _)⟩⟩ ?_
      rw [show u = kr.length by omega, List.take_length]
      exact hq
    · (try simp (disch := omega) only [zb_e0, zb_n0, w32_id, w64_id, ne_eq, Classical.not_not] at c_66)
      obtain ⟨r, hr⟩ : ∃ r, kr[u]? = some r := ⟨_, List.getElem?_eq_getElem (by omega)⟩
      obtain ⟨r1, r2, r3, r4⟩ := hR u r hr
      have htk := take_snoc hr
      have hBr := hB r (List.mem_of_getElem? hr)
      refine x_iload (pc := 69) dX7_mayServe_69 rfl ?_
      refine x_if_eq (pc := 71) 130 dX7_mayServe_71 rfl (fun c_71 => ?_) (fun c_71 => ?_)
      · (try simp (disch := omega) only [zb_e0, zb_n0, w32_id, w64_id, ne_eq, Classical.not_not] at c_71)
        refine x_iconst (pc := 130) dX7_mayServe_130 ?_
        refine x_istore (pc := 131) dX7_mayServe_131 (by decide) ?_
        refine x_iinc (pc := 133) dX7_mayServe_133 rfl (by decide) ?_
        refine x_goto (pc := 136) 63 dX7_mayServe_136 rfl ?_
        first
        | (have hN : P ∧ srv2 k (kr.take (u + 1)) := by
             rw [htk, srv2_s]
             first
               | exact ⟨c_71.1, c_71.2, fun z => c_123 z.2.2⟩
               | exact ⟨c_71.1, c_71.2, fun z => c_103 z.2.1⟩
               | exact ⟨c_71.1, c_71.2, fun z => c_83 z.1⟩
           refine x_loc [(5, iV (b + ((u + 1 : Nat) : Int))), (4, iV (zb (P ∧ srv2 k (kr.take (u + 1))))), (0, rV m), (1, iV i), (2, iV b), (3, iV to)] (by rw [zb_t hN, show b + ((u + 1 : Nat) : Int) = b + u + 1 by omega]; exact ⟨rfl, rfl, rfl, rfl, rfl, rfl, trivial⟩) (ih (u + 1) (by omega) (by omega)))
        | (have hN : ¬ (P ∧ srv2 k (kr.take (u + 1))) := by
             rw [htk, srv2_s]
             intro z
             first
               | exact c_71 ⟨z.1, z.2.1⟩
               | exact z.2.2 ⟨c_83, c_103, c_123⟩
           refine x_loc [(5, iV (b + ((u + 1 : Nat) : Int))), (4, iV (zb (P ∧ srv2 k (kr.take (u + 1))))), (0, rV m), (1, iV i), (2, iV b), (3, iV to)] (by rw [zb_f hN, show b + ((u + 1 : Nat) : Int) = b + u + 1 by omega]; exact ⟨rfl, rfl, rfl, rfl, rfl, rfl, trivial⟩) (ih (u + 1) (by omega) (by omega)))
      · (try simp (disch := omega) only [zb_e0, zb_n0, w32_id, w64_id, ne_eq, Classical.not_not] at c_71)
        refine x_aload_n (pc := 74) dX7_mayServe_74 rfl ?_
        refine x_getF (pc := 75) dX7_mayServe_75 f_RX7_13 (by assumption) (by rfl) ?_
        refine x_iload (pc := 78) dX7_mayServe_78 rfl ?_
        refine x_iald (pc := 80) dX7_mayServe_80 (by assumption) (by omega) (by omega) (fun b_80 => ?_)
        rw [r1] at b_80 ⊢
        refine x_bipush (pc := 81) dX7_mayServe_81 (by decide) ?_
        refine x_icmp_ne (pc := 83) 126 dX7_mayServe_83 rfl (fun c_83 => ?_) (fun c_83 => ?_)
        · (try simp (disch := omega) only [zb_e0, zb_n0, w32_id, w64_id, ne_eq, Classical.not_not] at c_83)
          refine x_iconst (pc := 126) dX7_mayServe_126 ?_
          refine x_goto (pc := 127) 131 dX7_mayServe_127 rfl ?_
          refine x_istore (pc := 131) dX7_mayServe_131 (by decide) ?_
          refine x_iinc (pc := 133) dX7_mayServe_133 rfl (by decide) ?_
          refine x_goto (pc := 136) 63 dX7_mayServe_136 rfl ?_
          first
          | (have hN : P ∧ srv2 k (kr.take (u + 1)) := by
               rw [htk, srv2_s]
               first
                 | exact ⟨c_71.1, c_71.2, fun z => c_123 z.2.2⟩
                 | exact ⟨c_71.1, c_71.2, fun z => c_103 z.2.1⟩
                 | exact ⟨c_71.1, c_71.2, fun z => c_83 z.1⟩
             refine x_loc [(5, iV (b + ((u + 1 : Nat) : Int))), (4, iV (zb (P ∧ srv2 k (kr.take (u + 1))))), (0, rV m), (1, iV i), (2, iV b), (3, iV to)] (by rw [zb_t hN, show b + ((u + 1 : Nat) : Int) = b + u + 1 by omega]; exact ⟨rfl, rfl, rfl, rfl, rfl, rfl, trivial⟩) (ih (u + 1) (by omega) (by omega)))
          | (have hN : ¬ (P ∧ srv2 k (kr.take (u + 1))) := by
               rw [htk, srv2_s]
               intro z
               first
                 | exact c_71 ⟨z.1, z.2.1⟩
                 | exact z.2.2 ⟨c_83, c_103, c_123⟩
             refine x_loc [(5, iV (b + ((u + 1 : Nat) : Int))), (4, iV (zb (P ∧ srv2 k (kr.take (u + 1))))), (0, rV m), (1, iV i), (2, iV b), (3, iV to)] (by rw [zb_f hN, show b + ((u + 1 : Nat) : Int) = b + u + 1 by omega]; exact ⟨rfl, rfl, rfl, rfl, rfl, rfl, trivial⟩) (ih (u + 1) (by omega) (by omega)))
        · (try simp (disch := omega) only [zb_e0, zb_n0, w32_id, w64_id, ne_eq, Classical.not_not] at c_83)
          obtain ⟨n1, n2, n3⟩ := hBr.2.2.2.2.2.2.2.1 c_83
          refine x_aload_n (pc := 86) dX7_mayServe_86 rfl ?_
          refine x_getF (pc := 87) dX7_mayServe_87 f_RX7_43 (by assumption) (by rfl) ?_
          refine x_bipush (pc := 90) dX7_mayServe_90 (by decide) ?_
          refine x_iload_n (pc := 92) dX7_mayServe_92 rfl ?_
          refine x_imul (pc := 93) dX7_mayServe_93 ?_
          refine x_aload_n (pc := 94) dX7_mayServe_94 rfl ?_
          refine x_getF (pc := 95) dX7_mayServe_95 f_RX7_16 (by assumption) (by rfl) ?_
          refine x_iload (pc := 98) dX7_mayServe_98 rfl ?_
          refine x_iald (pc := 100) dX7_mayServe_100 (by assumption) (by omega) (by omega) (fun b_100 => ?_)
          rw [r2] at b_100 ⊢
          refine x_iadd (pc := 101) dX7_mayServe_101 ?_
          refine x_zald (pc := 102) dX7_mayServe_102 (by assumption) (by omega) (by omega) (fun b_102 => ?_)
          rw [hH.z (by omega) (by omega)]
          refine x_if_eq (pc := 103) 126 dX7_mayServe_103 rfl (fun c_103 => ?_) (fun c_103 => ?_)
          · (try simp (disch := omega) only [zb_e0, zb_n0, w32_id, w64_id, ne_eq, Classical.not_not] at c_103)
            refine x_iconst (pc := 126) dX7_mayServe_126 ?_
            refine x_goto (pc := 127) 131 dX7_mayServe_127 rfl ?_
            refine x_istore (pc := 131) dX7_mayServe_131 (by decide) ?_
            refine x_iinc (pc := 133) dX7_mayServe_133 rfl (by decide) ?_
            refine x_goto (pc := 136) 63 dX7_mayServe_136 rfl ?_
            first
            | (have hN : P ∧ srv2 k (kr.take (u + 1)) := by
                 rw [htk, srv2_s]
                 first
                   | exact ⟨c_71.1, c_71.2, fun z => c_123 z.2.2⟩
                   | exact ⟨c_71.1, c_71.2, fun z => c_103 z.2.1⟩
                   | exact ⟨c_71.1, c_71.2, fun z => c_83 z.1⟩
               refine x_loc [(5, iV (b + ((u + 1 : Nat) : Int))), (4, iV (zb (P ∧ srv2 k (kr.take (u + 1))))), (0, rV m), (1, iV i), (2, iV b), (3, iV to)] (by rw [zb_t hN, show b + ((u + 1 : Nat) : Int) = b + u + 1 by omega]; exact ⟨rfl, rfl, rfl, rfl, rfl, rfl, trivial⟩) (ih (u + 1) (by omega) (by omega)))
            | (have hN : ¬ (P ∧ srv2 k (kr.take (u + 1))) := by
                 rw [htk, srv2_s]
                 intro z
                 first
                   | exact c_71 ⟨z.1, z.2.1⟩
                   | exact z.2.2 ⟨c_83, c_103, c_123⟩
               refine x_loc [(5, iV (b + ((u + 1 : Nat) : Int))), (4, iV (zb (P ∧ srv2 k (kr.take (u + 1))))), (0, rV m), (1, iV i), (2, iV b), (3, iV to)] (by rw [zb_f hN, show b + ((u + 1 : Nat) : Int) = b + u + 1 by omega]; exact ⟨rfl, rfl, rfl, rfl, rfl, rfl, trivial⟩) (ih (u + 1) (by omega) (by omega)))
          · (try simp (disch := omega) only [zb_e0, zb_n0, w32_id, w64_id, ne_eq, Classical.not_not] at c_103)
            refine x_aload_n (pc := 106) dX7_mayServe_106 rfl ?_
            refine x_getF (pc := 107) dX7_mayServe_107 f_RX7_43 (by assumption) (by rfl) ?_
            refine x_bipush (pc := 110) dX7_mayServe_110 (by decide) ?_
            refine x_iload_n (pc := 112) dX7_mayServe_112 rfl ?_
            refine x_imul (pc := 113) dX7_mayServe_113 ?_
            refine x_aload_n (pc := 114) dX7_mayServe_114 rfl ?_
            refine x_getF (pc := 115) dX7_mayServe_115 f_RX7_19 (by assumption) (by rfl) ?_
            refine x_iload (pc := 118) dX7_mayServe_118 rfl ?_
            refine x_iald (pc := 120) dX7_mayServe_120 (by assumption) (by omega) (by omega) (fun b_120 => ?_)
            rw [r3] at b_120 ⊢
            refine x_iadd (pc := 121) dX7_mayServe_121 ?_
            refine x_zald (pc := 122) dX7_mayServe_122 (by assumption) (by omega) (by omega) (fun b_122 => ?_)
            rw [hH.z (by omega) (by omega)]
            refine x_if_ne (pc := 123) 130 dX7_mayServe_123 rfl (fun c_123 => ?_) (fun c_123 => ?_)
            · (try simp (disch := omega) only [zb_e0, zb_n0, w32_id, w64_id, ne_eq, Classical.not_not] at c_123)
              refine x_iconst (pc := 130) dX7_mayServe_130 ?_
              refine x_istore (pc := 131) dX7_mayServe_131 (by decide) ?_
              refine x_iinc (pc := 133) dX7_mayServe_133 rfl (by decide) ?_
              refine x_goto (pc := 136) 63 dX7_mayServe_136 rfl ?_
              first
              | (have hN : P ∧ srv2 k (kr.take (u + 1)) := by
                   rw [htk, srv2_s]
                   first
                     | exact ⟨c_71.1, c_71.2, fun z => c_123 z.2.2⟩
                     | exact ⟨c_71.1, c_71.2, fun z => c_103 z.2.1⟩
                     | exact ⟨c_71.1, c_71.2, fun z => c_83 z.1⟩
                 refine x_loc [(5, iV (b + ((u + 1 : Nat) : Int))), (4, iV (zb (P ∧ srv2 k (kr.take (u + 1))))), (0, rV m), (1, iV i), (2, iV b), (3, iV to)] (by rw [zb_t hN, show b + ((u + 1 : Nat) : Int) = b + u + 1 by omega]; exact ⟨rfl, rfl, rfl, rfl, rfl, rfl, trivial⟩) (ih (u + 1) (by omega) (by omega)))
              | (have hN : ¬ (P ∧ srv2 k (kr.take (u + 1))) := by
                   rw [htk, srv2_s]
                   intro z
                   first
                     | exact c_71 ⟨z.1, z.2.1⟩
                     | exact z.2.2 ⟨c_83, c_103, c_123⟩
                 refine x_loc [(5, iV (b + ((u + 1 : Nat) : Int))), (4, iV (zb (P ∧ srv2 k (kr.take (u + 1))))), (0, rV m), (1, iV i), (2, iV b), (3, iV to)] (by rw [zb_f hN, show b + ((u + 1 : Nat) : Int) = b + u + 1 by omega]; exact ⟨rfl, rfl, rfl, rfl, rfl, rfl, trivial⟩) (ih (u + 1) (by omega) (by omega)))
            · (try simp (disch := omega) only [zb_e0, zb_n0, w32_id, w64_id, ne_eq, Classical.not_not] at c_123)
              refine x_iconst (pc := 126) dX7_mayServe_126 ?_
              refine x_goto (pc := 127) 131 dX7_mayServe_127 rfl ?_
              refine x_istore (pc := 131) dX7_mayServe_131 (by decide) ?_
              refine x_iinc (pc := 133) dX7_mayServe_133 rfl (by decide) ?_
              refine x_goto (pc := 136) 63 dX7_mayServe_136 rfl ?_
              first
              | (have hN : P ∧ srv2 k (kr.take (u + 1)) := by
                   rw [htk, srv2_s]
                   first
                     | exact ⟨c_71.1, c_71.2, fun z => c_123 z.2.2⟩
                     | exact ⟨c_71.1, c_71.2, fun z => c_103 z.2.1⟩
                     | exact ⟨c_71.1, c_71.2, fun z => c_83 z.1⟩
                 refine x_loc [(5, iV (b + ((u + 1 : Nat) : Int))), (4, iV (zb (P ∧ srv2 k (kr.take (u + 1))))), (0, rV m), (1, iV i), (2, iV b), (3, iV to)] (by rw [zb_t hN, show b + ((u + 1 : Nat) : Int) = b + u + 1 by omega]; exact ⟨rfl, rfl, rfl, rfl, rfl, rfl, trivial⟩) (ih (u + 1) (by omega) (by omega)))
              | (have hN : ¬ (P ∧ srv2 k (kr.take (u + 1))) := by
                   rw [htk, srv2_s]
                   intro z
                   first
                     | exact c_71 ⟨z.1, z.2.1⟩
                     | exact z.2.2 ⟨c_83, c_103, c_123⟩
                 refine x_loc [(5, iV (b + ((u + 1 : Nat) : Int))), (4, iV (zb (P ∧ srv2 k (kr.take (u + 1))))), (0, rV m), (1, iV i), (2, iV b), (3, iV to)] (by rw [zb_f hN, show b + ((u + 1 : Nat) : Int) = b + u + 1 by omega]; exact ⟨rfl, rfl, rfl, rfl, rfl, rfl, trivial⟩) (ih (u + 1) (by omega) (by omega)))

set_option maxHeartbeats 4000000 in
set_option maxRecDepth 100000 in
theorem c_m_serve6 {m : Int} (hM : isMT ty m) {i b to : Int} {kr : List Row} {k : Nat} (hi : 0 ≤ i ∧ i < 100) (hH : HasIs h m i k) (hR : MR h m b kr) (hto : to = b + kr.length) (hb : 0 ≤ b ∧ b + kr.length ≤ 3120) (hB : ∀ r ∈ kr, rowB r) (hq : Q (some (iV (zb (srv1 kr k 10 ∧ srv2 k kr)))) ty sz h) : ∀ (n : Nat) (s : Nat), s ≤ 10 → 10 - s < n → zX D mX7_mayServe (d + 1) 0 0 6 [(5, iV (s : Int)), (4, iV (zb (srv1 kr k s))), (0, rV m), (1, iV i), (2, iV b), (3, iV to)] [] ty sz h Q := by
  intro n
  induction n with
  | zero =>
    intro s h1 hm
    exfalso
    omega
  | succ n ih =>
    intro s h1 hm
    have hM0 := hM
    obtain ⟨m9, m0, a1, a2, a3, a4, a5, a6, a7, a8, a9, a10, a11, a12, a13, a14, a15, a16, a17, a18, a19, a20, a21⟩ := hM
    refine x_iload (pc := 6) dX7_mayServe_6 rfl ?_
    refine x_bipush (pc := 8) dX7_mayServe_8 (by decide) ?_
    refine x_icmp_ge (pc := 10) 60 dX7_mayServe_10 rfl (fun c_10 => ?_) (fun c_10 => ?_)
    · (try simp (disch := omega) only [zb_e0, zb_n0, w32_id, w64_id, ne_eq, Classical.not_not] at c_10)
      refine x_iload_n (pc := 60) dX7_mayServe_60 rfl ?_
      refine x_istore (pc := 61) dX7_mayServe_61 (by decide) ?_
      rw [show s = 10 by omega]
      have hN : zb (srv1 kr k 10) = zb (srv1 kr k 10 ∧ srv2 k (kr.take 0)) := zb_c ⟨fun z => ⟨z, by rw [List.take_zero]; exact srv2_nil k⟩, fun z => z.1⟩
      rw [hN]
      exact x_loc _ (by exact ⟨by show _ = some (iV (b + ((0 : Nat) : Int))); rw [show b + ((0 : Nat) : Int) = b by omega]; rfl, rfl, rfl, rfl, rfl, rfl, trivial⟩) (c_m_serve63 hM0 hi hH hR hto hb hB hq (kr.length + 1) 0 (by omega) (by omega))
    · (try simp (disch := omega) only [zb_e0, zb_n0, w32_id, w64_id, ne_eq, Classical.not_not] at c_10)
      refine x_iload (pc := 13) dX7_mayServe_13 rfl ?_
      refine x_if_eq (pc := 15) 51 dX7_mayServe_15 rfl (fun c_15 => ?_) (fun c_15 => ?_)
      · (try simp (disch := omega) only [zb_e0, zb_n0, w32_id, w64_id, ne_eq, Classical.not_not] at c_15)
        refine x_iconst (pc := 51) dX7_mayServe_51 ?_
        refine x_istore (pc := 52) dX7_mayServe_52 (by decide) ?_
        refine x_iinc (pc := 54) dX7_mayServe_54 rfl (by decide) ?_
        refine x_goto (pc := 57) 6 dX7_mayServe_57 rfl ?_
        first
        | (have hN : srv1 kr k (s + 1) := by
             rw [srv1_s]
             first
               | exact ⟨c_15, fun z => absurd z c_30⟩
               | (refine ⟨c_15, fun _ => ?_⟩
                  rcases hpk with ⟨q, -, -⟩ | ⟨j, R, -, -, -, -, -, q, -⟩
                  · exact absurd q c_44
                  · exact q)
           refine x_loc [(5, iV ((s + 1 : Nat) : Int)), (4, iV (zb (srv1 kr k (s + 1)))), (0, rV m), (1, iV i), (2, iV b), (3, iV to)] (by rw [zb_t hN]; exact ⟨rfl, rfl, rfl, rfl, rfl, rfl, trivial⟩) (ih (s + 1) (by omega) (by omega)))
        | (have hN : ¬ srv1 kr k (s + 1) := by
             rw [srv1_s]
             intro z
             first
               | exact c_15 z.1
               | (rcases hpk with ⟨-, q, -⟩ | ⟨j, R, -, q, -⟩
                  · exact q (z.2 c_30)
                  · omega)
           refine x_loc [(5, iV ((s + 1 : Nat) : Int)), (4, iV (zb (srv1 kr k (s + 1)))), (0, rV m), (1, iV i), (2, iV b), (3, iV to)] (by rw [zb_f hN]; exact ⟨rfl, rfl, rfl, rfl, rfl, rfl, trivial⟩) (ih (s + 1) (by omega) (by omega)))
      · (try simp (disch := omega) only [zb_e0, zb_n0, w32_id, w64_id, ne_eq, Classical.not_not] at c_15)
        refine x_aload_n (pc := 18) dX7_mayServe_18 rfl ?_
        refine x_getF (pc := 19) dX7_mayServe_19 f_RX7_43 (by assumption) (by rfl) ?_
        refine x_bipush (pc := 22) dX7_mayServe_22 (by decide) ?_
        refine x_iload_n (pc := 24) dX7_mayServe_24 rfl ?_
        refine x_imul (pc := 25) dX7_mayServe_25 ?_
        refine x_iload (pc := 26) dX7_mayServe_26 rfl ?_
        refine x_iadd (pc := 28) dX7_mayServe_28 ?_
        refine x_zald (pc := 29) dX7_mayServe_29 (by assumption) (by omega) (by omega) (fun b_29 => ?_)
        rw [hH.z (z := (s : Int)) (by omega) (by omega), Int.toNat_natCast]
        refine x_if_eq (pc := 30) 47 dX7_mayServe_30 rfl (fun c_30 => ?_) (fun c_30 => ?_)
        · (try simp (disch := omega) only [zb_e0, zb_n0, w32_id, w64_id, ne_eq, Classical.not_not] at c_30)
          refine x_iconst (pc := 47) dX7_mayServe_47 ?_
          refine x_goto (pc := 48) 52 dX7_mayServe_48 rfl ?_
          refine x_istore (pc := 52) dX7_mayServe_52 (by decide) ?_
          refine x_iinc (pc := 54) dX7_mayServe_54 rfl (by decide) ?_
          refine x_goto (pc := 57) 6 dX7_mayServe_57 rfl ?_
          first
          | (have hN : srv1 kr k (s + 1) := by
               rw [srv1_s]
               first
                 | exact ⟨c_15, fun z => absurd z c_30⟩
                 | (refine ⟨c_15, fun _ => ?_⟩
                    rcases hpk with ⟨q, -, -⟩ | ⟨j, R, -, -, -, -, -, q, -⟩
                    · exact absurd q c_44
                    · exact q)
             refine x_loc [(5, iV ((s + 1 : Nat) : Int)), (4, iV (zb (srv1 kr k (s + 1)))), (0, rV m), (1, iV i), (2, iV b), (3, iV to)] (by rw [zb_t hN]; exact ⟨rfl, rfl, rfl, rfl, rfl, rfl, trivial⟩) (ih (s + 1) (by omega) (by omega)))
          | (have hN : ¬ srv1 kr k (s + 1) := by
               rw [srv1_s]
               intro z
               first
                 | exact c_15 z.1
                 | (rcases hpk with ⟨-, q, -⟩ | ⟨j, R, -, q, -⟩
                    · exact q (z.2 c_30)
                    · omega)
             refine x_loc [(5, iV ((s + 1 : Nat) : Int)), (4, iV (zb (srv1 kr k (s + 1)))), (0, rV m), (1, iV i), (2, iV b), (3, iV to)] (by rw [zb_f hN]; exact ⟨rfl, rfl, rfl, rfl, rfl, rfl, trivial⟩) (ih (s + 1) (by omega) (by omega)))
        · (try simp (disch := omega) only [zb_e0, zb_n0, w32_id, w64_id, ne_eq, Classical.not_not] at c_30)
          refine x_aload_n (pc := 33) dX7_mayServe_33 rfl ?_
          refine x_iload_n (pc := 34) dX7_mayServe_34 rfl ?_
          refine x_iload_n (pc := 35) dX7_mayServe_35 rfl ?_
          refine x_bipush (pc := 36) dX7_mayServe_36 (by decide) ?_
          refine x_iload (pc := 38) dX7_mayServe_38 rfl ?_
          refine x_callV4 (pc := 40) dX7_mayServe_40 (k_RX7_175 _ rfl) tmv_X7_rowOf (by assumption) rfl rfl rfl ?_
          refine c_m_rowOf hM0 (by omega) hR hto hb (fun res hpk => ?_)
          replace hpk := PK_lk hb.1 hpk
          dsimp only [Option.toList, List.cons_append, List.nil_append]
          refine x_iconst (pc := 43) dX7_mayServe_43 ?_
          refine x_icmp_eq (pc := 44) 51 dX7_mayServe_44 rfl (fun c_44 => ?_) (fun c_44 => ?_)
          · (try simp (disch := omega) only [zb_e0, zb_n0, w32_id, w64_id, ne_eq, Classical.not_not] at c_44)
            have hrs : -1 ≤ res ∧ res ≤ 4000 := by
              rcases hpk with ⟨q, -⟩ | ⟨j, R, q1, q2, q3, -⟩
              · omega
              · have := (List.getElem?_eq_some_iff.mp q3).1
                omega
            simp (disch := omega) only [w32_id] at c_44
            refine x_iconst (pc := 51) dX7_mayServe_51 ?_
            refine x_istore (pc := 52) dX7_mayServe_52 (by decide) ?_
            refine x_iinc (pc := 54) dX7_mayServe_54 rfl (by decide) ?_
            refine x_goto (pc := 57) 6 dX7_mayServe_57 rfl ?_
            first
            | (have hN : srv1 kr k (s + 1) := by
                 rw [srv1_s]
                 first
                   | exact ⟨c_15, fun z => absurd z c_30⟩
                   | (refine ⟨c_15, fun _ => ?_⟩
                      rcases hpk with ⟨q, -, -⟩ | ⟨j, R, -, -, -, -, -, q, -⟩
                      · exact absurd q c_44
                      · exact q)
               refine x_loc [(5, iV ((s + 1 : Nat) : Int)), (4, iV (zb (srv1 kr k (s + 1)))), (0, rV m), (1, iV i), (2, iV b), (3, iV to)] (by rw [zb_t hN]; exact ⟨rfl, rfl, rfl, rfl, rfl, rfl, trivial⟩) (ih (s + 1) (by omega) (by omega)))
            | (have hN : ¬ srv1 kr k (s + 1) := by
                 rw [srv1_s]
                 intro z
                 first
                   | exact c_15 z.1
                   | (rcases hpk with ⟨-, q, -⟩ | ⟨j, R, -, q, -⟩
                      · exact q (z.2 c_30)
                      · omega)
               refine x_loc [(5, iV ((s + 1 : Nat) : Int)), (4, iV (zb (srv1 kr k (s + 1)))), (0, rV m), (1, iV i), (2, iV b), (3, iV to)] (by rw [zb_f hN]; exact ⟨rfl, rfl, rfl, rfl, rfl, rfl, trivial⟩) (ih (s + 1) (by omega) (by omega)))
          · (try simp (disch := omega) only [zb_e0, zb_n0, w32_id, w64_id, ne_eq, Classical.not_not] at c_44)
            have hrs : -1 ≤ res ∧ res ≤ 4000 := by
              rcases hpk with ⟨q, -⟩ | ⟨j, R, q1, q2, q3, -⟩
              · omega
              · have := (List.getElem?_eq_some_iff.mp q3).1
                omega
            simp (disch := omega) only [w32_id] at c_44
            refine x_iconst (pc := 47) dX7_mayServe_47 ?_
            refine x_goto (pc := 48) 52 dX7_mayServe_48 rfl ?_
            refine x_istore (pc := 52) dX7_mayServe_52 (by decide) ?_
            refine x_iinc (pc := 54) dX7_mayServe_54 rfl (by decide) ?_
            refine x_goto (pc := 57) 6 dX7_mayServe_57 rfl ?_
            first
            | (have hN : srv1 kr k (s + 1) := by
                 rw [srv1_s]
                 first
                   | exact ⟨c_15, fun z => absurd z c_30⟩
                   | (refine ⟨c_15, fun _ => ?_⟩
                      rcases hpk with ⟨q, -, -⟩ | ⟨j, R, -, -, -, -, -, q, -⟩
                      · exact absurd q c_44
                      · exact q)
               refine x_loc [(5, iV ((s + 1 : Nat) : Int)), (4, iV (zb (srv1 kr k (s + 1)))), (0, rV m), (1, iV i), (2, iV b), (3, iV to)] (by rw [zb_t hN]; exact ⟨rfl, rfl, rfl, rfl, rfl, rfl, trivial⟩) (ih (s + 1) (by omega) (by omega)))
            | (have hN : ¬ srv1 kr k (s + 1) := by
                 rw [srv1_s]
                 intro z
                 first
                   | exact c_15 z.1
                   | (rcases hpk with ⟨-, q, -⟩ | ⟨j, R, -, q, -⟩
                      · exact q (z.2 c_30)
                      · omega)
               refine x_loc [(5, iV ((s + 1 : Nat) : Int)), (4, iV (zb (srv1 kr k (s + 1)))), (0, rV m), (1, iV i), (2, iV b), (3, iV to)] (by rw [zb_f hN]; exact ⟨rfl, rfl, rfl, rfl, rfl, rfl, trivial⟩) (ih (s + 1) (by omega) (by omega)))

set_option maxHeartbeats 4000000 in
set_option maxRecDepth 100000 in
theorem c_m_mayServe {m : Int} (hM : isMT ty m) {i b to : Int} {kr : List Row} {k : Nat} (hi : 0 ≤ i ∧ i < 100) (hH : HasIs h m i k) (hR : MR h m b kr) (hto : to = b + kr.length) (hb : 0 ≤ b ∧ b + kr.length ≤ 3120) (hB : ∀ r ∈ kr, rowB r) (hq : Q (some (iV (zb (srv1 kr k 10 ∧ srv2 k kr)))) ty sz h) : zXM D mX7_mayServe (d + 1) 0 0 [rV m, iV i, iV b, iV to] ty sz h Q := by
  have hM0 := hM
  obtain ⟨m9, m0, a1, a2, a3, a4, a5, a6, a7, a8, a9, a10, a11, a12, a13, a14, a15, a16, a17, a18, a19, a20, a21⟩ := hM
  refine x_iconst (pc := 0) dX7_mayServe_0 ?_
  refine x_istore (pc := 1) dX7_mayServe_1 (by decide) ?_
  refine x_iconst (pc := 3) dX7_mayServe_3 ?_
  refine x_istore (pc := 4) dX7_mayServe_4 (by decide) ?_
  exact x_loc _ (by exact ⟨rfl, by rw [zb_t (srv1_0 kr k)]; rfl, rfl, rfl, rfl, rfl, trivial⟩) (c_m_serve6 hM0 hi hH hR hto hb hB hq 11 0 (by omega) (by omega))

end C33
