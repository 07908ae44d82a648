/-! row, edition -/
theorem q_dm {x h : Int} (h0 : 0 ≤ x) (h1 : 1 ≤ h) : (0 ≤ x / h ∧ x / h ≤ x) ∧ 0 ≤ x % h ∧ x % h < h := ⟨⟨Int.ediv_nonneg h0 (by omega), Int.ediv_le_self _ h0⟩, Int.emod_nonneg _ (by omega), Int.emod_lt_of_pos _ (by omega)⟩
theorem q_pg {x h : Int} (h1 : 1 ≤ h) : (x + h - 1) / h = (x - 1) / h + 1 := by
  have := Int.add_mul_ediv_right (x - 1) 1 (show h ≠ 0 by omega)
  rw [Int.one_mul] at this
  rw [← this]; congr 1; omega
theorem q_adr1 {T : zSt} {U h e : Int} {R : Int → Int} {j1 : zSt → Option zRes} (hU : 0 ≤ U ∧ U ≤ 20) (hh : 1 ≤ h ∧ h ≤ 60) (he : T.1 9 = e) (he2 : 0 ≤ e ∧ e < 8) (hR : ∀ u, 0 ≤ u → u < U → T.2 24 (12 * u) = R u ∧ 0 ≤ R u ∧ R u ≤ 200000) : ∃ g, zl1 1000 (b_X2_add_53 U h j1) 0 T = j1 (zrp T 25 g) ∧ (∀ u, 0 ≤ u → u < U → g (20 * e + u) = 100 * (R u / h) + R u % h ∧ 0 ≤ g (20 * e + u)) ∧ ∀ j, (j < 20 * e ∨ 20 * e + U ≤ j) → g j = T.2 25 j := by
  refine zw1 (F := b_X2_add_53 U h j1) (fun d i S => 0 ≤ i ∧ i + d = U ∧ ∃ g, S = zrp T 25 g ∧ (∀ u, 0 ≤ u → u < i → g (20 * e + u) = 100 * (R u / h) + R u % h ∧ 0 ≤ g (20 * e + u)) ∧ ∀ j, (j < 20 * e ∨ 20 * e + i ≤ j) → g j = T.2 25 j) (fun x => ∃ g, x = j1 (zrp T 25 g) ∧ (∀ u, 0 ≤ u → u < U → g (20 * e + u) = 100 * (R u / h) + R u % h ∧ 0 ≤ g (20 * e + u)) ∧ ∀ j, (j < 20 * e ∨ 20 * e + U ≤ j) → g j = T.2 25 j) ?_ 1000 U.toNat 0 T ⟨by omega, by omega, T.2 25, (zrp_self T 25).symm, fun u u1 u2 => by omega, fun _ _ => rfl⟩ (by omega)
  rintro rec d i S ⟨h1, h2, g, rfl, h3, h4⟩
  by_cases c : U ≤ i
  · refine Or.inl ⟨g, ?_, ?_, ?_⟩
    · clear h3 h4 hR; simp (disch := omega) only [b_X2_add_53, zlt, zbd_s, zbx_l, zbx_r, zj0, zj1, zj2, zj3, zset_2, zput_1, if_true, if_false, zar_p, zld_p, zst_p, zdv_p, zrm_p, zc01_p, zb_p, zb_n, if_pos, if_neg]
    · rw [show U = i by omega]; exact h3
    · rw [show U = i by omega]; exact h4
  · obtain ⟨r1, r2, r3⟩ := hR i h1 (by omega)
    have dm := q_dm (x := R i) (h := h) r2 hh.1
    refine Or.inr ⟨d - 1, i + 1, zrp T 25 (zfu g (20 * e + i) (100 * (R i / h) + R i % h)), by omega, ⟨by omega, by omega, _, rfl, fun u u1 u2 => ?_, fun j j1 => ?_⟩, ?_⟩
    · by_cases q : u = i
      · subst q; rw [zfu_e]; exact ⟨rfl, by omega⟩
      · rw [zfu_n _ _ (show 20 * e + u ≠ 20 * e + i by omega)]; exact h3 u u1 (by omega)
    · rw [zfu_n _ _ (show j ≠ 20 * e + i by omega)]; exact h4 j (by omega)
    · have x1 : i * 12 = 12 * i := by omega
      have x2 : e * 20 + i = 20 * e + i := by omega
      have x3 : (zrp T 25 g).1 9 = e := he
      have x4 : (zrp T 25 g).2 24 (12 * i) = R i := r1
      have x5 : zput (zrp T 25 g) 25 (20 * e + i) (100 * (R i / h) + R i % h) = zrp T 25 (zfu g (20 * e + i) (100 * (R i / h) + R i % h)) := zput_rp _ _ _ _ _
      clear h3 h4 hR r1
      have z1 : ∀ k : Int → Option zRes, zdv (R i) h k = k (R i / h) := fun k => zdv_p ⟨by omega, by omega⟩
      have z2 : ∀ k : Int → Option zRes, zrm (R i) h k = k (R i % h) := fun k => zrm_p ⟨by omega, by omega⟩
      rw [← x5]
      clear x5
      generalize R i / h = A at *
      generalize R i % h = B at *
      generalize R i = r at *
      simp (disch := omega) only [b_X2_add_53, m_X6_rowOfUnit, p_at, zat_p, x1, x2, x3, x4, z1, z2, zlt, zbd_s, zbx_l, zbx_r, zj0, zj1, zj2, zj3, zset_2, zput_1, if_true, if_false, zar_p, zld_p, zst_p, zdv_p, zrm_p, zc01_p, zb_p, zb_n, if_pos, if_neg]
theorem q_adr2 {M : zSt} {U h e : Int} {j1 : zSt → Option zRes} (hU : 0 ≤ U ∧ U ≤ 20) (hh : 1 ≤ h ∧ h ≤ 60) (hM : M.1 2 = U) (he2 : 0 ≤ e ∧ e < 8) (hR : ∀ u, 0 ≤ u → u < U → 0 ≤ M.2 23 u ∧ M.2 23 u ≤ 200000) : ∃ g, zl1 1000 (b_X9_edition_94 h j1 e) 0 M = j1 (zrp M 22 g) ∧ (∀ u, 0 ≤ u → u < 20 → (u < U → g (20 * e + u) = 100 * (M.2 23 u / h) + M.2 23 u % h) ∧ (U ≤ u → g (20 * e + u) = -1)) ∧ ∀ j, (j < 20 * e ∨ 20 * e + 20 ≤ j) → g j = M.2 22 j := by
  refine zw1 (F := b_X9_edition_94 h j1 e) (fun d i S => 0 ≤ i ∧ i + d = 20 ∧ ∃ g, S = zrp M 22 g ∧ (∀ u, 0 ≤ u → u < i → (u < U → g (20 * e + u) = 100 * (M.2 23 u / h) + M.2 23 u % h) ∧ (U ≤ u → g (20 * e + u) = -1)) ∧ ∀ j, (j < 20 * e ∨ 20 * e + i ≤ j) → g j = M.2 22 j) (fun x => ∃ g, x = j1 (zrp M 22 g) ∧ (∀ u, 0 ≤ u → u < 20 → (u < U → g (20 * e + u) = 100 * (M.2 23 u / h) + M.2 23 u % h) ∧ (U ≤ u → g (20 * e + u) = -1)) ∧ ∀ j, (j < 20 * e ∨ 20 * e + 20 ≤ j) → g j = M.2 22 j) ?_ 1000 20 0 M ⟨by omega, by omega, M.2 22, (zrp_self M 22).symm, fun u u1 u2 => by omega, fun _ _ => rfl⟩ (by omega)
  rintro rec d i S ⟨h1, h2, g, rfl, h3, h4⟩
  have x3 : (zrp M 22 g).1 2 = U := hM
  have x4 : (zrp M 22 g).2 23 = M.2 23 := rfl
  by_cases c : 20 ≤ i
  · refine Or.inl ⟨g, ?_, ?_, ?_⟩
    · clear h3 h4 hR; simp (disch := omega) only [b_X9_edition_94, zlt, zbd_s, zbx_l, zbx_r, zj0, zj1, zj2, zj3, zset_2, zput_1, if_true, if_false, zar_p, zld_p, zst_p, zdv_p, zrm_p, zc01_p, zb_p, zb_n, if_pos, if_neg]
    · rw [show (20 : Int) = i by omega]
      intro u u1 u2
      rw [show i = 20 by omega]
      exact h3 u u1 (by omega)
    · intro j j1; exact h4 j (by omega)
  · by_cases cu : U ≤ i
    · refine Or.inr ⟨d - 1, i + 1, zrp M 22 (zfu g (20 * e + i) (-1)), by omega, ⟨by omega, by omega, _, rfl, fun u u1 u2 => ?_, fun j j1 => ?_⟩, ?_⟩
      · by_cases q : u = i
        · subst q; rw [zfu_e]; exact ⟨fun _ => by omega, fun _ => rfl⟩
        · rw [zfu_n _ _ (show 20 * e + u ≠ 20 * e + i by omega)]; exact h3 u u1 (by omega)
      · rw [zfu_n _ _ (show j ≠ 20 * e + i by omega)]; exact h4 j (by omega)
      · rw [← zput_rp]
        clear h3 h4 hR
        simp (disch := omega) only [b_X9_edition_94, x3, zlt, zbd_s, zbx_l, zbx_r, zj0, zj1, zj2, zj3, zset_2, zput_1, if_true, if_false, zar_p, zld_p, zst_p, zdv_p, zrm_p, zc01_p, zb_p, zb_n, if_pos, if_neg]
    · obtain ⟨r2, r3⟩ := hR i h1 (by omega)
      have dm := q_dm (x := M.2 23 i) (h := h) r2 hh.1
      refine Or.inr ⟨d - 1, i + 1, zrp M 22 (zfu g (20 * e + i) (100 * (M.2 23 i / h) + M.2 23 i % h)), by omega, ⟨by omega, by omega, _, rfl, fun u u1 u2 => ?_, fun j j1 => ?_⟩, ?_⟩
      · by_cases q : u = i
        · subst q; rw [zfu_e]; exact ⟨fun _ => rfl, fun _ => by omega⟩
        · rw [zfu_n _ _ (show 20 * e + u ≠ 20 * e + i by omega)]; exact h3 u u1 (by omega)
      · rw [zfu_n _ _ (show j ≠ 20 * e + i by omega)]; exact h4 j (by omega)
      · rw [← zput_rp]
        clear h3 h4 hR
        have z1 : ∀ k : Int → Option zRes, zdv (M.2 23 i) h k = k (M.2 23 i / h) := fun k => zdv_p ⟨by omega, by omega⟩
        have z2 : ∀ k : Int → Option zRes, zrm (M.2 23 i) h k = k (M.2 23 i % h) := fun k => zrm_p ⟨by omega, by omega⟩
        generalize M.2 23 i / h = A at *
        generalize M.2 23 i % h = B at *
        simp (disch := omega) only [b_X9_edition_94, x3, x4, z1, z2, zlt, zbd_s, zbx_l, zbx_r, zj0, zj1, zj2, zj3, zset_2, zput_1, if_true, if_false, zar_p, zld_p, zst_p, zdv_p, zrm_p, zc01_p, zb_p, zb_n, if_pos, if_neg]
theorem q_edi {C M C' M' : zSt} {e w U p : Int} (hE : jEdi C M) (he : C.1 9 = e) (he2 : e < 8) (a1 : C'.1 9 = e + 1) (a2 : C'.1 10 = w) (a3 : M'.1 6 = e + 1) (hw : 1 ≤ w ∧ w ≤ 12) (hU : 0 ≤ U ∧ U ≤ 20) (hp : 1 ≤ p) (b1 : M'.2 20 e = w) (b2 : ∀ x, M'.2 21 x = if x = e then p else M.2 21 x) (b3 : ∀ x, C'.2 26 x = if x = e then p else C.2 26 x) (b4 : ∀ x, C'.2 27 x = if x = e then U else C.2 27 x) (g1 : ∀ u, 0 ≤ u → u < U → M'.2 22 (20 * e + u) = C'.2 25 (20 * e + u) ∧ 0 ≤ C'.2 25 (20 * e + u)) (g2 : ∀ u, U ≤ u → u < 20 → M'.2 22 (20 * e + u) = -1) (g3 : ∀ j, j < 20 * e → C'.2 25 j = C.2 25 j ∧ M'.2 22 j = M.2 22 j) : jEdi C' M' := by
  obtain ⟨e1, e2, e3, e4, e5⟩ := hE
  refine ⟨by omega, by omega, by omega, fun _ => ?_, fun x x1 x2 => ?_⟩
  · rw [a1, Int.add_sub_cancel, a2]; exact ⟨b1, hw⟩
  · rw [b2, b3, b4]
    by_cases q : x = e
    · subst q
      rw [if_pos rfl, if_pos rfl, if_pos rfl]
      exact ⟨rfl, hp, hU.1, hU.2, fun u u1 u2 => ⟨fun u3 => g1 u u1 u3, fun u3 => g2 u u3 u2⟩⟩
    · rw [if_neg q, if_neg q, if_neg q]
      obtain ⟨y1, y2, y3, y4, y5⟩ := e5 x x1 (by omega)
      refine ⟨y1, y2, y3, y4, fun u u1 u2 => ?_⟩
      obtain ⟨z1, z2⟩ := g3 (20 * x + u) (by omega)
      rw [z1, z2]; exact y5 u u1 u2
theorem q_row1 {M T : zSt} {a n r e w v : Int} (h4 : M.1 4 = n) (ha : 0 ≤ a ∧ a < n) (hn : n ≤ 60) (h9 : M.2 9 a = r) (hr : 0 ≤ r ∧ r < 60) (hl : M.2 13 r = 0) (he : M.1 6 = e) (he2 : 1 ≤ e ∧ e ≤ 8) (hw : M.2 20 (e - 1) = w) (hs : m_X9_set (zset M 0 0) w = some (0, T)) (hv : T.2 24 a = v) : m_X9_row M a = some (v, T) := by
  simp (disch := omega) only [m_X9_row, p_X9_isComment, h4, zset_e, zset_n, h9, hl, he, hw, hs, hv, zlt, zbd_s, zbx_l, zbx_r, zj0, zj1, zj2, zj3, zset_2, zput_1, if_true, if_false, zar_p, zld_p, zst_p, zdv_p, zrm_p, zc01_p, zb_p, zb_n, if_pos, if_neg]
theorem q_row2 {C T T2 : zSt} {a r e : Int} (ha : 0 ≤ a ∧ a < C.1 3) (hl : m_X1_isLost C a = some (0, C)) (he : C.1 9 = e) (he2 : 1 ≤ e ∧ e ≤ 8) (hs : m_X6_set C (C.1 10) = some (0, T)) (hr : m_X6_rowOfNote T a = some (r, T2)) : m_X8_row C a = some (.inl (r, T2)) := by
  simp (disch := omega) only [m_X8_row, p_X8_needComment, m_X2_count, he, hl, m_X2_latestWidth, hs, hr, zlt, zbd_s, zbx_l, zbx_r, zj0, zj1, zj2, zj3, zset_2, zput_1, if_true, if_false, zar_p, zld_p, zst_p, zdv_p, zrm_p, zc01_p, zb_p, zb_n, if_pos, if_neg]
theorem s_row {C M : zSt} {a : Int} (hJ : J C M) : Sim ["java/lang/IndexOutOfBoundsException"] (m_X9_row M a) (m_X8_row C a) := by
  obtain ⟨hRG, hP, hT, hA, hC, hR, hF, hE⟩ := id hJ
  obtain ⟨c1, c2, c3, c4, c5⟩ := id hC
  obtain ⟨e1, e2, e3, e4, e5⟩ := id hE
  by_cases h1 : 0 ≤ a ∧ a < C.1 3
  · obtain ⟨k1, k2, k3, k4, k5, k6⟩ := zok_of hT hC a h1.1 h1.2
    have l1 := (c5 (C.2 12 a)).1
    have r9 := (c4 a h1.1 h1.2).2.2.2.2.2.1.1
    have hl := p_X1_isLost C a (by omega) ⟨k1.1, by omega⟩ c2 k4
    by_cases h2 : C.1 9 = 0
    · have a1 : m_X9_row M a = some (-1, zset M 0 0) := by
        clear hJ hRG c4 c5 hC e5 hE hT hA hR hF hP e4
        generalize C.2 12 a = r at *
        by_cases q : M.2 13 r = 0
        · simp (disch := omega) only [m_X9_row, p_X9_isComment, zset_e, zset_n, c3, r9, q, e3, zlt, zbd_s, zbx_l, zbx_r, zj0, zj1, zj2, zj3, zset_2, zput_1, if_true, if_false, zar_p, zld_p, zst_p, zdv_p, zrm_p, zc01_p, zb_p, zb_n, if_pos, if_neg]
        · simp (disch := omega) only [m_X9_row, p_X9_isComment, zset_e, zset_n, c3, r9, q, e3, zlt, zbd_s, zbx_l, zbx_r, zj0, zj1, zj2, zj3, zset_2, zput_1, if_true, if_false, zar_p, zld_p, zst_p, zdv_p, zrm_p, zc01_p, zb_p, zb_n, if_pos, if_neg]
      have a2 : m_X8_row C a = some (.inl (-1, C)) := by
        clear hJ hRG c4 c5 hC e5 hE hT hA hR hF hP e4
        simp (disch := omega) only [m_X8_row, p_X8_needComment, m_X2_count, zlt, zbd_s, zbx_l, zbx_r, zj0, zj1, zj2, zj3, zset_2, zput_1, if_true, if_false, zar_p, zld_p, zst_p, zdv_p, zrm_p, zc01_p, zb_p, zb_n, if_pos, if_neg]
      exact Sim.ok a1 a2 rfl (hJ.thr 0)
    · by_cases h3 : C.2 16 (C.2 12 a) = 0
      · have hw : M.2 20 (C.1 9 - 1) = C.1 10 ∧ 1 ≤ C.1 10 ∧ C.1 10 ≤ 12 := e4 (by omega)
        obtain ⟨f1, g1, p, b, c, f, ur, nr, S1, S2, B1, B2, B3, -, N⟩ := q_set (C := C) (M := zset M 0 0) (w := C.1 10) hT hC hw.2 (by omega)
        obtain ⟨n1, n2, n3⟩ := N a h1.1 h1.2 h3
        have S3 : m_X6_rowOfNote (zq (zD C (C.1 10) f1 g1) p b c f) a = some (f (zln C (C.1 10) a) + rs (zH C (C.1 10) (C.2 10 a) (zln C (C.1 10) a)) 0 a.toNat, zq (zD C (C.1 10) f1 g1) p b c f) := q_ron (T := zq (zD C (C.1 10) f1 g1) p b c f) (n := C.1 3) (w := C.1 10) (c := a) rfl c2 hT.2.1 rfl hw.2 (zok_of hT hC) h1 ⟨n2, (by omega : f (zln C (C.1 10) a) ≤ 1000000)⟩
        rw [← n1] at S3
        have a1 := q_row1 (v := nr a) c3 h1 c2 r9 ⟨k1.1, by omega⟩ (l1.trans h3) e3 ⟨by omega, e2⟩ hw.1 S2 rfl
        have a2 := q_row2 h1 (h3 ▸ hl) rfl ⟨by omega, e2⟩ S1 S3
        exact Sim.ok a1 a2 rfl ⟨hP, hT, hA, hC, hR, hF, hE⟩
      · have h3 : C.2 16 (C.2 12 a) = 1 := by omega
        have a1 : m_X9_row M a = some (-1, zset M 0 0) := by
          have q : M.2 13 (C.2 12 a) = 1 := l1.trans h3
          clear hJ hRG c4 c5 hC e5 hE hT hA hR hF hP e4 l1 h3
          generalize C.2 12 a = r at *
          simp (disch := omega) only [m_X9_row, p_X9_isComment, zset_e, zset_n, c3, r9, q, e3, zlt, zbd_s, zbx_l, zbx_r, zj0, zj1, zj2, zj3, zset_2, zput_1, if_true, if_false, zar_p, zld_p, zst_p, zdv_p, zrm_p, zc01_p, zb_p, zb_n, if_pos, if_neg]
        have a2 : m_X8_row C a = some (.inl (-1, C)) := by
          rw [h3] at hl
          clear hJ hRG c4 c5 hC e5 hE hT hA hR hF hP e4 l1 h3
          simp (disch := omega) only [m_X8_row, p_X8_needComment, m_X2_count, hl, zlt, zbd_s, zbx_l, zbx_r, zj0, zj1, zj2, zj3, zset_2, zput_1, if_true, if_false, zar_p, zld_p, zst_p, zdv_p, zrm_p, zc01_p, zb_p, zb_n, if_pos, if_neg]
        exact Sim.ok a1 a2 rfl (hJ.thr 0)
  · have a1 : m_X9_row M a = some (0, zset M 0 1) := by clear hJ hRG c4 c5 hC e5; simp (disch := omega) only [m_X9_row, p_X9_isComment, p_X9_between, zset_e, zset_n, c3, zlt, zbd_s, zbx_l, zbx_r, zj0, zj1, zj2, zj3, zset_2, zput_1, if_true, if_false, zar_p, zld_p, zst_p, zdv_p, zrm_p, zc01_p, zb_p, zb_n, if_pos, if_neg]
    have a2 : m_X8_row C a = some (.inr ("java/lang/IndexOutOfBoundsException", C)) := by clear hJ hRG c4 c5 hC c3 e5; simp (disch := omega) only [m_X8_row, p_X8_needComment, zlt, zbd_s, zbx_l, zbx_r, zj0, zj1, zj2, zj3, zset_2, zput_1, if_true, if_false, zar_p, zld_p, zst_p, zdv_p, zrm_p, zc01_p, zb_p, zb_n, if_pos, if_neg]
    exact Sim.no a1 a2 (by decide) rfl (hJ.thr 1)

