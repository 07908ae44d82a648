/-! EDITIONS: address, pages, holds, daily -/
theorem zl1_s {R : Type} (g : Nat) (F : (Int → zSt → Option R) → Int → zSt → Option R) (a : Int) (S : zSt) : zl1 (g + 1) F a S = F (zl1 g F) a S := rfl
theorem zl2_s {R : Type} (g : Nat) (F : (Int → Int → zSt → Option R) → Int → Int → zSt → Option R) (a b : Int) (S : zSt) : zl2 (g + 1) F a b S = F (zl2 g F) a b S := rfl
theorem zl3_s {R : Type} (g : Nat) (F : (Int → Int → Int → zSt → Option R) → Int → Int → Int → zSt → Option R) (a b c : Int) (S : zSt) : zl3 (g + 1) F a b c S = F (zl3 g F) a b c S := rfl
theorem zl4_s {R : Type} (g : Nat) (F : (Int → Int → Int → Int → zSt → Option R) → Int → Int → Int → Int → zSt → Option R) (a b c d : Int) (S : zSt) : zl4 (g + 1) F a b c d S = F (zl4 g F) a b c d S := rfl
theorem p_X2_addressIn (S : zSt) (e u : Int) (h : 0 ≤ S.1 9 ∧ S.1 9 ≤ 8) (hu : ∀ e, 0 ≤ e → e < S.1 9 → S.2 27 e ≤ 20) : m_X2_addressIn S e u = some (if (0 ≤ e ∧ e < S.1 9) ∧ 0 ≤ u ∧ u < S.2 27 e then S.2 25 (e * 20 + u) else -1, S) := by
  simp only [m_X2_addressIn, p_X2_has, p_at, zlt, zbd_s, zbx_l, zbx_r, zj0, zj1, zj2, zj3, zset_2, zput_1, zb_0]
  by_cases c : 0 ≤ e ∧ e < S.1 9
  · have hu1 := hu e c.1 c.2
    by_cases c2 : 0 ≤ u
    · by_cases c3 : u < S.2 27 e
      · simp (disch := omega) only [zlt, zbd_s, zbx_l, zbx_r, zj0, zj1, zj2, zj3, zset_2, zput_1, if_true, if_false, zar_p, zld_p, zst_p, zdv_p, zrm_p, zc01_p, zb_p, zb_n, if_pos, if_neg, zat_p]
      · simp (disch := omega) only [zlt, zbd_s, zbx_l, zbx_r, zj0, zj1, zj2, zj3, zset_2, zput_1, if_true, if_false, zar_p, zld_p, zst_p, zdv_p, zrm_p, zc01_p, zb_p, zb_n, if_pos, if_neg, zat_p]
    · simp (disch := omega) only [zlt, zbd_s, zbx_l, zbx_r, zj0, zj1, zj2, zj3, zset_2, zput_1, if_true, if_false, zar_p, zld_p, zst_p, zdv_p, zrm_p, zc01_p, zb_p, zb_n, if_pos, if_neg, zat_p]
  · simp (disch := omega) only [zlt, zbd_s, zbx_l, zbx_r, zj0, zj1, zj2, zj3, zset_2, zput_1, if_true, if_false, zar_p, zld_p, zst_p, zdv_p, zrm_p, zc01_p, zb_p, zb_n, if_pos, if_neg, zat_p]
theorem s_address {C M : zSt} {a b : Int} (hJ : J C M) : Sim ["java/lang/IndexOutOfBoundsException"] (m_X9_address M a b) (m_X8_address C a b) := by
  obtain ⟨hRG, hP, ⟨t1, t2, t3, t4, t5⟩, hA, hC, hR, hF, ⟨e1, e2, e3, e4, e5⟩⟩ := id hJ
  by_cases h1 : 0 ≤ a ∧ a < C.1 9
  · obtain ⟨-, -, z3, z4, z5⟩ := e5 a h1.1 h1.2
    have hw := p_X2_addressIn C a b ⟨e1, e2⟩ (fun e h2 h3 => (e5 e h2 h3).2.2.2.1)
    by_cases h2 : 0 ≤ b ∧ b < C.1 1
    · obtain ⟨w1, w2⟩ := z5 b h2.1 (by omega)
      by_cases h3 : b < C.2 27 a
      · refine Sim.ok (b := C.2 25 (a * 20 + b)) (M' := zset M 0 0) (C' := C) ?_ ?_ rfl (hJ.thr 0)
        · have e := (w1 h3).1
          rw [show a * 20 + b = 20 * a + b by omega]
          simp (disch := omega) only [m_X9_address, p_X9_isUnit, p_X9_isEdition, zset_e, zset_n, t3, e3, e, zlt, zbd_s, zbx_l, zbx_r, zj0, zj1, zj2, zj3, zset_2, zput_1, if_true, if_false, zar_p, zld_p, zst_p, zdv_p, zrm_p, zc01_p, zb_p, zb_n, if_pos, if_neg]
        · simp (disch := omega) only [m_X8_address, p_X8_needUnit, p_X8_needEdition, hw, zlt, zbd_s, zbx_l, zbx_r, zj0, zj1, zj2, zj3, zset_2, zput_1, if_true, if_false, zar_p, zld_p, zst_p, zdv_p, zrm_p, zc01_p, zb_p, zb_n, if_pos, if_neg]
      · refine Sim.ok (b := -1) (M' := zset M 0 0) (C' := C) ?_ ?_ rfl (hJ.thr 0)
        · have e := w2 (by omega)
          simp (disch := omega) only [m_X9_address, p_X9_isUnit, p_X9_isEdition, zset_e, zset_n, t3, e3, e, zlt, zbd_s, zbx_l, zbx_r, zj0, zj1, zj2, zj3, zset_2, zput_1, if_true, if_false, zar_p, zld_p, zst_p, zdv_p, zrm_p, zc01_p, zb_p, zb_n, if_pos, if_neg]
        · simp (disch := omega) only [m_X8_address, p_X8_needUnit, p_X8_needEdition, hw, zlt, zbd_s, zbx_l, zbx_r, zj0, zj1, zj2, zj3, zset_2, zput_1, if_true, if_false, zar_p, zld_p, zst_p, zdv_p, zrm_p, zc01_p, zb_p, zb_n, if_pos, if_neg]
    · refine Sim.no (b := 0) (E := "java/lang/IndexOutOfBoundsException") (M' := zset M 0 1) (C' := C) ?_ ?_ (by decide) rfl (hJ.thr 1)
      · simp (disch := omega) only [m_X9_address, p_X9_isUnit, p_X9_isEdition, zset_e, zset_n, t3, e3, zlt, zbd_s, zbx_l, zbx_r, zj0, zj1, zj2, zj3, zset_2, zput_1, if_true, if_false, zar_p, zld_p, zst_p, zdv_p, zrm_p, zc01_p, zb_p, zb_n, if_pos, if_neg]
      · simp (disch := omega) only [m_X8_address, p_X8_needUnit, p_X8_needEdition, zlt, zbd_s, zbx_l, zbx_r, zj0, zj1, zj2, zj3, zset_2, zput_1, if_true, if_false, zar_p, zld_p, zst_p, zdv_p, zrm_p, zc01_p, zb_p, zb_n, if_pos, if_neg]
  · refine Sim.no (b := 0) (E := "java/lang/IndexOutOfBoundsException") (M' := zset M 0 1) (C' := C) ?_ ?_ (by decide) rfl (hJ.thr 1)
    · simp (disch := omega) only [m_X9_address, p_X9_isUnit, p_X9_isEdition, zset_e, zset_n, t3, e3, zlt, zbd_s, zbx_l, zbx_r, zj0, zj1, zj2, zj3, zset_2, zput_1, if_true, if_false, zar_p, zld_p, zst_p, zdv_p, zrm_p, zc01_p, zb_p, zb_n, if_pos, if_neg]
    · simp (disch := omega) only [m_X8_address, p_X8_needUnit, p_X8_needEdition, zlt, zbd_s, zbx_l, zbx_r, zj0, zj1, zj2, zj3, zset_2, zput_1, if_true, if_false, zar_p, zld_p, zst_p, zdv_p, zrm_p, zc01_p, zb_p, zb_n, if_pos, if_neg]
theorem s_pages {C M : zSt} {a : Int} (hJ : J C M) : Sim ["java/lang/IndexOutOfBoundsException"] (m_X9_pages M a) (m_X8_pages C a) := by
  obtain ⟨hRG, hP, hT, hA, hC, hR, hF, ⟨e1, e2, e3, e4, e5⟩⟩ := id hJ
  by_cases h1 : 0 ≤ a ∧ a < C.1 9
  · obtain ⟨z1, z2, z3, z4, z5⟩ := e5 a h1.1 h1.2
    refine Sim.ok (b := C.2 26 a) (M' := zset M 0 0) (C' := C) ?_ ?_ rfl (hJ.thr 0)
    · simp (disch := omega) only [m_X9_pages, p_X9_isEdition, zset_e, zset_n, e3, z1, zlt, zbd_s, zbx_l, zbx_r, zj0, zj1, zj2, zj3, zset_2, zput_1, if_true, if_false, zar_p, zld_p, zst_p, zdv_p, zrm_p, zc01_p, zb_p, zb_n, if_pos, if_neg]
    · simp (disch := omega) only [m_X8_pages, m_X2_pagesOf, p_at, p_X8_needEdition, zat_p, zlt, zbd_s, zbx_l, zbx_r, zj0, zj1, zj2, zj3, zset_2, zput_1, if_true, if_false, zar_p, zld_p, zst_p, zdv_p, zrm_p, zc01_p, zb_p, zb_n, if_pos, if_neg]
  · refine Sim.no (b := 0) (E := "java/lang/IndexOutOfBoundsException") (M' := zset M 0 1) (C' := C) ?_ ?_ (by decide) rfl (hJ.thr 1)
    · simp (disch := omega) only [m_X9_pages, p_X9_isEdition, zset_e, zset_n, e3, zlt, zbd_s, zbx_l, zbx_r, zj0, zj1, zj2, zj3, zset_2, zput_1, if_true, if_false, zar_p, zld_p, zst_p, zdv_p, zrm_p, zc01_p, zb_p, zb_n, if_pos, if_neg]
    · simp (disch := omega) only [m_X8_pages, p_X8_needEdition, zlt, zbd_s, zbx_l, zbx_r, zj0, zj1, zj2, zj3, zset_2, zput_1, if_true, if_false, zar_p, zld_p, zst_p, zdv_p, zrm_p, zc01_p, zb_p, zb_n, if_pos, if_neg]
theorem p_X2_pageIn (S : zSt) (e u : Int) (h : 0 ≤ S.1 9 ∧ S.1 9 ≤ 8) (hu : ∀ e, 0 ≤ e → e < S.1 9 → S.2 27 e ≤ 20) (ha : ∀ e u, 0 ≤ e → e < S.1 9 → 0 ≤ u → u < S.2 27 e → 0 ≤ S.2 25 (20 * e + u)) : m_X2_pageIn S e u = some (if (0 ≤ e ∧ e < S.1 9) ∧ 0 ≤ u ∧ u < S.2 27 e then S.2 25 (20 * e + u) / 100 else -1, S) := by
  simp only [m_X2_pageIn, p_X2_addressIn S e u h hu, zlt, zbd_s, zbx_l, zbx_r, zj0, zj1, zj2, zj3, zset_2, zput_1]
  by_cases c : (0 ≤ e ∧ e < S.1 9) ∧ 0 ≤ u ∧ u < S.2 27 e
  · have h9 := ha e u c.1.1 c.1.2 c.2.1 c.2.2
    rw [if_pos c, if_pos c, show e * 20 + u = 20 * e + u by omega]
    simp (disch := omega) only [zlt, zbd_s, zbx_l, zbx_r, zj0, zj1, zj2, zj3, zset_2, zput_1, if_true, if_false, zar_p, zld_p, zst_p, zdv_p, zrm_p, zc01_p, zb_p, zb_n, if_pos, if_neg]
  · rw [if_neg c, if_neg c, if_pos rfl]
theorem lq_holds {C M : zSt} (a : Int) (h1 : 0 ≤ a ∧ a < C.1 9) (hE : jEdi C M) (h0 : M.1 0 = 0) (jC jM : Int → zSt → Option zRes) : ∀ (d g g' : Nat) (i v : Int), 0 ≤ i → i + d = 20 → 0 ≤ v → v ≤ i → d < g → d < g' → ∃ b, zl2 g (b_X2_countHeld_4 a jC) v i C = jC b C ∧ zl2 g' (b_X9_holds_21 a jM) v i M = jM b M := by
  obtain ⟨e1, e2, e3, e4, e5⟩ := hE
  have hp := fun e u => p_X2_pageIn C e u ⟨e1, e2⟩ (fun e h2 h3 => (e5 e h2 h3).2.2.2.1) (fun e u h2 h3 h4 h6 => ((((e5 e h2 h3).2.2.2.2 u h4 (by have := (e5 e h2 h3).2.2.2.1; omega)).1 h6).2))
  obtain ⟨-, -, z3, z4, z5⟩ := e5 a h1.1 h1.2
  obtain ⟨-, -, y3, y4, y5⟩ := e5 0 (by omega) (by omega)
  intro d
  induction d with
  | zero =>
    intro g g' i v hi hd hv hv2 hg hg'
    obtain ⟨g, rfl⟩ : ∃ k, g = k + 1 := ⟨g - 1, by omega⟩
    obtain ⟨g', rfl⟩ : ∃ k, g' = k + 1 := ⟨g' - 1, by omega⟩
    refine ⟨v, ?_, ?_⟩
    · simp (disch := omega) only [zl2_s, b_X2_countHeld_4, zlt, zbd_s, zbx_l, zbx_r, zj0, zj1, zj2, zj3, zset_2, zput_1, if_true, if_false, zar_p, zld_p, zst_p, zdv_p, zrm_p, zc01_p, zb_p, zb_n, if_pos, if_neg]
    · simp (disch := omega) only [zl2_s, b_X9_holds_21, zlt, zbd_s, zbx_l, zbx_r, zj0, zj1, zj2, zj3, zset_2, zput_1, if_true, if_false, zar_p, zld_p, zst_p, zdv_p, zrm_p, zc01_p, zb_p, zb_n, if_pos, if_neg]
  | succ d ih =>
    intro g g' i v hi hd hv hv2 hg hg'
    obtain ⟨g, rfl⟩ : ∃ k, g = k + 1 := ⟨g - 1, by omega⟩
    obtain ⟨g', rfl⟩ : ∃ k, g' = k + 1 := ⟨g' - 1, by omega⟩
    obtain ⟨z6, z7⟩ := z5 i hi (by omega)
    obtain ⟨y6, y7⟩ := y5 i hi (by omega)
    rw [show 20 * 0 + i = i by omega] at y6 y7
    have hz := hp a i
    have hy := hp 0 i
    rw [show 20 * 0 + i = i by omega] at hy
    have same := ih g g' (i + 1) v (by omega) (by omega) hv (by omega) (by omega) (by omega)
    have more := ih g g' (i + 1) (v + 1) (by omega) (by omega) (by omega) (by omega) (by omega) (by omega)
    by_cases c1 : i < C.2 27 a
    · obtain ⟨z6, z8⟩ := z6 c1
      have q1 : 0 ≤ C.2 25 (20 * a + i) / 100 := Int.ediv_nonneg z8 (by decide)
      by_cases c2 : i < C.2 27 0
      · obtain ⟨y6, y8⟩ := y6 c2
        have q2 : 0 ≤ C.2 25 i / 100 := Int.ediv_nonneg y8 (by decide)
        by_cases c3 : C.2 25 (20 * a + i) / 100 = C.2 25 i / 100
        · obtain ⟨b, m1, m2⟩ := more
          refine ⟨b, ?_, ?_⟩
          · rw [← m1]
            simp (disch := omega) only [zl2_s, b_X2_countHeld_4, hz, hy, zlt, zbd_s, zbx_l, zbx_r, zj0, zj1, zj2, zj3, zset_2, zput_1, if_true, if_false, zar_p, zld_p, zst_p, zdv_p, zrm_p, zc01_p, zb_p, zb_n, if_pos, if_neg]
          · rw [← m2]
            simp (disch := omega) only [zl2_s, b_X9_holds_21, h0, z6, y6, zlt, zbd_s, zbx_l, zbx_r, zj0, zj1, zj2, zj3, zset_2, zput_1, if_true, if_false, zar_p, zld_p, zst_p, zdv_p, zrm_p, zc01_p, zb_p, zb_n, if_pos, if_neg]
        · obtain ⟨b, m1, m2⟩ := same
          refine ⟨b, ?_, ?_⟩
          · rw [← m1]
            simp (disch := omega) only [zl2_s, b_X2_countHeld_4, hz, hy, zlt, zbd_s, zbx_l, zbx_r, zj0, zj1, zj2, zj3, zset_2, zput_1, if_true, if_false, zar_p, zld_p, zst_p, zdv_p, zrm_p, zc01_p, zb_p, zb_n, if_pos, if_neg]
          · rw [← m2]
            simp (disch := omega) only [zl2_s, b_X9_holds_21, h0, z6, y6, Int.add_zero, zlt, zbd_s, zbx_l, zbx_r, zj0, zj1, zj2, zj3, zset_2, zput_1, if_true, if_false, zar_p, zld_p, zst_p, zdv_p, zrm_p, zc01_p, zb_p, zb_n, if_pos, if_neg]
      · have y7 := y7 (by omega)
        obtain ⟨b, m1, m2⟩ := same
        refine ⟨b, ?_, ?_⟩
        · rw [← m1]
          simp (disch := omega) only [zl2_s, b_X2_countHeld_4, hz, hy, zlt, zbd_s, zbx_l, zbx_r, zj0, zj1, zj2, zj3, zset_2, zput_1, if_true, if_false, zar_p, zld_p, zst_p, zdv_p, zrm_p, zc01_p, zb_p, zb_n, if_pos, if_neg]
        · rw [← m2]
          simp (disch := omega) only [zl2_s, b_X9_holds_21, h0, z6, y7, Int.add_zero, zlt, zbd_s, zbx_l, zbx_r, zj0, zj1, zj2, zj3, zset_2, zput_1, if_true, if_false, zar_p, zld_p, zst_p, zdv_p, zrm_p, zc01_p, zb_p, zb_n, if_pos, if_neg]
    · have z7 := z7 (by omega)
      obtain ⟨b, m1, m2⟩ := same
      refine ⟨b, ?_, ?_⟩
      · rw [← m1]
        simp (disch := omega) only [zl2_s, b_X2_countHeld_4, hz, zlt, zbd_s, zbx_l, zbx_r, zj0, zj1, zj2, zj3, zset_2, zput_1, if_true, if_false, zar_p, zld_p, zst_p, zdv_p, zrm_p, zc01_p, zb_p, zb_n, if_pos, if_neg]
      · rw [← m2]
        simp (disch := omega) only [zl2_s, b_X9_holds_21, h0, z7, Int.add_zero, zlt, zbd_s, zbx_l, zbx_r, zj0, zj1, zj2, zj3, zset_2, zput_1, if_true, if_false, zar_p, zld_p, zst_p, zdv_p, zrm_p, zc01_p, zb_p, zb_n, if_pos, if_neg]
theorem s_holds {C M : zSt} {a : Int} (hJ : J C M) : Sim ["java/lang/IndexOutOfBoundsException"] (m_X9_holds M a) (m_X8_holds C a) := by
  obtain ⟨hRG, hP, hT, hA, hC, hR, hF, hE⟩ := id hJ
  have e1 := hE.1
  have e2 := hE.2.1
  have e3 := hE.2.2.1
  by_cases h1 : 0 ≤ a ∧ a < C.1 9
  · obtain ⟨b, m1, m2⟩ := lq_holds (M := zset M 0 0) a h1 hE rfl (fun v1 S1 => some (v1, S1)) (fun v2 S4 => some (v2, S4)) 20 1000 1000 0 0 (by omega) (by omega) (by omega) (by omega) (by omega) (by omega)
    refine Sim.ok (b := b) (M' := zset M 0 0) (C' := C) ?_ ?_ rfl (hJ.thr 0)
    · simp (disch := omega) only [m_X9_holds, p_X9_isEdition, zset_e, zset_n, e3, m2, zlt, zbd_s, zbx_l, zbx_r, zj0, zj1, zj2, zj3, zset_2, zput_1, if_true, if_false, zar_p, zld_p, zst_p, zdv_p, zrm_p, zc01_p, zb_p, zb_n, if_pos, if_neg]
    · simp (disch := omega) only [m_X8_holds, m_X2_countHeld, p_X8_needEdition, m1, zlt, zbd_s, zbx_l, zbx_r, zj0, zj1, zj2, zj3, zset_2, zput_1, if_true, if_false, zar_p, zld_p, zst_p, zdv_p, zrm_p, zc01_p, zb_p, zb_n, if_pos, if_neg]
  · refine Sim.no (b := 0) (E := "java/lang/IndexOutOfBoundsException") (M' := zset M 0 1) (C' := C) ?_ ?_ (by decide) rfl (hJ.thr 1)
    · have e : zl2 1000 (b_X9_holds_21 a (fun v2 S4 => some (v2, S4))) 0 0 (zset M 0 1) = some (0, zset M 0 1) := by
        refine (zl2_s 999 _ 0 0 (zset M 0 1)).trans ?_
        simp (disch := omega) only [b_X9_holds_21, zset_e, zlt, zbd_s, zbx_l, zbx_r, zj0, zj1, zj2, zj3, zset_2, zput_1, if_true, if_false, zar_p, zld_p, zst_p, zdv_p, zrm_p, zc01_p, zb_p, zb_n, if_pos, if_neg]
      simp (disch := omega) only [m_X9_holds, p_X9_isEdition, zset_e, zset_n, e3, e, zlt, zbd_s, zbx_l, zbx_r, zj0, zj1, zj2, zj3, zset_2, zput_1, if_true, if_false, zar_p, zld_p, zst_p, zdv_p, zrm_p, zc01_p, zb_p, zb_n, if_pos, if_neg]
    · simp (disch := omega) only [m_X8_holds, p_X8_needEdition, zlt, zbd_s, zbx_l, zbx_r, zj0, zj1, zj2, zj3, zset_2, zput_1, if_true, if_false, zar_p, zld_p, zst_p, zdv_p, zrm_p, zc01_p, zb_p, zb_n, if_pos, if_neg]

