/-! unit, comment, gloss, follow, unfollow -/
theorem p_X4_wordAt (S : zSt) (k : Int) (h : 0 ≤ k ∧ k < S.1 0) (h2 : S.1 0 ≤ 12) : m_X4_wordAt S k = some (S.2 0 k, S) := by
  simp (disch := omega) only [m_X4_wordAt, p_at, zat_p, zlt, zbd_s, zbx_l, zbx_r, zj0, zj1, zj2, zj3, zset_2, zput_1, if_true, if_false, zar_p, zld_p, zst_p, zdv_p, zrm_p, zc01_p, zb_p, zb_n, if_pos, if_neg]
theorem p_X7_put (S : zSt) (a k w : Int) (ha : 0 ≤ a ∧ a < S.1 1) (hk : 0 ≤ k ∧ k < S.2 2 a) (h1 : S.1 1 ≤ 20) (h2 : S.2 2 a ≤ 12) : m_X7_put S a k w = some (0, zput S 1 (12 * a + k) w) := by
  have e : a * 12 + k = 12 * a + k := by omega
  simp (disch := omega) only [m_X7_put, p_X7_hasPlace S a k h1, e, zlt, zbd_s, zbx_l, zbx_r, zj0, zj1, zj2, zj3, zset_2, zput_1, if_true, if_false, zar_p, zld_p, zst_p, zdv_p, zrm_p, zc01_p, zb_p, zb_n, if_pos, if_neg]
theorem p_X7_add (S : zSt) (h0 : 0 ≤ S.1 1 ∧ S.1 1 < 20) (h1 : 0 ≤ S.1 0 ∧ S.1 0 ≤ 12) : ∃ f, m_X7_add S = some (0, zrp (zput (zset S 1 (S.1 1 + 1)) 2 (S.1 1) (S.1 0)) 1 f) ∧ (∀ t, t < 12 * S.1 1 → f t = S.2 1 t) ∧ ∀ k, 0 ≤ k → k < S.1 0 → f (12 * S.1 1 + k) = S.2 0 k := by
  have key := zw1 (F := b_X7_add_35 (S.1 1)) (fun d i T => 0 ≤ i ∧ i + d = S.1 0 ∧ ∃ f, T = zrp (zput (zset S 1 (S.1 1 + 1)) 2 (S.1 1) (S.1 0)) 1 f ∧ (∀ t, t < 12 * S.1 1 → f t = S.2 1 t) ∧ ∀ k, 0 ≤ k → k < i → f (12 * S.1 1 + k) = S.2 0 k)
    (fun x => ∃ f, x = some (0, zrp (zput (zset S 1 (S.1 1 + 1)) 2 (S.1 1) (S.1 0)) 1 f) ∧ (∀ t, t < 12 * S.1 1 → f t = S.2 1 t) ∧ ∀ k, 0 ≤ k → k < S.1 0 → f (12 * S.1 1 + k) = S.2 0 k) (by
      rintro rec d i T ⟨h2, h3, f, rfl, h4, h5⟩
      have z1 : (zrp (zput (zset S 1 (S.1 1 + 1)) 2 (S.1 1) (S.1 0)) 1 f).1 0 = S.1 0 := rfl
      have z2 : (zrp (zput (zset S 1 (S.1 1 + 1)) 2 (S.1 1) (S.1 0)) 1 f).1 1 = S.1 1 + 1 := rfl
      have z3 : (zrp (zput (zset S 1 (S.1 1 + 1)) 2 (S.1 1) (S.1 0)) 1 f).2 2 (S.1 1) = S.1 0 := if_pos rfl
      have z4 : (zrp (zput (zset S 1 (S.1 1 + 1)) 2 (S.1 1) (S.1 0)) 1 f).2 0 = S.2 0 := rfl
      by_cases c : S.1 0 ≤ i
      · refine Or.inl ⟨f, ?_, h4, fun k h6 h7 => h5 k h6 (by omega)⟩
        simp (disch := omega) only [b_X7_add_35, m_X4_size, z1, zlt, zbd_s, zbx_l, zbx_r, zj0, zj1, zj2, zj3, zset_2, zput_1, if_true, if_false, zar_p, zld_p, zst_p, zdv_p, zrm_p, zc01_p, zb_p, zb_n, if_pos, if_neg]
      · refine Or.inr ⟨d - 1, i + 1, _, by omega, ⟨by omega, by omega, zfu f (12 * S.1 1 + i) (S.2 0 i), rfl, fun t h6 => ?_, fun k h6 h7 => ?_⟩, ?_⟩
        · rw [zfu_n _ _ (by omega)]; exact h4 t h6
        · by_cases e : k = i
          · rw [e, zfu_e]
          · rw [zfu_n _ _ (by omega)]; exact h5 k h6 (by omega)
        · have hp := fun w => p_X7_put (zrp (zput (zset S 1 (S.1 1 + 1)) 2 (S.1 1) (S.1 0)) 1 f) (S.1 1) i w ⟨by omega, by rw [z2]; omega⟩ ⟨h2, by rw [z3]; omega⟩ (by rw [z2]; omega) (by rw [z3]; omega)
          have hw := p_X4_wordAt (zrp (zput (zset S 1 (S.1 1 + 1)) 2 (S.1 1) (S.1 0)) 1 f) i ⟨h2, by rw [z1]; omega⟩ (by rw [z1]; omega)
          rw [z4] at hw
          simp (disch := omega) only [b_X7_add_35, m_X4_size, z1, hw, hp, zput_rp, zlt, zbd_s, zbx_l, zbx_r, zj0, zj1, zj2, zj3, zset_2, zput_1, if_true, if_false, zar_p, zld_p, zst_p, zdv_p, zrm_p, zc01_p, zb_p, zb_n, if_pos, if_neg])
    1000 (S.1 0).toNat 0 (zput (zset S 1 (S.1 1 + 1)) 2 (S.1 1) (S.1 0)) ⟨by omega, by omega, S.2 1, (zrp_self _ 1).symm, fun t _ => rfl, fun k h2 h3 => absurd h2 (by omega)⟩ (by omega)
  obtain ⟨f, e1, e2, e3⟩ := key
  refine ⟨f, ?_, e2, e3⟩
  simp (disch := omega) only [m_X7_add, m_X7_isFull, m_X4_size, zset_n, e1, zlt, zbd_s, zbx_l, zbx_r, zj0, zj1, zj2, zj3, zset_2, zput_1, if_true, if_false, zar_p, zld_p, zst_p, zdv_p, zrm_p, zc01_p, zb_p, zb_n, if_pos, if_neg]
theorem s_unit {C M : zSt} (hJ : J C M) : Sim ["java/lang/IllegalStateException"] (m_X9_unit M) (m_X8_unit C) := by
  obtain ⟨hRG, ⟨p1, p2, p3, p4⟩, ⟨t1, t2, t3, t4, t5⟩, hA, ⟨c1, c2, c3, c4, c5⟩, hR, hF, hE⟩ := id hJ
  by_cases h1 : C.1 0 = 0
  · refine Sim.no (b := 0) (E := "java/lang/IllegalStateException") (M' := zset M 0 1) (C' := C) ?_ ?_ (by decide) rfl (hJ.thr 1)
    · simp (disch := omega) only [m_X9_unit, p3, zset_e, zlt, zbd_s, zbx_l, zbx_r, zj0, zj1, zj2, zj3, zset_2, zput_1, if_true, if_false, zar_p, zld_p, zst_p, zdv_p, zrm_p, zc01_p, zb_p, zb_n, if_pos, if_neg]
    · simp (disch := omega) only [m_X8_unit, m_X4_size, zlt, zbd_s, zbx_l, zbx_r, zj0, zj1, zj2, zj3, zset_2, zput_1, if_true, if_false, zar_p, zld_p, zst_p, zdv_p, zrm_p, zc01_p, zb_p, zb_n, if_pos, if_neg]
  · by_cases h2 : C.1 1 = 20
    · refine Sim.no (b := 0) (E := "java/lang/IllegalStateException") (M' := zset M 0 1) (C' := C) ?_ ?_ (by decide) rfl (hJ.thr 1)
      · simp (disch := omega) only [m_X9_unit, p3, t3, zset_e, zlt, zbd_s, zbx_l, zbx_r, zj0, zj1, zj2, zj3, zset_2, zput_1, if_true, if_false, zar_p, zld_p, zst_p, zdv_p, zrm_p, zc01_p, zb_p, zb_n, if_pos, if_neg]
      · simp (disch := omega) only [m_X8_unit, m_X4_size, m_X7_isFull, zlt, zbd_s, zbx_l, zbx_r, zj0, zj1, zj2, zj3, zset_2, zput_1, if_true, if_false, zar_p, zld_p, zst_p, zdv_p, zrm_p, zc01_p, zb_p, zb_n, if_pos, if_neg]
    · obtain ⟨f, e1, e2, e3⟩ := p_X7_add C ⟨t1, by omega⟩ ⟨p1, p2⟩
      have key := zw1 (F := b_X9_unit_36 (fun (S3 : zSt) => zlt (S3.1 2) fun x3 => zlt (S3.1 1) fun x4 => zst S3 2 20 x3 x4 fun S4 => zlt (zset S4 1 0) fun S5 => zlt (S5.1 2) fun x5 => zar (x5 + 1) fun x6 => zlt (zset S5 2 x6) fun S6 => zlt (S6.1 2) fun x7 => zar (x7 - 1) fun x8 => some (x8, S6)))
        (fun d i T => 0 ≤ i ∧ i + d = C.1 0 ∧ ∃ f, T = zrp (zset M 0 0) 1 f ∧ (∀ t, t < 12 * C.1 1 → f t = M.2 1 t) ∧ ∀ k, 0 ≤ k → k < i → f (12 * C.1 1 + k) = M.2 0 k)
        (fun x => ∃ f, x = some (C.1 1, zset (zset (zput (zrp (zset M 0 0) 1 f) 2 (C.1 1) (C.1 0)) 1 0) 2 (C.1 1 + 1)) ∧ (∀ t, t < 12 * C.1 1 → f t = M.2 1 t) ∧ ∀ k, 0 ≤ k → k < C.1 0 → f (12 * C.1 1 + k) = M.2 0 k) (by
          rintro rec d i T ⟨h3, h4, f, rfl, h5, h6⟩
          by_cases c : C.1 0 ≤ i
          · refine Or.inl ⟨f, ?_, h5, fun k h7 h8 => h6 k h7 (by omega)⟩
            simp (disch := omega) only [b_X9_unit_36, zrp_1, zset_n, zset_e, p3, t3, Int.add_sub_cancel, zlt, zbd_s, zbx_l, zbx_r, zj0, zj1, zj2, zj3, zset_2, zput_1, if_true, if_false, zar_p, zld_p, zst_p, zdv_p, zrm_p, zc01_p, zb_p, zb_n, if_pos, if_neg]
          · refine Or.inr ⟨d - 1, i + 1, _, by omega, ⟨by omega, by omega, zfu f (12 * C.1 1 + i) (M.2 0 i), rfl, fun t h7 => ?_, fun k h7 h8 => ?_⟩, ?_⟩
            · rw [zfu_n _ _ (by omega)]; exact h5 t h7
            · by_cases e : k = i
              · rw [e, zfu_e]
              · rw [zfu_n _ _ (by omega)]; exact h6 k h7 (by omega)
            · simp (disch := omega) only [b_X9_unit_36, zrp_1, zrp_n, zset_n, zset_e, p3, t3, zput_rp, zlt, zbd_s, zbx_l, zbx_r, zj0, zj1, zj2, zj3, zset_2, zput_1, if_true, if_false, zar_p, zld_p, zst_p, zdv_p, zrm_p, zc01_p, zb_p, zb_n, if_pos, if_neg])
        1000 (C.1 0).toNat 0 (zset M 0 0) ⟨by omega, by omega, M.2 1, (zrp_self (zset M 0 0) 1).symm, fun t _ => rfl, fun k h2 h3 => absurd h2 (by omega)⟩ (by omega)
      obtain ⟨g, g1, g2, g3⟩ := key
      refine Sim.ok (b := C.1 1) (M' := zset (zset (zput (zrp (zset M 0 0) 1 g) 2 (C.1 1) (C.1 0)) 1 0) 2 (C.1 1 + 1)) (C' := zset (zrp (zput (zset C 1 (C.1 1 + 1)) 2 (C.1 1) (C.1 0)) 1 f) 0 0) ?_ ?_ rfl ?_
      · simp (disch := omega) only [m_X9_unit, zset_e, zset_n, p3, t3, zlt, zbd_s, zbx_l, zbx_r, zj0, zj1, zj2, zj3, zset_2, zput_1, if_true, if_false, zar_p, zld_p, zst_p, zdv_p, zrm_p, zc01_p, zb_p, zb_n, if_pos, if_neg]
        exact g1
      · simp (disch := omega) only [m_X8_unit, m_X7_isFull, m_X4_size, e1, m_X4_clear, m_X7_count, zset_e, zset_n, zrp_1, Int.add_sub_cancel, zlt, zbd_s, zbx_l, zbx_r, zj0, zj1, zj2, zj3, zset_2, zput_1, if_true, if_false, zar_p, zld_p, zst_p, zdv_p, zrm_p, zc01_p, zb_p, zb_n, if_pos, if_neg]
      · refine ⟨⟨show (0 : Int) ≤ 0 by decide, show (0 : Int) ≤ 12 by decide, rfl, fun i h3 h4 => absurd (show i < 0 from h4) (by omega)⟩, ⟨?_, ?_, rfl, fun u h3 h4 => ?_, fun u k h3 h4 h5 h6 => ?_⟩, hA, ⟨c1, c2, c3, fun i h3 h4 => ?_, c5⟩, hR, hF, hE⟩
        · show 0 ≤ C.1 1 + 1; omega
        · show C.1 1 + 1 ≤ 20; omega
        · have h4 : u < C.1 1 + 1 := h4
          show 1 ≤ (if u = C.1 1 then C.1 0 else C.2 2 u) ∧ (if u = C.1 1 then C.1 0 else C.2 2 u) ≤ 12 ∧ (if u = C.1 1 then C.1 0 else M.2 2 u) = (if u = C.1 1 then C.1 0 else C.2 2 u)
          by_cases e : u = C.1 1
          · rw [if_pos e, if_pos e]; exact ⟨by omega, p2, rfl⟩
          · simp only [if_neg e]; exact t4 u h3 (by omega)
        · have h4 : u < C.1 1 + 1 := h4
          have h6 : k < (if u = C.1 1 then C.1 0 else C.2 2 u) := h6
          show g (12 * u + k) = f (12 * u + k)
          by_cases e : u = C.1 1
          · rw [if_pos e] at h6
            rw [e, g3 k h5 h6, e3 k h5 h6]; exact p4 k h5 h6
          · rw [if_neg e] at h6
            have := t4 u h3 (by omega)
            rw [g2 _ (by omega), e2 _ (by omega)]; exact t5 u k h3 (by omega) h5 h6
        · obtain ⟨a1, a2, a3, a4, a5, a6, a7, a8⟩ := c4 i h3 h4
          refine ⟨a1, a2, a3, a4, a5, a6, a7, fun h5 => ?_⟩
          obtain ⟨b1, b2, b3, b4, b5, b6⟩ := a8 h5
          refine ⟨b1, show C.2 13 i < C.1 1 + 1 by omega, b3, b4, b5, ?_⟩
          show C.2 14 i < (if C.2 13 i = C.1 1 then C.1 0 else C.2 2 (C.2 13 i))
          rw [if_neg (by omega)]; exact b6

theorem p_X0_yearOf (S : zSt) (a : Int) (h : 0 ≤ a ∧ a < 12) : m_X0_yearOf S a = some (S.2 4 a, S) := by
  simp (disch := omega) only [m_X0_yearOf, p_at, zat_p, zlt, zbd_s, zbx_l, zbx_r, zj0, zj1, zj2, zj3, zset_2, zput_1, if_true, if_false, zar_p, zld_p, zst_p, zdv_p, zrm_p, zc01_p, zb_p, zb_n, if_pos, if_neg]
theorem p_X1_add (S : zSt) (a b c d : Int) (h : 0 ≤ S.1 3 ∧ S.1 3 < 60) : m_X1_add S a b c d = some (S.1 3, zset (zput (zput (zput (zput S 7 (S.1 3) a) 8 (S.1 3) b) 9 (S.1 3) c) 10 (S.1 3) d) 3 (S.1 3 + 1)) := by
  simp (disch := omega) only [m_X1_add, p_X1_isFull, zset_e, Int.add_sub_cancel, zlt, zbd_s, zbx_l, zbx_r, zj0, zj1, zj2, zj3, zset_2, zput_1, if_true, if_false, zar_p, zld_p, zst_p, zdv_p, zrm_p, zc01_p, zb_p, zb_n, if_pos, if_neg]
theorem p_X9_added (S : zSt) (a b c d : Int) (h : 0 ≤ S.1 4 ∧ S.1 4 < 60) : m_X9_added S a b c d = some (S.1 4, zset (zput (zput (zput (zput S 6 (S.1 4) a) 7 (S.1 4) b) 14 (S.1 4) c) 15 (S.1 4) d) 4 (S.1 4 + 1)) := by
  simp (disch := omega) only [m_X9_added, zlt, zbd_s, zbx_l, zbx_r, zj0, zj1, zj2, zj3, zset_2, zput_1, if_true, if_false, zar_p, zld_p, zst_p, zdv_p, zrm_p, zc01_p, zb_p, zb_n, if_pos, if_neg]
theorem p_X9_isNote (S : zSt) (a b c : Int) : m_X9_isNote S a b c = some (zb ((0 ≤ a ∧ a ≤ 4) ∧ (1 ≤ b ∧ b ≤ 9) ∧ 0 ≤ c ∧ c ≤ 1), S) := by
  by_cases h1 : 0 ≤ a ∧ a ≤ 4
  · by_cases h2 : 1 ≤ b ∧ b ≤ 9
    · by_cases h3 : 0 ≤ c ∧ c ≤ 1
      · simp (disch := omega) only [m_X9_isNote, p_X9_between, zlt, zbd_s, zbx_l, zbx_r, zj0, zj1, zj2, zj3, zset_2, zput_1, if_true, if_false, zar_p, zld_p, zst_p, zdv_p, zrm_p, zc01_p, zb_p, zb_n, if_pos, if_neg]
      · simp (disch := omega) only [m_X9_isNote, p_X9_between, zlt, zbd_s, zbx_l, zbx_r, zj0, zj1, zj2, zj3, zset_2, zput_1, if_true, if_false, zar_p, zld_p, zst_p, zdv_p, zrm_p, zc01_p, zb_p, zb_n, if_pos, if_neg]
    · simp (disch := omega) only [m_X9_isNote, p_X9_between, zlt, zbd_s, zbx_l, zbx_r, zj0, zj1, zj2, zj3, zset_2, zput_1, if_true, if_false, zar_p, zld_p, zst_p, zdv_p, zrm_p, zc01_p, zb_p, zb_n, if_pos, if_neg]
  · simp (disch := omega) only [m_X9_isNote, p_X9_between, zlt, zbd_s, zbx_l, zbx_r, zj0, zj1, zj2, zj3, zset_2, zput_1, if_true, if_false, zar_p, zld_p, zst_p, zdv_p, zrm_p, zc01_p, zb_p, zb_n, if_pos, if_neg]
theorem p_X1_hookTo (S : zSt) (c u p w : Int) (h : 0 ≤ c ∧ c < S.1 3) (h2 : S.1 3 ≤ 60) : m_X1_hookTo S c u p w = some (0, zput (zput (zput (zput (zput S 11 c (-1)) 12 c c) 13 c u) 14 c p) 15 c w) := by
  simp (disch := omega) only [m_X1_hookTo, p_X1_has, zlt, zbd_s, zbx_l, zbx_r, zj0, zj1, zj2, zj3, zset_2, zput_1, if_true, if_false, zar_p, zld_p, zst_p, zdv_p, zrm_p, zc01_p, zb_p, zb_n, if_pos, if_neg]
theorem p_X1_putOn (S : zSt) (c p : Int) (h : 0 ≤ c ∧ c < S.1 3) (h2 : S.1 3 ≤ 60) (h3 : 0 ≤ p ∧ p < 60) : m_X1_putOn S c p = some (0, zput (zput S 11 c p) 12 c (S.2 12 p)) := by
  have e : (zput S 11 c p).2 12 = S.2 12 := zput_n S c p (by decide)
  simp (disch := omega) only [m_X1_putOn, p_X1_has, p_at, zat_p, e, zlt, zbd_s, zbx_l, zbx_r, zj0, zj1, zj2, zj3, zset_2, zput_1, if_true, if_false, zar_p, zld_p, zst_p, zdv_p, zrm_p, zc01_p, zb_p, zb_n, if_pos, if_neg]

theorem q_gloss {M : zSt} {a b k l g n na x r u : Int} (c3 : M.1 4 = n) (p3 : M.1 3 = na) (h1 : 0 ≤ a ∧ a < na) (hb : 0 ≤ b ∧ b < n) (h2 : 0 ≤ k ∧ k ≤ 4) (h3 : 1 ≤ l ∧ l ≤ 9) (h4 : 0 ≤ g ∧ g ≤ 1) (h5 : n < 60) (h6 : na ≤ 12) (hx : M.2 6 b = x) (hx2 : 0 ≤ x ∧ x < na) (hr : M.2 9 b = r) (hu : M.2 10 b = u) (hy : M.2 3 x ≤ M.2 3 a) : m_X9_gloss M a b k l g = some (n, zput (zput (zput (zset (zput (zput (zput (zput (zset (zset M 0 0) 0 0) 6 n a) 7 n k) 14 n l) 15 n g) 4 (n + 1)) 8 n b) 9 n r) 10 n u) := by
  simp (disch := omega) only [m_X9_gloss, p_X9_isAuthor, p_X9_isComment, p_X9_isNote, p_X9_between, zset_e, zset_n, p3, c3, hx, hr, hu, m_X9_added, zput_n, zlt, zbd_s, zbx_l, zbx_r, zj0, zj1, zj2, zj3, zset_2, zput_1, if_true, if_false, zar_p, zld_p, zst_p, zdv_p, zrm_p, zc01_p, zb_p, zb_n, if_pos, if_neg]
theorem q_gloss2 {C : zSt} {a b k l g n na x r : Int} (c3 : C.1 3 = n) (p3 : C.1 2 = na) (h1 : 0 ≤ a ∧ a < na) (hb : 0 ≤ b ∧ b < n) (h2 : 0 ≤ k ∧ k ≤ 4) (h3 : 1 ≤ l ∧ l ≤ 9) (h4 : 0 ≤ g ∧ g ≤ 1) (h5 : n < 60) (h6 : na ≤ 12) (hx : C.2 7 b = x) (hx2 : 0 ≤ x ∧ x < na) (hr : C.2 12 b = r) (hy : C.2 4 x ≤ C.2 4 a) : m_X8_gloss C a b k l g = some (.inl (n, zput (zput (zset (zput (zput (zput (zput C 7 n a) 8 n k) 9 n l) 10 n g) 3 (n + 1)) 11 n b) 12 n r)) := by
  simp (disch := omega) only [m_X8_gloss, p_X8_needAuthor, p_X8_needComment, p_X8_needArgument, p_X8_needRoomForComment, p3, c3, m_X0_yearOf, m_X1_authorOf, m_X1_add, p_X1_isFull, m_X1_putOn, p_X1_has, p_at, zat_p, hx, hr, zset_e, zset_n, zput_n, Int.add_sub_cancel, zlt, zbd_s, zbx_l, zbx_r, zj0, zj1, zj2, zj3, zset_2, zput_1, if_true, if_false, zar_p, zld_p, zst_p, zdv_p, zrm_p, zc01_p, zb_p, zb_n, if_pos, if_neg]
theorem q_gloss3 {M : zSt} {a b k l g n na x : Int} (c3 : M.1 4 = n) (p3 : M.1 3 = na) (h1 : 0 ≤ a ∧ a < na) (hb : 0 ≤ b ∧ b < n) (h2 : 0 ≤ k ∧ k ≤ 4) (h3 : 1 ≤ l ∧ l ≤ 9) (h4 : 0 ≤ g ∧ g ≤ 1) (hn : n ≤ 60) (h6 : na ≤ 12) (hx : M.2 6 b = x) (hx2 : 0 ≤ x ∧ x < na) (hy : n = 60 ∨ M.2 3 a < M.2 3 x) : m_X9_gloss M a b k l g = some (0, zset (zset M 0 0) 0 3) := by
  by_cases h5 : n = 60
  · simp (disch := omega) only [m_X9_gloss, p_X9_isAuthor, p_X9_isComment, p_X9_isNote, p_X9_between, zset_e, zset_n, p3, c3, zlt, zbd_s, zbx_l, zbx_r, zj0, zj1, zj2, zj3, zset_2, zput_1, if_true, if_false, zar_p, zld_p, zst_p, zdv_p, zrm_p, zc01_p, zb_p, zb_n, if_pos, if_neg]
  · simp (disch := omega) only [m_X9_gloss, p_X9_isAuthor, p_X9_isComment, p_X9_isNote, p_X9_between, zset_e, zset_n, p3, c3, hx, zlt, zbd_s, zbx_l, zbx_r, zj0, zj1, zj2, zj3, zset_2, zput_1, if_true, if_false, zar_p, zld_p, zst_p, zdv_p, zrm_p, zc01_p, zb_p, zb_n, if_pos, if_neg]
theorem q_gloss4 {C : zSt} {a b k l g n na x : Int} (c3 : C.1 3 = n) (p3 : C.1 2 = na) (h1 : 0 ≤ a ∧ a < na) (hb : 0 ≤ b ∧ b < n) (h2 : 0 ≤ k ∧ k ≤ 4) (h3 : 1 ≤ l ∧ l ≤ 9) (h4 : 0 ≤ g ∧ g ≤ 1) (hn : n ≤ 60) (h6 : na ≤ 12) (hx : C.2 7 b = x) (hx2 : 0 ≤ x ∧ x < na) (hy : n = 60 ∨ C.2 4 a < C.2 4 x) : m_X8_gloss C a b k l g = some (.inr ("java/lang/IllegalStateException", C)) := by
  by_cases h5 : n = 60
  · simp (disch := omega) only [m_X8_gloss, p_X8_needAuthor, p_X8_needComment, p_X8_needArgument, p_X8_needRoomForComment, p3, c3, zlt, zbd_s, zbx_l, zbx_r, zj0, zj1, zj2, zj3, zset_2, zput_1, if_true, if_false, zar_p, zld_p, zst_p, zdv_p, zrm_p, zc01_p, zb_p, zb_n, if_pos, if_neg]
  · simp (disch := omega) only [m_X8_gloss, p_X8_needAuthor, p_X8_needComment, p_X8_needArgument, p_X8_needRoomForComment, p3, c3, m_X0_yearOf, m_X1_authorOf, p_at, zat_p, hx, zlt, zbd_s, zbx_l, zbx_r, zj0, zj1, zj2, zj3, zset_2, zput_1, if_true, if_false, zar_p, zld_p, zst_p, zdv_p, zrm_p, zc01_p, zb_p, zb_n, if_pos, if_neg]
theorem q_gloss5 {M : zSt} {a b k l g n na : Int} (c3 : M.1 4 = n) (p3 : M.1 3 = na) (h1 : 0 ≤ a ∧ a < na) (hb : 0 ≤ b ∧ b < n) (hn : n ≤ 60) (h6 : na ≤ 12) (h : ¬ ((0 ≤ k ∧ k ≤ 4) ∧ (1 ≤ l ∧ l ≤ 9) ∧ 0 ≤ g ∧ g ≤ 1)) : m_X9_gloss M a b k l g = some (0, zset M 0 2) := by
  simp (disch := omega) only [m_X9_gloss, p_X9_isAuthor, p_X9_isComment, p_X9_isNote, p_X9_between, zset_e, zset_n, p3, c3, zlt, zbd_s, zbx_l, zbx_r, zj0, zj1, zj2, zj3, zset_2, zput_1, if_true, if_false, zar_p, zld_p, zst_p, zdv_p, zrm_p, zc01_p, zb_p, zb_n, if_pos, if_neg]
theorem q_gloss6 {C : zSt} {a b k l g n na : Int} (c3 : C.1 3 = n) (p3 : C.1 2 = na) (h1 : 0 ≤ a ∧ a < na) (hb : 0 ≤ b ∧ b < n) (h : ¬ ((0 ≤ k ∧ k ≤ 4) ∧ (1 ≤ l ∧ l ≤ 9) ∧ 0 ≤ g ∧ g ≤ 1)) : m_X8_gloss C a b k l g = some (.inr ("java/lang/IllegalArgumentException", C)) := by
  by_cases h3 : 0 ≤ k ∧ k ≤ 4
  · by_cases h4 : 1 ≤ l ∧ l ≤ 9
    · simp (disch := omega) only [m_X8_gloss, p_X8_needAuthor, p_X8_needComment, p_X8_needArgument, p_X8_needRoomForComment, p3, c3, zlt, zbd_s, zbx_l, zbx_r, zj0, zj1, zj2, zj3, zset_2, zput_1, if_true, if_false, zar_p, zld_p, zst_p, zdv_p, zrm_p, zc01_p, zb_p, zb_n, if_pos, if_neg]
    · simp (disch := omega) only [m_X8_gloss, p_X8_needAuthor, p_X8_needComment, p_X8_needArgument, p_X8_needRoomForComment, p3, c3, zlt, zbd_s, zbx_l, zbx_r, zj0, zj1, zj2, zj3, zset_2, zput_1, if_true, if_false, zar_p, zld_p, zst_p, zdv_p, zrm_p, zc01_p, zb_p, zb_n, if_pos, if_neg]
  · simp (disch := omega) only [m_X8_gloss, p_X8_needAuthor, p_X8_needComment, p_X8_needArgument, p_X8_needRoomForComment, p3, c3, zlt, zbd_s, zbx_l, zbx_r, zj0, zj1, zj2, zj3, zset_2, zput_1, if_true, if_false, zar_p, zld_p, zst_p, zdv_p, zrm_p, zc01_p, zb_p, zb_n, if_pos, if_neg]
theorem q_gloss7 {M : zSt} {a b k l g n na : Int} (c3 : M.1 4 = n) (p3 : M.1 3 = na) (hn : 0 ≤ n ∧ n ≤ 60) (h6 : 0 ≤ na ∧ na ≤ 12) (h : ¬ ((0 ≤ a ∧ a < na) ∧ 0 ≤ b ∧ b < n)) : m_X9_gloss M a b k l g = some (0, zset M 0 1) := by
  by_cases h1 : 0 ≤ a ∧ a < na
  · simp (disch := omega) only [m_X9_gloss, p_X9_isAuthor, p_X9_isComment, p_X9_isNote, p_X9_between, zset_e, zset_n, p3, c3, zlt, zbd_s, zbx_l, zbx_r, zj0, zj1, zj2, zj3, zset_2, zput_1, if_true, if_false, zar_p, zld_p, zst_p, zdv_p, zrm_p, zc01_p, zb_p, zb_n, if_pos, if_neg]
  · simp (disch := omega) only [m_X9_gloss, p_X9_isAuthor, p_X9_isComment, p_X9_isNote, p_X9_between, zset_e, zset_n, p3, c3, zlt, zbd_s, zbx_l, zbx_r, zj0, zj1, zj2, zj3, zset_2, zput_1, if_true, if_false, zar_p, zld_p, zst_p, zdv_p, zrm_p, zc01_p, zb_p, zb_n, if_pos, if_neg]
theorem q_gloss8 {C : zSt} {a b k l g n na : Int} (c3 : C.1 3 = n) (p3 : C.1 2 = na) (h : ¬ ((0 ≤ a ∧ a < na) ∧ 0 ≤ b ∧ b < n)) : m_X8_gloss C a b k l g = some (.inr ("java/lang/IndexOutOfBoundsException", C)) := by
  by_cases h1 : 0 ≤ a ∧ a < na
  · simp (disch := omega) only [m_X8_gloss, p_X8_needAuthor, p_X8_needComment, p_X8_needArgument, p_X8_needRoomForComment, p3, c3, zlt, zbd_s, zbx_l, zbx_r, zj0, zj1, zj2, zj3, zset_2, zput_1, if_true, if_false, zar_p, zld_p, zst_p, zdv_p, zrm_p, zc01_p, zb_p, zb_n, if_pos, if_neg]
  · simp (disch := omega) only [m_X8_gloss, p_X8_needAuthor, p_X8_needComment, p_X8_needArgument, p_X8_needRoomForComment, p3, c3, zlt, zbd_s, zbx_l, zbx_r, zj0, zj1, zj2, zj3, zset_2, zput_1, if_true, if_false, zar_p, zld_p, zst_p, zdv_p, zrm_p, zc01_p, zb_p, zb_n, if_pos, if_neg]
theorem s_gloss {C M : zSt} {a b k l g : Int} (hJ : J C M) : Sim ["java/lang/IndexOutOfBoundsException", "java/lang/IllegalArgumentException", "java/lang/IllegalStateException"] (m_X9_gloss M a b k l g) (m_X8_gloss C a b k l g) := by
  obtain ⟨hRG, hP, hT, ⟨p1, p2, p3, p4⟩, ⟨c1, c2, c3, c4, c5⟩, hR, hF, hE⟩ := id hJ
  by_cases h1 : (0 ≤ a ∧ a < C.1 2) ∧ 0 ≤ b ∧ b < C.1 3
  · obtain ⟨h1, h2⟩ := h1
    by_cases h3 : (0 ≤ k ∧ k ≤ 4) ∧ (1 ≤ l ∧ l ≤ 9) ∧ 0 ≤ g ∧ g ≤ 1
    · obtain ⟨h3, h4, h5⟩ := h3
      obtain ⟨a1, a2, a3, a4, a5, a6, a7, a8⟩ := c4 b h2.1 h2.2
      have y1 := (p4 (C.2 7 b) a1.2.1 a1.2.2).1
      have y2 := (p4 a h1.1 h1.2).1
      by_cases h7 : C.1 3 = 60 ∨ C.2 4 a < C.2 4 (C.2 7 b)
      · exact Sim.no (q_gloss3 c3 p3 h1 h2 h3 h4 h5 c2 p2 a1.1 a1.2 (by rw [y1, y2]; exact h7)) (q_gloss4 rfl rfl h1 h2 h3 h4 h5 c2 p2 rfl a1.2 h7) (by decide) rfl (hJ.thr 0 : Jn C (zset (zset M 0 0) 0 3))
      · refine Sim.ok (q_gloss c3 p3 h1 h2 h3 h4 h5 (by omega) p2 a1.1 a1.2 a6.1 a7 (by rw [y1, y2]; omega)) (q_gloss2 rfl rfl h1 h2 h3 h4 h5 (by omega) p2 rfl a1.2 rfl (by omega)) rfl ?_
        have a62 := a6.2.1
        have a63 := a6.2.2.1
        have a64 := a6.2.2.2.1
        clear a8 a7 a6 a5 a4 a3 a2 a1
        refine ⟨hP, hT, ⟨p1, p2, p3, p4⟩, ⟨?_, ?_, rfl, fun i h8 h9 => ?_, fun i => ?_⟩, hR, hF, hE⟩
        · show 0 ≤ C.1 3 + 1; omega
        · show C.1 3 + 1 ≤ 60; omega
        · have h9 : i < C.1 3 + 1 := h9
          show ((if i = C.1 3 then a else M.2 6 i) = (if i = C.1 3 then a else C.2 7 i) ∧ 0 ≤ (if i = C.1 3 then a else C.2 7 i) ∧ (if i = C.1 3 then a else C.2 7 i) < C.1 2) ∧ ((if i = C.1 3 then k else M.2 7 i) = (if i = C.1 3 then k else C.2 8 i) ∧ 0 ≤ (if i = C.1 3 then k else C.2 8 i) ∧ (if i = C.1 3 then k else C.2 8 i) ≤ 4) ∧ ((if i = C.1 3 then l else M.2 14 i) = (if i = C.1 3 then l else C.2 9 i) ∧ 1 ≤ (if i = C.1 3 then l else C.2 9 i) ∧ (if i = C.1 3 then l else C.2 9 i) ≤ 9) ∧ ((if i = C.1 3 then g else M.2 15 i) = (if i = C.1 3 then g else C.2 10 i) ∧ 0 ≤ (if i = C.1 3 then g else C.2 10 i) ∧ (if i = C.1 3 then g else C.2 10 i) ≤ 1) ∧ ((if i = C.1 3 then b else M.2 8 i) = (if i = C.1 3 then b else C.2 11 i) ∧ -1 ≤ (if i = C.1 3 then b else C.2 11 i) ∧ (if i = C.1 3 then b else C.2 11 i) < i) ∧ ((if i = C.1 3 then C.2 12 b else M.2 9 i) = (if i = C.1 3 then C.2 12 b else C.2 12 i) ∧ 0 ≤ (if i = C.1 3 then C.2 12 b else C.2 12 i) ∧ (if i = C.1 3 then C.2 12 b else C.2 12 i) ≤ i ∧ (if (if i = C.1 3 then C.2 12 b else C.2 12 i) = C.1 3 then b else C.2 11 (if i = C.1 3 then C.2 12 b else C.2 12 i)) = -1 ∧ ((if i = C.1 3 then b else C.2 11 i) = -1 → (if i = C.1 3 then C.2 12 b else C.2 12 i) = i)) ∧ (if i = C.1 3 then C.2 13 (C.2 12 b) else M.2 10 i) = C.2 13 (if i = C.1 3 then C.2 12 b else C.2 12 i) ∧ ((if i = C.1 3 then b else C.2 11 i) = -1 → 0 ≤ C.2 13 i ∧ C.2 13 i < C.1 1 ∧ M.2 11 i = C.2 15 i ∧ M.2 12 i = C.2 14 i ∧ 0 ≤ C.2 14 i ∧ C.2 14 i < C.2 2 (C.2 13 i))
          by_cases e : i = C.1 3
          · simp only [if_pos e]
            rw [if_neg (by omega)]
            exact ⟨⟨by trivial, h1⟩, ⟨by trivial, h3⟩, ⟨by trivial, h4⟩, ⟨by trivial, h5⟩, ⟨by trivial, by omega, by omega⟩, ⟨by trivial, a62, by omega, a64, fun q => absurd q (by omega)⟩, by trivial, fun q => absurd q (by omega)⟩
          · simp only [if_neg e]
            have h := c4 i h8 (by omega)
            rw [if_neg (by have := h.2.2.2.2.2.1.2.2.1; omega)]
            exact h
        · obtain ⟨d1, d2, d3⟩ := c5 i
          refine ⟨d1, d2, fun h8 => ?_⟩
          have h8 : ¬ (0 ≤ i ∧ i < C.1 3 + 1 ∧ (if i = C.1 3 then b else C.2 11 i) = -1) := h8
          refine d3 fun q => h8 ⟨q.1, by omega, ?_⟩
          rw [if_neg (by omega)]; exact q.2.2
    · exact Sim.no (q_gloss5 c3 p3 h1 h2 c2 p2 h3) (q_gloss6 rfl rfl h1 h2 h3) (by decide) rfl (hJ.thr 2)
  · exact Sim.no (q_gloss7 c3 p3 ⟨c1, c2⟩ ⟨p1, p2⟩ h1) (q_gloss8 rfl rfl h1) (by decide) rfl (hJ.thr 1)

