/-! told, standsAnew, isHard, solved -/
theorem p_X1_isLost (S : zSt) (c : Int) (hc : 0 ≤ c ∧ c < 60) (hr : 0 ≤ S.2 12 c ∧ S.2 12 c < S.1 3) (hn : S.1 3 ≤ 60) (h : S.2 16 (S.2 12 c) = 0 ∨ S.2 16 (S.2 12 c) = 1) : m_X1_isLost S c = some (S.2 16 (S.2 12 c), S) := by
  rcases h with h | h
  · simp (disch := omega) only [m_X1_isLost, p_at, zat_p, p_X1_has, h, zlt, zbd_s, zbx_l, zbx_r, zj0, zj1, zj2, zj3, zset_2, zput_1, if_true, if_false, zar_p, zld_p, zst_p, zdv_p, zrm_p, zc01_p, zb_p, zb_n, if_pos, if_neg]
  · simp (disch := omega) only [m_X1_isLost, p_at, zat_p, p_X1_has, h, zlt, zbd_s, zbx_l, zbx_r, zj0, zj1, zj2, zj3, zset_2, zput_1, if_true, if_false, zar_p, zld_p, zst_p, zdv_p, zrm_p, zc01_p, zb_p, zb_n, if_pos, if_neg]
theorem p_X1_isLight (S : zSt) (c : Int) (hc : 0 ≤ c ∧ c < 60) : m_X1_isLight S c = some (zb (S.2 17 c < 1), S) := by
  by_cases h : S.2 17 c < 1
  · simp (disch := omega) only [m_X1_isLight, p_at, zat_p, zlt, zbd_s, zbx_l, zbx_r, zj0, zj1, zj2, zj3, zset_2, zput_1, if_true, if_false, zar_p, zld_p, zst_p, zdv_p, zrm_p, zc01_p, zb_p, zb_n, if_pos, if_neg]
  · simp (disch := omega) only [m_X1_isLight, p_at, zat_p, zlt, zbd_s, zbx_l, zbx_r, zj0, zj1, zj2, zj3, zset_2, zput_1, if_true, if_false, zar_p, zld_p, zst_p, zdv_p, zrm_p, zc01_p, zb_p, zb_n, if_pos, if_neg]
theorem p_X1_isHook (S : zSt) (c u : Int) (hc : 0 ≤ c ∧ c < S.1 3) (hn : S.1 3 ≤ 60) : m_X1_isHook S c u = some (zb (S.2 11 c = -1 ∧ S.2 13 c = u), S) := by
  by_cases h : S.2 11 c = -1
  · by_cases h2 : S.2 13 c = u
    · simp (disch := omega) only [m_X1_isHook, p_X1_has, zlt, zbd_s, zbx_l, zbx_r, zj0, zj1, zj2, zj3, zset_2, zput_1, if_true, if_false, zar_p, zld_p, zst_p, zdv_p, zrm_p, zc01_p, zb_p, zb_n, if_pos, if_neg]
    · simp (disch := omega) only [m_X1_isHook, p_X1_has, zlt, zbd_s, zbx_l, zbx_r, zj0, zj1, zj2, zj3, zset_2, zput_1, if_true, if_false, zar_p, zld_p, zst_p, zdv_p, zrm_p, zc01_p, zb_p, zb_n, if_pos, if_neg]
  · simp (disch := omega) only [m_X1_isHook, p_X1_has, zlt, zbd_s, zbx_l, zbx_r, zj0, zj1, zj2, zj3, zset_2, zput_1, if_true, if_false, zar_p, zld_p, zst_p, zdv_p, zrm_p, zc01_p, zb_p, zb_n, if_pos, if_neg]
theorem p_X1_isDoubt (S : zSt) (c : Int) (hc : 0 ≤ c ∧ c < 60) : m_X1_isDoubt S c = some (zb (S.2 11 c = -1 ∧ (S.2 8 c = 0 ∨ S.2 8 c = 1)), S) := by
  by_cases h : S.2 11 c = -1
  · by_cases h2 : S.2 8 c = 0
    · simp (disch := omega) only [m_X1_isDoubt, m_X1_kindOf, m_X1_parentOf, p_at, zat_p, zlt, zbd_s, zbx_l, zbx_r, zj0, zj1, zj2, zj3, zset_2, zput_1, if_true, if_false, zar_p, zld_p, zst_p, zdv_p, zrm_p, zc01_p, zb_p, zb_n, if_pos, if_neg]
    · by_cases h3 : S.2 8 c = 1
      · simp (disch := omega) only [m_X1_isDoubt, m_X1_kindOf, m_X1_parentOf, p_at, zat_p, zlt, zbd_s, zbx_l, zbx_r, zj0, zj1, zj2, zj3, zset_2, zput_1, if_true, if_false, zar_p, zld_p, zst_p, zdv_p, zrm_p, zc01_p, zb_p, zb_n, if_pos, if_neg]
      · simp (disch := omega) only [m_X1_isDoubt, m_X1_kindOf, m_X1_parentOf, p_at, zat_p, zlt, zbd_s, zbx_l, zbx_r, zj0, zj1, zj2, zj3, zset_2, zput_1, if_true, if_false, zar_p, zld_p, zst_p, zdv_p, zrm_p, zc01_p, zb_p, zb_n, if_pos, if_neg]
  · simp (disch := omega) only [m_X1_isDoubt, m_X1_kindOf, m_X1_parentOf, p_at, zat_p, zlt, zbd_s, zbx_l, zbx_r, zj0, zj1, zj2, zj3, zset_2, zput_1, if_true, if_false, zar_p, zld_p, zst_p, zdv_p, zrm_p, zc01_p, zb_p, zb_n, if_pos, if_neg]
theorem p_X9_asks (S : zSt) (c : Int) (hc : 0 ≤ c ∧ c < 60) : m_X9_asks S c = some (zb (S.2 8 c = -1 ∧ (S.2 7 c = 0 ∨ S.2 7 c = 1)), S) := by
  by_cases h : S.2 8 c = -1
  · by_cases h2 : S.2 7 c = 0
    · simp (disch := omega) only [m_X9_asks, zlt, zbd_s, zbx_l, zbx_r, zj0, zj1, zj2, zj3, zset_2, zput_1, if_true, if_false, zar_p, zld_p, zst_p, zdv_p, zrm_p, zc01_p, zb_p, zb_n, if_pos, if_neg]
    · by_cases h3 : S.2 7 c = 1
      · simp (disch := omega) only [m_X9_asks, zlt, zbd_s, zbx_l, zbx_r, zj0, zj1, zj2, zj3, zset_2, zput_1, if_true, if_false, zar_p, zld_p, zst_p, zdv_p, zrm_p, zc01_p, zb_p, zb_n, if_pos, if_neg]
      · simp (disch := omega) only [m_X9_asks, zlt, zbd_s, zbx_l, zbx_r, zj0, zj1, zj2, zj3, zset_2, zput_1, if_true, if_false, zar_p, zld_p, zst_p, zdv_p, zrm_p, zc01_p, zb_p, zb_n, if_pos, if_neg]
  · simp (disch := omega) only [m_X9_asks, zlt, zbd_s, zbx_l, zbx_r, zj0, zj1, zj2, zj3, zset_2, zput_1, if_true, if_false, zar_p, zld_p, zst_p, zdv_p, zrm_p, zc01_p, zb_p, zb_n, if_pos, if_neg]
theorem q_told1 {M : zSt} {s : Int → Int} {b w n r v0 v1 v2 v3 v4 v5 v6 : Int} (c3 : M.1 4 = n) (hb : 0 ≤ b ∧ b < n) (hn : n ≤ 60) (hw : 0 ≤ w ∧ w ≤ 6) (hl : m_X9_layStands (zset M 0 0) = some (0, zrp (zset M 0 0) 16 s)) (hr : M.2 9 b = r) (hr2 : 0 ≤ r ∧ r < 60) (m0 : M.2 6 b = v0) (m1 : M.2 10 b = v1) (m2 : M.2 12 r = v2) (m3 : M.2 13 r = v3) (m4 : s b = v4) (m5 : M.2 8 b = v5) (m6 : M.2 7 b = v6) (h3 : v3 = 0 ∨ v3 = 1) (h4 : v4 = 0 ∨ v4 = 1) : m_X9_told M b w = some (if w = 0 then v0 else if w = 1 then v1 else if w = 2 then v2 else if w = 3 then v3 else if w = 4 then v4 else if w = 5 then v5 else v6, zrp (zset M 0 0) 16 s) := by
  rcases (show w = 0 ∨ w = 1 ∨ w = 2 ∨ w = 3 ∨ w = 4 ∨ w = 5 ∨ w = 6 by omega) with rfl | rfl | rfl | rfl | rfl | rfl | rfl
  · simp (disch := omega) only [m_X9_told, p_X9_isComment, p_X9_between, zset_e, zset_n, c3, zrp_1, zrp_n, zrp_e, hl, m0, zlt, zbd_s, zbx_l, zbx_r, zj0, zj1, zj2, zj3, zset_2, zput_1, if_true, if_false, zar_p, zld_p, zst_p, zdv_p, zrm_p, zc01_p, zb_p, zb_n, if_pos, if_neg]
  · simp (disch := omega) only [m_X9_told, p_X9_isComment, p_X9_between, zset_e, zset_n, c3, zrp_1, zrp_n, zrp_e, hl, m1, zlt, zbd_s, zbx_l, zbx_r, zj0, zj1, zj2, zj3, zset_2, zput_1, if_true, if_false, zar_p, zld_p, zst_p, zdv_p, zrm_p, zc01_p, zb_p, zb_n, if_pos, if_neg]
  · simp (disch := omega) only [m_X9_told, p_X9_isComment, p_X9_between, zset_e, zset_n, c3, zrp_1, zrp_n, zrp_e, hl, hr, m2, zlt, zbd_s, zbx_l, zbx_r, zj0, zj1, zj2, zj3, zset_2, zput_1, if_true, if_false, zar_p, zld_p, zst_p, zdv_p, zrm_p, zc01_p, zb_p, zb_n, if_pos, if_neg]
  · rcases h3 with h3 | h3
    · simp (disch := omega) only [m_X9_told, p_X9_isComment, p_X9_between, zset_e, zset_n, c3, zrp_1, zrp_n, zrp_e, hl, hr, m3, h3, zlt, zbd_s, zbx_l, zbx_r, zj0, zj1, zj2, zj3, zset_2, zput_1, if_true, if_false, zar_p, zld_p, zst_p, zdv_p, zrm_p, zc01_p, zb_p, zb_n, if_pos, if_neg]
    · simp (disch := omega) only [m_X9_told, p_X9_isComment, p_X9_between, zset_e, zset_n, c3, zrp_1, zrp_n, zrp_e, hl, hr, m3, h3, zlt, zbd_s, zbx_l, zbx_r, zj0, zj1, zj2, zj3, zset_2, zput_1, if_true, if_false, zar_p, zld_p, zst_p, zdv_p, zrm_p, zc01_p, zb_p, zb_n, if_pos, if_neg]
  · rcases h4 with h4 | h4
    · simp (disch := omega) only [m_X9_told, p_X9_isComment, p_X9_between, zset_e, zset_n, c3, zrp_1, zrp_n, zrp_e, hl, m4, h4, zlt, zbd_s, zbx_l, zbx_r, zj0, zj1, zj2, zj3, zset_2, zput_1, if_true, if_false, zar_p, zld_p, zst_p, zdv_p, zrm_p, zc01_p, zb_p, zb_n, if_pos, if_neg]
    · simp (disch := omega) only [m_X9_told, p_X9_isComment, p_X9_between, zset_e, zset_n, c3, zrp_1, zrp_n, zrp_e, hl, m4, h4, zlt, zbd_s, zbx_l, zbx_r, zj0, zj1, zj2, zj3, zset_2, zput_1, if_true, if_false, zar_p, zld_p, zst_p, zdv_p, zrm_p, zc01_p, zb_p, zb_n, if_pos, if_neg]
  · simp (disch := omega) only [m_X9_told, p_X9_isComment, p_X9_between, zset_e, zset_n, c3, zrp_1, zrp_n, zrp_e, hl, m5, zlt, zbd_s, zbx_l, zbx_r, zj0, zj1, zj2, zj3, zset_2, zput_1, if_true, if_false, zar_p, zld_p, zst_p, zdv_p, zrm_p, zc01_p, zb_p, zb_n, if_pos, if_neg]
  · simp (disch := omega) only [m_X9_told, p_X9_isComment, p_X9_between, zset_e, zset_n, c3, zrp_1, zrp_n, zrp_e, hl, m6, zlt, zbd_s, zbx_l, zbx_r, zj0, zj1, zj2, zj3, zset_2, zput_1, if_true, if_false, zar_p, zld_p, zst_p, zdv_p, zrm_p, zc01_p, zb_p, zb_n, if_pos, if_neg]
theorem q_told2 {C : zSt} {f : Int → Int} {b w n r v0 v1 v2 v3 v4 v5 v6 : Int} (c3 : C.1 3 = n) (hb : 0 ≤ b ∧ b < n) (hn : n ≤ 60) (hw : 0 ≤ w ∧ w ≤ 6) (hl : m_X1_weigh C = some (0, zrp C 17 f)) (hr : C.2 12 b = r) (hr2 : 0 ≤ r ∧ r < n) (m0 : C.2 7 b = v0) (m1 : C.2 13 r = v1) (m2 : C.2 14 r = v2) (m3 : C.2 16 r = v3) (m4 : v4 = zb (f b < 1)) (m5 : C.2 11 b = v5) (m6 : C.2 8 b = v6) (h3 : v3 = 0 ∨ v3 = 1) (h4 : v4 = 0 ∨ v4 = 1) : m_X8_told C b w = some (.inl (if w = 0 then v0 else if w = 1 then v1 else if w = 2 then v2 else if w = 3 then v3 else if w = 4 then v4 else if w = 5 then v5 else v6, if w = 4 then zrp C 17 f else C)) := by
  have hL : m_X1_isLost C b = some (v3, C) := by
    rw [p_X1_isLost C b (by omega) (by omega) (by omega) (by rw [hr, m3]; exact h3), hr, m3]
  have hS : m_X1_isLight (zrp C 17 f) b = some (v4, zrp C 17 f) := by
    rw [p_X1_isLight _ b (by omega), m4, zrp_e]
  rcases (show w = 0 ∨ w = 1 ∨ w = 2 ∨ w = 3 ∨ w = 4 ∨ w = 5 ∨ w = 6 by omega) with rfl | rfl | rfl | rfl | rfl | rfl | rfl
  · simp (disch := omega) only [m_X8_told, p_X8_needComment, p_X8_needArgument, c3, m_X1_authorOf, p_at, zat_p, m0, zlt, zbd_s, zbx_l, zbx_r, zj0, zj1, zj2, zj3, zset_2, zput_1, if_true, if_false, zar_p, zld_p, zst_p, zdv_p, zrm_p, zc01_p, zb_p, zb_n, if_pos, if_neg]
  · simp (disch := omega) only [m_X8_told, p_X8_needComment, p_X8_needArgument, c3, m_X1_unitOf, p_at, zat_p, hr, m1, zlt, zbd_s, zbx_l, zbx_r, zj0, zj1, zj2, zj3, zset_2, zput_1, if_true, if_false, zar_p, zld_p, zst_p, zdv_p, zrm_p, zc01_p, zb_p, zb_n, if_pos, if_neg]
  · simp (disch := omega) only [m_X8_told, p_X8_needComment, p_X8_needArgument, c3, m_X1_placeOf, p_at, zat_p, hr, m2, zlt, zbd_s, zbx_l, zbx_r, zj0, zj1, zj2, zj3, zset_2, zput_1, if_true, if_false, zar_p, zld_p, zst_p, zdv_p, zrm_p, zc01_p, zb_p, zb_n, if_pos, if_neg]
  · rcases h3 with h3 | h3
    · simp (disch := omega) only [m_X8_told, p_X8_needComment, p_X8_needArgument, c3, hL, h3, zlt, zbd_s, zbx_l, zbx_r, zj0, zj1, zj2, zj3, zset_2, zput_1, if_true, if_false, zar_p, zld_p, zst_p, zdv_p, zrm_p, zc01_p, zb_p, zb_n, if_pos, if_neg]
    · simp (disch := omega) only [m_X8_told, p_X8_needComment, p_X8_needArgument, c3, hL, h3, zlt, zbd_s, zbx_l, zbx_r, zj0, zj1, zj2, zj3, zset_2, zput_1, if_true, if_false, zar_p, zld_p, zst_p, zdv_p, zrm_p, zc01_p, zb_p, zb_n, if_pos, if_neg]
  · rcases h4 with h4 | h4
    · simp (disch := omega) only [m_X8_told, p_X8_needComment, p_X8_needArgument, c3, m_X1_stands, hl, hS, h4, zlt, zbd_s, zbx_l, zbx_r, zj0, zj1, zj2, zj3, zset_2, zput_1, if_true, if_false, zar_p, zld_p, zst_p, zdv_p, zrm_p, zc01_p, zb_p, zb_n, if_pos, if_neg]
    · simp (disch := omega) only [m_X8_told, p_X8_needComment, p_X8_needArgument, c3, m_X1_stands, hl, hS, h4, zlt, zbd_s, zbx_l, zbx_r, zj0, zj1, zj2, zj3, zset_2, zput_1, if_true, if_false, zar_p, zld_p, zst_p, zdv_p, zrm_p, zc01_p, zb_p, zb_n, if_pos, if_neg]
  · simp (disch := omega) only [m_X8_told, p_X8_needComment, p_X8_needArgument, c3, m_X1_parentOf, p_at, zat_p, m5, zlt, zbd_s, zbx_l, zbx_r, zj0, zj1, zj2, zj3, zset_2, zput_1, if_true, if_false, zar_p, zld_p, zst_p, zdv_p, zrm_p, zc01_p, zb_p, zb_n, if_pos, if_neg]
  · simp (disch := omega) only [m_X8_told, p_X8_needComment, p_X8_needArgument, c3, m_X1_kindOf, p_at, zat_p, m6, zlt, zbd_s, zbx_l, zbx_r, zj0, zj1, zj2, zj3, zset_2, zput_1, if_true, if_false, zar_p, zld_p, zst_p, zdv_p, zrm_p, zc01_p, zb_p, zb_n, if_pos, if_neg]
theorem zb_01 {c : Prop} [Decidable c] : zb c = 0 ∨ zb c = 1 := by
  unfold zb; split
  · exact Or.inr rfl
  · exact Or.inl rfl
theorem s_told {C M : zSt} {b w : Int} (hJ : J C M) : Sim ["java/lang/IndexOutOfBoundsException", "java/lang/IllegalArgumentException"] (m_X9_told M b w) (m_X8_told C b w) := by
  obtain ⟨hRG, hP, hT, hA, hC, hR, hF, hE⟩ := id hJ
  obtain ⟨c1, c2, c3, c4, c5⟩ := id hC
  by_cases h1 : 0 ≤ b ∧ b < C.1 3
  · by_cases h2 : 0 ≤ w ∧ w ≤ 6
    · obtain ⟨f, s, e1, e2, e3⟩ := q_stand (C := C) (M := zset M 0 0) hC
      obtain ⟨a1, a2, a3, a4, a5, a6, a7, a8⟩ := c4 b h1.1 h1.2
      have r1 := (c4 (C.2 12 b) a6.2.1 (by omega)).2.2.2.2.2.2.2 a6.2.2.2.1
      have l1 := c5 (C.2 12 b)
      refine Sim.ok (q_told1 c3 h1 c2 h2 e2 a6.1 ⟨a6.2.1, by omega⟩ a1.1 a7 r1.2.2.2.1 l1.1 (e3 b h1.1 h1.2) a5.1 a2.1 l1.2.1 zb_01) (q_told2 rfl h1 c2 h2 e1 rfl ⟨a6.2.1, by omega⟩ rfl rfl rfl rfl rfl rfl rfl l1.2.1 zb_01) rfl ?_
      have hh : Jn C (zrp (zset M 0 0) 16 s) := ⟨hP, hT, hA, hC, hR, hF, hE⟩
      have hh2 : Jn (zrp C 17 f) (zrp (zset M 0 0) 16 s) := ⟨hP, hT, hA, hC, hR, hF, hE⟩
      by_cases e : w = 4
      · rw [if_pos e]; exact hh2
      · rw [if_neg e]; exact hh
    · have a1 : m_X9_told M b w = some (0, zset M 0 2) := by clear hJ hRG c4 c5 hC; simp (disch := omega) only [m_X9_told, p_X9_isComment, p_X9_between, zset_e, zset_n, c3, zrp_1, zrp_n, zrp_e, zlt, zbd_s, zbx_l, zbx_r, zj0, zj1, zj2, zj3, zset_2, zput_1, if_true, if_false, zar_p, zld_p, zst_p, zdv_p, zrm_p, zc01_p, zb_p, zb_n, if_pos, if_neg]
      have a2 : m_X8_told C b w = some (.inr ("java/lang/IllegalArgumentException", C)) := by clear hJ hRG c4 c5 hC c3; simp (disch := omega) only [m_X8_told, p_X8_needComment, p_X8_needArgument, zlt, zbd_s, zbx_l, zbx_r, zj0, zj1, zj2, zj3, zset_2, zput_1, if_true, if_false, zar_p, zld_p, zst_p, zdv_p, zrm_p, zc01_p, zb_p, zb_n, if_pos, if_neg]
      exact Sim.no a1 a2 (by decide) rfl (hJ.thr 2)
  · have a1 : m_X9_told M b w = some (0, zset M 0 1) := by clear hJ hRG c4 c5 hC; simp (disch := omega) only [m_X9_told, p_X9_isComment, p_X9_between, zset_e, zset_n, c3, zrp_1, zrp_n, zrp_e, zlt, zbd_s, zbx_l, zbx_r, zj0, zj1, zj2, zj3, zset_2, zput_1, if_true, if_false, zar_p, zld_p, zst_p, zdv_p, zrm_p, zc01_p, zb_p, zb_n, if_pos, if_neg]
    have a2 : m_X8_told C b w = some (.inr ("java/lang/IndexOutOfBoundsException", C)) := by clear hJ hRG c4 c5 hC c3; simp (disch := omega) only [m_X8_told, p_X8_needComment, p_X8_needArgument, zlt, zbd_s, zbx_l, zbx_r, zj0, zj1, zj2, zj3, zset_2, zput_1, if_true, if_false, zar_p, zld_p, zst_p, zdv_p, zrm_p, zc01_p, zb_p, zb_n, if_pos, if_neg]
    exact Sim.no a1 a2 (by decide) rfl (hJ.thr 1)
theorem s_standsAnew {C M : zSt} {b : Int} (hJ : J C M) : Sim ["java/lang/IndexOutOfBoundsException"] (m_X9_standsAnew M b) (m_X8_standsAnew C b) := by
  obtain ⟨hRG, hP, hT, hA, hC, hR, hF, hE⟩ := id hJ
  obtain ⟨c1, c2, c3, c4, c5⟩ := id hC
  by_cases h1 : 0 ≤ b ∧ b < C.1 3
  · obtain ⟨f, s, e1, e2, e3⟩ := q_stand (C := C) (M := zset M 0 0) hC
    have hs := e3 b h1.1 h1.2
    have hS := p_X1_isLight (zrp C 17 f) b (by omega)
    refine Sim.ok (b := zb (f b < 1)) (C' := zrp C 17 f) (M' := zrp (zset M 0 0) 16 s) ?_ ?_ rfl ⟨hP, hT, hA, hC, hR, hF, hE⟩
    · clear hJ hRG c4 c5 hC; simp (disch := omega) only [m_X9_standsAnew, p_X9_isComment, zset_e, c3, e2, zrp_e, hs, zlt, zbd_s, zbx_l, zbx_r, zj0, zj1, zj2, zj3, zset_2, zput_1, if_true, if_false, zar_p, zld_p, zst_p, zdv_p, zrm_p, zc01_p, zb_p, zb_n, if_pos, if_neg]
    · clear hJ hRG c4 c5 hC c3; simp (disch := omega) only [m_X8_standsAnew, p_X8_needComment, m_X1_stands, e1, hS, zrp_e, zlt, zbd_s, zbx_l, zbx_r, zj0, zj1, zj2, zj3, zset_2, zput_1, if_true, if_false, zar_p, zld_p, zst_p, zdv_p, zrm_p, zc01_p, zb_p, zb_n, if_pos, if_neg]
  · have a1 : m_X9_standsAnew M b = some (0, zset M 0 1) := by clear hJ hRG c4 c5 hC; simp (disch := omega) only [m_X9_standsAnew, p_X9_isComment, zset_e, c3, zlt, zbd_s, zbx_l, zbx_r, zj0, zj1, zj2, zj3, zset_2, zput_1, if_true, if_false, zar_p, zld_p, zst_p, zdv_p, zrm_p, zc01_p, zb_p, zb_n, if_pos, if_neg]
    have a2 : m_X8_standsAnew C b = some (.inr ("java/lang/IndexOutOfBoundsException", C)) := by clear hJ hRG c4 c5 hC c3; simp (disch := omega) only [m_X8_standsAnew, p_X8_needComment, zlt, zbd_s, zbx_l, zbx_r, zj0, zj1, zj2, zj3, zset_2, zput_1, if_true, if_false, zar_p, zld_p, zst_p, zdv_p, zrm_p, zc01_p, zb_p, zb_n, if_pos, if_neg]
    exact Sim.no a1 a2 (by decide) rfl (hJ.thr 1)
theorem q_hard1 {T : zSt} {u n : Int} {j1 : Int → zSt → Option zRes} (hn : T.1 4 = n) (h0 : T.1 0 = 0) (hn2 : n ≤ 60) (g d : Nat) (i : Int) (hi : 0 ≤ i ∧ i + d = n) (hd : d < g) : zl2 g (b_X9_isHard_25 u j1) 1 i T = j1 1 T := by
  refine zw2 (F := b_X9_isHard_25 u j1) (fun d x y S => x = 1 ∧ S = T ∧ 0 ≤ y ∧ y + d = n) (fun q => q = j1 1 T) ?_ g d 1 i T ⟨rfl, rfl, by omega, by omega⟩ hd
  rintro rec d x y S ⟨rfl, rfl, h1, h2⟩
  by_cases c : n ≤ y
  · refine Or.inl ?_
    simp (disch := omega) only [b_X9_isHard_25, hn, zlt, zbd_s, zbx_l, zbx_r, zj0, zj1, zj2, zj3, zset_2, zput_1, if_true, if_false, zar_p, zld_p, zst_p, zdv_p, zrm_p, zc01_p, zb_p, zb_n, if_pos, if_neg]
  · refine Or.inr ⟨d - 1, 1, y + 1, S, by omega, ⟨rfl, rfl, by omega, by omega⟩, ?_⟩
    simp (disch := omega) only [b_X9_isHard_25, hn, h0, zlt, zbd_s, zbx_l, zbx_r, zj0, zj1, zj2, zj3, zset_2, zput_1, if_true, if_false, zar_p, zld_p, zst_p, zdv_p, zrm_p, zc01_p, zb_p, zb_n, if_pos, if_neg]
theorem q_hard {S T : zSt} {u n : Int} (hS : S.1 3 = n) (hn : T.1 4 = n) (h0 : T.1 0 = 0) (hn2 : n ≤ 60) (hj : ∀ j, 0 ≤ j → j < n → T.2 8 j = S.2 11 j ∧ T.2 7 j = S.2 8 j ∧ T.2 16 j = zb (S.2 17 j < 1) ∧ (S.2 11 j = -1 → T.2 10 j = S.2 13 j)) : ∀ (d g g2 : Nat) (i : Int), 0 ≤ i → i + d = n → d < g → d < g2 → ∃ r, (r = 0 ∨ r = 1) ∧ zl1 g (b_X1_haveDoubtOn_6 u (fun (S2 : zSt) => some (0, S2))) i S = some (r, S) ∧ ∀ j1 : Int → zSt → Option zRes, zl2 g2 (b_X9_isHard_25 u j1) 0 i T = j1 r T := by
  intro d
  induction d with
  | zero =>
    intro g g2 i h1 h2 h3 h4
    obtain ⟨g, rfl⟩ : ∃ k, g = k + 1 := ⟨g - 1, by omega⟩
    obtain ⟨g2, rfl⟩ : ∃ k, g2 = k + 1 := ⟨g2 - 1, by omega⟩
    refine ⟨0, Or.inl rfl, ?_, fun j1 => ?_⟩
    · simp (disch := omega) only [zl1_s, b_X1_haveDoubtOn_6, hS, zlt, zbd_s, zbx_l, zbx_r, zj0, zj1, zj2, zj3, zset_2, zput_1, if_true, if_false, zar_p, zld_p, zst_p, zdv_p, zrm_p, zc01_p, zb_p, zb_n, if_pos, if_neg]
    · simp (disch := omega) only [zl2_s, b_X9_isHard_25, hn, zlt, zbd_s, zbx_l, zbx_r, zj0, zj1, zj2, zj3, zset_2, zput_1, if_true, if_false, zar_p, zld_p, zst_p, zdv_p, zrm_p, zc01_p, zb_p, zb_n, if_pos, if_neg]
  | succ d ih =>
    intro g g2 i h1 h2 h3 h4
    obtain ⟨g, rfl⟩ : ∃ k, g = k + 1 := ⟨g - 1, by omega⟩
    obtain ⟨g2, rfl⟩ : ∃ k, g2 = k + 1 := ⟨g2 - 1, by omega⟩
    obtain ⟨o1, o2, o3, o4⟩ := hj i h1 (by omega)
    obtain ⟨r, r1, r2, r3⟩ := ih g g2 (i + 1) (by omega) (by omega) (by omega) (by omega)
    have k1 := p_X1_isHook S i u (by omega) (by omega)
    have k2 := p_X1_isDoubt S i (by omega)
    have k3 := p_X1_isLight S i (by omega)
    have k4 := p_X9_asks T i (by omega)
    rw [o1, o2] at k4
    by_cases c1 : S.2 11 i = -1
    · have o5 := o4 c1
      by_cases c2 : S.2 13 i = u
      · by_cases c3 : S.2 8 i = 0 ∨ S.2 8 i = 1
        · by_cases c4 : S.2 17 i < 1
          · rw [zb_p c4] at o3
            refine ⟨1, Or.inr rfl, ?_, fun j1 => ?_⟩
            · simp (disch := omega) only [zl1_s, b_X1_haveDoubtOn_6, hS, k1, k2, k3, zlt, zbd_s, zbx_l, zbx_r, zj0, zj1, zj2, zj3, zset_2, zput_1, if_true, if_false, zar_p, zld_p, zst_p, zdv_p, zrm_p, zc01_p, zb_p, zb_n, if_pos, if_neg]
            · refine Eq.trans ?_ (q_hard1 (u := u) (j1 := j1) hn h0 hn2 g2 d (i + 1) ⟨by omega, by omega⟩ (by omega))
              simp (disch := omega) only [zl2_s, b_X9_isHard_25, hn, h0, o5, k4, o3, zlt, zbd_s, zbx_l, zbx_r, zj0, zj1, zj2, zj3, zset_2, zput_1, if_true, if_false, zar_p, zld_p, zst_p, zdv_p, zrm_p, zc01_p, zb_p, zb_n, if_pos, if_neg]
          · rw [zb_n c4] at o3
            refine ⟨r, r1, r2 ▸ ?_, fun j1 => (r3 j1) ▸ ?_⟩
            · simp (disch := omega) only [zl1_s, b_X1_haveDoubtOn_6, hS, k1, k2, k3, zlt, zbd_s, zbx_l, zbx_r, zj0, zj1, zj2, zj3, zset_2, zput_1, if_true, if_false, zar_p, zld_p, zst_p, zdv_p, zrm_p, zc01_p, zb_p, zb_n, if_pos, if_neg]
            · simp (disch := omega) only [zl2_s, b_X9_isHard_25, hn, h0, o5, k4, o3, zlt, zbd_s, zbx_l, zbx_r, zj0, zj1, zj2, zj3, zset_2, zput_1, if_true, if_false, zar_p, zld_p, zst_p, zdv_p, zrm_p, zc01_p, zb_p, zb_n, if_pos, if_neg]
        · refine ⟨r, r1, r2 ▸ ?_, fun j1 => (r3 j1) ▸ ?_⟩
          · simp (disch := omega) only [zl1_s, b_X1_haveDoubtOn_6, hS, k1, k2, zlt, zbd_s, zbx_l, zbx_r, zj0, zj1, zj2, zj3, zset_2, zput_1, if_true, if_false, zar_p, zld_p, zst_p, zdv_p, zrm_p, zc01_p, zb_p, zb_n, if_pos, if_neg]
          · simp (disch := omega) only [zl2_s, b_X9_isHard_25, hn, h0, o5, k4, zlt, zbd_s, zbx_l, zbx_r, zj0, zj1, zj2, zj3, zset_2, zput_1, if_true, if_false, zar_p, zld_p, zst_p, zdv_p, zrm_p, zc01_p, zb_p, zb_n, if_pos, if_neg]
      · refine ⟨r, r1, r2 ▸ ?_, fun j1 => (r3 j1) ▸ ?_⟩
        · simp (disch := omega) only [zl1_s, b_X1_haveDoubtOn_6, hS, k1, zlt, zbd_s, zbx_l, zbx_r, zj0, zj1, zj2, zj3, zset_2, zput_1, if_true, if_false, zar_p, zld_p, zst_p, zdv_p, zrm_p, zc01_p, zb_p, zb_n, if_pos, if_neg]
        · simp (disch := omega) only [zl2_s, b_X9_isHard_25, hn, h0, o5, zlt, zbd_s, zbx_l, zbx_r, zj0, zj1, zj2, zj3, zset_2, zput_1, if_true, if_false, zar_p, zld_p, zst_p, zdv_p, zrm_p, zc01_p, zb_p, zb_n, if_pos, if_neg]
    · refine ⟨r, r1, r2 ▸ ?_, fun j1 => (r3 j1) ▸ ?_⟩
      · simp (disch := omega) only [zl1_s, b_X1_haveDoubtOn_6, hS, k1, zlt, zbd_s, zbx_l, zbx_r, zj0, zj1, zj2, zj3, zset_2, zput_1, if_true, if_false, zar_p, zld_p, zst_p, zdv_p, zrm_p, zc01_p, zb_p, zb_n, if_pos, if_neg]
      · by_cases c2 : T.2 10 i = u
        · simp (disch := omega) only [zl2_s, b_X9_isHard_25, hn, h0, k4, zlt, zbd_s, zbx_l, zbx_r, zj0, zj1, zj2, zj3, zset_2, zput_1, if_true, if_false, zar_p, zld_p, zst_p, zdv_p, zrm_p, zc01_p, zb_p, zb_n, if_pos, if_neg]
        · simp (disch := omega) only [zl2_s, b_X9_isHard_25, hn, h0, zlt, zbd_s, zbx_l, zbx_r, zj0, zj1, zj2, zj3, zset_2, zput_1, if_true, if_false, zar_p, zld_p, zst_p, zdv_p, zrm_p, zc01_p, zb_p, zb_n, if_pos, if_neg]
theorem s_isHard {C M : zSt} {u : Int} (hJ : J C M) : Sim ["java/lang/IndexOutOfBoundsException"] (m_X9_isHard M u) (m_X8_isHard C u) := by
  obtain ⟨hRG, hP, hT, hA, hC, hR, hF, hE⟩ := id hJ
  obtain ⟨c1, c2, c3, c4, c5⟩ := id hC
  have t1 := hT.1
  have t2 := hT.2.1
  have t3 := hT.2.2.1
  by_cases h1 : 0 ≤ u ∧ u < C.1 1
  · obtain ⟨f, s, e1, e2, e3⟩ := q_stand (C := C) (M := zset M 0 0) hC
    obtain ⟨r, r1, r2, r3⟩ := q_hard (S := zrp C 17 f) (T := zrp (zset M 0 0) 16 s) (u := u) (n := C.1 3) rfl c3 rfl c2 (fun j j1 j2 => by
      obtain ⟨a1, a2, a3, a4, a5, a6, a7, a8⟩ := c4 j j1 j2
      refine ⟨a5.1, a2.1, e3 j j1 j2, fun q => ?_⟩
      have : M.2 10 j = C.2 13 (C.2 12 j) := a7
      rw [a6.2.2.2.2 q] at this; exact this) (C.1 3).toNat 1000 1000 0 (by omega) (by omega) (by omega) (by omega)
    refine Sim.ok (b := r) (C' := zrp C 17 f) (M' := zrp (zset M 0 0) 16 s) ?_ ?_ rfl ⟨hP, hT, hA, hC, hR, hF, hE⟩
    · clear hJ hRG c4 c5 hC; simp (disch := omega) only [m_X9_isHard, p_X9_isUnit, zset_e, t3, e2, r3, zlt, zbd_s, zbx_l, zbx_r, zj0, zj1, zj2, zj3, zset_2, zput_1, if_true, if_false, zar_p, zld_p, zst_p, zdv_p, zrm_p, zc01_p, zb_p, zb_n, if_pos, if_neg]
    · clear hJ hRG c4 c5 hC c3; simp (disch := omega) only [m_X8_isHard, p_X8_needUnit, m_X1_haveDoubtOn, e1, r2, zlt, zbd_s, zbx_l, zbx_r, zj0, zj1, zj2, zj3, zset_2, zput_1, if_true, if_false, zar_p, zld_p, zst_p, zdv_p, zrm_p, zc01_p, zb_p, zb_n, if_pos, if_neg]
  · obtain ⟨f, s, e1, e2, e3⟩ := q_stand (C := C) (M := zset M 0 1) hC
    have e4 : ∀ j1 : Int → zSt → Option zRes, zl2 1000 (b_X9_isHard_25 u j1) 0 0 (zrp (zset M 0 1) 16 s) = j1 0 (zrp (zset M 0 1) 16 s) := by
      intro j1
      refine (zl2_s 999 _ 0 0 (zrp (zset M 0 1) 16 s)).trans ?_
      by_cases c : C.1 3 ≤ 0
      · simp (disch := omega) only [b_X9_isHard_25, zrp_1, zset_n, zset_e, c3, zlt, zbd_s, zbx_l, zbx_r, zj0, zj1, zj2, zj3, zset_2, zput_1, if_true, if_false, zar_p, zld_p, zst_p, zdv_p, zrm_p, zc01_p, zb_p, zb_n, if_pos, if_neg]
      · simp (disch := omega) only [b_X9_isHard_25, zrp_1, zset_n, zset_e, c3, zlt, zbd_s, zbx_l, zbx_r, zj0, zj1, zj2, zj3, zset_2, zput_1, if_true, if_false, zar_p, zld_p, zst_p, zdv_p, zrm_p, zc01_p, zb_p, zb_n, if_pos, if_neg]
    have a1 : m_X9_isHard M u = some (0, zrp (zset M 0 1) 16 s) := by clear hJ hRG c4 c5 hC; simp (disch := omega) only [m_X9_isHard, p_X9_isUnit, zset_e, t3, e2, e4, zlt, zbd_s, zbx_l, zbx_r, zj0, zj1, zj2, zj3, zset_2, zput_1, if_true, if_false, zar_p, zld_p, zst_p, zdv_p, zrm_p, zc01_p, zb_p, zb_n, if_pos, if_neg]
    have a2 : m_X8_isHard C u = some (.inr ("java/lang/IndexOutOfBoundsException", C)) := by clear hJ hRG c4 c5 hC c3; simp (disch := omega) only [m_X8_isHard, p_X8_needUnit, zlt, zbd_s, zbx_l, zbx_r, zj0, zj1, zj2, zj3, zset_2, zput_1, if_true, if_false, zar_p, zld_p, zst_p, zdv_p, zrm_p, zc01_p, zb_p, zb_n, if_pos, if_neg]
    exact Sim.no a1 a2 (by decide) rfl ⟨hP, hT, hA, hC, hR, hF, hE⟩

