/-! emend: the hooks anew, one step on each side -/
theorem q_hk1 {S : zSt} {u n x i r : Int} {rec : Int → Int → zSt → Option zRes} {j1 : Int → zSt → Option zRes} (hn : S.1 3 = n) (hn2 : n ≤ 60) (hi : 0 ≤ i ∧ i < n) (hx : 0 ≤ x ∧ x ≤ 60) (h1 : S.2 11 i = -1) (h2 : S.2 13 i = u) (hr : m_X7_nearest S u (S.2 15 i) (S.2 14 i) = some (r, S)) (hr2 : -1 ≤ r ∧ r < 12) (hl : S.2 16 i = 0 ∨ S.2 16 i = 1) : b_X1_hookAnew_5 u j1 rec x i S = (if r = -1 then (if S.2 16 i = 1 then rec x (i + 1) S else rec (x + 1) (i + 1) (zput S 16 i 1)) else (if S.2 16 i = 0 then rec x (i + 1) (zput S 14 i r) else rec (x + 1) (i + 1) (zput (zput S 14 i r) 16 i 0))) := by
  have hk := p_X1_isHook S i u (by omega) (by omega)
  have e : ∀ v, (zput S 14 i v).2 16 = S.2 16 := fun v => rfl
  by_cases c1 : r = -1
  · rcases hl with c2 | c2
    · simp (disch := omega) only [b_X1_hookAnew_5, hn, hk, hr, c2, zlt, zbd_s, zbx_l, zbx_r, zj0, zj1, zj2, zj3, zset_2, zput_1, if_true, if_false, zar_p, zld_p, zst_p, zdv_p, zrm_p, zc01_p, zb_p, zb_n, if_pos, if_neg]
    · simp (disch := omega) only [b_X1_hookAnew_5, hn, hk, hr, c2, zlt, zbd_s, zbx_l, zbx_r, zj0, zj1, zj2, zj3, zset_2, zput_1, if_true, if_false, zar_p, zld_p, zst_p, zdv_p, zrm_p, zc01_p, zb_p, zb_n, if_pos, if_neg]
  · rcases hl with c2 | c2
    · simp (disch := omega) only [b_X1_hookAnew_5, hn, hk, hr, e, c2, zlt, zbd_s, zbx_l, zbx_r, zj0, zj1, zj2, zj3, zset_2, zput_1, if_true, if_false, zar_p, zld_p, zst_p, zdv_p, zrm_p, zc01_p, zb_p, zb_n, if_pos, if_neg]
    · simp (disch := omega) only [b_X1_hookAnew_5, hn, hk, hr, e, c2, zlt, zbd_s, zbx_l, zbx_r, zj0, zj1, zj2, zj3, zset_2, zput_1, if_true, if_false, zar_p, zld_p, zst_p, zdv_p, zrm_p, zc01_p, zb_p, zb_n, if_pos, if_neg]
theorem q_hk2 {S : zSt} {u n x i : Int} {rec : Int → Int → zSt → Option zRes} {j1 : Int → zSt → Option zRes} (hn : S.1 3 = n) (hn2 : n ≤ 60) (hi : 0 ≤ i ∧ i < n) (h : ¬ (S.2 11 i = -1 ∧ S.2 13 i = u)) : b_X1_hookAnew_5 u j1 rec x i S = rec x (i + 1) S := by
  have hk := p_X1_isHook S i u (by omega) (by omega)
  simp (disch := omega) only [b_X1_hookAnew_5, hn, hk, zlt, zbd_s, zbx_l, zbx_r, zj0, zj1, zj2, zj3, zset_2, zput_1, if_true, if_false, zar_p, zld_p, zst_p, zdv_p, zrm_p, zc01_p, zb_p, zb_n, if_pos, if_neg]
theorem q_hk4 {S : zSt} {u a w n x i : Int} {rec : Int → Int → zSt → Option zRes} {j1 : Int → zSt → Option zRes} (hn : S.1 4 = n) (hn2 : n ≤ 60) (hi : 0 ≤ i ∧ i < n) (h : ¬ (S.2 8 i = -1 ∧ S.2 10 i = u)) : b_X9_emend_161 u a w j1 rec x i S = rec x (i + 1) S := by
  by_cases c : S.2 8 i = -1
  · simp (disch := omega) only [b_X9_emend_161, ↓zlt, ↓zj0, ↓zj1, ↓zj2, ↓zbd_s, ↓zar_p, ↓zld_p, ↓zst_p, ↓zc01_p, ↓if_pos, ↓if_neg]
  · simp (disch := omega) only [b_X9_emend_161, ↓zlt, ↓zj0, ↓zj1, ↓zj2, ↓zbd_s, ↓zar_p, ↓zld_p, ↓zst_p, ↓zc01_p, ↓if_pos, ↓if_neg]
theorem q_cg1 {S : zSt} {u a l n i : Int} {rec : Int → zSt → Option zRes} (hn : S.1 3 = n) (hn2 : n ≤ 60) (hi : 0 ≤ i ∧ i < n) (h1 : S.2 11 i = -1) (h2 : S.2 13 i = u) (hp : 0 ≤ S.2 14 i ∧ S.2 14 i ≤ 12) : b_X1_closeGap_3 u a l rec i S = rec (i + 1) (zput S 14 i (if l < (if a < S.2 14 i then S.2 14 i - 1 else S.2 14 i) then l else if a < S.2 14 i then S.2 14 i - 1 else S.2 14 i)) := by
  have hk := p_X1_isHook S i u (by omega) (by omega)
  by_cases c1 : a < S.2 14 i
  · simp (disch := omega) only [b_X1_closeGap_3, hn, hk, zlt, zbd_s, zbx_l, zbx_r, zj0, zj1, zj2, zj3, zset_2, zput_1, if_true, if_false, zar_p, zld_p, zst_p, zdv_p, zrm_p, zc01_p, zb_p, zb_n, if_pos, if_neg]
  · simp (disch := omega) only [b_X1_closeGap_3, hn, hk, zlt, zbd_s, zbx_l, zbx_r, zj0, zj1, zj2, zj3, zset_2, zput_1, if_true, if_false, zar_p, zld_p, zst_p, zdv_p, zrm_p, zc01_p, zb_p, zb_n, if_pos, if_neg]
theorem q_cg2 {S : zSt} {u a l n i : Int} {rec : Int → zSt → Option zRes} (hn : S.1 3 = n) (hn2 : n ≤ 60) (hi : 0 ≤ i ∧ i < n) (h : ¬ (S.2 11 i = -1 ∧ S.2 13 i = u)) : b_X1_closeGap_3 u a l rec i S = rec (i + 1) S := by
  have hk := p_X1_isHook S i u (by omega) (by omega)
  simp (disch := omega) only [b_X1_closeGap_3, hn, hk, zlt, zbd_s, zbx_l, zbx_r, zj0, zj1, zj2, zj3, zset_2, zput_1, if_true, if_false, zar_p, zld_p, zst_p, zdv_p, zrm_p, zc01_p, zb_p, zb_n, if_pos, if_neg]

theorem q_hk3a1 {S : zSt} {u a w n x i r : Int} {rec : Int → Int → zSt → Option zRes} {j1 : Int → zSt → Option zRes} (hn : S.1 4 = n) (hn2 : n ≤ 60) (hi : 0 ≤ i ∧ i < n) (hu : 0 ≤ u ∧ u < 20) (hx : 0 ≤ x ∧ x ≤ 60) (h1 : S.2 8 i = -1) (h2 : S.2 10 i = u) (hm : 1 ≤ S.2 2 u ∧ S.2 2 u ≤ 12) (hp : 0 ≤ S.2 12 i ∧ S.2 12 i ≤ 12) (ha : 0 ≤ a) (hA : w = -1 ∧ a < S.2 12 i) (hB : S.2 2 u - 1 < S.2 12 i - 1) (hr : m_X9_nearest S u (S.2 11 i) (S.2 2 u - 1) = some (r, S)) (hl : S.2 13 i = 0 ∨ S.2 13 i = 1) : b_X9_emend_161 u a w j1 rec x i S = (if r = -1 then (if S.2 13 i = 1 then rec x (i + 1) (zput (zput S 13 i 1) 12 i (S.2 2 u - 1)) else rec (x + 1) (i + 1) (zput (zput S 13 i 1) 12 i (S.2 2 u - 1))) else (if S.2 13 i = 0 then rec x (i + 1) (zput (zput S 13 i 0) 12 i r) else rec (x + 1) (i + 1) (zput (zput S 13 i 0) 12 i r))) := by
  by_cases w1 : w = -1
  · by_cases c1 : r = -1
    · rcases hl with c2 | c2
      · first
          | (exfalso; omega)
          | simp (disch := omega) only [b_X9_emend_161, ↓zlt, ↓zj0, ↓zj1, ↓zj2, ↓zbd_s, ↓zar_p, ↓zld_p, ↓zst_p, ↓zc01_p, ↓if_pos, ↓if_neg, ↓hr, c2, Int.add_zero]
      · first
          | (exfalso; omega)
          | simp (disch := omega) only [b_X9_emend_161, ↓zlt, ↓zj0, ↓zj1, ↓zj2, ↓zbd_s, ↓zar_p, ↓zld_p, ↓zst_p, ↓zc01_p, ↓if_pos, ↓if_neg, ↓hr, c2, Int.add_zero]
    · rcases hl with c2 | c2
      · first
          | (exfalso; omega)
          | simp (disch := omega) only [b_X9_emend_161, ↓zlt, ↓zj0, ↓zj1, ↓zj2, ↓zbd_s, ↓zar_p, ↓zld_p, ↓zst_p, ↓zc01_p, ↓if_pos, ↓if_neg, ↓hr, c2, Int.add_zero]
      · first
          | (exfalso; omega)
          | simp (disch := omega) only [b_X9_emend_161, ↓zlt, ↓zj0, ↓zj1, ↓zj2, ↓zbd_s, ↓zar_p, ↓zld_p, ↓zst_p, ↓zc01_p, ↓if_pos, ↓if_neg, ↓hr, c2, Int.add_zero]
  · by_cases c1 : r = -1
    · rcases hl with c2 | c2
      · first
          | (exfalso; omega)
          | simp (disch := omega) only [b_X9_emend_161, ↓zlt, ↓zj0, ↓zj1, ↓zj2, ↓zbd_s, ↓zar_p, ↓zld_p, ↓zst_p, ↓zc01_p, ↓if_pos, ↓if_neg, ↓hr, c2, Int.add_zero]
      · first
          | (exfalso; omega)
          | simp (disch := omega) only [b_X9_emend_161, ↓zlt, ↓zj0, ↓zj1, ↓zj2, ↓zbd_s, ↓zar_p, ↓zld_p, ↓zst_p, ↓zc01_p, ↓if_pos, ↓if_neg, ↓hr, c2, Int.add_zero]
    · rcases hl with c2 | c2
      · first
          | (exfalso; omega)
          | simp (disch := omega) only [b_X9_emend_161, ↓zlt, ↓zj0, ↓zj1, ↓zj2, ↓zbd_s, ↓zar_p, ↓zld_p, ↓zst_p, ↓zc01_p, ↓if_pos, ↓if_neg, ↓hr, c2, Int.add_zero]
      · first
          | (exfalso; omega)
          | simp (disch := omega) only [b_X9_emend_161, ↓zlt, ↓zj0, ↓zj1, ↓zj2, ↓zbd_s, ↓zar_p, ↓zld_p, ↓zst_p, ↓zc01_p, ↓if_pos, ↓if_neg, ↓hr, c2, Int.add_zero]
theorem q_hk3a0 {S : zSt} {u a w n x i r : Int} {rec : Int → Int → zSt → Option zRes} {j1 : Int → zSt → Option zRes} (hn : S.1 4 = n) (hn2 : n ≤ 60) (hi : 0 ≤ i ∧ i < n) (hu : 0 ≤ u ∧ u < 20) (hx : 0 ≤ x ∧ x ≤ 60) (h1 : S.2 8 i = -1) (h2 : S.2 10 i = u) (hm : 1 ≤ S.2 2 u ∧ S.2 2 u ≤ 12) (hp : 0 ≤ S.2 12 i ∧ S.2 12 i ≤ 12) (ha : 0 ≤ a) (hA : ¬ (w = -1 ∧ a < S.2 12 i)) (hB : S.2 2 u - 1 < S.2 12 i) (hr : m_X9_nearest S u (S.2 11 i) (S.2 2 u - 1) = some (r, S)) (hl : S.2 13 i = 0 ∨ S.2 13 i = 1) : b_X9_emend_161 u a w j1 rec x i S = (if r = -1 then (if S.2 13 i = 1 then rec x (i + 1) (zput (zput S 13 i 1) 12 i (S.2 2 u - 1)) else rec (x + 1) (i + 1) (zput (zput S 13 i 1) 12 i (S.2 2 u - 1))) else (if S.2 13 i = 0 then rec x (i + 1) (zput (zput S 13 i 0) 12 i r) else rec (x + 1) (i + 1) (zput (zput S 13 i 0) 12 i r))) := by
  by_cases w1 : w = -1
  · by_cases c1 : r = -1
    · rcases hl with c2 | c2
      · first
          | (exfalso; omega)
          | simp (disch := omega) only [b_X9_emend_161, ↓zlt, ↓zj0, ↓zj1, ↓zj2, ↓zbd_s, ↓zar_p, ↓zld_p, ↓zst_p, ↓zc01_p, ↓if_pos, ↓if_neg, ↓hr, c2, Int.add_zero]
      · first
          | (exfalso; omega)
          | simp (disch := omega) only [b_X9_emend_161, ↓zlt, ↓zj0, ↓zj1, ↓zj2, ↓zbd_s, ↓zar_p, ↓zld_p, ↓zst_p, ↓zc01_p, ↓if_pos, ↓if_neg, ↓hr, c2, Int.add_zero]
    · rcases hl with c2 | c2
      · first
          | (exfalso; omega)
          | simp (disch := omega) only [b_X9_emend_161, ↓zlt, ↓zj0, ↓zj1, ↓zj2, ↓zbd_s, ↓zar_p, ↓zld_p, ↓zst_p, ↓zc01_p, ↓if_pos, ↓if_neg, ↓hr, c2, Int.add_zero]
      · first
          | (exfalso; omega)
          | simp (disch := omega) only [b_X9_emend_161, ↓zlt, ↓zj0, ↓zj1, ↓zj2, ↓zbd_s, ↓zar_p, ↓zld_p, ↓zst_p, ↓zc01_p, ↓if_pos, ↓if_neg, ↓hr, c2, Int.add_zero]
  · by_cases c1 : r = -1
    · rcases hl with c2 | c2
      · first
          | (exfalso; omega)
          | simp (disch := omega) only [b_X9_emend_161, ↓zlt, ↓zj0, ↓zj1, ↓zj2, ↓zbd_s, ↓zar_p, ↓zld_p, ↓zst_p, ↓zc01_p, ↓if_pos, ↓if_neg, ↓hr, c2, Int.add_zero]
      · first
          | (exfalso; omega)
          | simp (disch := omega) only [b_X9_emend_161, ↓zlt, ↓zj0, ↓zj1, ↓zj2, ↓zbd_s, ↓zar_p, ↓zld_p, ↓zst_p, ↓zc01_p, ↓if_pos, ↓if_neg, ↓hr, c2, Int.add_zero]
    · rcases hl with c2 | c2
      · first
          | (exfalso; omega)
          | simp (disch := omega) only [b_X9_emend_161, ↓zlt, ↓zj0, ↓zj1, ↓zj2, ↓zbd_s, ↓zar_p, ↓zld_p, ↓zst_p, ↓zc01_p, ↓if_pos, ↓if_neg, ↓hr, c2, Int.add_zero]
      · first
          | (exfalso; omega)
          | simp (disch := omega) only [b_X9_emend_161, ↓zlt, ↓zj0, ↓zj1, ↓zj2, ↓zbd_s, ↓zar_p, ↓zld_p, ↓zst_p, ↓zc01_p, ↓if_pos, ↓if_neg, ↓hr, c2, Int.add_zero]
theorem q_hk3b1 {S : zSt} {u a w n x i r : Int} {rec : Int → Int → zSt → Option zRes} {j1 : Int → zSt → Option zRes} (hn : S.1 4 = n) (hn2 : n ≤ 60) (hi : 0 ≤ i ∧ i < n) (hu : 0 ≤ u ∧ u < 20) (hx : 0 ≤ x ∧ x ≤ 60) (h1 : S.2 8 i = -1) (h2 : S.2 10 i = u) (hm : 1 ≤ S.2 2 u ∧ S.2 2 u ≤ 12) (hp : 0 ≤ S.2 12 i ∧ S.2 12 i ≤ 12) (ha : 0 ≤ a) (hA : w = -1 ∧ a < S.2 12 i) (hB : S.2 12 i - 1 ≤ S.2 2 u - 1) (hr : m_X9_nearest S u (S.2 11 i) (S.2 12 i - 1) = some (r, S)) (hl : S.2 13 i = 0 ∨ S.2 13 i = 1) : b_X9_emend_161 u a w j1 rec x i S = (if r = -1 then (if S.2 13 i = 1 then rec x (i + 1) (zput (zput S 13 i 1) 12 i (S.2 12 i - 1)) else rec (x + 1) (i + 1) (zput (zput S 13 i 1) 12 i (S.2 12 i - 1))) else (if S.2 13 i = 0 then rec x (i + 1) (zput (zput S 13 i 0) 12 i r) else rec (x + 1) (i + 1) (zput (zput S 13 i 0) 12 i r))) := by
  by_cases w1 : w = -1
  · by_cases c1 : r = -1
    · rcases hl with c2 | c2
      · first
          | (exfalso; omega)
          | simp (disch := omega) only [b_X9_emend_161, ↓zlt, ↓zj0, ↓zj1, ↓zj2, ↓zbd_s, ↓zar_p, ↓zld_p, ↓zst_p, ↓zc01_p, ↓if_pos, ↓if_neg, ↓hr, c2, Int.add_zero]
      · first
          | (exfalso; omega)
          | simp (disch := omega) only [b_X9_emend_161, ↓zlt, ↓zj0, ↓zj1, ↓zj2, ↓zbd_s, ↓zar_p, ↓zld_p, ↓zst_p, ↓zc01_p, ↓if_pos, ↓if_neg, ↓hr, c2, Int.add_zero]
    · rcases hl with c2 | c2
      · first
          | (exfalso; omega)
          | simp (disch := omega) only [b_X9_emend_161, ↓zlt, ↓zj0, ↓zj1, ↓zj2, ↓zbd_s, ↓zar_p, ↓zld_p, ↓zst_p, ↓zc01_p, ↓if_pos, ↓if_neg, ↓hr, c2, Int.add_zero]
      · first
          | (exfalso; omega)
          | simp (disch := omega) only [b_X9_emend_161, ↓zlt, ↓zj0, ↓zj1, ↓zj2, ↓zbd_s, ↓zar_p, ↓zld_p, ↓zst_p, ↓zc01_p, ↓if_pos, ↓if_neg, ↓hr, c2, Int.add_zero]
  · by_cases c1 : r = -1
    · rcases hl with c2 | c2
      · first
          | (exfalso; omega)
          | simp (disch := omega) only [b_X9_emend_161, ↓zlt, ↓zj0, ↓zj1, ↓zj2, ↓zbd_s, ↓zar_p, ↓zld_p, ↓zst_p, ↓zc01_p, ↓if_pos, ↓if_neg, ↓hr, c2, Int.add_zero]
      · first
          | (exfalso; omega)
          | simp (disch := omega) only [b_X9_emend_161, ↓zlt, ↓zj0, ↓zj1, ↓zj2, ↓zbd_s, ↓zar_p, ↓zld_p, ↓zst_p, ↓zc01_p, ↓if_pos, ↓if_neg, ↓hr, c2, Int.add_zero]
    · rcases hl with c2 | c2
      · first
          | (exfalso; omega)
          | simp (disch := omega) only [b_X9_emend_161, ↓zlt, ↓zj0, ↓zj1, ↓zj2, ↓zbd_s, ↓zar_p, ↓zld_p, ↓zst_p, ↓zc01_p, ↓if_pos, ↓if_neg, ↓hr, c2, Int.add_zero]
      · first
          | (exfalso; omega)
          | simp (disch := omega) only [b_X9_emend_161, ↓zlt, ↓zj0, ↓zj1, ↓zj2, ↓zbd_s, ↓zar_p, ↓zld_p, ↓zst_p, ↓zc01_p, ↓if_pos, ↓if_neg, ↓hr, c2, Int.add_zero]
theorem q_hk3c0 {S : zSt} {u a w n x i r : Int} {rec : Int → Int → zSt → Option zRes} {j1 : Int → zSt → Option zRes} (hn : S.1 4 = n) (hn2 : n ≤ 60) (hi : 0 ≤ i ∧ i < n) (hu : 0 ≤ u ∧ u < 20) (hx : 0 ≤ x ∧ x ≤ 60) (h1 : S.2 8 i = -1) (h2 : S.2 10 i = u) (hm : 1 ≤ S.2 2 u ∧ S.2 2 u ≤ 12) (hp : 0 ≤ S.2 12 i ∧ S.2 12 i ≤ 12) (ha : 0 ≤ a) (hA : ¬ (w = -1 ∧ a < S.2 12 i)) (hB : S.2 12 i ≤ S.2 2 u - 1) (hr : m_X9_nearest S u (S.2 11 i) (S.2 12 i) = some (r, S)) (hl : S.2 13 i = 0 ∨ S.2 13 i = 1) : b_X9_emend_161 u a w j1 rec x i S = (if r = -1 then (if S.2 13 i = 1 then rec x (i + 1) (zput (zput S 13 i 1) 12 i (S.2 12 i)) else rec (x + 1) (i + 1) (zput (zput S 13 i 1) 12 i (S.2 12 i))) else (if S.2 13 i = 0 then rec x (i + 1) (zput (zput S 13 i 0) 12 i r) else rec (x + 1) (i + 1) (zput (zput S 13 i 0) 12 i r))) := by
  by_cases w1 : w = -1
  · by_cases c1 : r = -1
    · rcases hl with c2 | c2
      · first
          | (exfalso; omega)
          | simp (disch := omega) only [b_X9_emend_161, ↓zlt, ↓zj0, ↓zj1, ↓zj2, ↓zbd_s, ↓zar_p, ↓zld_p, ↓zst_p, ↓zc01_p, ↓if_pos, ↓if_neg, ↓hr, c2, Int.add_zero]
      · first
          | (exfalso; omega)
          | simp (disch := omega) only [b_X9_emend_161, ↓zlt, ↓zj0, ↓zj1, ↓zj2, ↓zbd_s, ↓zar_p, ↓zld_p, ↓zst_p, ↓zc01_p, ↓if_pos, ↓if_neg, ↓hr, c2, Int.add_zero]
    · rcases hl with c2 | c2
      · first
          | (exfalso; omega)
          | simp (disch := omega) only [b_X9_emend_161, ↓zlt, ↓zj0, ↓zj1, ↓zj2, ↓zbd_s, ↓zar_p, ↓zld_p, ↓zst_p, ↓zc01_p, ↓if_pos, ↓if_neg, ↓hr, c2, Int.add_zero]
      · first
          | (exfalso; omega)
          | simp (disch := omega) only [b_X9_emend_161, ↓zlt, ↓zj0, ↓zj1, ↓zj2, ↓zbd_s, ↓zar_p, ↓zld_p, ↓zst_p, ↓zc01_p, ↓if_pos, ↓if_neg, ↓hr, c2, Int.add_zero]
  · by_cases c1 : r = -1
    · rcases hl with c2 | c2
      · first
          | (exfalso; omega)
          | simp (disch := omega) only [b_X9_emend_161, ↓zlt, ↓zj0, ↓zj1, ↓zj2, ↓zbd_s, ↓zar_p, ↓zld_p, ↓zst_p, ↓zc01_p, ↓if_pos, ↓if_neg, ↓hr, c2, Int.add_zero]
      · first
          | (exfalso; omega)
          | simp (disch := omega) only [b_X9_emend_161, ↓zlt, ↓zj0, ↓zj1, ↓zj2, ↓zbd_s, ↓zar_p, ↓zld_p, ↓zst_p, ↓zc01_p, ↓if_pos, ↓if_neg, ↓hr, c2, Int.add_zero]
    · rcases hl with c2 | c2
      · first
          | (exfalso; omega)
          | simp (disch := omega) only [b_X9_emend_161, ↓zlt, ↓zj0, ↓zj1, ↓zj2, ↓zbd_s, ↓zar_p, ↓zld_p, ↓zst_p, ↓zc01_p, ↓if_pos, ↓if_neg, ↓hr, c2, Int.add_zero]
      · first
          | (exfalso; omega)
          | simp (disch := omega) only [b_X9_emend_161, ↓zlt, ↓zj0, ↓zj1, ↓zj2, ↓zbd_s, ↓zar_p, ↓zld_p, ↓zst_p, ↓zc01_p, ↓if_pos, ↓if_neg, ↓hr, c2, Int.add_zero]
