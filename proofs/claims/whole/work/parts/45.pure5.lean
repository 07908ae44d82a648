/-! comment, follow, unfollow -/
theorem q_find1 {S : zSt} {a w m n : Int} {j3 : Int → zSt → Option zRes} (h : 0 ≤ a ∧ a < 20) (hn : S.2 2 a = n) (hn2 : 0 ≤ n ∧ n ≤ 12) (g d : Nat) (r s i : Int) (hi : 0 ≤ i ∧ i + d = n ∧ m ≤ s ∧ 0 ≤ s ∧ s ≤ i) (hd : d < g) : zl3 g (b_X9_comment_83 a w m j3) r s i S = j3 r S := by
  refine zw3 (F := b_X9_comment_83 a w m j3) (fun d x y z T => x = r ∧ T = S ∧ 0 ≤ z ∧ z + d = n ∧ m ≤ y ∧ 0 ≤ y ∧ y ≤ z) (fun q => q = j3 r S) ?_ g d r s i S ⟨rfl, rfl, by omega, by omega, by omega, by omega, by omega⟩ hd
  rintro rec d x y z T ⟨rfl, rfl, h1, h2, h3, h4, h5⟩
  by_cases c : n ≤ z
  · refine Or.inl ?_
    simp (disch := omega) only [b_X9_comment_83, hn, zlt, zbd_s, zbx_l, zbx_r, zj0, zj1, zj2, zj3, zset_2, zput_1, if_true, if_false, zar_p, zld_p, zst_p, zdv_p, zrm_p, zc01_p, zb_p, zb_n, if_pos, if_neg]
  · by_cases c2 : T.2 1 (12 * a + z) = w
    · refine Or.inr ⟨d - 1, x, y + 1, z + 1, T, by omega, ⟨rfl, rfl, by omega, by omega, by omega, by omega, by omega⟩, ?_⟩
      simp (disch := omega) only [b_X9_comment_83, hn, zlt, zbd_s, zbx_l, zbx_r, zj0, zj1, zj2, zj3, zset_2, zput_1, if_true, if_false, zar_p, zld_p, zst_p, zdv_p, zrm_p, zc01_p, zb_p, zb_n, if_pos, if_neg]
    · refine Or.inr ⟨d - 1, x, y, z + 1, T, by omega, ⟨rfl, rfl, by omega, by omega, by omega, by omega, by omega⟩, ?_⟩
      simp (disch := omega) only [b_X9_comment_83, hn, Int.add_zero, zlt, zbd_s, zbx_l, zbx_r, zj0, zj1, zj2, zj3, zset_2, zput_1, if_true, if_false, zar_p, zld_p, zst_p, zdv_p, zrm_p, zc01_p, zb_p, zb_n, if_pos, if_neg]
theorem q_find {C M : zSt} {a w m n : Int} (h : 0 ≤ a ∧ a < 20) (hn : M.2 2 a = n) (hn2 : 0 ≤ n ∧ n ≤ 12) (hs : m_X7_sizeOf C a = some (n, C)) (hw : ∀ k, 0 ≤ k → k < n → m_X7_wordAt C a k = some (M.2 1 (12 * a + k), C)) : ∀ (d g g2 : Nat) (s i : Int), 0 ≤ i → i + d = n → 0 ≤ s → s ≤ i → s < m → d < g → d < g2 → ∃ r, (-1 ≤ r ∧ r < n) ∧ zl2 g (b_X7_placeOf_6 a w m (fun S1 => some (-1, S1))) s i C = some (r, C) ∧ ∀ j3 : Int → zSt → Option zRes, zl3 g2 (b_X9_comment_83 a w m j3) (-1) s i M = j3 r M := by
  intro d
  induction d with
  | zero =>
    intro g g2 s i h1 h2 h3 h4 h5 h6 h7
    obtain ⟨g, rfl⟩ : ∃ k, g = k + 1 := ⟨g - 1, by omega⟩
    obtain ⟨g2, rfl⟩ : ∃ k, g2 = k + 1 := ⟨g2 - 1, by omega⟩
    refine ⟨-1, ⟨by omega, by omega⟩, ?_, fun j3 => ?_⟩
    · simp (disch := omega) only [zl2_s, b_X7_placeOf_6, hs, zlt, zbd_s, zbx_l, zbx_r, zj0, zj1, zj2, zj3, zset_2, zput_1, if_true, if_false, zar_p, zld_p, zst_p, zdv_p, zrm_p, zc01_p, zb_p, zb_n, if_pos, if_neg]
    · simp (disch := omega) only [zl3_s, b_X9_comment_83, hn, zlt, zbd_s, zbx_l, zbx_r, zj0, zj1, zj2, zj3, zset_2, zput_1, if_true, if_false, zar_p, zld_p, zst_p, zdv_p, zrm_p, zc01_p, zb_p, zb_n, if_pos, if_neg]
  | succ d ih =>
    intro g g2 s i h1 h2 h3 h4 h5 h6 h7
    obtain ⟨g, rfl⟩ : ∃ k, g = k + 1 := ⟨g - 1, by omega⟩
    obtain ⟨g2, rfl⟩ : ∃ k, g2 = k + 1 := ⟨g2 - 1, by omega⟩
    have hw := hw i h1 (by omega)
    by_cases c : M.2 1 (12 * a + i) = w
    · by_cases c2 : s + 1 = m
      · refine ⟨i, ⟨by omega, by omega⟩, ?_, fun j3 => ?_⟩
        · simp (disch := omega) only [zl2_s, b_X7_placeOf_6, hs, hw, zlt, zbd_s, zbx_l, zbx_r, zj0, zj1, zj2, zj3, zset_2, zput_1, if_true, if_false, zar_p, zld_p, zst_p, zdv_p, zrm_p, zc01_p, zb_p, zb_n, if_pos, if_neg]
        · refine Eq.trans ?_ (q_find1 (j3 := j3) (w := w) (m := m) h hn hn2 g2 d i (s + 1) (i + 1) ⟨by omega, by omega, by omega, by omega, by omega⟩ (by omega))
          simp (disch := omega) only [zl3_s, b_X9_comment_83, hn, zlt, zbd_s, zbx_l, zbx_r, zj0, zj1, zj2, zj3, zset_2, zput_1, if_true, if_false, zar_p, zld_p, zst_p, zdv_p, zrm_p, zc01_p, zb_p, zb_n, if_pos, if_neg]
      · obtain ⟨r, r1, r2, r3⟩ := ih g g2 (s + 1) (i + 1) (by omega) (by omega) (by omega) (by omega) (by omega) (by omega) (by omega)
        refine ⟨r, r1, r2 ▸ ?_, fun j3 => (r3 j3) ▸ ?_⟩
        · simp (disch := omega) only [zl2_s, b_X7_placeOf_6, hs, hw, zlt, zbd_s, zbx_l, zbx_r, zj0, zj1, zj2, zj3, zset_2, zput_1, if_true, if_false, zar_p, zld_p, zst_p, zdv_p, zrm_p, zc01_p, zb_p, zb_n, if_pos, if_neg]
        · simp (disch := omega) only [zl3_s, b_X9_comment_83, hn, zlt, zbd_s, zbx_l, zbx_r, zj0, zj1, zj2, zj3, zset_2, zput_1, if_true, if_false, zar_p, zld_p, zst_p, zdv_p, zrm_p, zc01_p, zb_p, zb_n, if_pos, if_neg]
    · obtain ⟨r, r1, r2, r3⟩ := ih g g2 s (i + 1) (by omega) (by omega) (by omega) (by omega) (by omega) (by omega) (by omega)
      refine ⟨r, r1, r2 ▸ ?_, fun j3 => (r3 j3) ▸ ?_⟩
      · simp (disch := omega) only [zl2_s, b_X7_placeOf_6, hs, hw, zlt, zbd_s, zbx_l, zbx_r, zj0, zj1, zj2, zj3, zset_2, zput_1, if_true, if_false, zar_p, zld_p, zst_p, zdv_p, zrm_p, zc01_p, zb_p, zb_n, if_pos, if_neg]
      · simp (disch := omega) only [zl3_s, b_X9_comment_83, hn, Int.add_zero, zlt, zbd_s, zbx_l, zbx_r, zj0, zj1, zj2, zj3, zset_2, zput_1, if_true, if_false, zar_p, zld_p, zst_p, zdv_p, zrm_p, zc01_p, zb_p, zb_n, if_pos, if_neg]
theorem q_comm1 {M : zSt} {a u k w m l g n na nu r : Int} (c3 : M.1 4 = n) (p3 : M.1 3 = na) (t3 : M.1 2 = nu) (h1 : 0 ≤ a ∧ a < na) (hb : 0 ≤ u ∧ u < nu) (h : ((0 ≤ k ∧ k ≤ 4) ∧ (1 ≤ l ∧ l ≤ 9) ∧ 0 ≤ g ∧ g ≤ 1) ∧ (0 ≤ w ∧ w ≤ 59) ∧ 1 ≤ m ∧ m ≤ 12) (h5 : 0 ≤ n ∧ n < 60) (h6 : na ≤ 12 ∧ nu ≤ 20) (hf : ∀ j3 : Int → zSt → Option zRes, zl3 1000 (b_X9_comment_83 u w m j3) (-1) 0 0 (zset M 0 0) = j3 r (zset M 0 0)) (hr : 0 ≤ r) : m_X9_comment M a u k w m l g = some (n, zput (zput (zput (zput (zput (zset (zput (zput (zput (zput (zset (zset M 0 0) 0 0) 6 n a) 7 n k) 14 n l) 15 n g) 4 (n + 1)) 8 n (-1)) 9 n n) 10 n u) 11 n w) 12 n r) := by
  simp (disch := omega) only [m_X9_comment, p_X9_isAuthor, p_X9_isUnit, p_X9_isNote, p_X9_between, zset_e, zset_n, p3, c3, t3, hf, m_X9_added, zlt, zbd_s, zbx_l, zbx_r, zj0, zj1, zj2, zj3, zset_2, zput_1, if_true, if_false, zar_p, zld_p, zst_p, zdv_p, zrm_p, zc01_p, zb_p, zb_n, if_pos, if_neg]
theorem q_comm2 {C : zSt} {a u k w m l g n na nu r : Int} (c3 : C.1 3 = n) (p3 : C.1 2 = na) (t3 : C.1 1 = nu) (h1 : 0 ≤ a ∧ a < na) (hb : 0 ≤ u ∧ u < nu) (h : ((0 ≤ k ∧ k ≤ 4) ∧ (1 ≤ l ∧ l ≤ 9) ∧ 0 ≤ g ∧ g ≤ 1) ∧ (0 ≤ w ∧ w ≤ 59) ∧ 1 ≤ m ∧ m ≤ 12) (h5 : 0 ≤ n ∧ n < 60) (hf : m_X7_placeOf C u w m = some (r, C)) (hr : 0 ≤ r) : m_X8_comment C a u k w m l g = some (.inl (n, zput (zput (zput (zput (zput (zset (zput (zput (zput (zput C 7 n a) 8 n k) 9 n l) 10 n g) 3 (n + 1)) 11 n (-1)) 12 n n) 13 n u) 14 n r) 15 n w)) := by
  simp (disch := omega) only [m_X8_comment, p_X8_needAuthor, p_X8_needUnit, p_X8_needArgument, p_X8_needRoomForComment, p3, c3, t3, hf, m_X1_add, p_X1_isFull, m_X1_hookTo, p_X1_has, zset_e, zset_n, Int.add_sub_cancel, zlt, zbd_s, zbx_l, zbx_r, zj0, zj1, zj2, zj3, zset_2, zput_1, if_true, if_false, zar_p, zld_p, zst_p, zdv_p, zrm_p, zc01_p, zb_p, zb_n, if_pos, if_neg]
theorem q_comm3 {M : zSt} {a u k w m l g n na nu r : Int} (c3 : M.1 4 = n) (p3 : M.1 3 = na) (t3 : M.1 2 = nu) (h1 : 0 ≤ a ∧ a < na) (hb : 0 ≤ u ∧ u < nu) (h : ((0 ≤ k ∧ k ≤ 4) ∧ (1 ≤ l ∧ l ≤ 9) ∧ 0 ≤ g ∧ g ≤ 1) ∧ (0 ≤ w ∧ w ≤ 59) ∧ 1 ≤ m ∧ m ≤ 12) (h5 : 0 ≤ n ∧ n ≤ 60) (h6 : na ≤ 12 ∧ nu ≤ 20) (hf : ∀ j3 : Int → zSt → Option zRes, zl3 1000 (b_X9_comment_83 u w m j3) (-1) 0 0 (zset M 0 0) = j3 r (zset M 0 0)) (hr : n = 60 ∨ r = -1) : m_X9_comment M a u k w m l g = some (0, zset (zset M 0 0) 0 3) := by
  by_cases e : n = 60
  · simp (disch := omega) only [m_X9_comment, p_X9_isAuthor, p_X9_isUnit, p_X9_isNote, p_X9_between, zset_e, zset_n, p3, c3, t3, hf, zlt, zbd_s, zbx_l, zbx_r, zj0, zj1, zj2, zj3, zset_2, zput_1, if_true, if_false, zar_p, zld_p, zst_p, zdv_p, zrm_p, zc01_p, zb_p, zb_n, if_pos, if_neg]
  · simp (disch := omega) only [m_X9_comment, p_X9_isAuthor, p_X9_isUnit, p_X9_isNote, p_X9_between, zset_e, zset_n, p3, c3, t3, hf, zlt, zbd_s, zbx_l, zbx_r, zj0, zj1, zj2, zj3, zset_2, zput_1, if_true, if_false, zar_p, zld_p, zst_p, zdv_p, zrm_p, zc01_p, zb_p, zb_n, if_pos, if_neg]
theorem q_comm4 {C : zSt} {a u k w m l g n na nu r : Int} (c3 : C.1 3 = n) (p3 : C.1 2 = na) (t3 : C.1 1 = nu) (h1 : 0 ≤ a ∧ a < na) (hb : 0 ≤ u ∧ u < nu) (h : ((0 ≤ k ∧ k ≤ 4) ∧ (1 ≤ l ∧ l ≤ 9) ∧ 0 ≤ g ∧ g ≤ 1) ∧ (0 ≤ w ∧ w ≤ 59) ∧ 1 ≤ m ∧ m ≤ 12) (h5 : 0 ≤ n ∧ n ≤ 60) (hf : m_X7_placeOf C u w m = some (r, C)) (hr : n = 60 ∨ r = -1) : m_X8_comment C a u k w m l g = some (.inr ("java/lang/IllegalStateException", C)) := by
  by_cases e : n = 60
  · simp (disch := omega) only [m_X8_comment, p_X8_needAuthor, p_X8_needUnit, p_X8_needArgument, p_X8_needRoomForComment, p3, c3, t3, hf, zlt, zbd_s, zbx_l, zbx_r, zj0, zj1, zj2, zj3, zset_2, zput_1, if_true, if_false, zar_p, zld_p, zst_p, zdv_p, zrm_p, zc01_p, zb_p, zb_n, if_pos, if_neg]
  · simp (disch := omega) only [m_X8_comment, p_X8_needAuthor, p_X8_needUnit, p_X8_needArgument, p_X8_needRoomForComment, p3, c3, t3, hf, zlt, zbd_s, zbx_l, zbx_r, zj0, zj1, zj2, zj3, zset_2, zput_1, if_true, if_false, zar_p, zld_p, zst_p, zdv_p, zrm_p, zc01_p, zb_p, zb_n, if_pos, if_neg]
theorem q_comm5 {M : zSt} {a u k w m l g n na nu : Int} (c3 : M.1 4 = n) (p3 : M.1 3 = na) (t3 : M.1 2 = nu) (h1 : 0 ≤ a ∧ a < na) (hb : 0 ≤ u ∧ u < nu) (h6 : na ≤ 12 ∧ nu ≤ 20) (h : ¬ (((0 ≤ k ∧ k ≤ 4) ∧ (1 ≤ l ∧ l ≤ 9) ∧ 0 ≤ g ∧ g ≤ 1) ∧ (0 ≤ w ∧ w ≤ 59) ∧ 1 ≤ m ∧ m ≤ 12)) : m_X9_comment M a u k w m l g = some (0, zset M 0 2) := by
  by_cases e1 : (0 ≤ k ∧ k ≤ 4) ∧ (1 ≤ l ∧ l ≤ 9) ∧ 0 ≤ g ∧ g ≤ 1
  · by_cases e2 : 0 ≤ w ∧ w ≤ 59
    · simp (disch := omega) only [m_X9_comment, p_X9_isAuthor, p_X9_isUnit, p_X9_isNote, p_X9_between, zset_e, zset_n, p3, c3, t3, zlt, zbd_s, zbx_l, zbx_r, zj0, zj1, zj2, zj3, zset_2, zput_1, if_true, if_false, zar_p, zld_p, zst_p, zdv_p, zrm_p, zc01_p, zb_p, zb_n, if_pos, if_neg]
    · simp (disch := omega) only [m_X9_comment, p_X9_isAuthor, p_X9_isUnit, p_X9_isNote, p_X9_between, zset_e, zset_n, p3, c3, t3, zlt, zbd_s, zbx_l, zbx_r, zj0, zj1, zj2, zj3, zset_2, zput_1, if_true, if_false, zar_p, zld_p, zst_p, zdv_p, zrm_p, zc01_p, zb_p, zb_n, if_pos, if_neg]
  · simp (disch := omega) only [m_X9_comment, p_X9_isAuthor, p_X9_isUnit, p_X9_isNote, p_X9_between, zset_e, zset_n, p3, c3, t3, zlt, zbd_s, zbx_l, zbx_r, zj0, zj1, zj2, zj3, zset_2, zput_1, if_true, if_false, zar_p, zld_p, zst_p, zdv_p, zrm_p, zc01_p, zb_p, zb_n, if_pos, if_neg]
theorem q_comm6 {C : zSt} {a u k w m l g n na nu : Int} (c3 : C.1 3 = n) (p3 : C.1 2 = na) (t3 : C.1 1 = nu) (h1 : 0 ≤ a ∧ a < na) (hb : 0 ≤ u ∧ u < nu) (h : ¬ (((0 ≤ k ∧ k ≤ 4) ∧ (1 ≤ l ∧ l ≤ 9) ∧ 0 ≤ g ∧ g ≤ 1) ∧ (0 ≤ w ∧ w ≤ 59) ∧ 1 ≤ m ∧ m ≤ 12)) : m_X8_comment C a u k w m l g = some (.inr ("java/lang/IllegalArgumentException", C)) := by
  by_cases e1 : 0 ≤ k ∧ k ≤ 4
  · by_cases e2 : 0 ≤ w ∧ w ≤ 59
    · by_cases e3 : 1 ≤ m ∧ m ≤ 12
      · by_cases e4 : 1 ≤ l ∧ l ≤ 9
        · simp (disch := omega) only [m_X8_comment, p_X8_needAuthor, p_X8_needUnit, p_X8_needArgument, p_X8_needRoomForComment, p3, c3, t3, zlt, zbd_s, zbx_l, zbx_r, zj0, zj1, zj2, zj3, zset_2, zput_1, if_true, if_false, zar_p, zld_p, zst_p, zdv_p, zrm_p, zc01_p, zb_p, zb_n, if_pos, if_neg]
        · simp (disch := omega) only [m_X8_comment, p_X8_needAuthor, p_X8_needUnit, p_X8_needArgument, p_X8_needRoomForComment, p3, c3, t3, zlt, zbd_s, zbx_l, zbx_r, zj0, zj1, zj2, zj3, zset_2, zput_1, if_true, if_false, zar_p, zld_p, zst_p, zdv_p, zrm_p, zc01_p, zb_p, zb_n, if_pos, if_neg]
      · simp (disch := omega) only [m_X8_comment, p_X8_needAuthor, p_X8_needUnit, p_X8_needArgument, p_X8_needRoomForComment, p3, c3, t3, zlt, zbd_s, zbx_l, zbx_r, zj0, zj1, zj2, zj3, zset_2, zput_1, if_true, if_false, zar_p, zld_p, zst_p, zdv_p, zrm_p, zc01_p, zb_p, zb_n, if_pos, if_neg]
    · simp (disch := omega) only [m_X8_comment, p_X8_needAuthor, p_X8_needUnit, p_X8_needArgument, p_X8_needRoomForComment, p3, c3, t3, zlt, zbd_s, zbx_l, zbx_r, zj0, zj1, zj2, zj3, zset_2, zput_1, if_true, if_false, zar_p, zld_p, zst_p, zdv_p, zrm_p, zc01_p, zb_p, zb_n, if_pos, if_neg]
  · simp (disch := omega) only [m_X8_comment, p_X8_needAuthor, p_X8_needUnit, p_X8_needArgument, p_X8_needRoomForComment, p3, c3, t3, zlt, zbd_s, zbx_l, zbx_r, zj0, zj1, zj2, zj3, zset_2, zput_1, if_true, if_false, zar_p, zld_p, zst_p, zdv_p, zrm_p, zc01_p, zb_p, zb_n, if_pos, if_neg]
theorem q_comm7 {M : zSt} {a u k w m l g na nu : Int} (p3 : M.1 3 = na) (t3 : M.1 2 = nu) (h6 : (0 ≤ na ∧ na ≤ 12) ∧ 0 ≤ nu ∧ nu ≤ 20) (h : ¬ ((0 ≤ a ∧ a < na) ∧ 0 ≤ u ∧ u < nu)) : m_X9_comment M a u k w m l g = some (0, zset M 0 1) := by
  have c3 := rfl (a := (0 : Int))
  by_cases e1 : 0 ≤ a ∧ a < na
  · simp (disch := omega) only [m_X9_comment, p_X9_isAuthor, p_X9_isUnit, p_X9_isNote, p_X9_between, zset_e, zset_n, p3, c3, t3, zlt, zbd_s, zbx_l, zbx_r, zj0, zj1, zj2, zj3, zset_2, zput_1, if_true, if_false, zar_p, zld_p, zst_p, zdv_p, zrm_p, zc01_p, zb_p, zb_n, if_pos, if_neg]
  · simp (disch := omega) only [m_X9_comment, p_X9_isAuthor, p_X9_isUnit, p_X9_isNote, p_X9_between, zset_e, zset_n, p3, c3, t3, zlt, zbd_s, zbx_l, zbx_r, zj0, zj1, zj2, zj3, zset_2, zput_1, if_true, if_false, zar_p, zld_p, zst_p, zdv_p, zrm_p, zc01_p, zb_p, zb_n, if_pos, if_neg]
theorem q_comm8 {C : zSt} {a u k w m l g na nu : Int} (p3 : C.1 2 = na) (t3 : C.1 1 = nu) (h : ¬ ((0 ≤ a ∧ a < na) ∧ 0 ≤ u ∧ u < nu)) : m_X8_comment C a u k w m l g = some (.inr ("java/lang/IndexOutOfBoundsException", C)) := by
  have c3 := rfl (a := (0 : Int))
  by_cases e1 : 0 ≤ a ∧ a < na
  · simp (disch := omega) only [m_X8_comment, p_X8_needAuthor, p_X8_needUnit, p_X8_needArgument, p_X8_needRoomForComment, p3, c3, t3, zlt, zbd_s, zbx_l, zbx_r, zj0, zj1, zj2, zj3, zset_2, zput_1, if_true, if_false, zar_p, zld_p, zst_p, zdv_p, zrm_p, zc01_p, zb_p, zb_n, if_pos, if_neg]
  · simp (disch := omega) only [m_X8_comment, p_X8_needAuthor, p_X8_needUnit, p_X8_needArgument, p_X8_needRoomForComment, p3, c3, t3, zlt, zbd_s, zbx_l, zbx_r, zj0, zj1, zj2, zj3, zset_2, zput_1, if_true, if_false, zar_p, zld_p, zst_p, zdv_p, zrm_p, zc01_p, zb_p, zb_n, if_pos, if_neg]
theorem p_szC {C M : zSt} {u : Int} (hT : jTxt C M) (h : 0 ≤ u ∧ u < C.1 1) : m_X7_sizeOf C u = some (C.2 2 u, C) := by
  rw [p_X7_sizeOf C u hT.2.1, if_pos h]
theorem p_waC {C M : zSt} {u : Int} (hT : jTxt C M) (h : 0 ≤ u ∧ u < C.1 1) (k : Int) (h1 : 0 ≤ k) (h2 : k < C.2 2 u) : m_X7_wordAt C u k = some (M.2 1 (12 * u + k), C) := by
  rw [p_X7_wordAt C u k hT.2.1 (fun u h2 h3 => (hT.2.2.2.1 u h2 h3).2.1), if_pos ⟨h, h1, h2⟩, hT.2.2.2.2 u k h.1 h.2 h1 h2, show u * 12 + k = 12 * u + k by omega]
theorem s_comment {C M : zSt} {a u k w m l g : Int} (hJ : J C M) : Sim ["java/lang/IndexOutOfBoundsException", "java/lang/IllegalArgumentException", "java/lang/IllegalStateException"] (m_X9_comment M a u k w m l g) (m_X8_comment C a u k w m l g) := by
  obtain ⟨hRG, hP, hT, ⟨p1, p2, p3, p4⟩, ⟨c1, c2, c3, c4, c5⟩, hR, hF, hE⟩ := id hJ
  have t1 := hT.1
  have t2 := hT.2.1
  have t3 := hT.2.2.1
  by_cases h1 : (0 ≤ a ∧ a < C.1 2) ∧ 0 ≤ u ∧ u < C.1 1
  · obtain ⟨h1, h2⟩ := h1
    by_cases h3 : ((0 ≤ k ∧ k ≤ 4) ∧ (1 ≤ l ∧ l ≤ 9) ∧ 0 ≤ g ∧ g ≤ 1) ∧ (0 ≤ w ∧ w ≤ 59) ∧ 1 ≤ m ∧ m ≤ 12
    · have t4 := hT.2.2.2.1 u h2.1 h2.2
      obtain ⟨r, r1, r2, r3⟩ := q_find (M := zset M 0 0) (w := w) (m := m) (by omega) t4.2.2 (by omega) (p_szC hT h2) (p_waC hT h2) (C.2 2 u).toNat 1000 1000 0 0 (by omega) (by omega) (by omega) (by omega) (by omega) (by omega) (by omega)
      have r2 : m_X7_placeOf C u w m = some (r, C) := r2
      by_cases h7 : C.1 3 = 60 ∨ r = -1
      · exact Sim.no (q_comm3 c3 p3 t3 h1 h2 h3 ⟨c1, c2⟩ ⟨p2, t2⟩ r3 h7) (q_comm4 rfl rfl rfl h1 h2 h3 ⟨c1, c2⟩ r2 h7) (by decide) rfl (hJ.thr 0 : Jn C (zset (zset M 0 0) 0 3))
      · refine Sim.ok (q_comm1 c3 p3 t3 h1 h2 h3 ⟨c1, by omega⟩ ⟨p2, t2⟩ r3 (by omega)) (q_comm2 rfl rfl rfl h1 h2 h3 ⟨c1, by omega⟩ r2 (by omega)) rfl ?_
        refine ⟨hP, hT, ⟨p1, p2, p3, p4⟩, ⟨?_, ?_, rfl, fun i h8 h9 => ?_, fun i => ?_⟩, hR, hF, hE⟩
        · show 0 ≤ C.1 3 + 1; omega
        · show C.1 3 + 1 ≤ 60; omega
        · have h9 : i < C.1 3 + 1 := h9
          show ((if i = C.1 3 then a else M.2 6 i) = (if i = C.1 3 then a else C.2 7 i) ∧ 0 ≤ (if i = C.1 3 then a else C.2 7 i) ∧ (if i = C.1 3 then a else C.2 7 i) < C.1 2) ∧ ((if i = C.1 3 then k else M.2 7 i) = (if i = C.1 3 then k else C.2 8 i) ∧ 0 ≤ (if i = C.1 3 then k else C.2 8 i) ∧ (if i = C.1 3 then k else C.2 8 i) ≤ 4) ∧ ((if i = C.1 3 then l else M.2 14 i) = (if i = C.1 3 then l else C.2 9 i) ∧ 1 ≤ (if i = C.1 3 then l else C.2 9 i) ∧ (if i = C.1 3 then l else C.2 9 i) ≤ 9) ∧ ((if i = C.1 3 then g else M.2 15 i) = (if i = C.1 3 then g else C.2 10 i) ∧ 0 ≤ (if i = C.1 3 then g else C.2 10 i) ∧ (if i = C.1 3 then g else C.2 10 i) ≤ 1) ∧ ((if i = C.1 3 then -1 else M.2 8 i) = (if i = C.1 3 then -1 else C.2 11 i) ∧ -1 ≤ (if i = C.1 3 then -1 else C.2 11 i) ∧ (if i = C.1 3 then -1 else C.2 11 i) < i) ∧ ((if i = C.1 3 then C.1 3 else M.2 9 i) = (if i = C.1 3 then C.1 3 else C.2 12 i) ∧ 0 ≤ (if i = C.1 3 then C.1 3 else C.2 12 i) ∧ (if i = C.1 3 then C.1 3 else C.2 12 i) ≤ i ∧ (if (if i = C.1 3 then C.1 3 else C.2 12 i) = C.1 3 then -1 else C.2 11 (if i = C.1 3 then C.1 3 else C.2 12 i)) = -1 ∧ ((if i = C.1 3 then -1 else C.2 11 i) = -1 → (if i = C.1 3 then C.1 3 else C.2 12 i) = i)) ∧ (if i = C.1 3 then u else M.2 10 i) = (if (if i = C.1 3 then C.1 3 else C.2 12 i) = C.1 3 then u else C.2 13 (if i = C.1 3 then C.1 3 else C.2 12 i)) ∧ ((if i = C.1 3 then -1 else C.2 11 i) = -1 → 0 ≤ (if i = C.1 3 then u else C.2 13 i) ∧ (if i = C.1 3 then u else C.2 13 i) < C.1 1 ∧ (if i = C.1 3 then w else M.2 11 i) = (if i = C.1 3 then w else C.2 15 i) ∧ (if i = C.1 3 then r else M.2 12 i) = (if i = C.1 3 then r else C.2 14 i) ∧ 0 ≤ (if i = C.1 3 then r else C.2 14 i) ∧ (if i = C.1 3 then r else C.2 14 i) < C.2 2 (if i = C.1 3 then u else C.2 13 i))
          by_cases e : i = C.1 3
          · simp only [if_pos e, if_true]
            exact ⟨⟨by trivial, h1⟩, ⟨by trivial, h3.1.1⟩, ⟨by trivial, h3.1.2.1⟩, ⟨by trivial, h3.1.2.2⟩, ⟨by trivial, by omega, by omega⟩, ⟨by trivial, by omega, by omega, by trivial, fun _ => e.symm⟩, by trivial, fun _ => ⟨h2.1, h2.2, by trivial, by trivial, by omega, r1.2⟩⟩
          · simp only [if_neg e]
            have h := c4 i h8 (by omega)
            rw [if_neg (by have := h.2.2.2.2.2.1.2.2.1; omega), if_neg (by have := h.2.2.2.2.2.1.2.2.1; omega)]
            exact h
        · obtain ⟨d1, d2, d3⟩ := c5 i
          refine ⟨d1, d2, fun h8 => ?_⟩
          have h8 : ¬ (0 ≤ i ∧ i < C.1 3 + 1 ∧ (if i = C.1 3 then -1 else C.2 11 i) = -1) := h8
          refine d3 fun q => h8 ⟨q.1, by omega, ?_⟩
          rw [if_neg (by omega)]; exact q.2.2
    · exact Sim.no (q_comm5 c3 p3 t3 h1 h2 ⟨p2, t2⟩ h3) (q_comm6 rfl rfl rfl h1 h2 h3) (by decide) rfl (hJ.thr 2)
  · exact Sim.no (q_comm7 p3 t3 ⟨⟨p1, p2⟩, t1, t2⟩ h1) (q_comm8 rfl rfl h1) (by decide) rfl (hJ.thr 1)

