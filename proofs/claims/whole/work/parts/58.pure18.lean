/-! emend: the nearest place -/
theorem q_near {C M : zSt} {u wd s n : Int} (hu : 0 ≤ u ∧ u < 20) (hn : M.2 2 u = n) (hn2 : 0 ≤ n ∧ n ≤ 12) (hz : m_X7_sizeOf C u = some (n, C)) (hw : ∀ k, 0 ≤ k → k < n → m_X7_wordAt C u k = some (M.2 1 (12 * u + k), C)) (hs : 0 ≤ s ∧ s ≤ 12) : ∃ r, (-1 ≤ r ∧ r < n) ∧ m_X7_nearest C u wd s = some (r, C) ∧ m_X9_nearest M u wd s = some (r, M) := by
  refine zw23 (F := b_X7_nearest_6 u wd s (fun (v1 : Int) (S1 : zSt) => some (v1, S1) : Int → zSt → Option zRes)) (G := b_X9_nearest_10 u wd s (fun (v1 : Int) (S1 : zSt) => some (v1, S1) : Int → zSt → Option zRes)) (fun d b y S b' L y' T => S = C ∧ T = M ∧ b = b' ∧ y = y' ∧ 0 ≤ y ∧ y + d = n ∧ ((b = -1 ∧ L = 99) ∨ (0 ≤ b ∧ b < y ∧ 0 ≤ L ∧ (L = b - s ∨ L = s - b)))) (fun p q => ∃ r, (-1 ≤ r ∧ r < n) ∧ p = some (r, C) ∧ q = some (r, M)) ?_ 1000 1000 n.toNat (-1) 0 C (-1) 99 0 M ⟨rfl, rfl, rfl, rfl, by omega, by omega, by omega⟩ (by omega) (by omega)
  rintro rec rec2 d b y S b' L y' T ⟨rfl, rfl, rfl, rfl, h1, h2, h3⟩
  by_cases c : n ≤ y
  · refine Or.inl ⟨b, by omega, ?_, ?_⟩
    · clear h3; simp (disch := omega) only [b_X7_nearest_6, hz, zlt, zbd_s, zbx_l, zbx_r, zj0, zj1, zj2, zj3, zset_2, zput_1, if_true, if_false, zar_p, zld_p, zst_p, zdv_p, zrm_p, zc01_p, zb_p, zb_n, if_pos, if_neg]
    · clear h3; simp (disch := omega) only [b_X9_nearest_10, hn, zlt, zbd_s, zbx_l, zbx_r, zj0, zj1, zj2, zj3, zset_2, zput_1, if_true, if_false, zar_p, zld_p, zst_p, zdv_p, zrm_p, zc01_p, zb_p, zb_n, if_pos, if_neg]
  · have hw1 := hw y h1 (by omega)
    clear hw
    by_cases c1 : T.2 1 (12 * u + y) = wd
    · by_cases c2 : b = -1
      · have hL : L = 99 := by omega
        subst c2; subst hL; clear h3
        by_cases c3 : s ≤ y
        · refine Or.inr ⟨d - 1, y, y + 1, S, y, y - s, y + 1, T, by omega, ⟨rfl, rfl, rfl, rfl, by omega, by omega, by omega⟩, ?_, ?_⟩
          · simp (disch := omega) only [b_X7_nearest_6, hz, hw1, c1, zlt, zbd_s, zbx_l, zbx_r, zj0, zj1, zj2, zj3, zset_2, zput_1, if_true, if_false, zar_p, zld_p, zst_p, zdv_p, zrm_p, zc01_p, zb_p, zb_n, if_pos, if_neg]
          · simp (disch := omega) only [b_X9_nearest_10, hn, c1, zlt, zbd_s, zbx_l, zbx_r, zj0, zj1, zj2, zj3, zset_2, zput_1, if_true, if_false, zar_p, zld_p, zst_p, zdv_p, zrm_p, zc01_p, zb_p, zb_n, if_pos, if_neg]
        · refine Or.inr ⟨d - 1, y, y + 1, S, y, s - y, y + 1, T, by omega, ⟨rfl, rfl, rfl, rfl, by omega, by omega, by omega⟩, ?_, ?_⟩
          · simp (disch := omega) only [b_X7_nearest_6, hz, hw1, c1, zlt, zbd_s, zbx_l, zbx_r, zj0, zj1, zj2, zj3, zset_2, zput_1, if_true, if_false, zar_p, zld_p, zst_p, zdv_p, zrm_p, zc01_p, zb_p, zb_n, if_pos, if_neg]
          · simp (disch := omega) only [b_X9_nearest_10, hn, c1, zlt, zbd_s, zbx_l, zbx_r, zj0, zj1, zj2, zj3, zset_2, zput_1, if_true, if_false, zar_p, zld_p, zst_p, zdv_p, zrm_p, zc01_p, zb_p, zb_n, if_pos, if_neg]
      · have h4 : 0 ≤ b ∧ b < y := by omega
        have h5 : (s ≤ b ∧ L = b - s) ∨ (b < s ∧ L = s - b) := by omega
        clear h3
        by_cases c3 : s ≤ y
        · by_cases c4 : y - s < L
          · refine Or.inr ⟨d - 1, y, y + 1, S, y, y - s, y + 1, T, by omega, ⟨rfl, rfl, rfl, rfl, by omega, by omega, by omega⟩, ?_, ?_⟩
            · rcases h5 with ⟨h5, rfl⟩ | ⟨h5, rfl⟩
              · first
                | (exfalso; omega)
                | simp (disch := omega) only [b_X7_nearest_6, hz, hw1, c1, zlt, zbd_s, zbx_l, zbx_r, zj0, zj1, zj2, zj3, zset_2, zput_1, if_true, if_false, zar_p, zld_p, zst_p, zdv_p, zrm_p, zc01_p, zb_p, zb_n, if_pos, if_neg]
              · first
                | (exfalso; omega)
                | simp (disch := omega) only [b_X7_nearest_6, hz, hw1, c1, zlt, zbd_s, zbx_l, zbx_r, zj0, zj1, zj2, zj3, zset_2, zput_1, if_true, if_false, zar_p, zld_p, zst_p, zdv_p, zrm_p, zc01_p, zb_p, zb_n, if_pos, if_neg]
            · clear h5; simp (disch := omega) only [b_X9_nearest_10, hn, c1, zlt, zbd_s, zbx_l, zbx_r, zj0, zj1, zj2, zj3, zset_2, zput_1, if_true, if_false, zar_p, zld_p, zst_p, zdv_p, zrm_p, zc01_p, zb_p, zb_n, if_pos, if_neg]
          · refine Or.inr ⟨d - 1, b, y + 1, S, b, L, y + 1, T, by omega, ⟨rfl, rfl, rfl, rfl, by omega, by omega, by omega⟩, ?_, ?_⟩
            · rcases h5 with ⟨h5, rfl⟩ | ⟨h5, rfl⟩
              · first
                | (exfalso; omega)
                | simp (disch := omega) only [b_X7_nearest_6, hz, hw1, c1, zlt, zbd_s, zbx_l, zbx_r, zj0, zj1, zj2, zj3, zset_2, zput_1, if_true, if_false, zar_p, zld_p, zst_p, zdv_p, zrm_p, zc01_p, zb_p, zb_n, if_pos, if_neg]
              · first
                | (exfalso; omega)
                | simp (disch := omega) only [b_X7_nearest_6, hz, hw1, c1, zlt, zbd_s, zbx_l, zbx_r, zj0, zj1, zj2, zj3, zset_2, zput_1, if_true, if_false, zar_p, zld_p, zst_p, zdv_p, zrm_p, zc01_p, zb_p, zb_n, if_pos, if_neg]
            · clear h5; simp (disch := omega) only [b_X9_nearest_10, hn, c1, zlt, zbd_s, zbx_l, zbx_r, zj0, zj1, zj2, zj3, zset_2, zput_1, if_true, if_false, zar_p, zld_p, zst_p, zdv_p, zrm_p, zc01_p, zb_p, zb_n, if_pos, if_neg]
        · by_cases c4 : s - y < L
          · refine Or.inr ⟨d - 1, y, y + 1, S, y, s - y, y + 1, T, by omega, ⟨rfl, rfl, rfl, rfl, by omega, by omega, by omega⟩, ?_, ?_⟩
            · rcases h5 with ⟨h5, rfl⟩ | ⟨h5, rfl⟩
              · first
                | (exfalso; omega)
                | simp (disch := omega) only [b_X7_nearest_6, hz, hw1, c1, zlt, zbd_s, zbx_l, zbx_r, zj0, zj1, zj2, zj3, zset_2, zput_1, if_true, if_false, zar_p, zld_p, zst_p, zdv_p, zrm_p, zc01_p, zb_p, zb_n, if_pos, if_neg]
              · first
                | (exfalso; omega)
                | simp (disch := omega) only [b_X7_nearest_6, hz, hw1, c1, zlt, zbd_s, zbx_l, zbx_r, zj0, zj1, zj2, zj3, zset_2, zput_1, if_true, if_false, zar_p, zld_p, zst_p, zdv_p, zrm_p, zc01_p, zb_p, zb_n, if_pos, if_neg]
            · clear h5; simp (disch := omega) only [b_X9_nearest_10, hn, c1, zlt, zbd_s, zbx_l, zbx_r, zj0, zj1, zj2, zj3, zset_2, zput_1, if_true, if_false, zar_p, zld_p, zst_p, zdv_p, zrm_p, zc01_p, zb_p, zb_n, if_pos, if_neg]
          · refine Or.inr ⟨d - 1, b, y + 1, S, b, L, y + 1, T, by omega, ⟨rfl, rfl, rfl, rfl, by omega, by omega, by omega⟩, ?_, ?_⟩
            · rcases h5 with ⟨h5, rfl⟩ | ⟨h5, rfl⟩
              · first
                | (exfalso; omega)
                | simp (disch := omega) only [b_X7_nearest_6, hz, hw1, c1, zlt, zbd_s, zbx_l, zbx_r, zj0, zj1, zj2, zj3, zset_2, zput_1, if_true, if_false, zar_p, zld_p, zst_p, zdv_p, zrm_p, zc01_p, zb_p, zb_n, if_pos, if_neg]
              · first
                | (exfalso; omega)
                | simp (disch := omega) only [b_X7_nearest_6, hz, hw1, c1, zlt, zbd_s, zbx_l, zbx_r, zj0, zj1, zj2, zj3, zset_2, zput_1, if_true, if_false, zar_p, zld_p, zst_p, zdv_p, zrm_p, zc01_p, zb_p, zb_n, if_pos, if_neg]
            · clear h5; simp (disch := omega) only [b_X9_nearest_10, hn, c1, zlt, zbd_s, zbx_l, zbx_r, zj0, zj1, zj2, zj3, zset_2, zput_1, if_true, if_false, zar_p, zld_p, zst_p, zdv_p, zrm_p, zc01_p, zb_p, zb_n, if_pos, if_neg]
    · refine Or.inr ⟨d - 1, b, y + 1, S, b, L, y + 1, T, by omega, ⟨rfl, rfl, rfl, rfl, by omega, by omega, by omega⟩, ?_, ?_⟩
      · clear h3; simp (disch := omega) only [b_X7_nearest_6, hz, hw1, zlt, zbd_s, zbx_l, zbx_r, zj0, zj1, zj2, zj3, zset_2, zput_1, if_true, if_false, zar_p, zld_p, zst_p, zdv_p, zrm_p, zc01_p, zb_p, zb_n, if_pos, if_neg]
      · by_cases c3 : s ≤ y
        · clear h3; simp (disch := omega) only [b_X9_nearest_10, hn, zlt, zbd_s, zbx_l, zbx_r, zj0, zj1, zj2, zj3, zset_2, zput_1, if_true, if_false, zar_p, zld_p, zst_p, zdv_p, zrm_p, zc01_p, zb_p, zb_n, if_pos, if_neg]
        · clear h3; simp (disch := omega) only [b_X9_nearest_10, hn, zlt, zbd_s, zbx_l, zbx_r, zj0, zj1, zj2, zj3, zset_2, zput_1, if_true, if_false, zar_p, zld_p, zst_p, zdv_p, zrm_p, zc01_p, zb_p, zb_n, if_pos, if_neg]

