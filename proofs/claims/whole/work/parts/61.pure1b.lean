/-! setting: the row of a note, the class's way -/
theorem q_ron {T : zSt} {n w c : Int} (hn : T.1 3 = n) (hn2 : n ≤ 60) (hu : T.1 1 ≤ 20) (hw : T.1 7 = w) (hw2 : 1 ≤ w ∧ w ≤ 12) (hk : zok T n) (hc : 0 ≤ c ∧ c < n) (hr : 0 ≤ T.2 24 (zln T w c) ∧ T.2 24 (zln T w c) ≤ 1000000) : m_X6_rowOfNote T c = some (T.2 24 (zln T w c) + rs (zH T w (T.2 10 c) (zln T w c)) 0 c.toNat, T) := by
  have hL : ∀ i, 0 ≤ i → i < n → m_X6_lineOf T i = some (zln T w i, T) ∧ m_X1_isLost T i = some (T.2 16 (T.2 12 i), T) ∧ m_X1_marginOf T i = some (T.2 10 i, T) ∧ m_X1_linesOf T i = some (T.2 9 i, T) ∧ 0 ≤ zln T w i ∧ zln T w i < 240 := fun i h1 h2 => by
    obtain ⟨k1, k2, k3, k4, k5, k6⟩ := hk i h1 h2
    have b1 : 0 ≤ T.2 14 (T.2 12 i) % w := Int.emod_nonneg _ (by omega)
    have b2 : T.2 14 (T.2 12 i) % w ≤ T.2 14 (T.2 12 i) := em_le k3.1 hw2.1
    refine ⟨p_lineOf T hw hw2 (by omega) ⟨k1.1, by omega⟩ ⟨k2.1, by omega⟩ ⟨k3.1, k3.2.2⟩, p_X1_isLost T i (by omega) ⟨k1.1, by omega⟩ (by omega) k4, ?_, ?_, by unfold zln; omega⟩
    · simp (disch := omega) only [m_X1_marginOf, p_at, zat_p, zlt, zbd_s, zbx_l, zbx_r, zj0, zj1, zj2, zj3, zset_2, zput_1]
    · simp (disch := omega) only [m_X1_linesOf, p_at, zat_p, zlt, zbd_s, zbx_l, zbx_r, zj0, zj1, zj2, zj3, zset_2, zput_1]
  obtain ⟨l1, l2, l3, l4, l5, l6⟩ := hL c hc.1 hc.2
  have key := zw2 (F := b_X6_rowOfNote_20 c (fun (v1 : Int) (S3 : zSt) => some (v1, S3) : Int → zSt → Option zRes) (zln T w c)) (fun d x i S => S = T ∧ 0 ≤ i ∧ i + d = c ∧ x = T.2 24 (zln T w c) + rs (zH T w (T.2 10 c) (zln T w c)) 0 i.toNat) (fun q => q = some (T.2 24 (zln T w c) + rs (zH T w (T.2 10 c) (zln T w c)) 0 c.toNat, T)) (by
      rintro rec d x i S ⟨rfl, h1, h2, h3⟩
      by_cases k : c ≤ i
      · refine Or.inl ?_
        have e : i = c := by omega
        subst e
        rw [← h3]
        clear hk hL
        simp (disch := omega) only [b_X6_rowOfNote_20, zlt, zbd_s, zbx_l, zbx_r, zj0, zj1, zj2, zj3, zset_2, zput_1, if_true, if_false, zar_p, zld_p, zst_p, zdv_p, zrm_p, zc01_p, zb_p, zb_n, if_pos, if_neg]
      · obtain ⟨m1, m2, m3, m4, m5, m6⟩ := hL i h1 (by omega)
        have s0 := zHs_b hk w (S.2 10 c) (zln S w c) i.toNat (by omega)
        have e0 := rs_i (f := zH S w (S.2 10 c) (zln S w c)) h1
        have k4 := (hk i h1 (by omega)).2.2.2.1
        have k5 := (hk i h1 (by omega)).2.2.2.2.1
        have nn : zH S w (S.2 10 c) (zln S w c) i = if zin S w (zln S w c) i ∧ S.2 10 i = S.2 10 c then S.2 9 i else 0 := rfl
        rw [nn] at e0
        refine Or.inr ⟨d - 1, S.2 24 (zln S w c) + rs (zH S w (S.2 10 c) (zln S w c)) 0 (i + 1).toNat, i + 1, S, by omega, ⟨rfl, by omega, by omega, rfl⟩, ?_⟩
        rw [e0, ← Int.add_assoc, ← h3]
        have bx : 0 ≤ x ∧ x ≤ 1001000 := by omega
        clear hk hL e0 nn s0 h3 hr
        by_cases c1 : S.2 16 (S.2 12 i) = 0
        · by_cases c2 : zln S w i = zln S w c
          · by_cases c3 : S.2 10 i = S.2 10 c
            · rw [if_pos ⟨⟨c1, c2⟩, c3⟩]
              simp (disch := omega) only [b_X6_rowOfNote_20, m1, m2, m3, l3, m4, zlt, zbd_s, zbx_l, zbx_r, zj0, zj1, zj2, zj3, zset_2, zput_1, if_true, if_false, zar_p, zld_p, zst_p, zdv_p, zrm_p, zc01_p, zb_p, zb_n, if_pos, if_neg]
            · rw [if_neg (fun q => c3 q.2), Int.add_zero]
              simp (disch := omega) only [b_X6_rowOfNote_20, m1, m2, m3, l3, m4, zlt, zbd_s, zbx_l, zbx_r, zj0, zj1, zj2, zj3, zset_2, zput_1, if_true, if_false, zar_p, zld_p, zst_p, zdv_p, zrm_p, zc01_p, zb_p, zb_n, if_pos, if_neg]
          · rw [if_neg (fun q => c2 q.1.2), Int.add_zero]
            simp (disch := omega) only [b_X6_rowOfNote_20, m1, m2, zlt, zbd_s, zbx_l, zbx_r, zj0, zj1, zj2, zj3, zset_2, zput_1, if_true, if_false, zar_p, zld_p, zst_p, zdv_p, zrm_p, zc01_p, zb_p, zb_n, if_pos, if_neg]
        · rw [if_neg (fun q => c1 q.1.1), Int.add_zero]
          simp (disch := omega) only [b_X6_rowOfNote_20, m2, zlt, zbd_s, zbx_l, zbx_r, zj0, zj1, zj2, zj3, zset_2, zput_1, if_true, if_false, zar_p, zld_p, zst_p, zdv_p, zrm_p, zc01_p, zb_p, zb_n, if_pos, if_neg])
    1000 c.toNat (T.2 24 (zln T w c)) 0 T ⟨rfl, by omega, by omega, (Int.add_zero _).symm⟩ (by omega)
  clear hL hk
  simp (disch := omega) only [m_X6_rowOfNote, l1, p_at, zat_p, zlt, zbd_s, zbx_l, zbx_r, zj0, zj1, zj2, zj3, zset_2, zput_1]
  exact key

