/-! solved; found, exact -/
theorem zw33 {R R2 : Type} {F : (Int → Int → Int → zSt → Option R) → Int → Int → Int → zSt → Option R} {G : (Int → Int → Int → zSt → Option R2) → Int → Int → Int → zSt → Option R2} (I : Nat → Int → Int → Int → zSt → Int → Int → Int → zSt → Prop) (Q : Option R → Option R2 → Prop) (step : ∀ (rec : Int → Int → Int → zSt → Option R) (rec2 : Int → Int → Int → zSt → Option R2) (d : Nat) (a0 a1 a2 : Int) (S : zSt) (b0 b1 b2 : Int) (S2 : zSt), I d a0 a1 a2 S b0 b1 b2 S2 → Q (F rec a0 a1 a2 S) (G rec2 b0 b1 b2 S2) ∨ ∃ (e : Nat) (x0 x1 x2 : Int) (T : zSt) (y0 y1 y2 : Int) (T2 : zSt), e < d ∧ I e x0 x1 x2 T y0 y1 y2 T2 ∧ F rec a0 a1 a2 S = rec x0 x1 x2 T ∧ G rec2 b0 b1 b2 S2 = rec2 y0 y1 y2 T2) : ∀ (g g2 d : Nat) (a0 a1 a2 : Int) (S : zSt) (b0 b1 b2 : Int) (S2 : zSt), I d a0 a1 a2 S b0 b1 b2 S2 → d < g → d < g2 → Q (zl3 g F a0 a1 a2 S) (zl3 g2 G b0 b1 b2 S2) := by
  intro g
  induction g with
  | zero => intro g2 d a0 a1 a2 S b0 b1 b2 S2 _ h; exact absurd h (Nat.not_lt_zero d)
  | succ g ih =>
    intro g2 d a0 a1 a2 S b0 b1 b2 S2 hI h h2
    obtain ⟨g2, rfl⟩ : ∃ k, g2 = k + 1 := ⟨g2 - 1, by omega⟩
    rw [zl3_s, zl3_s]
    rcases step (zl3 g F) (zl3 g2 G) d a0 a1 a2 S b0 b1 b2 S2 hI with q | ⟨e, x0, x1, x2, T, y0, y1, y2, T2, h3, h4, h5, h6⟩
    · exact q
    · rw [h5, h6]; exact ih g2 e x0 x1 x2 T y0 y1 y2 T2 h4 (by omega) (by omega)
theorem q_lst_u {P : Int → Prop} {lo hi r r2 : Int} (h0 : 0 ≤ lo) (h1 : (r = -1 ∧ ∀ j, lo ≤ j → j < hi → ¬ P j) ∨ (lo ≤ r ∧ r < hi ∧ P r ∧ ∀ j, lo ≤ j → j < r → ¬ P j)) (h2 : (r2 = -1 ∧ ∀ j, lo ≤ j → j < hi → ¬ P j) ∨ (lo ≤ r2 ∧ r2 < hi ∧ P r2 ∧ ∀ j, lo ≤ j → j < r2 → ¬ P j)) : r = r2 := by
  rcases h1 with ⟨a1, a2⟩ | ⟨a1, a2, a3, a4⟩
  · rcases h2 with ⟨b1, b2⟩ | ⟨b1, b2, b3, b4⟩
    · omega
    · exact absurd b3 (a2 r2 b1 b2)
  · rcases h2 with ⟨b1, b2⟩ | ⟨b1, b2, b3, b4⟩
    · exact absurd a3 (b2 r a1 a2)
    · rcases Int.lt_trichotomy r r2 with h | h | h
      · exact absurd a3 (b4 r a1 h)
      · exact h
      · exact absurd b3 (a4 r2 b1 h)
theorem q_low {S : zSt} {c n : Int} (hn : S.1 3 = n) (hn2 : n ≤ 60) (hc : 0 ≤ c ∧ c < n) : ∃ r, m_X1_lowestAnswerTo S c = some (r, S) ∧ ((r = -1 ∧ ∀ j, c + 1 ≤ j → j < n → ¬ (S.2 11 j = c ∧ S.2 8 j = 3 ∧ S.2 17 j < 1)) ∨ (c + 1 ≤ r ∧ r < n ∧ (S.2 11 r = c ∧ S.2 8 r = 3 ∧ S.2 17 r < 1) ∧ ∀ j, c + 1 ≤ j → j < r → ¬ (S.2 11 j = c ∧ S.2 8 j = 3 ∧ S.2 17 j < 1))) := by
  have key := zw1 (F := b_X1_lowestAnswerTo_4 c (fun (S1 : zSt) => some ((-1), S1))) (fun d i T => T = S ∧ c + 1 ≤ i ∧ i + d = n ∧ ∀ j, c + 1 ≤ j → j < i → ¬ (S.2 11 j = c ∧ S.2 8 j = 3 ∧ S.2 17 j < 1)) (fun x => ∃ r, x = some (r, S) ∧ ((r = -1 ∧ ∀ j, c + 1 ≤ j → j < n → ¬ (S.2 11 j = c ∧ S.2 8 j = 3 ∧ S.2 17 j < 1)) ∨ (c + 1 ≤ r ∧ r < n ∧ (S.2 11 r = c ∧ S.2 8 r = 3 ∧ S.2 17 r < 1) ∧ ∀ j, c + 1 ≤ j → j < r → ¬ (S.2 11 j = c ∧ S.2 8 j = 3 ∧ S.2 17 j < 1)))) (by
      rintro rec d i T ⟨rfl, h1, h2, h3⟩
      by_cases k : n ≤ i
      · refine Or.inl ⟨-1, ?_, Or.inl ⟨rfl, fun j j1 j2 => h3 j j1 (by omega)⟩⟩
        simp (disch := omega) only [b_X1_lowestAnswerTo_4, hn, zlt, zbd_s, zbx_l, zbx_r, zj0, zj1, zj2, zj3, zset_2, zput_1, if_true, if_false, zar_p, zld_p, zst_p, zdv_p, zrm_p, zc01_p, zb_p, zb_n, if_pos, if_neg]
      · have k3 := p_X1_isLight T i (by omega)
        by_cases c1 : T.2 11 i = c
        · by_cases c2 : T.2 8 i = 3
          · by_cases c3 : T.2 17 i < 1
            · refine Or.inl ⟨i, ?_, Or.inr ⟨h1, by omega, ⟨c1, c2, c3⟩, h3⟩⟩
              simp (disch := omega) only [b_X1_lowestAnswerTo_4, hn, m_X1_parentOf, m_X1_kindOf, p_at, zat_p, k3, zlt, zbd_s, zbx_l, zbx_r, zj0, zj1, zj2, zj3, zset_2, zput_1, if_true, if_false, zar_p, zld_p, zst_p, zdv_p, zrm_p, zc01_p, zb_p, zb_n, if_pos, if_neg]
            · refine Or.inr ⟨d - 1, i + 1, T, by omega, ⟨rfl, by omega, by omega, fun j j1 j2 => ?_⟩, ?_⟩
              · by_cases e : j = i
                · rw [e]; exact fun q => c3 q.2.2
                · exact h3 j j1 (by omega)
              · simp (disch := omega) only [b_X1_lowestAnswerTo_4, hn, m_X1_parentOf, m_X1_kindOf, p_at, zat_p, k3, zlt, zbd_s, zbx_l, zbx_r, zj0, zj1, zj2, zj3, zset_2, zput_1, if_true, if_false, zar_p, zld_p, zst_p, zdv_p, zrm_p, zc01_p, zb_p, zb_n, if_pos, if_neg]
          · refine Or.inr ⟨d - 1, i + 1, T, by omega, ⟨rfl, by omega, by omega, fun j j1 j2 => ?_⟩, ?_⟩
            · by_cases e : j = i
              · rw [e]; exact fun q => c2 q.2.1
              · exact h3 j j1 (by omega)
            · simp (disch := omega) only [b_X1_lowestAnswerTo_4, hn, m_X1_parentOf, m_X1_kindOf, p_at, zat_p, zlt, zbd_s, zbx_l, zbx_r, zj0, zj1, zj2, zj3, zset_2, zput_1, if_true, if_false, zar_p, zld_p, zst_p, zdv_p, zrm_p, zc01_p, zb_p, zb_n, if_pos, if_neg]
        · refine Or.inr ⟨d - 1, i + 1, T, by omega, ⟨rfl, by omega, by omega, fun j j1 j2 => ?_⟩, ?_⟩
          · by_cases e : j = i
            · rw [e]; exact fun q => c1 q.1
            · exact h3 j j1 (by omega)
          · simp (disch := omega) only [b_X1_lowestAnswerTo_4, hn, m_X1_parentOf, p_at, zat_p, zlt, zbd_s, zbx_l, zbx_r, zj0, zj1, zj2, zj3, zset_2, zput_1, if_true, if_false, zar_p, zld_p, zst_p, zdv_p, zrm_p, zc01_p, zb_p, zb_n, if_pos, if_neg])
    1000 (n - c - 1).toNat (c + 1) S ⟨rfl, by omega, by omega, fun j j1 j2 => absurd j1 (by omega)⟩ (by omega)
  obtain ⟨r, e1, e2⟩ := key
  refine ⟨r, ?_, e2⟩
  simp (disch := omega) only [m_X1_lowestAnswerTo, e1, zlt, zbd_s, zbx_l, zbx_r, zj0, zj1, zj2, zj3, zset_2, zput_1, if_true, if_false, zar_p, zld_p, zst_p, zdv_p, zrm_p, zc01_p, zb_p, zb_n, if_pos, if_neg]
theorem q_low2 {S T : zSt} {c n : Int} {j4 : Int → zSt → Option zRes} (hn2 : n ≤ 60) (hc : 0 ≤ c ∧ c < n) (hj : ∀ j, 0 ≤ j → j < n → T.2 8 j = S.2 11 j ∧ T.2 7 j = S.2 8 j ∧ T.2 16 j = zb (S.2 17 j < 1)) : ∃ r, zl2 1000 (b_X9_solved_53 j4 c) (-1) (n - 1) T = j4 r T ∧ ((r = -1 ∧ ∀ j, c + 1 ≤ j → j < n → ¬ (S.2 11 j = c ∧ S.2 8 j = 3 ∧ S.2 17 j < 1)) ∨ (c + 1 ≤ r ∧ r < n ∧ (S.2 11 r = c ∧ S.2 8 r = 3 ∧ S.2 17 r < 1) ∧ ∀ j, c + 1 ≤ j → j < r → ¬ (S.2 11 j = c ∧ S.2 8 j = 3 ∧ S.2 17 j < 1))) := by
  refine zw2 (F := b_X9_solved_53 j4 c) (fun d x i U => U = T ∧ c ≤ i ∧ i < n ∧ (d : Int) = i - c ∧ ((x = -1 ∧ ∀ j, i + 1 ≤ j → j < n → ¬ (S.2 11 j = c ∧ S.2 8 j = 3 ∧ S.2 17 j < 1)) ∨ (i + 1 ≤ x ∧ x < n ∧ (S.2 11 x = c ∧ S.2 8 x = 3 ∧ S.2 17 x < 1) ∧ ∀ j, i + 1 ≤ j → j < x → ¬ (S.2 11 j = c ∧ S.2 8 j = 3 ∧ S.2 17 j < 1)))) (fun y => ∃ r, y = j4 r T ∧ ((r = -1 ∧ ∀ j, c + 1 ≤ j → j < n → ¬ (S.2 11 j = c ∧ S.2 8 j = 3 ∧ S.2 17 j < 1)) ∨ (c + 1 ≤ r ∧ r < n ∧ (S.2 11 r = c ∧ S.2 8 r = 3 ∧ S.2 17 r < 1) ∧ ∀ j, c + 1 ≤ j → j < r → ¬ (S.2 11 j = c ∧ S.2 8 j = 3 ∧ S.2 17 j < 1)))) ?_ 1000 (n - 1 - c).toNat (-1) (n - 1) T ⟨rfl, by omega, by omega, by omega, Or.inl ⟨rfl, fun j j1 j2 => absurd j1 (by omega)⟩⟩ (by omega)
  rintro rec d x i U ⟨rfl, h1, h2, h3, h4⟩
  by_cases k : i ≤ c
  · have e : i = c := by omega
    subst e
    refine Or.inl ⟨x, ?_, h4⟩
    clear h4
    simp (disch := omega) only [b_X9_solved_53, zlt, zbd_s, zbx_l, zbx_r, zj0, zj1, zj2, zj3, zset_2, zput_1, if_true, if_false, zar_p, zld_p, zst_p, zdv_p, zrm_p, zc01_p, zb_p, zb_n, if_pos, if_neg]
  · obtain ⟨o1, o2, o3⟩ := hj i (by omega) h2
    have keep : ¬ (S.2 11 i = c ∧ S.2 8 i = 3 ∧ S.2 17 i < 1) → ((x = -1 ∧ ∀ j, i + (-1) + 1 ≤ j → j < n → ¬ (S.2 11 j = c ∧ S.2 8 j = 3 ∧ S.2 17 j < 1)) ∨ (i + (-1) + 1 ≤ x ∧ x < n ∧ (S.2 11 x = c ∧ S.2 8 x = 3 ∧ S.2 17 x < 1) ∧ ∀ j, i + (-1) + 1 ≤ j → j < x → ¬ (S.2 11 j = c ∧ S.2 8 j = 3 ∧ S.2 17 j < 1))) := fun hno => by
      rcases h4 with ⟨a1, a2⟩ | ⟨a1, a2, a3, a4⟩
      · refine Or.inl ⟨a1, fun j j1 j2 => ?_⟩
        by_cases e : j = i
        · rw [e]; exact hno
        · exact a2 j (by omega) j2
      · refine Or.inr ⟨by omega, a2, a3, fun j j1 j2 => ?_⟩
        by_cases e : j = i
        · rw [e]; exact hno
        · exact a4 j (by omega) j2
    by_cases c1 : S.2 11 i = c
    · by_cases c2 : S.2 8 i = 3
      · by_cases c3 : S.2 17 i < 1
        · rw [zb_p c3] at o3
          refine Or.inr ⟨d - 1, i, i + (-1), U, by omega, ⟨rfl, by omega, by omega, by omega, Or.inr ⟨by omega, h2, ⟨c1, c2, c3⟩, fun j j1 j2 => absurd j1 (by omega)⟩⟩, ?_⟩
          clear keep h4
          simp (disch := omega) only [b_X9_solved_53, o1, o2, o3, zlt, zbd_s, zbx_l, zbx_r, zj0, zj1, zj2, zj3, zset_2, zput_1, if_true, if_false, zar_p, zld_p, zst_p, zdv_p, zrm_p, zc01_p, zb_p, zb_n, if_pos, if_neg]
        · rw [zb_n c3] at o3
          refine Or.inr ⟨d - 1, x, i + (-1), U, by omega, ⟨rfl, by omega, by omega, by omega, keep fun q => c3 q.2.2⟩, ?_⟩
          clear keep h4
          simp (disch := omega) only [b_X9_solved_53, o1, o2, o3, zlt, zbd_s, zbx_l, zbx_r, zj0, zj1, zj2, zj3, zset_2, zput_1, if_true, if_false, zar_p, zld_p, zst_p, zdv_p, zrm_p, zc01_p, zb_p, zb_n, if_pos, if_neg]
      · refine Or.inr ⟨d - 1, x, i + (-1), U, by omega, ⟨rfl, by omega, by omega, by omega, keep fun q => c2 q.2.1⟩, ?_⟩
        clear keep h4
        simp (disch := omega) only [b_X9_solved_53, o1, o2, zlt, zbd_s, zbx_l, zbx_r, zj0, zj1, zj2, zj3, zset_2, zput_1, if_true, if_false, zar_p, zld_p, zst_p, zdv_p, zrm_p, zc01_p, zb_p, zb_n, if_pos, if_neg]
    · refine Or.inr ⟨d - 1, x, i + (-1), U, by omega, ⟨rfl, by omega, by omega, by omega, keep fun q => c1 q.1⟩, ?_⟩
      clear keep h4
      simp (disch := omega) only [b_X9_solved_53, o1, zlt, zbd_s, zbx_l, zbx_r, zj0, zj1, zj2, zj3, zset_2, zput_1, if_true, if_false, zar_p, zld_p, zst_p, zdv_p, zrm_p, zc01_p, zb_p, zb_n, if_pos, if_neg]
theorem q_solve {S T : zSt} {a n na : Int} {j1 : Int → zSt → Option zRes} (hS : S.1 3 = n) (hn : T.1 4 = n) (h0 : T.1 0 = 0) (hn2 : 0 ≤ n ∧ n ≤ 60) (hna : na ≤ 12) (hj : ∀ j, 0 ≤ j → j < n → T.2 8 j = S.2 11 j ∧ T.2 7 j = S.2 8 j ∧ T.2 16 j = zb (S.2 17 j < 1)) (hb : ∀ j, 0 ≤ j → j < n → T.2 6 j = S.2 7 j ∧ 0 ≤ S.2 7 j ∧ S.2 7 j < na) (hs : ∀ x, 0 ≤ x → x < na → T.2 4 x = S.2 5 x) : ∃ r, zl2 1000 (b_X1_solvedBy_9 a (fun (v2 : Int) (S5 : zSt) => some (v2, S5) : Int → zSt → Option zRes)) 0 0 S = some (r, S) ∧ zl2 1000 (b_X9_solved_27 a j1) 0 0 T = j1 r T := by
  refine zw22 (F := b_X1_solvedBy_9 a (fun (v2 : Int) (S5 : zSt) => some (v2, S5) : Int → zSt → Option zRes)) (G := b_X9_solved_27 a j1)
    (fun d x i U x' i' U' => U = S ∧ U' = T ∧ x = x' ∧ i = i' ∧ 0 ≤ i ∧ i + d = n ∧ 0 ≤ x ∧ x ≤ i) (fun p q => ∃ r, p = some (r, S) ∧ q = j1 r T) ?_ 1000 1000 n.toNat 0 0 S 0 0 T ⟨rfl, rfl, rfl, rfl, by omega, by omega, by omega, by omega⟩ (by omega) (by omega)
  rintro rec rec2 d x i U x' i' U' ⟨rfl, rfl, rfl, rfl, h1, h2, h3, h4⟩
  by_cases k : n ≤ i
  · refine Or.inl ⟨x, ?_, ?_⟩
    · simp (disch := omega) only [b_X1_solvedBy_9, hS, zlt, zbd_s, zbx_l, zbx_r, zj0, zj1, zj2, zj3, zset_2, zput_1, if_true, if_false, zar_p, zld_p, zst_p, zdv_p, zrm_p, zc01_p, zb_p, zb_n, if_pos, if_neg]
    · simp (disch := omega) only [b_X9_solved_27, hn, zlt, zbd_s, zbx_l, zbx_r, zj0, zj1, zj2, zj3, zset_2, zput_1, if_true, if_false, zar_p, zld_p, zst_p, zdv_p, zrm_p, zc01_p, zb_p, zb_n, if_pos, if_neg]
  · obtain ⟨o1, o2, o3⟩ := hj i h1 (by omega)
    have k2 := p_X1_isDoubt U i (by omega)
    have k3 := p_X1_isLight U i (by omega)
    have k4 := p_X9_asks U' i (by omega)
    rw [o1, o2] at k4
    obtain ⟨r, r1, r2⟩ := q_low (S := U) (c := i) hS hn2.2 ⟨h1, by omega⟩
    have r3 : ∀ j4 : Int → zSt → Option zRes, zl2 1000 (b_X9_solved_53 j4 i) (-1) (n - 1) U' = j4 r U' := fun j4 => by
      obtain ⟨r', r4, r5⟩ := q_low2 (S := U) (T := U') (c := i) (j4 := j4) hn2.2 ⟨h1, by omega⟩ hj
      rw [q_lst_u (by omega) r2 r5]; exact r4
    have r6 : r = -1 ∨ (0 ≤ r ∧ r < n) := by
      rcases r2 with q | q
      · exact Or.inl q.1
      · exact Or.inr ⟨by omega, q.2.1⟩
    clear r2
    by_cases c1 : U.2 11 i = -1 ∧ (U.2 8 i = 0 ∨ U.2 8 i = 1)
    · by_cases c2 : U.2 17 i < 1
      · rw [zb_p c2] at o3
        refine Or.inr ⟨d - 1, x, i + 1, U, x, i + 1, U', by omega, ⟨rfl, rfl, rfl, rfl, by omega, by omega, by omega, by omega⟩, ?_, ?_⟩
        · simp (disch := omega) only [b_X1_solvedBy_9, hS, k2, k3, zlt, zbd_s, zbx_l, zbx_r, zj0, zj1, zj2, zj3, zset_2, zput_1, if_true, if_false, zar_p, zld_p, zst_p, zdv_p, zrm_p, zc01_p, zb_p, zb_n, if_pos, if_neg]
        · simp (disch := omega) only [b_X9_solved_27, hn, h0, r3, k4, o3, Int.add_zero, zlt, zbd_s, zbx_l, zbx_r, zj0, zj1, zj2, zj3, zset_2, zput_1, if_true, if_false, zar_p, zld_p, zst_p, zdv_p, zrm_p, zc01_p, zb_p, zb_n, if_pos, if_neg]
      · rw [zb_n c2] at o3
        by_cases c3 : r = -1
        · refine Or.inr ⟨d - 1, x, i + 1, U, x, i + 1, U', by omega, ⟨rfl, rfl, rfl, rfl, by omega, by omega, by omega, by omega⟩, ?_, ?_⟩
          · simp (disch := omega) only [b_X1_solvedBy_9, hS, k2, k3, r1, zlt, zbd_s, zbx_l, zbx_r, zj0, zj1, zj2, zj3, zset_2, zput_1, if_true, if_false, zar_p, zld_p, zst_p, zdv_p, zrm_p, zc01_p, zb_p, zb_n, if_pos, if_neg]
          · simp (disch := omega) only [b_X9_solved_27, hn, h0, r3, k4, o3, Int.add_zero, zlt, zbd_s, zbx_l, zbx_r, zj0, zj1, zj2, zj3, zset_2, zput_1, if_true, if_false, zar_p, zld_p, zst_p, zdv_p, zrm_p, zc01_p, zb_p, zb_n, if_pos, if_neg]
        · obtain ⟨w1, w2, w3⟩ := hb r (by omega) (by omega)
          have w4 := hs (U.2 7 r) w2 w3
          by_cases c4 : U.2 5 (U.2 7 r) = a
          · refine Or.inr ⟨d - 1, x + 1, i + 1, U, x + 1, i + 1, U', by omega, ⟨rfl, rfl, rfl, rfl, by omega, by omega, by omega, by omega⟩, ?_, ?_⟩
            · simp (disch := omega) only [b_X1_solvedBy_9, hS, k2, k3, r1, m_X1_authorOf, m_X0_schoolOf, p_at, zat_p, zlt, zbd_s, zbx_l, zbx_r, zj0, zj1, zj2, zj3, zset_2, zput_1, if_true, if_false, zar_p, zld_p, zst_p, zdv_p, zrm_p, zc01_p, zb_p, zb_n, if_pos, if_neg]
            · simp (disch := omega) only [b_X9_solved_27, hn, h0, r3, k4, o3, w1, w4, zlt, zbd_s, zbx_l, zbx_r, zj0, zj1, zj2, zj3, zset_2, zput_1, if_true, if_false, zar_p, zld_p, zst_p, zdv_p, zrm_p, zc01_p, zb_p, zb_n, if_pos, if_neg]
          · refine Or.inr ⟨d - 1, x, i + 1, U, x, i + 1, U', by omega, ⟨rfl, rfl, rfl, rfl, by omega, by omega, by omega, by omega⟩, ?_, ?_⟩
            · simp (disch := omega) only [b_X1_solvedBy_9, hS, k2, k3, r1, m_X1_authorOf, m_X0_schoolOf, p_at, zat_p, zlt, zbd_s, zbx_l, zbx_r, zj0, zj1, zj2, zj3, zset_2, zput_1, if_true, if_false, zar_p, zld_p, zst_p, zdv_p, zrm_p, zc01_p, zb_p, zb_n, if_pos, if_neg]
            · simp (disch := omega) only [b_X9_solved_27, hn, h0, r3, k4, o3, w1, w4, Int.add_zero, zlt, zbd_s, zbx_l, zbx_r, zj0, zj1, zj2, zj3, zset_2, zput_1, if_true, if_false, zar_p, zld_p, zst_p, zdv_p, zrm_p, zc01_p, zb_p, zb_n, if_pos, if_neg]
    · refine Or.inr ⟨d - 1, x, i + 1, U, x, i + 1, U', by omega, ⟨rfl, rfl, rfl, rfl, by omega, by omega, by omega, by omega⟩, ?_, ?_⟩
      · simp (disch := omega) only [b_X1_solvedBy_9, hS, k2, zlt, zbd_s, zbx_l, zbx_r, zj0, zj1, zj2, zj3, zset_2, zput_1, if_true, if_false, zar_p, zld_p, zst_p, zdv_p, zrm_p, zc01_p, zb_p, zb_n, if_pos, if_neg]
      · simp (disch := omega) only [b_X9_solved_27, hn, h0, r3, k4, Int.add_zero, zlt, zbd_s, zbx_l, zbx_r, zj0, zj1, zj2, zj3, zset_2, zput_1, if_true, if_false, zar_p, zld_p, zst_p, zdv_p, zrm_p, zc01_p, zb_p, zb_n, if_pos, if_neg]
theorem s_solved {C M : zSt} {a : Int} (hJ : J C M) : Sim ["java/lang/IllegalArgumentException"] (m_X9_solved M a) (m_X8_solved C a) := by
  obtain ⟨hRG, hP, hT, hA, hC, hR, hF, hE⟩ := id hJ
  obtain ⟨c1, c2, c3, c4, c5⟩ := id hC
  by_cases h1 : 0 ≤ a ∧ a ≤ 3
  · obtain ⟨f, s, e1, e2, e3⟩ := q_stand (C := C) (M := zset M 0 0) hC
    obtain ⟨r, r1, r2⟩ := q_solve (S := zrp C 17 f) (T := zrp (zset M 0 0) 16 s) (a := a) (n := C.1 3) (na := C.1 2) (j1 := (fun (v2 : Int) (S5 : zSt) => some (v2, S5) : Int → zSt → Option zRes)) rfl c3 rfl ⟨c1, c2⟩ hA.2.1 (fun j j1 j2 => ⟨(c4 j j1 j2).2.2.2.2.1.1, (c4 j j1 j2).2.1.1, e3 j j1 j2⟩) (fun j j1 j2 => (c4 j j1 j2).1) (fun x x1 x2 => (hA.2.2.2 x x1 x2).2.1)
    refine Sim.ok (b := r) (C' := zrp C 17 f) (M' := zrp (zset M 0 0) 16 s) ?_ ?_ rfl ⟨hP, hT, hA, hC, hR, hF, hE⟩
    · clear hJ hRG c4 c5 hC; simp (disch := omega) only [m_X9_solved, p_X9_between, e2, r2, zlt, zbd_s, zbx_l, zbx_r, zj0, zj1, zj2, zj3, zset_2, zput_1, if_true, if_false, zar_p, zld_p, zst_p, zdv_p, zrm_p, zc01_p, zb_p, zb_n, if_pos, if_neg]
    · clear hJ hRG c4 c5 hC c3; simp (disch := omega) only [m_X8_solved, p_X8_needArgument, m_X1_solvedBy, e1, r1, zlt, zbd_s, zbx_l, zbx_r, zj0, zj1, zj2, zj3, zset_2, zput_1, if_true, if_false, zar_p, zld_p, zst_p, zdv_p, zrm_p, zc01_p, zb_p, zb_n, if_pos, if_neg]
  · obtain ⟨f, s, e1, e2, e3⟩ := q_stand (C := C) (M := zset M 0 1) hC
    have e4 : zl2 1000 (b_X9_solved_27 a (fun (v2 : Int) (S5 : zSt) => some (v2, S5) : Int → zSt → Option zRes)) 0 0 (zrp (zset M 0 1) 16 s) = some (0, zrp (zset M 0 1) 16 s) := by
      refine (zl2_s 999 _ 0 0 (zrp (zset M 0 1) 16 s)).trans ?_
      by_cases c : C.1 3 ≤ 0
      · simp (disch := omega) only [b_X9_solved_27, zrp_1, zset_n, zset_e, c3, zlt, zbd_s, zbx_l, zbx_r, zj0, zj1, zj2, zj3, zset_2, zput_1, if_true, if_false, zar_p, zld_p, zst_p, zdv_p, zrm_p, zc01_p, zb_p, zb_n, if_pos, if_neg]
      · simp (disch := omega) only [b_X9_solved_27, zrp_1, zset_n, zset_e, c3, zlt, zbd_s, zbx_l, zbx_r, zj0, zj1, zj2, zj3, zset_2, zput_1, if_true, if_false, zar_p, zld_p, zst_p, zdv_p, zrm_p, zc01_p, zb_p, zb_n, if_pos, if_neg]
    have a1 : m_X9_solved M a = some (0, zrp (zset M 0 1) 16 s) := by clear hJ hRG c4 c5 hC; simp (disch := omega) only [m_X9_solved, p_X9_between, e2, e4, zlt, zbd_s, zbx_l, zbx_r, zj0, zj1, zj2, zj3, zset_2, zput_1, if_true, if_false, zar_p, zld_p, zst_p, zdv_p, zrm_p, zc01_p, zb_p, zb_n, if_pos, if_neg]
    have a2 : m_X8_solved C a = some (.inr ("java/lang/IllegalArgumentException", C)) := by clear hJ hRG c4 c5 hC c3; simp (disch := omega) only [m_X8_solved, p_X8_needArgument, zlt, zbd_s, zbx_l, zbx_r, zj0, zj1, zj2, zj3, zset_2, zput_1, if_true, if_false, zar_p, zld_p, zst_p, zdv_p, zrm_p, zc01_p, zb_p, zb_n, if_pos, if_neg]
    exact Sim.no a1 a2 (by decide) rfl ⟨hP, hT, hA, hC, hR, hF, hE⟩

