/-! follow, unfollow, ruling -/
theorem q_fol1 {M : zSt} {a b n : Int} (hn : M.1 5 = n) (h : (0 ≤ a ∧ a ≤ 3) ∧ (a = 0 → 0 ≤ b ∧ b ≤ 3) ∧ (a = 3 → 0 ≤ b ∧ b ≤ 19)) (h2 : 0 ≤ n ∧ n < 6) : m_X9_follow M a b = some (n + 1, zset (zput (zput (zset M 0 0) 18 n a) 19 n b) 5 (n + 1)) := by
  by_cases e : a = 0
  · simp (disch := omega) only [m_X9_follow, p_X9_between, zset_e, zset_n, hn, zlt, zbd_s, zbx_l, zbx_r, zj0, zj1, zj2, zj3, zset_2, zput_1, if_true, if_false, zar_p, zld_p, zst_p, zdv_p, zrm_p, zc01_p, zb_p, zb_n, if_pos, if_neg]
  · by_cases e2 : a = 3
    · simp (disch := omega) only [m_X9_follow, p_X9_between, zset_e, zset_n, hn, zlt, zbd_s, zbx_l, zbx_r, zj0, zj1, zj2, zj3, zset_2, zput_1, if_true, if_false, zar_p, zld_p, zst_p, zdv_p, zrm_p, zc01_p, zb_p, zb_n, if_pos, if_neg]
    · simp (disch := omega) only [m_X9_follow, p_X9_between, zset_e, zset_n, hn, zlt, zbd_s, zbx_l, zbx_r, zj0, zj1, zj2, zj3, zset_2, zput_1, if_true, if_false, zar_p, zld_p, zst_p, zdv_p, zrm_p, zc01_p, zb_p, zb_n, if_pos, if_neg]
theorem q_fol2 {C : zSt} {a b n : Int} (hn : C.1 4 = n) (h : (0 ≤ a ∧ a ≤ 3) ∧ (a = 0 → 0 ≤ b ∧ b ≤ 3) ∧ (a = 3 → 0 ≤ b ∧ b ≤ 19)) (h2 : 0 ≤ n ∧ n < 6) : m_X8_follow C a b = some (.inl (n + 1, zset (zput (zput C 20 n a) 21 n b) 4 (n + 1))) := by
  by_cases e : a = 0
  · simp (disch := omega) only [m_X8_follow, p_X8_needArgument, m_X5_areRulesFull, m_X5_addRule, m_X5_countRules, zset_e, zset_n, hn, zlt, zbd_s, zbx_l, zbx_r, zj0, zj1, zj2, zj3, zset_2, zput_1, if_true, if_false, zar_p, zld_p, zst_p, zdv_p, zrm_p, zc01_p, zb_p, zb_n, if_pos, if_neg]
  · by_cases e2 : a = 3
    · simp (disch := omega) only [m_X8_follow, p_X8_needArgument, m_X5_areRulesFull, m_X5_addRule, m_X5_countRules, zset_e, zset_n, hn, zlt, zbd_s, zbx_l, zbx_r, zj0, zj1, zj2, zj3, zset_2, zput_1, if_true, if_false, zar_p, zld_p, zst_p, zdv_p, zrm_p, zc01_p, zb_p, zb_n, if_pos, if_neg]
    · simp (disch := omega) only [m_X8_follow, p_X8_needArgument, m_X5_areRulesFull, m_X5_addRule, m_X5_countRules, zset_e, zset_n, hn, zlt, zbd_s, zbx_l, zbx_r, zj0, zj1, zj2, zj3, zset_2, zput_1, if_true, if_false, zar_p, zld_p, zst_p, zdv_p, zrm_p, zc01_p, zb_p, zb_n, if_pos, if_neg]
theorem q_fol3 {M : zSt} {a b n : Int} (hn : M.1 5 = n) (h : (0 ≤ a ∧ a ≤ 3) ∧ (a = 0 → 0 ≤ b ∧ b ≤ 3) ∧ (a = 3 → 0 ≤ b ∧ b ≤ 19)) (h2 : n = 6) : m_X9_follow M a b = some (0, zset M 0 2) := by
  by_cases e : a = 0
  · simp (disch := omega) only [m_X9_follow, p_X9_between, zset_e, zset_n, hn, zlt, zbd_s, zbx_l, zbx_r, zj0, zj1, zj2, zj3, zset_2, zput_1, if_true, if_false, zar_p, zld_p, zst_p, zdv_p, zrm_p, zc01_p, zb_p, zb_n, if_pos, if_neg]
  · by_cases e2 : a = 3
    · simp (disch := omega) only [m_X9_follow, p_X9_between, zset_e, zset_n, hn, zlt, zbd_s, zbx_l, zbx_r, zj0, zj1, zj2, zj3, zset_2, zput_1, if_true, if_false, zar_p, zld_p, zst_p, zdv_p, zrm_p, zc01_p, zb_p, zb_n, if_pos, if_neg]
    · simp (disch := omega) only [m_X9_follow, p_X9_between, zset_e, zset_n, hn, zlt, zbd_s, zbx_l, zbx_r, zj0, zj1, zj2, zj3, zset_2, zput_1, if_true, if_false, zar_p, zld_p, zst_p, zdv_p, zrm_p, zc01_p, zb_p, zb_n, if_pos, if_neg]
theorem q_fol4 {C : zSt} {a b n : Int} (hn : C.1 4 = n) (h : (0 ≤ a ∧ a ≤ 3) ∧ (a = 0 → 0 ≤ b ∧ b ≤ 3) ∧ (a = 3 → 0 ≤ b ∧ b ≤ 19)) (h2 : n = 6) : m_X8_follow C a b = some (.inr ("java/lang/IllegalStateException", C)) := by
  by_cases e : a = 0
  · simp (disch := omega) only [m_X8_follow, p_X8_needArgument, m_X5_areRulesFull, zset_e, zset_n, hn, zlt, zbd_s, zbx_l, zbx_r, zj0, zj1, zj2, zj3, zset_2, zput_1, if_true, if_false, zar_p, zld_p, zst_p, zdv_p, zrm_p, zc01_p, zb_p, zb_n, if_pos, if_neg]
  · by_cases e2 : a = 3
    · simp (disch := omega) only [m_X8_follow, p_X8_needArgument, m_X5_areRulesFull, zset_e, zset_n, hn, zlt, zbd_s, zbx_l, zbx_r, zj0, zj1, zj2, zj3, zset_2, zput_1, if_true, if_false, zar_p, zld_p, zst_p, zdv_p, zrm_p, zc01_p, zb_p, zb_n, if_pos, if_neg]
    · simp (disch := omega) only [m_X8_follow, p_X8_needArgument, m_X5_areRulesFull, zset_e, zset_n, hn, zlt, zbd_s, zbx_l, zbx_r, zj0, zj1, zj2, zj3, zset_2, zput_1, if_true, if_false, zar_p, zld_p, zst_p, zdv_p, zrm_p, zc01_p, zb_p, zb_n, if_pos, if_neg]
theorem q_fol5 {M : zSt} {a b : Int} (h : ¬ ((0 ≤ a ∧ a ≤ 3) ∧ (a = 0 → 0 ≤ b ∧ b ≤ 3) ∧ (a = 3 → 0 ≤ b ∧ b ≤ 19))) : m_X9_follow M a b = some (0, zset M 0 1) := by
  by_cases e0 : 0 ≤ a ∧ a ≤ 3
  · by_cases e : a = 0
    · simp (disch := omega) only [m_X9_follow, p_X9_between, zset_e, zset_n, zlt, zbd_s, zbx_l, zbx_r, zj0, zj1, zj2, zj3, zset_2, zput_1, if_true, if_false, zar_p, zld_p, zst_p, zdv_p, zrm_p, zc01_p, zb_p, zb_n, if_pos, if_neg]
    · simp (disch := omega) only [m_X9_follow, p_X9_between, zset_e, zset_n, zlt, zbd_s, zbx_l, zbx_r, zj0, zj1, zj2, zj3, zset_2, zput_1, if_true, if_false, zar_p, zld_p, zst_p, zdv_p, zrm_p, zc01_p, zb_p, zb_n, if_pos, if_neg]
  · simp (disch := omega) only [m_X9_follow, p_X9_between, zset_e, zset_n, zlt, zbd_s, zbx_l, zbx_r, zj0, zj1, zj2, zj3, zset_2, zput_1, if_true, if_false, zar_p, zld_p, zst_p, zdv_p, zrm_p, zc01_p, zb_p, zb_n, if_pos, if_neg]
theorem q_fol6 {C : zSt} {a b : Int} (h : ¬ ((0 ≤ a ∧ a ≤ 3) ∧ (a = 0 → 0 ≤ b ∧ b ≤ 3) ∧ (a = 3 → 0 ≤ b ∧ b ≤ 19))) : m_X8_follow C a b = some (.inr ("java/lang/IllegalArgumentException", C)) := by
  by_cases e0 : 0 ≤ a ∧ a ≤ 3
  · by_cases e : a = 0
    · simp (disch := omega) only [m_X8_follow, p_X8_needArgument, zlt, zbd_s, zbx_l, zbx_r, zj0, zj1, zj2, zj3, zset_2, zput_1, if_true, if_false, zar_p, zld_p, zst_p, zdv_p, zrm_p, zc01_p, zb_p, zb_n, if_pos, if_neg]
    · simp (disch := omega) only [m_X8_follow, p_X8_needArgument, zlt, zbd_s, zbx_l, zbx_r, zj0, zj1, zj2, zj3, zset_2, zput_1, if_true, if_false, zar_p, zld_p, zst_p, zdv_p, zrm_p, zc01_p, zb_p, zb_n, if_pos, if_neg]
  · simp (disch := omega) only [m_X8_follow, p_X8_needArgument, zlt, zbd_s, zbx_l, zbx_r, zj0, zj1, zj2, zj3, zset_2, zput_1, if_true, if_false, zar_p, zld_p, zst_p, zdv_p, zrm_p, zc01_p, zb_p, zb_n, if_pos, if_neg]
theorem s_follow {C M : zSt} {a b : Int} (hJ : J C M) : Sim ["java/lang/IllegalArgumentException", "java/lang/IllegalStateException"] (m_X9_follow M a b) (m_X8_follow C a b) := by
  obtain ⟨hRG, hP, hT, hA, hC, hR, ⟨f1, f2, f3, f4⟩, hE⟩ := id hJ
  by_cases h1 : (0 ≤ a ∧ a ≤ 3) ∧ (a = 0 → 0 ≤ b ∧ b ≤ 3) ∧ (a = 3 → 0 ≤ b ∧ b ≤ 19)
  · by_cases h2 : C.1 4 = 6
    · exact Sim.no (q_fol3 f3 h1 h2) (q_fol4 rfl h1 h2) (by decide) rfl (hJ.thr 2)
    · refine Sim.ok (q_fol1 f3 h1 ⟨f1, by omega⟩) (q_fol2 rfl h1 ⟨f1, by omega⟩) rfl ?_
      refine ⟨hP, hT, hA, hC, hR, ⟨?_, ?_, rfl, fun k h3 h4 => ?_⟩, hE⟩
      · show 0 ≤ C.1 4 + 1; omega
      · show C.1 4 + 1 ≤ 6; omega
      · have h4 : k < C.1 4 + 1 := h4
        show (if k = C.1 4 then a else M.2 18 k) = (if k = C.1 4 then a else C.2 20 k) ∧ (if k = C.1 4 then b else M.2 19 k) = (if k = C.1 4 then b else C.2 21 k) ∧ 0 ≤ (if k = C.1 4 then a else C.2 20 k) ∧ (if k = C.1 4 then a else C.2 20 k) ≤ 3 ∧ ((if k = C.1 4 then a else C.2 20 k) = 0 → 0 ≤ (if k = C.1 4 then b else C.2 21 k) ∧ (if k = C.1 4 then b else C.2 21 k) ≤ 3) ∧ ((if k = C.1 4 then a else C.2 20 k) = 3 → 0 ≤ (if k = C.1 4 then b else C.2 21 k) ∧ (if k = C.1 4 then b else C.2 21 k) ≤ 19)
        by_cases e : k = C.1 4
        · simp only [if_pos e]
          exact ⟨by trivial, by trivial, h1.1.1, h1.1.2, h1.2.1, h1.2.2⟩
        · simp only [if_neg e]; exact f4 k h3 (by omega)
  · exact Sim.no (q_fol5 h1) (q_fol6 h1) (by decide) rfl (hJ.thr 1)
theorem zput_rp2 (S : zSt) {a b : Nat} (f g : Int → Int) (i v : Int) (h : a ≠ b) : zput (zrp (zrp S a f) b g) a i v = zrp (zrp S a (zfu f i v)) b g := by
  refine Prod.ext rfl (funext fun q => ?_)
  show (if q = a then (fun t => if t = i then v else (if a = b then g else if a = a then f else S.2 a) t) else (if q = b then g else if q = a then f else S.2 q)) = (if q = b then g else if q = a then zfu f i v else S.2 q)
  rw [if_neg h, if_pos rfl]
  by_cases e : q = a
  · rw [if_pos e, if_neg (by rw [e]; exact h), if_pos e]; rfl
  · rw [if_neg e, if_neg e, if_neg e]
theorem zrp2_self (S : zSt) (a b : Nat) : zrp (zrp S a (S.2 a)) b (S.2 b) = S := by rw [zrp_self, zrp_self]
theorem q_unf1 {M : zSt} {a n : Int} (hn : M.1 5 = n) (h : 0 ≤ a ∧ a < n) (h2 : n ≤ 6) : ∃ f g, m_X9_unfollow M a = some (M.2 18 a, zset (zrp (zrp (zset M 0 0) 18 f) 19 g) 5 (n - 1)) ∧ ∀ k, 0 ≤ k → k < n - 1 → f k = (if a ≤ k then M.2 18 (k + 1) else M.2 18 k) ∧ g k = (if a ≤ k then M.2 19 (k + 1) else M.2 19 k) := by
  have key := zw1 (F := b_X9_unfollow_42 (fun (S4 : zSt) => zlt (S4.1 5) fun x6 => zar (x6 - 1) fun x7 => zlt (zset S4 5 x7) fun S5 => some (M.2 18 a, S5)))
    (fun d i T => a ≤ i ∧ i + d = n - 1 ∧ ∃ f g, T = zrp (zrp (zset M 0 0) 18 f) 19 g ∧ ∀ k, f k = (if a ≤ k ∧ k < i then M.2 18 (k + 1) else M.2 18 k) ∧ g k = (if a ≤ k ∧ k < i then M.2 19 (k + 1) else M.2 19 k))
    (fun x => ∃ f g, x = some (M.2 18 a, zset (zrp (zrp (zset M 0 0) 18 f) 19 g) 5 (n - 1)) ∧ ∀ k, 0 ≤ k → k < n - 1 → f k = (if a ≤ k then M.2 18 (k + 1) else M.2 18 k) ∧ g k = (if a ≤ k then M.2 19 (k + 1) else M.2 19 k)) (by
      rintro rec d i T ⟨h3, h4, f, g, rfl, h5⟩
      by_cases c : n - 1 ≤ i
      · refine Or.inl ⟨f, g, ?_, fun k h6 h7 => ?_⟩
        · simp (disch := omega) only [b_X9_unfollow_42, zrp_1, zset_n, hn, zlt, zbd_s, zbx_l, zbx_r, zj0, zj1, zj2, zj3, zset_2, zput_1, if_true, if_false, zar_p, zld_p, zst_p, zdv_p, zrm_p, zc01_p, zb_p, zb_n, if_pos, if_neg]
        · obtain ⟨e1, e2⟩ := h5 k
          rw [e1, e2]
          by_cases e : a ≤ k
          · have q : a ≤ k ∧ k < i := ⟨e, by omega⟩
            rw [if_pos q, if_pos q, if_pos e, if_pos e]; exact ⟨rfl, rfl⟩
          · have q : ¬ (a ≤ k ∧ k < i) := fun q => e q.1
            rw [if_neg q, if_neg q, if_neg e, if_neg e]; exact ⟨rfl, rfl⟩
      · refine Or.inr ⟨d - 1, i + 1, _, by omega, ⟨by omega, by omega, zfu f i (f (i + 1)), zfu g i (g (i + 1)), rfl, fun k => ?_⟩, ?_⟩
        · by_cases e : k = i
          · rw [e, zfu_e, zfu_e, if_pos ⟨h3, by omega⟩, if_pos ⟨h3, by omega⟩, (h5 (i + 1)).1, (h5 (i + 1)).2, if_neg (by omega), if_neg (by omega)]
            exact ⟨rfl, rfl⟩
          · rw [zfu_n _ _ e, zfu_n _ _ e, (h5 k).1, (h5 k).2]
            by_cases e2 : a ≤ k ∧ k < i
            · rw [if_pos e2, if_pos e2, if_pos ⟨e2.1, by omega⟩, if_pos ⟨e2.1, by omega⟩]; exact ⟨rfl, rfl⟩
            · rw [if_neg e2, if_neg e2, if_neg (by omega), if_neg (by omega)]; exact ⟨rfl, rfl⟩
        · simp (disch := omega) only [b_X9_unfollow_42, zrp_1, zset_n, hn, zrp_e, zrp_n, zput_rp, zput_rp2, zlt, zbd_s, zbx_l, zbx_r, zj0, zj1, zj2, zj3, zset_2, zput_1, if_true, if_false, zar_p, zld_p, zst_p, zdv_p, zrm_p, zc01_p, zb_p, zb_n, if_pos, if_neg])
    1000 (n - 1 - a).toNat a (zset M 0 0) ⟨by omega, by omega, M.2 18, M.2 19, (zrp2_self (zset M 0 0) 18 19).symm, fun k => ⟨by rw [if_neg (by omega)], by rw [if_neg (by omega)]⟩⟩ (by omega)
  obtain ⟨f, g, e1, e2⟩ := key
  refine ⟨f, g, ?_, e2⟩
  simp (disch := omega) only [m_X9_unfollow, p_X9_between, zset_e, zset_n, hn, zlt, zbd_s, zbx_l, zbx_r, zj0, zj1, zj2, zj3, zset_2, zput_1, if_true, if_false, zar_p, zld_p, zst_p, zdv_p, zrm_p, zc01_p, zb_p, zb_n, if_pos, if_neg]
  exact e1
theorem q_unf2 {C : zSt} {a n : Int} (hn : C.1 4 = n) (h : 0 ≤ a ∧ a < n) (h2 : n ≤ 6) : ∃ f g, m_X8_unfollow C a = some (.inl (C.2 20 a, zrp (zrp (zset C 4 (n - 1)) 20 f) 21 g)) ∧ ∀ k, 0 ≤ k → k < n - 1 → f k = (if a ≤ k then C.2 20 (k + 1) else C.2 20 k) ∧ g k = (if a ≤ k then C.2 21 (k + 1) else C.2 21 k) := by
  have key := zw1 (F := b_X5_removeRule_21)
    (fun d i T => a ≤ i ∧ i + d = n - 1 ∧ ∃ f g, T = zrp (zrp (zset C 4 (n - 1)) 20 f) 21 g ∧ ∀ k, f k = (if a ≤ k ∧ k < i then C.2 20 (k + 1) else C.2 20 k) ∧ g k = (if a ≤ k ∧ k < i then C.2 21 (k + 1) else C.2 21 k))
    (fun x => ∃ f g, x = some (0, zrp (zrp (zset C 4 (n - 1)) 20 f) 21 g) ∧ ∀ k, 0 ≤ k → k < n - 1 → f k = (if a ≤ k then C.2 20 (k + 1) else C.2 20 k) ∧ g k = (if a ≤ k then C.2 21 (k + 1) else C.2 21 k)) (by
      rintro rec d i T ⟨h3, h4, f, g, rfl, h5⟩
      by_cases c : n - 1 ≤ i
      · refine Or.inl ⟨f, g, ?_, fun k h6 h7 => ?_⟩
        · simp (disch := omega) only [b_X5_removeRule_21, zrp_1, zset_e, zlt, zbd_s, zbx_l, zbx_r, zj0, zj1, zj2, zj3, zset_2, zput_1, if_true, if_false, zar_p, zld_p, zst_p, zdv_p, zrm_p, zc01_p, zb_p, zb_n, if_pos, if_neg]
        · obtain ⟨e1, e2⟩ := h5 k
          rw [e1, e2]
          by_cases e : a ≤ k
          · have q : a ≤ k ∧ k < i := ⟨e, by omega⟩
            rw [if_pos q, if_pos q, if_pos e, if_pos e]; exact ⟨rfl, rfl⟩
          · have q : ¬ (a ≤ k ∧ k < i) := fun q => e q.1
            rw [if_neg q, if_neg q, if_neg e, if_neg e]; exact ⟨rfl, rfl⟩
      · refine Or.inr ⟨d - 1, i + 1, _, by omega, ⟨by omega, by omega, zfu f i (f (i + 1)), zfu g i (g (i + 1)), rfl, fun k => ?_⟩, ?_⟩
        · by_cases e : k = i
          · rw [e, zfu_e, zfu_e, if_pos ⟨h3, by omega⟩, if_pos ⟨h3, by omega⟩, (h5 (i + 1)).1, (h5 (i + 1)).2, if_neg (by omega), if_neg (by omega)]
            exact ⟨rfl, rfl⟩
          · rw [zfu_n _ _ e, zfu_n _ _ e, (h5 k).1, (h5 k).2]
            by_cases e2 : a ≤ k ∧ k < i
            · rw [if_pos e2, if_pos e2, if_pos ⟨e2.1, by omega⟩, if_pos ⟨e2.1, by omega⟩]; exact ⟨rfl, rfl⟩
            · rw [if_neg e2, if_neg e2, if_neg (by omega), if_neg (by omega)]; exact ⟨rfl, rfl⟩
        · simp (disch := omega) only [b_X5_removeRule_21, zrp_1, zset_e, zrp_e, zrp_n, zput_rp, zput_rp2, zlt, zbd_s, zbx_l, zbx_r, zj0, zj1, zj2, zj3, zset_2, zput_1, if_true, if_false, zar_p, zld_p, zst_p, zdv_p, zrm_p, zc01_p, zb_p, zb_n, if_pos, if_neg])
    1000 (n - 1 - a).toNat a (zset C 4 (n - 1)) ⟨by omega, by omega, C.2 20, C.2 21, (zrp2_self (zset C 4 (n - 1)) 20 21).symm, fun k => ⟨by rw [if_neg (by omega)], by rw [if_neg (by omega)]⟩⟩ (by omega)
  obtain ⟨f, g, e1, e2⟩ := key
  refine ⟨f, g, ?_, e2⟩
  have e3 : m_X5_hasRule C a = some (1, C) := by simp (disch := omega) only [m_X5_hasRule, hn, zlt, zbd_s, zbx_l, zbx_r, zj0, zj1, zj2, zj3, zset_2, zput_1, if_true, if_false, zar_p, zld_p, zst_p, zdv_p, zrm_p, zc01_p, zb_p, zb_n, if_pos, if_neg]
  simp (disch := omega) only [m_X8_unfollow, e3, m_X5_kindOfRule, p_at, zat_p, m_X5_removeRule, hn, e1, zlt, zbd_s, zbx_l, zbx_r, zj0, zj1, zj2, zj3, zset_2, zput_1, if_true, if_false, zar_p, zld_p, zst_p, zdv_p, zrm_p, zc01_p, zb_p, zb_n, if_pos, if_neg]
theorem q_unf3 {M : zSt} {a n : Int} (hn : M.1 5 = n) (h : ¬ (0 ≤ a ∧ a < n)) (h2 : 0 ≤ n ∧ n ≤ 6) : m_X9_unfollow M a = some (0, zset M 0 1) := by
  simp (disch := omega) only [m_X9_unfollow, p_X9_between, zset_e, zset_n, hn, zlt, zbd_s, zbx_l, zbx_r, zj0, zj1, zj2, zj3, zset_2, zput_1, if_true, if_false, zar_p, zld_p, zst_p, zdv_p, zrm_p, zc01_p, zb_p, zb_n, if_pos, if_neg]
theorem q_unf4 {C : zSt} {a n : Int} (hn : C.1 4 = n) (h : ¬ (0 ≤ a ∧ a < n)) : m_X8_unfollow C a = some (.inr ("java/lang/IndexOutOfBoundsException", C)) := by
  by_cases e : a < 0
  · simp (disch := omega) only [m_X8_unfollow, m_X5_hasRule, hn, zlt, zbd_s, zbx_l, zbx_r, zj0, zj1, zj2, zj3, zset_2, zput_1, if_true, if_false, zar_p, zld_p, zst_p, zdv_p, zrm_p, zc01_p, zb_p, zb_n, if_pos, if_neg]
  · simp (disch := omega) only [m_X8_unfollow, m_X5_hasRule, hn, zlt, zbd_s, zbx_l, zbx_r, zj0, zj1, zj2, zj3, zset_2, zput_1, if_true, if_false, zar_p, zld_p, zst_p, zdv_p, zrm_p, zc01_p, zb_p, zb_n, if_pos, if_neg]
theorem s_unfollow {C M : zSt} {a : Int} (hJ : J C M) : Sim ["java/lang/IndexOutOfBoundsException"] (m_X9_unfollow M a) (m_X8_unfollow C a) := by
  obtain ⟨hRG, hP, hT, hA, hC, hR, ⟨f1, f2, f3, f4⟩, hE⟩ := id hJ
  by_cases h1 : 0 ≤ a ∧ a < C.1 4
  · obtain ⟨f, g, e1, e2⟩ := q_unf1 f3 h1 f2
    obtain ⟨f', g', e3, e4⟩ := q_unf2 rfl h1 f2
    rw [(f4 a h1.1 h1.2).1] at e1
    refine Sim.ok e1 e3 rfl ?_
    refine ⟨hP, hT, hA, hC, hR, ⟨?_, ?_, rfl, fun k h3 h4 => ?_⟩, hE⟩
    · show 0 ≤ C.1 4 - 1; omega
    · show C.1 4 - 1 ≤ 6; omega
    · have h4 : k < C.1 4 - 1 := h4
      show f k = f' k ∧ g k = g' k ∧ 0 ≤ f' k ∧ f' k ≤ 3 ∧ (f' k = 0 → 0 ≤ g' k ∧ g' k ≤ 3) ∧ (f' k = 3 → 0 ≤ g' k ∧ g' k ≤ 19)
      obtain ⟨a1, a2⟩ := e2 k h3 h4
      obtain ⟨a3, a4⟩ := e4 k h3 h4
      rw [a1, a2, a3, a4]
      by_cases e : a ≤ k
      · simp only [if_pos e]; exact f4 (k + 1) (by omega) (by omega)
      · simp only [if_neg e]; exact f4 k h3 (by omega)
  · exact Sim.no (q_unf3 f3 h1 ⟨f1, f2⟩) (q_unf4 rfl h1) (by decide) rfl (hJ.thr 1)

