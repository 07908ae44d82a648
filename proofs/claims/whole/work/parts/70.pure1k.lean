/-! emend: a word taken out -/
def zsh (g : Int → Int) (lo hi : Int) : Int → Int := fun j => if lo ≤ j ∧ j < hi then g (j + 1) else g j
theorem zsh_0 (g : Int → Int) {lo hi : Int} (h : hi ≤ lo) : zsh g lo hi = g := funext fun j => if_neg (by omega)
theorem zsh_at (g : Int → Int) {lo hi j : Int} (h : hi ≤ j ∨ j < lo) : zsh g lo hi j = g j := if_neg (by omega)
theorem zsh_in (g : Int → Int) {lo hi j : Int} (h : lo ≤ j ∧ j < hi) : zsh g lo hi j = g (j + 1) := if_pos h
theorem zsh_s (g : Int → Int) {lo i : Int} (h : lo ≤ i) : zfu (zsh g lo i) i (g (i + 1)) = zsh g lo (i + 1) := by
  funext j
  by_cases e : j = i
  · subst e; rw [zfu_e, zsh_in g ⟨h, by omega⟩]
  · rw [zfu_n _ _ e]
    by_cases q : lo ≤ j ∧ j < i
    · rw [zsh_in g q, zsh_in g ⟨q.1, by omega⟩]
    · rw [zsh_at g (by omega), zsh_at g (by omega)]
theorem q_tk1 {C : zSt} {u a s : Int} (hu : 0 ≤ u ∧ u < C.1 1) (hU : C.1 1 ≤ 20) (hS : ∀ x, 0 ≤ x → x < C.1 1 → C.2 2 x ≤ 12) (hs : C.2 2 u = s) (hs2 : 1 ≤ s ∧ s ≤ 12) (ha : 0 ≤ a ∧ a < s) {j1 : zSt → Option zRes} : zl1 1000 (b_X7_takeOut_12 u j1) a C = j1 (zrp C 1 (zsh (C.2 1) (12 * u + a) (12 * u + s - 1))) := by
  refine zw1 (F := b_X7_takeOut_12 u j1) (fun d i S => a ≤ i ∧ i + d = s - 1 ∧ S = zrp C 1 (zsh (C.2 1) (12 * u + a) (12 * u + i))) (fun x => x = j1 (zrp C 1 (zsh (C.2 1) (12 * u + a) (12 * u + s - 1)))) ?_ 1000 (s - 1 - a).toNat a C ⟨by omega, by omega, by rw [zsh_0 _ (by omega), zrp_self]⟩ (by omega)
  rintro rec d i S ⟨h1, h2, rfl⟩
  have e1 : (zrp C 1 (zsh (C.2 1) (12 * u + a) (12 * u + i))).2 2 u = s := hs
  by_cases c : s ≤ i + 1
  · refine Or.inl ?_
    rw [show 12 * u + s - 1 = 12 * u + i by omega]
    clear hS
    simp (disch := omega) only [b_X7_takeOut_12, e1, zlt, zbd_s, zbx_l, zbx_r, zj0, zj1, zj2, zj3, zset_2, zput_1, if_true, if_false, zar_p, zld_p, zst_p, zdv_p, zrm_p, zc01_p, zb_p, zb_n, if_pos, if_neg]
  · have w1 : m_X7_wordAt (zrp C 1 (zsh (C.2 1) (12 * u + a) (12 * u + i))) u (i + 1) = some (C.2 1 (12 * u + i + 1), zrp C 1 (zsh (C.2 1) (12 * u + a) (12 * u + i))) := by
      rw [p_X7_wordAt (zrp C 1 (zsh (C.2 1) (12 * u + a) (12 * u + i))) u (i + 1) hU hS]
      have q : (0 ≤ u ∧ u < (zrp C 1 (zsh (C.2 1) (12 * u + a) (12 * u + i))).1 1) ∧ 0 ≤ i + 1 ∧ i + 1 < (zrp C 1 (zsh (C.2 1) (12 * u + a) (12 * u + i))).2 2 u := ⟨hu, by omega, by omega⟩
      rw [if_pos q, zrp_e, zsh_at _ (by omega), show u * 12 + (i + 1) = 12 * u + i + 1 by omega]
    have w2 : ∀ v, m_X7_put (zrp C 1 (zsh (C.2 1) (12 * u + a) (12 * u + i))) u i v = some (0, zput (zrp C 1 (zsh (C.2 1) (12 * u + a) (12 * u + i))) 1 (12 * u + i) v) := fun v => p_X7_put _ _ _ _ hu ⟨by omega, by omega⟩ hU (by omega)
    refine Or.inr ⟨d - 1, i + 1, zrp C 1 (zsh (C.2 1) (12 * u + a) (12 * u + (i + 1))), by omega, ⟨by omega, by omega, rfl⟩, ?_⟩
    have w3 := zput_rp C 1 (zsh (C.2 1) (12 * u + a) (12 * u + i)) (12 * u + i) (C.2 1 (12 * u + i + 1))
    rw [zsh_s _ (by omega)] at w3
    rw [← Int.add_assoc, ← w3]
    clear hS w3
    generalize zrp C 1 (zsh (C.2 1) (12 * u + a) (12 * u + i)) = T at *
    simp (disch := omega) only [b_X7_takeOut_12, e1, w1, w2, zlt, zbd_s, zbx_l, zbx_r, zj0, zj1, zj2, zj3, zset_2, zput_1, if_true, if_false, zar_p, zld_p, zst_p, zdv_p, zrm_p, zc01_p, zb_p, zb_n, if_pos, if_neg]
theorem q_tk2 {M : zSt} {u a s : Int} (hu : 0 ≤ u ∧ u < 20) (hs : M.2 2 u = s) (hs2 : 1 ≤ s ∧ s ≤ 12) (ha : 0 ≤ a ∧ a < s) {j1 : zSt → Option zRes} : zl1 1000 (b_X9_emend_85 u j1) a M = j1 (zrp M 1 (zsh (M.2 1) (12 * u + a) (12 * u + s - 1))) := by
  refine zw1 (F := b_X9_emend_85 u j1) (fun d i S => a ≤ i ∧ i + d = s - 1 ∧ S = zrp M 1 (zsh (M.2 1) (12 * u + a) (12 * u + i))) (fun x => x = j1 (zrp M 1 (zsh (M.2 1) (12 * u + a) (12 * u + s - 1)))) ?_ 1000 (s - 1 - a).toNat a M ⟨by omega, by omega, by rw [zsh_0 _ (by omega), zrp_self]⟩ (by omega)
  rintro rec d i S ⟨h1, h2, rfl⟩
  have e1 : (zrp M 1 (zsh (M.2 1) (12 * u + a) (12 * u + i))).2 2 u = s := hs
  by_cases c : s ≤ i + 1
  · refine Or.inl ?_
    rw [show 12 * u + s - 1 = 12 * u + i by omega]
    simp (disch := omega) only [b_X9_emend_85, e1, zlt, zbd_s, zbx_l, zbx_r, zj0, zj1, zj2, zj3, zset_2, zput_1, if_true, if_false, zar_p, zld_p, zst_p, zdv_p, zrm_p, zc01_p, zb_p, zb_n, if_pos, if_neg]
  · have w1 : (zrp M 1 (zsh (M.2 1) (12 * u + a) (12 * u + i))).2 1 (12 * u + i + 1) = M.2 1 (12 * u + i + 1) := by rw [zrp_e, zsh_at _ (by omega)]
    refine Or.inr ⟨d - 1, i + 1, zrp M 1 (zsh (M.2 1) (12 * u + a) (12 * u + (i + 1))), by omega, ⟨by omega, by omega, rfl⟩, ?_⟩
    have w3 := zput_rp M 1 (zsh (M.2 1) (12 * u + a) (12 * u + i)) (12 * u + i) (M.2 1 (12 * u + i + 1))
    rw [zsh_s _ (by omega)] at w3
    rw [← Int.add_assoc, ← w3]
    clear w3
    generalize zrp M 1 (zsh (M.2 1) (12 * u + a) (12 * u + i)) = T at *
    simp (disch := omega) only [b_X9_emend_85, e1, w1, zlt, zbd_s, zbx_l, zbx_r, zj0, zj1, zj2, zj3, zset_2, zput_1, if_true, if_false, zar_p, zld_p, zst_p, zdv_p, zrm_p, zc01_p, zb_p, zb_n, if_pos, if_neg]
theorem q_tk {C : zSt} {u a s : Int} (hu : 0 ≤ u ∧ u < C.1 1) (hU : C.1 1 ≤ 20) (hS : ∀ x, 0 ≤ x → x < C.1 1 → C.2 2 x ≤ 12) (hs : C.2 2 u = s) (hs2 : 1 ≤ s ∧ s ≤ 12) (ha : 0 ≤ a ∧ a < s) : m_X7_takeOut C u a = some (0, zput (zrp C 1 (zsh (C.2 1) (12 * u + a) (12 * u + s - 1))) 2 u (s - 1)) := by
  have hp : m_X7_hasPlace C u a = some (1, C) := by
    rw [p_X7_hasPlace _ _ _ hU, if_pos hu, zb_p ⟨ha.1, by omega⟩]
  have h := fun j1 => q_tk1 hu hU hS hs hs2 ha (j1 := j1)
  have e1 : (zrp C 1 (zsh (C.2 1) (12 * u + a) (12 * u + s - 1))).2 2 u = s := hs
  clear hS
  show (zbd (m_X7_hasPlace C u a) fun x1 S1 => if x1 = 0 then (some (0, S1)) else (zj0 (fun (S2 : zSt) => zld (S2.2 2) 20 u fun x2 => zar (x2 - 1) fun x3 => zst S2 2 20 u x3 fun S3 => some (0, S3)) fun j1 => zl1 1000 (b_X7_takeOut_12 u j1) a S1)) = _
  rw [hp]
  generalize zl1 (R := zRes) 1000 = zz at *
  generalize zrp C 1 (zsh (C.2 1) (12 * u + a) (12 * u + s - 1)) = T at *
  simp (disch := omega) only [↓zbd_s, ↓if_neg, ↓zj0, h, ↓zld_p, e1, ↓zar_p, ↓zst_p]
noncomputable def mE3 (z1 : ((Int → zSt → Option zRes) → Int → zSt → Option zRes) → Int → zSt → Option zRes) (z2 : ((Int → Int → zSt → Option zRes) → Int → Int → zSt → Option zRes) → Int → Int → zSt → Option zRes) (S : zSt) (a1 : Int) (a2 : Int) (a3 : Int) : Option zRes := zbd (m_X9_isUnit S a1) fun x1 S1 => zj1 (fun (v1 : Int) (S2 : zSt) => zlt (zset S2 0 v1) fun S3 => zlt (S3.1 0) fun x2 => if x2 ≤ 0 then (zj0 (fun (S4 : zSt) => zj1 (fun (v2 : Int) (S5 : zSt) => some (v2, S5)) fun j1 => z2 (b_X9_emend_161 a1 a2 a3 j1) 0 0 S4) fun j10 => if a3 = (-1) then (zj0 (fun (S19 : zSt) => zld (S19.2 2) 20 a1 fun x19 => zar (x19 - 1) fun x20 => zst S19 2 20 a1 x20 fun S20 => j10 S20) fun j11 => z1 (b_X9_emend_85 a1 j11) a2 S3) else (zar (12 * a1) fun x17 => zar (x17 + a2) fun x18 => zst S3 1 240 x18 a3 fun S18 => j10 S18)) else (some (0, S3))) fun j12 => zj0 (fun (S23 : zSt) => j12 1 S23) fun j13 => if x1 = 0 then (j13 S1) else (zld (S1.2 2) 20 a1 fun x30 => zar (x30 - 1) fun x31 => zbd (m_X9_between S1 a2 0 x31) fun x32 S24 => if x32 = 0 then (j13 S24) else (zbd (m_X9_between S24 a3 (-1) 59) fun x33 S25 => if x33 = 0 then (j12 2 S25) else (zj0 (fun (S26 : zSt) => j12 0 S26) fun j14 => if a3 = (-1) then (zld (S25.2 2) 20 a1 fun x34 => if x34 = 1 then (j12 3 S25) else (j14 S25)) else (j14 S25))))
theorem mE3_e (S : zSt) (a1 a2 a3 : Int) : m_X9_emend S a1 a2 a3 = mE3 (zl1 1000) (zl2 1000) S a1 a2 a3 := rfl
theorem q_em9a {M T1 T2 : zSt} {u a s U x : Int} {z1 : ((Int → zSt → Option zRes) → Int → zSt → Option zRes) → Int → zSt → Option zRes} {z2 : ((Int → Int → zSt → Option zRes) → Int → Int → zSt → Option zRes) → Int → Int → zSt → Option zRes} (hU : M.1 2 = U) (hU2 : U ≤ 20) (hu : 0 ≤ u ∧ u < U) (hs : M.2 2 u = s) (hs2 : 2 ≤ s ∧ s ≤ 12) (ha : 0 ≤ a ∧ a < s) (h1 : ∀ j11, z1 (b_X9_emend_85 u j11) a (zset M 0 0) = j11 T1) (ht : T1.2 2 u = s) (h2 : z2 (b_X9_emend_161 u a (-1) (fun (v2 : Int) (S5 : zSt) => some (v2, S5) : Int → zSt → Option zRes)) 0 0 (zput T1 2 u (s - 1)) = some (x, T2)) : mE3 z1 z2 M u a (-1) = some (x, T2) := by
  have hq : m_X9_isUnit M u = some (1, M) := by rw [p_X9_isUnit _ _ (by omega), zb_p (by omega)]
  simp (disch := first | omega | (simp only [zset_e]; omega)) only [mE3, hq, p_X9_between, ↓zbd_s, ↓zb_p, ↓zj1, ↓zj0, ↓if_neg, ↓if_pos, ↓zlt, ↓zld_p, ↓zar_p, hs, ht, zset_e, h1, ↓zst_p, h2]
theorem q_em9b {M T2 : zSt} {u a w s U x : Int} {z1 : ((Int → zSt → Option zRes) → Int → zSt → Option zRes) → Int → zSt → Option zRes} {z2 : ((Int → Int → zSt → Option zRes) → Int → Int → zSt → Option zRes) → Int → Int → zSt → Option zRes} (hU : M.1 2 = U) (hU2 : U ≤ 20) (hu : 0 ≤ u ∧ u < U) (hs : M.2 2 u = s) (hs2 : 1 ≤ s ∧ s ≤ 12) (ha : 0 ≤ a ∧ a < s) (hw : 0 ≤ w ∧ w ≤ 59) (h2 : z2 (b_X9_emend_161 u a w (fun (v2 : Int) (S5 : zSt) => some (v2, S5) : Int → zSt → Option zRes)) 0 0 (zput (zset M 0 0) 1 (12 * u + a) w) = some (x, T2)) : mE3 z1 z2 M u a w = some (x, T2) := by
  have hq : m_X9_isUnit M u = some (1, M) := by rw [p_X9_isUnit _ _ (by omega), zb_p (by omega)]
  simp (disch := first | omega | (simp only [zset_e]; omega)) only [mE3, hq, p_X9_between, ↓zbd_s, ↓zb_p, ↓zj1, ↓zj0, ↓if_neg, ↓if_pos, ↓zlt, ↓zld_p, ↓zar_p, hs, zset_e, ↓zst_p, h2]
theorem q_em8a {C T1 T2 T3 : zSt} {u a s x : Int} (hp : m_X7_hasPlace C u a = some (1, C)) (hz : m_X7_sizeOf C u = some (s, C)) (hs : 2 ≤ s ∧ s ≤ 12) (h1 : m_X7_takeOut C u a = some (0, T1)) (h2 : m_X7_sizeOf T1 u = some (s - 1, T1)) (h3 : m_X1_closeGap T1 u a (s - 1 - 1) = some (0, T2)) (h4 : m_X1_hookAnew T2 u = some (x, T3)) : m_X8_emend C u a (-1) = some (.inl (x, T3)) := by
  simp (disch := omega) only [m_X8_emend, hp, p_X8_needArgument, hz, h1, h2, h3, h4, zlt, zbd_s, zbx_l, zbx_r, zj0, zj1, zj2, zj3, zset_2, zput_1, if_true, if_false, zar_p, zld_p, zst_p, zdv_p, zrm_p, zc01_p, zb_p, zb_n, if_pos, if_neg]
theorem q_em8b {C T1 T3 : zSt} {u a w x : Int} (hp : m_X7_hasPlace C u a = some (1, C)) (hw : 0 ≤ w ∧ w ≤ 59) (h1 : m_X7_put C u a w = some (0, T1)) (h4 : m_X1_hookAnew T1 u = some (x, T3)) : m_X8_emend C u a w = some (.inl (x, T3)) := by
  simp (disch := omega) only [m_X8_emend, hp, p_X8_needArgument, h1, h4, zlt, zbd_s, zbx_l, zbx_r, zj0, zj1, zj2, zj3, zset_2, zput_1, if_true, if_false, zar_p, zld_p, zst_p, zdv_p, zrm_p, zc01_p, zb_p, zb_n, if_pos, if_neg]

