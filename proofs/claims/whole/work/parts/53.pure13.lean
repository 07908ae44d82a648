/-! daily -/
theorem q_day {C M : zSt} {day e pg : Int} (hE : jEdi C M) (he : 0 ≤ e ∧ e < C.1 9) (hd : 0 ≤ day) (hp : 1 ≤ pg) : ∃ r, zl2 1000 (b_X2_unitsOn_26 day (fun (v1 : Int) (S1 : zSt) => some (v1, S1) : Int → zSt → Option zRes) e pg) 0 0 C = some (r, C) ∧ zl2 1000 (b_X9_daily_58 (fun (v1 : Int) (S1 : zSt) => some (v1, S1) : Int → zSt → Option zRes) e (day % pg)) 0 0 M = some (r, M) := by
  obtain ⟨e1, e2, e3, e4, e5⟩ := hE
  have hpg := fun u => p_X2_pageIn C e u ⟨e1, e2⟩ (fun e h2 h3 => (e5 e h2 h3).2.2.2.1) (fun e u h2 h3 h4 h6 => ((((e5 e h2 h3).2.2.2.2 u h4 (by have := (e5 e h2 h3).2.2.2.1; omega)).1 h6).2))
  obtain ⟨-, -, z3, z4, z5⟩ := e5 e he.1 he.2
  have hm : 0 ≤ day % pg := Int.emod_nonneg _ (by omega)
  clear e5 e4
  generalize hq : day % pg = q at *
  refine zw22 (F := b_X2_unitsOn_26 day (fun (v1 : Int) (S1 : zSt) => some (v1, S1) : Int → zSt → Option zRes) e pg) (G := b_X9_daily_58 (fun (v1 : Int) (S1 : zSt) => some (v1, S1) : Int → zSt → Option zRes) e q) (fun d x u S x' u' S' => S = C ∧ S' = M ∧ x = x' ∧ u = u' ∧ 0 ≤ u ∧ u + d = 20 ∧ 0 ≤ x) (fun p q => ∃ r, p = some (r, C) ∧ q = some (r, M)) ?_ 1000 1000 20 0 0 C 0 0 M ⟨rfl, rfl, rfl, rfl, by omega, by omega, by omega⟩ (by omega) (by omega)
  rintro rec rec2 d x u S x' u' S' ⟨rfl, rfl, rfl, rfl, h1, h2, h3⟩
  by_cases c : 20 ≤ u
  · refine Or.inl ⟨x, ?_, ?_⟩
    · simp (disch := omega) only [b_X2_unitsOn_26, zlt, zbd_s, zbx_l, zbx_r, zj0, zj1, zj2, zj3, zset_2, zput_1, if_true, if_false, zar_p, zld_p, zst_p, zdv_p, zrm_p, zc01_p, zb_p, zb_n, if_pos, if_neg]
    · simp (disch := omega) only [b_X9_daily_58, zlt, zbd_s, zbx_l, zbx_r, zj0, zj1, zj2, zj3, zset_2, zput_1, if_true, if_false, zar_p, zld_p, zst_p, zdv_p, zrm_p, zc01_p, zb_p, zb_n, if_pos, if_neg]
  · obtain ⟨z6, z7⟩ := z5 u h1 (by omega)
    have hpu := hpg u
    clear hpg z5
    have hs : ∀ k : Int → Option zRes, zishl 1 u k = k (2 ^ u.toNat) := fun k => q_shl h1 (by omega)
    have hw := pow_nn u
    generalize (2 : Int) ^ u.toNat = w at *
    have hz : 0 ≤ zor x w := Int.natCast_nonneg _
    by_cases c1 : u < S.2 27 e
    · obtain ⟨z6, z8⟩ := z6 c1
      have q1 : 0 ≤ S.2 25 (20 * e + u) / 100 := Int.ediv_nonneg z8 (by decide)
      by_cases c2 : S.2 25 (20 * e + u) / 100 = q
      · refine Or.inr ⟨d - 1, zor x w, u + 1, S, zor x w, u + 1, S', by omega, ⟨rfl, rfl, rfl, rfl, by omega, by omega, hz⟩, ?_, ?_⟩
        · simp (disch := omega) only [b_X2_unitsOn_26, hpu, hq, hs, zior_p, zlt, zbd_s, zbx_l, zbx_r, zj0, zj1, zj2, zj3, zset_2, zput_1, if_true, if_false, zar_p, zld_p, zst_p, zdv_p, zrm_p, zc01_p, zb_p, zb_n, if_pos, if_neg]
        · simp (disch := omega) only [b_X9_daily_58, z6, hs, zior_p, zlt, zbd_s, zbx_l, zbx_r, zj0, zj1, zj2, zj3, zset_2, zput_1, if_true, if_false, zar_p, zld_p, zst_p, zdv_p, zrm_p, zc01_p, zb_p, zb_n, if_pos, if_neg]
      · refine Or.inr ⟨d - 1, x, u + 1, S, x, u + 1, S', by omega, ⟨rfl, rfl, rfl, rfl, by omega, by omega, h3⟩, ?_, ?_⟩
        · simp (disch := omega) only [b_X2_unitsOn_26, hpu, hq, zlt, zbd_s, zbx_l, zbx_r, zj0, zj1, zj2, zj3, zset_2, zput_1, if_true, if_false, zar_p, zld_p, zst_p, zdv_p, zrm_p, zc01_p, zb_p, zb_n, if_pos, if_neg]
        · simp (disch := omega) only [b_X9_daily_58, z6, zlt, zbd_s, zbx_l, zbx_r, zj0, zj1, zj2, zj3, zset_2, zput_1, if_true, if_false, zar_p, zld_p, zst_p, zdv_p, zrm_p, zc01_p, zb_p, zb_n, if_pos, if_neg]
    · have z7 := z7 (by omega)
      refine Or.inr ⟨d - 1, x, u + 1, S, x, u + 1, S', by omega, ⟨rfl, rfl, rfl, rfl, by omega, by omega, h3⟩, ?_, ?_⟩
      · simp (disch := omega) only [b_X2_unitsOn_26, hpu, hq, zlt, zbd_s, zbx_l, zbx_r, zj0, zj1, zj2, zj3, zset_2, zput_1, if_true, if_false, zar_p, zld_p, zst_p, zdv_p, zrm_p, zc01_p, zb_p, zb_n, if_pos, if_neg]
      · simp (disch := omega) only [b_X9_daily_58, z7, zlt, zbd_s, zbx_l, zbx_r, zj0, zj1, zj2, zj3, zset_2, zput_1, if_true, if_false, zar_p, zld_p, zst_p, zdv_p, zrm_p, zc01_p, zb_p, zb_n, if_pos, if_neg]
theorem s_daily {C M : zSt} {a : Int} (hJ : J C M) : Sim ["java/lang/IllegalArgumentException"] (m_X9_daily M a) (m_X8_daily C a) := by
  obtain ⟨hRG, hP, hT, hA, hC, hR, hF, hE⟩ := id hJ
  obtain ⟨e1, e2, e3, e4, e5⟩ := id hE
  by_cases h1 : 0 ≤ a ∧ a ≤ 100000
  · by_cases h2 : C.1 9 = 0
    · refine Sim.ok (b := 0) (M' := zset M 0 0) (C' := C) ?_ ?_ rfl (hJ.thr 0)
      · clear hJ hRG e5; simp (disch := omega) only [m_X9_daily, p_X9_between, zset_e, zset_n, e3, zlt, zbd_s, zbx_l, zbx_r, zj0, zj1, zj2, zj3, zset_2, zput_1, if_true, if_false, zar_p, zld_p, zst_p, zdv_p, zrm_p, zc01_p, zb_p, zb_n, if_pos, if_neg]
      · have z : zat (C.2 26) 8 (C.1 9 - 1) = -1 := by unfold zat; exact if_neg (by omega)
        clear hJ hRG e5; simp (disch := omega) only [m_X8_daily, p_X8_needArgument, m_X2_unitsOn, m_X2_pagesOf, p_at, z, zlt, zbd_s, zbx_l, zbx_r, zj0, zj1, zj2, zj3, zset_2, zput_1, if_true, if_false, zar_p, zld_p, zst_p, zdv_p, zrm_p, zc01_p, zb_p, zb_n, if_pos, if_neg]
    · obtain ⟨g1, g2, -⟩ := e5 (C.1 9 - 1) (by omega) (by omega)
      obtain ⟨r, r1, r2⟩ := q_day (C := C) (M := zset M 0 0) (day := a) (e := C.1 9 - 1) (pg := C.2 26 (C.1 9 - 1)) hE ⟨by omega, by omega⟩ h1.1 g2
      refine Sim.ok (b := r) (M' := zset M 0 0) (C' := C) ?_ ?_ rfl (hJ.thr 0)
      · clear hJ hRG e5; simp (disch := omega) only [m_X9_daily, p_X9_between, zset_e, zset_n, e3, g1, r2, zlt, zbd_s, zbx_l, zbx_r, zj0, zj1, zj2, zj3, zset_2, zput_1, if_true, if_false, zar_p, zld_p, zst_p, zdv_p, zrm_p, zc01_p, zb_p, zb_n, if_pos, if_neg]
      · clear hJ hRG e5; simp (disch := omega) only [m_X8_daily, p_X8_needArgument, m_X2_unitsOn, m_X2_pagesOf, p_at, zat_p, r1, zlt, zbd_s, zbx_l, zbx_r, zj0, zj1, zj2, zj3, zset_2, zput_1, if_true, if_false, zar_p, zld_p, zst_p, zdv_p, zrm_p, zc01_p, zb_p, zb_n, if_pos, if_neg]
  · refine Sim.no (b := 0) (E := "java/lang/IllegalArgumentException") (M' := zset M 0 1) (C' := C) ?_ ?_ (by decide) rfl (hJ.thr 1)
    · simp (disch := omega) only [m_X9_daily, p_X9_between, zset_e, zlt, zbd_s, zbx_l, zbx_r, zj0, zj1, zj2, zj3, zset_2, zput_1, if_true, if_false, zar_p, zld_p, zst_p, zdv_p, zrm_p, zc01_p, zb_p, zb_n, if_pos, if_neg]
    · simp (disch := omega) only [m_X8_daily, p_X8_needArgument, zlt, zbd_s, zbx_l, zbx_r, zj0, zj1, zj2, zj3, zset_2, zput_1, if_true, if_false, zar_p, zld_p, zst_p, zdv_p, zrm_p, zc01_p, zb_p, zb_n, if_pos, if_neg]

