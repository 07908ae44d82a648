/-! edition -/
theorem q_hgt {S : zSt} {a b c : Int} (h1 : S.1 8 = a) (h2 : S.1 5 = b) (h3 : S.1 6 = c) : m_X6_height S = some (zhg a b c, S) := by
  simp only [m_X6_height, m_X3i_free, m_X3o_free, zlt, zbd_s, h1, h2, h3, zhg]
theorem zhg_b {a b c : Int} (h1 : 1 ≤ a ∧ a ≤ 200000) (h2 : 0 ≤ b ∧ b ≤ 200000) (h3 : 0 ≤ c ∧ c ≤ 200000) : 1 ≤ zhg a b c ∧ zhg a b c ≤ 200000 := by
  unfold zhg
  repeat' split
  all_goals omega
noncomputable def mA2 (z : ((Int → zSt → Option zRes) → Int → zSt → Option zRes) → Int → zSt → Option zRes) (S : zSt) (a1 a2 a3 : Int) : Option zRes := zbd (m_X2_isFull S) fun x1 S1 => if x1 = 0 then (if 1 ≤ a3 then (zlt (zset S1 10 a2) fun S2 => zlt (S2.1 9) fun x2 => zbd (m_X6_height S2) fun x3 S3 => zar (x3 + a3) fun x4 => zar (x4 - 1) fun x5 => zdv x5 a3 fun x6 => zst S3 26 8 x2 x6 fun S4 => zlt (S4.1 9) fun x7 => zst S4 27 8 x7 a1 fun S5 => zj0 (fun (S6 : zSt) => zlt (S6.1 9) fun x8 => zar (x8 + 1) fun x9 => zlt (zset S6 9 x9) fun S7 => some (0, S7)) fun j1 => z (b_X2_add_53 a1 a3 j1) 0 S5) else (some (0, S1))) else (some (0, S1))
theorem mA2_e (S : zSt) (a1 a2 a3 : Int) : m_X2_add S a1 a2 a3 = mA2 (zl1 1000) S a1 a2 a3 := rfl
theorem q_add {T : zSt} {U w h e H : Int} {R : Int → Int} (hU : 0 ≤ U ∧ U ≤ 20) (hh : 1 ≤ h ∧ h ≤ 60) (he : T.1 9 = e) (he2 : 0 ≤ e ∧ e < 8) (hH : ∀ x, m_X6_height (zset T 10 x) = some (H, zset T 10 x)) (hH2 : 1 ≤ H ∧ H ≤ 200000) (hR : ∀ u, 0 ≤ u → u < U → T.2 24 (12 * u) = R u ∧ 0 ≤ R u ∧ R u ≤ 200000) : ∃ g, m_X2_add T U w h = some (0, zset (zrp (zput (zput (zset T 10 w) 26 e ((H - 1) / h + 1)) 27 e U) 25 g) 9 (e + 1)) ∧ (∀ u, 0 ≤ u → u < U → g (20 * e + u) = 100 * (R u / h) + R u % h ∧ 0 ≤ g (20 * e + u)) ∧ ∀ j, (j < 20 * e ∨ 20 * e + U ≤ j) → g j = T.2 25 j := by
  obtain ⟨g, G1, G2, G3⟩ := q_adr1 (T := zput (zput (zset T 10 w) 26 e ((H - 1) / h + 1)) 27 e U) (j1 := fun (S6 : zSt) => zar (S6.1 9 + 1) fun x9 => some (0, zset S6 9 x9)) hU hh he he2 hR
  refine ⟨g, ?_, G2, G3⟩
  have hf := p_X2_isFull T
  rw [he, zb_n (by omega)] at hf
  have h9 : ∀ x S, (zput S 26 e x).1 9 = S.1 9 := fun _ _ => rfl
  have h8 : (zset T 10 w).1 9 = e := he
  have h7 : ∀ g, (zrp (zput (zput (zset T 10 w) 26 e ((H - 1) / h + 1)) 27 e U) 25 g).1 9 = e := fun _ => he
  have hp := q_pg (x := H) (h := h) hh.1
  have hHw := hH w
  have z1 : ∀ k : Int → Option zRes, zdv (H + h - 1) h k = k ((H - 1) / h + 1) := fun k => by rw [← hp]; exact zdv_p ⟨by omega, by omega⟩
  clear G2 G3 hR hH hp
  rw [mA2_e]
  generalize zl1 (R := zRes) 1000 = zz at *
  generalize (H - 1) / h + 1 = P at *
  simp (disch := omega) only [mA2, ↓hf, ↓zbd_s, ↓if_pos, ↓zlt, ↓hHw, ↓zar_p, ↓z1, ↓zst_p, h8, h9, ↓zj0, G1, h7, zar_p]
theorem q_ed2 {C T T2 : zSt} {w h e U : Int} (h1 : 1 ≤ w ∧ w ≤ 12) (h2 : 1 ≤ h ∧ h ≤ 60) (hU : C.1 1 = U) (hU2 : 1 ≤ U) (he : C.1 9 = e) (he2 : 0 ≤ e ∧ e < 8) (hs : m_X6_set C w = some (0, T)) (hT : T.1 1 = U) (ha : m_X2_add T U w h = some (0, T2)) (h9 : T2.1 9 = e + 1) : m_X8_edition C w h = some (.inl (e, T2)) := by
  have hf := p_X2_isFull C
  rw [he, zb_n (by omega)] at hf
  simp (disch := omega) only [m_X8_edition, p_X8_needArgument, m_X7_count, m_X2_count, hf, hU, hs, hT, ha, h9, Int.add_sub_cancel, zlt, zbd_s, zbx_l, zbx_r, zj0, zj1, zj2, zj3, zset_2, zput_1, if_true, if_false, zar_p, zld_p, zst_p, zdv_p, zrm_p, zc01_p, zb_p, zb_n, if_pos, if_neg]
noncomputable def mE9 (z : ((Int → zSt → Option zRes) → Int → zSt → Option zRes) → Int → zSt → Option zRes) (S : zSt) (a1 : Int) (a2 : Int) : Option zRes := zbd (m_X9_between S a1 1 12) fun x1 S1 => zj1 (fun (v1 : Int) (S2 : zSt) => zlt (zset S2 0 v1) fun S3 => zlt (S3.1 0) fun x2 => if x2 ≤ 0 then (zbd (m_X9_set S3 a1) fun x3 S4 => zlt (S4.1 6) fun x4 => zst S4 20 8 x4 a1 fun S5 => zlt (S5.1 7) fun x5 => zdv x5 a2 fun x6 => zar (x6 + 1) fun x7 => zst S5 21 8 x4 x7 fun S6 => zj0 (fun (S7 : zSt) => zlt (S7.1 6) fun x8 => zar (x8 + 1) fun x9 => zlt (zset S7 6 x9) fun S8 => some (x4, S8)) fun j1 => z (b_X9_edition_94 a2 j1 x4) 0 S6) else (some (0, S3))) fun j3 => zj0 (fun (S12 : zSt) => j3 1 S12) fun j4 => if x1 = 0 then (j4 S1) else (zbd (m_X9_between S1 a2 1 60) fun x20 S13 => if x20 = 0 then (j4 S13) else (zlt (S13.1 2) fun x21 => zj0 (fun (S14 : zSt) => j3 2 S14) fun j5 => if x21 = 0 then (j5 S13) else (zlt (S13.1 6) fun x22 => if x22 = 8 then (j5 S13) else (j3 0 S13))))
theorem mE9_e (S : zSt) (a1 a2 : Int) : m_X9_edition S a1 a2 = mE9 (zl1 1000) S a1 a2 := rfl
theorem q_ed1 {M T : zSt} {w h e U L : Int} (h1 : 1 ≤ w ∧ w ≤ 12) (h2 : 1 ≤ h ∧ h ≤ 60) (hU : M.1 2 = U) (hU2 : 1 ≤ U ∧ U ≤ 20) (he : M.1 6 = e) (he2 : 0 ≤ e ∧ e < 8) (hs : m_X9_set (zset M 0 0) w = some (0, T)) (hT : T.1 2 = U) (hT6 : T.1 6 = e) (hL : T.1 7 = L) (hL2 : 0 ≤ L ∧ L ≤ 200000) (hR : ∀ u, 0 ≤ u → u < U → 0 ≤ T.2 23 u ∧ T.2 23 u ≤ 200000) : ∃ g, m_X9_edition M w h = some (e, zset (zrp (zput (zput T 20 e w) 21 e (L / h + 1)) 22 g) 6 (e + 1)) ∧ (∀ u, 0 ≤ u → u < 20 → (u < U → g (20 * e + u) = 100 * (T.2 23 u / h) + T.2 23 u % h) ∧ (U ≤ u → g (20 * e + u) = -1)) ∧ ∀ j, (j < 20 * e ∨ 20 * e + 20 ≤ j) → g j = T.2 22 j := by
  obtain ⟨g, G1, G2, G3⟩ := q_adr2 (M := zput (zput T 20 e w) 21 e (L / h + 1)) (U := U) (h := h) (e := e) (j1 := fun (S7 : zSt) => zar (S7.1 6 + 1) fun x9 => some (e, zset S7 6 x9)) ⟨by omega, hU2.2⟩ h2 hT he2 hR
  refine ⟨g, ?_, G2, G3⟩
  have dm := q_dm (x := L) (h := h) hL2.1 h2.1
  have z1 : ∀ k : Int → Option zRes, zdv L h k = k (L / h) := fun k => zdv_p ⟨by omega, by omega⟩
  have h9 : ∀ x i, (zput T 20 i x).1 7 = L := fun _ _ => hL
  have h7 : ∀ g, (zrp (zput (zput T 20 e w) 21 e (L / h + 1)) 22 g).1 6 = e := fun _ => hT6
  clear G2 G3 hR
  rw [mE9_e]
  generalize zl1 (R := zRes) 1000 = zz at *
  generalize L / h = P at *
  simp (disch := first | omega | (simp only [zset_e]; omega)) only [mE9, p_X9_between, ↓zbd_s, ↓zb_p, ↓zj1, ↓zj0, ↓if_neg, ↓if_pos, ↓zlt, hU, he, zset_e, hs, hT6, ↓zst_p, h9, ↓z1, ↓zar_p, G1, h7, zar_p]
theorem s_edition {C M : zSt} {w h : Int} (hJ : J C M) : Sim ["java/lang/IllegalArgumentException", "java/lang/IllegalStateException"] (m_X9_edition M w h) (m_X8_edition C w h) := by
  obtain ⟨hRG, hP, hT, hA, hC, hR, hF, hE⟩ := id hJ
  obtain ⟨t1, t2, t3, -⟩ := id hT
  obtain ⟨e1, e2, e3, -⟩ := id hE
  by_cases h1 : 1 ≤ w ∧ w ≤ 12
  · by_cases h2 : 1 ≤ h ∧ h ≤ 60
    · by_cases h3 : C.1 1 = 0 ∨ C.1 9 = 8
      · have a1 : m_X9_edition M w h = some (0, zset M 0 2) := by
          clear hJ hRG hP hT hA hC hR hF hE
          rw [mE9_e]
          generalize zl1 (R := zRes) 1000 = zz
          by_cases q : C.1 1 = 0
          · simp (disch := omega) only [mE9, p_X9_between, t3, e3, q, zset_e, zlt, zbd_s, zbx_l, zbx_r, zj0, zj1, zj2, zj3, zset_2, zput_1, if_true, if_false, zar_p, zld_p, zst_p, zdv_p, zrm_p, zc01_p, zb_p, zb_n, if_pos, if_neg]
          · simp (disch := omega) only [mE9, p_X9_between, t3, e3, zset_e, zlt, zbd_s, zbx_l, zbx_r, zj0, zj1, zj2, zj3, zset_2, zput_1, if_true, if_false, zar_p, zld_p, zst_p, zdv_p, zrm_p, zc01_p, zb_p, zb_n, if_pos, if_neg]
        have a2 : m_X8_edition C w h = some (.inr ("java/lang/IllegalStateException", C)) := by
          clear hJ hRG hP hT hA hC hR hF hE
          by_cases q : C.1 1 = 0
          · simp (disch := omega) only [m_X8_edition, p_X8_needArgument, m_X7_count, p_X2_isFull, q, zlt, zbd_s, zbx_l, zbx_r, zj0, zj1, zj2, zj3, zset_2, zput_1, if_true, if_false, zar_p, zld_p, zst_p, zdv_p, zrm_p, zc01_p, zb_p, zb_n, if_pos, if_neg]
          · simp (disch := omega) only [m_X8_edition, p_X8_needArgument, m_X7_count, p_X2_isFull, zlt, zbd_s, zbx_l, zbx_r, zj0, zj1, zj2, zj3, zset_2, zput_1, if_true, if_false, zar_p, zld_p, zst_p, zdv_p, zrm_p, zc01_p, zb_p, zb_n, if_pos, if_neg]
        exact Sim.no a1 a2 (by decide) rfl (hJ.thr 2)
      · obtain ⟨f1, g1, p, b, c, f, ur, nr, S1, S2, B1, B2, B3, N, -⟩ := q_set (C := C) (M := zset M 0 0) (w := w) hT hC h1 (by omega)
        have hb := zhg_b B1 B2 B3
        obtain ⟨g, A1, A2, A3⟩ := q_add (T := zq (zD C w f1 g1) p b c f) (U := C.1 1) (w := w) (h := h) (e := C.1 9) (H := zhg p b c) (R := fun u => f (12 * u)) ⟨t1, t2⟩ h2 rfl ⟨e1, by omega⟩ (fun x => q_hgt rfl rfl rfl) hb (fun u u1 u2 => ⟨rfl, (N u u1 u2).2⟩)
        obtain ⟨g', D1, D2, D3⟩ := q_ed1 (M := M) (T := zm (zset M 0 0) (zhg p b c - 1) ur nr) (w := w) (h := h) (e := C.1 9) (U := C.1 1) (L := zhg p b c - 1) h1 h2 t3 ⟨by omega, t2⟩ e3 ⟨e1, by omega⟩ S2 t3 e3 rfl (by omega) (fun u u1 u2 => by
          obtain ⟨n1, n2, n3⟩ := N u u1 u2
          show 0 ≤ ur u ∧ ur u ≤ 200000
          omega)
        have a2 := q_ed2 h1 h2 rfl (by omega) rfl ⟨e1, by omega⟩ S1 rfl A1 rfl
        refine Sim.ok D1 a2 rfl ⟨hP, hT, hA, hC, hR, hF, ?_⟩
        have hq : 1 ≤ (zhg p b c - 1) / h + 1 := by
          have := (q_dm (x := zhg p b c - 1) (h := h) (by omega) h2.1).1.1
          omega
        refine q_edi (C := C) (M := M) (e := C.1 9) (w := w) (U := C.1 1) (p := (zhg p b c - 1) / h + 1) hE rfl (by omega) rfl rfl rfl h1 ⟨t1, t2⟩ hq ?_ (fun x => rfl) (fun x => rfl) (fun x => rfl) (fun u u1 u2 => ?_) (fun u u1 u2 => ?_) (fun j j1 => ⟨A3 j (Or.inl j1), D3 j (Or.inl j1)⟩)
        · exact if_pos rfl
        · obtain ⟨n1, -⟩ := N u u1 u2
          obtain ⟨y1, y2⟩ := A2 u u1 u2
          have y3 : g' (20 * C.1 9 + u) = 100 * (ur u / h) + ur u % h := (D2 u u1 (by omega)).1 u2
          show g' (20 * C.1 9 + u) = g (20 * C.1 9 + u) ∧ 0 ≤ g (20 * C.1 9 + u)
          rw [y3, n1]; exact ⟨y1.symm, y2⟩
        · exact (D2 u (by omega) u2).2 u1
    · have a1 : m_X9_edition M w h = some (0, zset M 0 1) := by
        clear hJ hRG hP hT hA hC hR hF hE
        rw [mE9_e]
        generalize zl1 (R := zRes) 1000 = zz
        simp (disch := omega) only [mE9, p_X9_between, zset_e, zlt, zbd_s, zbx_l, zbx_r, zj0, zj1, zj2, zj3, zset_2, zput_1, if_true, if_false, zar_p, zld_p, zst_p, zdv_p, zrm_p, zc01_p, zb_p, zb_n, if_pos, if_neg]
      have a2 : m_X8_edition C w h = some (.inr ("java/lang/IllegalArgumentException", C)) := by
        clear hJ hRG hP hT hA hC hR hF hE
        simp (disch := omega) only [m_X8_edition, p_X8_needArgument, zlt, zbd_s, zbx_l, zbx_r, zj0, zj1, zj2, zj3, zset_2, zput_1, if_true, if_false, zar_p, zld_p, zst_p, zdv_p, zrm_p, zc01_p, zb_p, zb_n, if_pos, if_neg]
      exact Sim.no a1 a2 (by decide) rfl (hJ.thr 1)
  · have a1 : m_X9_edition M w h = some (0, zset M 0 1) := by
      clear hJ hRG hP hT hA hC hR hF hE
      rw [mE9_e]
      generalize zl1 (R := zRes) 1000 = zz
      simp (disch := omega) only [mE9, p_X9_between, zset_e, zlt, zbd_s, zbx_l, zbx_r, zj0, zj1, zj2, zj3, zset_2, zput_1, if_true, if_false, zar_p, zld_p, zst_p, zdv_p, zrm_p, zc01_p, zb_p, zb_n, if_pos, if_neg]
    have a2 : m_X8_edition C w h = some (.inr ("java/lang/IllegalArgumentException", C)) := by
      clear hJ hRG hP hT hA hC hR hF hE
      simp (disch := omega) only [m_X8_edition, p_X8_needArgument, zlt, zbd_s, zbx_l, zbx_r, zj0, zj1, zj2, zj3, zset_2, zput_1, if_true, if_false, zar_p, zld_p, zst_p, zdv_p, zrm_p, zc01_p, zb_p, zb_n, if_pos, if_neg]
    exact Sim.no a1 a2 (by decide) rfl (hJ.thr 1)

