/-! p28, the pure side: one turn of the law -/
noncomputable def tB (a9 : Int) : Int → Int → Int → zSt → Option zL5 := fun (v1 : Int) (v2 : Int) (v3 : Int) (S2 : zSt) => zj1 (fun (v4 : Int) (S3 : zSt) => zj1 (fun (v5 : Int) (S4 : zSt) => zar (a9 + 1) fun x3 => some (v5, v1, v3, x3, S4)) fun j1 => zl2 1000 (b_L_law_646 j1 v1) v4 0 S3) fun j5 => zl2 1000 (b_L_law_578 j5 v3) v2 0 S2
noncomputable def mC2 (j8 : Int → Int → Int → zSt → Option zL5) (S : zSt) (a6 a8 wd m : Int) : Option zL5 := zbd (m_L_nth S a6 wd m) fun x42 S46 => zbw ["java/lang/IllegalStateException"] wd (m_X8_comment (zpC S46) 0 0 4 wd m 1 (wd % 2)) S46 fun x43 S47 => zj1 (fun (v30 : Int) (S48 : zSt) => zj1 (fun (v31 : Int) (S49 : zSt) => zj1 (fun (v32 : Int) (S50 : zSt) => j8 a6 v31 v32 S50) fun j26 => if x42 < 0 then (j26 a8 S49) else (zst S49 3 60 a8 wd fun S51 => zst S51 5 60 a8 x42 fun S52 => zst S52 7 60 a8 0 fun S53 => zar (a8 + 1) fun x44 => j26 x44 S53)) fun j27 => if x43 = v30 then (j27 1 S48) else (j27 0 S48)) fun j28 => if 0 ≤ x42 then (j28 a8 S47) else (j28 (-1003) S47)
noncomputable def mC (j8 : Int → Int → Int → zSt → Option zL5) (x1 : Int) (S1 : zSt) (a6 a8 : Int) : Option zL5 := zdq x1 8 fun x37 => zbd (m_L_up S1 x37 4) fun x38 S44 => zdq x1 32 fun x39 => zbd (m_L_up S44 x39 3) fun x40 S45 => zar (1 + x40) fun x41 => mC2 j8 S45 a6 a8 x38 x41
noncomputable def mE2 (z1 : ((Int → zSt → Option zL5) → Int → zSt → Option zL5) → Int → zSt → Option zL5) (z2 : ((Int → Int → zSt → Option zL5) → Int → Int → zSt → Option zL5) → Int → Int → zSt → Option zL5) (j8 : Int → Int → Int → zSt → Option zL5) (S : zSt) (a6 a8 gap wd : Int) : Option zL5 := zj1 (fun (v14 : Int) (S19 : zSt) => zj1 (fun (v15 : Int) (S20 : zSt) => zj2 (fun (v16 : Int) (v17 : Int) (S21 : zSt) => zbw ["java/lang/IndexOutOfBoundsException", "java/lang/IllegalStateException"] 0 (m_X8_emend (zpC S21) 0 gap wd) S21 fun x17 S22 => zj1 (fun (v18 : Int) (S23 : zSt) => j8 v16 v18 a8 S23) fun j9 => if x17 = v17 then (j9 1 S22) else (j9 0 S22)) fun j10 => if v15 = 0 then (zj0 (fun (S24 : zSt) => zj1 (fun (v19 : Int) (S25 : zSt) => zar (a6 - v19) fun x18 => zj1 (fun (v20 : Int) (S26 : zSt) => zst S26 1 12 gap v20 fun S27 => z2 (b_L_law_405 a8 j10 v14 gap x18) v15 0 S27) fun j19 => if v14 = 0 then (j19 wd S25) else (zld (S25.2 1) 12 gap fun x30 => j19 x30 S25)) fun j20 => if v14 = 0 then (j20 0 S24) else (j20 1 S24)) fun j21 => z1 (b_L_law_339 a6 j21 v14) gap S20) else (j10 a6 v15 S20)) fun j22 => if gap < a6 then (zj0 (fun (S42 : zSt) => j22 0 S42) fun j23 => if v14 = 0 then (j23 S19) else (if a6 = 1 then (j22 (-1003) S19) else (j23 S19))) else (j22 (-1001) S19)) fun j24 => if 0 ≤ wd then (j24 0 S) else (j24 1 S)
noncomputable def mE (j8 : Int → Int → Int → zSt → Option zL5) (x1 : Int) (S1 : zSt) (a6 a8 : Int) : Option zL5 := zdq x1 8 fun x13 => zbd (m_L_up S1 x13 13) fun x14 S16 => zdq x1 128 fun x15 => zbd (m_L_up S16 x15 6) fun x16 S17 => if x16 = 0 then mE2 (zl1 1000) (zl2 1000) j8 S17 a6 a8 x14 (-1) else zdq x1 1024 fun x35 => zbd (m_L_up S17 x35 4) fun x36 S43 => mE2 (zl1 1000) (zl2 1000) j8 S43 a6 a8 x14 x36
theorem mB_e (cel : Int → Int) (S : zSt) (a6 a7 a8 a9 : Int) : m_L_B cel S a6 a7 a8 a9 = zce cel a9 fun x1 => zbd (m_L_up S x1 3) fun x2 S1 => if x2 = 0 then mC (tB a9) x1 S1 a6 a8 else mE (tB a9) x1 S1 a6 a8 := rfl
theorem q_tl {C : zSt} {r w p l : Int → Int} {n k t : Int} (hI : I28 C r w p l n k) (hk : k ≤ 60) (ht : 0 ≤ t ∧ t < 55) : tB t n 1 k (zLw C r w p l) = some (1, n, k, t + 1, zLw C r w p l) := by
  obtain ⟨⟨t1, t2, t3, t4⟩, ⟨c1, c2⟩, hr, hh, hl⟩ := hI
  refine (q_578 (S := zLw C r w p l) (k := k) ⟨c2, hk⟩ (fun j j1 j2 => ?_) (fun j j1 j2 => ?_) (fun j j1 j2 => ?_)).trans ?_
  · obtain ⟨h1, h2, h3, h4, h5, h6, h7, h8, h9⟩ := hh j j1 j2
    rw [zLw_C, p_t2 c1 hk ⟨j1, j2⟩ h2, zLw_5, h4]
  · obtain ⟨h1, h2, h3, h4, h5, h6, h7, h8, h9⟩ := hh j j1 j2
    rw [zLw_C, p_t3 c1 hk ⟨j1, j2⟩ h2 (by rw [h6]; exact h8), zLw_7, h6]
  · obtain ⟨h1, h2, h3, h4, h5, h6, h7, h8, h9⟩ := hh j j1 j2
    rw [zLw_C, p_t1 c1 hk ⟨j1, j2⟩ h2, h3]
  · refine (q_646 (S := zLw C r w p l) (n := n) t3.2 (fun j j1 => ?_)).trans ?_
    · rw [zLw_C, p_tx t1 t2 t3.2 j j1, zLw_1]
      by_cases c : j < n
      · rw [if_pos c, if_pos c, (hr j j1 c).1]
      · rw [if_neg c, if_neg c]
    · exact zar_p (⟨by omega, by omega⟩ : inR (t + 1))
theorem q_C2 {C : zSt} {r w p l : Int → Int} {n k wd m : Int} {j8 : Int → Int → Int → zSt → Option zL5} (hI : I28 C r w p l n k) (hk : k < 60) (hw : 0 ≤ wd ∧ wd ≤ 3) (hm : 1 ≤ m ∧ m ≤ 3) : ∃ k' C' w' p' l', mC2 j8 (zLw C r w p l) n k wd m = j8 n 1 k' (zLw C' r w' p' l') ∧ I28 C' r w' p' l' n k' ∧ k' ≤ k + 1 := by
  obtain ⟨⟨t1, t2, t3, t4⟩, ⟨c1, c2⟩, hr, hh, hl⟩ := id hI
  have hzz := p_sz t1 t2
  have hww : ∀ q, 0 ≤ q → q < n → m_X7_wordAt C 0 q = some ((zLw C r w p l).2 1 q, C) := fun q q1 q2 => by
    rw [p_wa t1 t2 t3.2 q q1, if_pos q2]; exact congrArg (fun t => some (t, C)) (hr q q1 q2).1
  obtain ⟨v, v1, v2, v3⟩ := q_nth (S := zLw C r w p l) (wd := wd) (m := m) t3 hzz hww ⟨hm.1, by omega⟩
  by_cases cv : v = -1
  · have e := q_comm4 (a := 0) (u := 0) (k := 4) (w := wd) (m := m) (l := 1) (g := wd % 2) c1 t4 t1 (by omega) (by omega) ⟨⟨by omega, by omega, by omega⟩, by omega, by omega⟩ ⟨c2, by omega⟩ v2 (Or.inr cv)
    refine ⟨k, C, w, p, l, ?_, hI, by omega⟩
    clear hh hr hl hww hI
    subst cv
    simp (disch := first | omega | decide) only [mC2, v3, zLw_C, e, zbw_I, zLw_J, ↓zj0, ↓zj1, ↓zj2, ↓zj3, ↓zbd_s, ↓zar_p, ↓zld_p, ↓zst_p, ↓if_pos, ↓if_neg, if_true, if_false]
  · have e := q_comm2 (a := 0) (u := 0) (k := 4) (w := wd) (m := m) (l := 1) (g := wd % 2) c1 t4 t1 (by omega) (by omega) ⟨⟨by omega, by omega, by omega⟩, by omega, by omega⟩ ⟨c2, by omega⟩ v2 (by omega)
    obtain ⟨C', hC'⟩ : ∃ C', C' = zput (zput (zput (zput (zput (zset (zput (zput (zput (zput C 7 k 0) 8 k 4) 9 k 1) 10 k (wd % 2)) 3 (k + 1)) 11 k (-1)) 12 k k) 13 k 0) 14 k v) 15 k wd := ⟨_, rfl⟩
    rw [← hC'] at e
    refine ⟨k + 1, C', zfu w k wd, zfu p k v, zfu l k 0, ?_, ?_, by omega⟩
    rotate_left
    · subst hC'
      refine ⟨⟨t1, t2, t3, t4⟩, ⟨rfl, by omega⟩, hr, fun j j1 j2 => ?_, fun j j1 => hl j (by omega)⟩
      show (if j = k then (-1 : Int) else C.2 11 j) = -1 ∧ (if j = k then k else C.2 12 j) = j ∧ (if j = k then 0 else C.2 13 j) = 0 ∧ (if j = k then v else C.2 14 j) = zfu p k v j ∧ (if j = k then wd else C.2 15 j) = zfu w k wd j ∧ C.2 16 j = zfu l k 0 j ∧ (0 ≤ zfu p k v j ∧ zfu p k v j < n) ∧ (zfu l k 0 j = 0 ∨ zfu l k 0 j = 1) ∧ 0 ≤ zfu w k wd j ∧ zfu w k wd j ≤ 3
      by_cases ej : j = k
      · rw [ej]
        simp only [if_true, zfu_e]
        exact ⟨trivial, trivial, trivial, trivial, trivial, hl k (Int.le_refl k), ⟨by omega, by omega⟩, Or.inl trivial, hw.1, hw.2⟩
      · simp only [if_neg ej, zfu_n _ _ ej]
        exact hh j j1 (by omega)
    · clear hh hr hl hww hI hC'
      simp (disch := first | omega | decide) only [mC2, v3, zLw_C, e, zbw_l, zLw_J, zLw_p3, zLw_p5, zLw_p7, ↓zj0, ↓zj1, ↓zj2, ↓zj3, ↓zbd_s, ↓zar_p, ↓zld_p, ↓zst_p, ↓if_pos, ↓if_neg, if_true, if_false]
theorem q_C {C : zSt} {r w p l : Int → Int} {n k x1 : Int} {j8 : Int → Int → Int → zSt → Option zL5} (hI : I28 C r w p l n k) (hk : k < 60) : ∃ k' C' w' p' l', mC j8 x1 (zLw C r w p l) n k = j8 n 1 k' (zLw C' r w' p' l') ∧ I28 C' r w' p' l' n k' ∧ k' ≤ k + 1 := by
  unfold mC
  rw [zdq_p (by decide), p_up _ _ (by decide), zbd_s, zdq_p (by decide), p_up _ _ (by decide), zbd_s]
  have h1 := upv_in (a := (zI x1 / zI 8).toInt) (n := 4) (by decide)
  have h2 := upv_in (a := (zI x1 / zI 32).toInt) (n := 3) (by decide)
  rw [zar_p ⟨by omega, by omega⟩]
  exact q_C2 hI hk ⟨h1.1, by omega⟩ ⟨by omega, by omega⟩
/-! a word emended -/
theorem zfu_same (f : Int → Int) (i : Int) : zfu f i (f i) = f := by
  funext j
  by_cases e : j = i
  · rw [e, zfu_e]
  · rw [zfu_n _ _ e]
theorem p_hp1 {C : zSt} {n a : Int} (h1 : C.1 1 = 1) (h2 : C.2 2 0 = n) (ha : 0 ≤ a ∧ a < n) : m_X7_hasPlace C 0 a = some (1, C) := by
  rw [p_X7_hasPlace C 0 a (by omega), if_pos (by omega), h2, zb_p ha]
theorem p_hp0 {C : zSt} {n a : Int} (h1 : C.1 1 = 1) (h2 : C.2 2 0 = n) (ha : n ≤ a) : m_X7_hasPlace C 0 a = some (0, C) := by
  rw [p_X7_hasPlace C 0 a (by omega), if_pos (by omega), h2, zb_n (by omega)]
theorem q_E1 {C : zSt} {r w p l : Int → Int} {n k gap wd : Int} {z1 : ((Int → zSt → Option zL5) → Int → zSt → Option zL5) → Int → zSt → Option zL5} {z2 : ((Int → Int → zSt → Option zL5) → Int → Int → zSt → Option zL5) → Int → Int → zSt → Option zL5} {j8 : Int → Int → Int → zSt → Option zL5} (hg : n ≤ gap) (hw : -1 ≤ wd) (e : m_X8_emend C 0 gap wd = some (.inr ("java/lang/IndexOutOfBoundsException", C))) : mE2 z1 z2 j8 (zLw C r w p l) n k gap wd = j8 n 1 k (zLw C r w p l) := by
  by_cases c : wd = -1
  · subst c
    simp (disch := first | omega | decide) only [mE2, zLw_C, e, zbw_O, zLw_J, ↓zj0, ↓zj1, ↓zj2, ↓zj3, ↓zbd_s, ↓zar_p, ↓zld_p, ↓zst_p, ↓if_pos, ↓if_neg, if_true, if_false]
  · simp (disch := first | omega | decide) only [mE2, zLw_C, e, zbw_O, zLw_J, ↓zj0, ↓zj1, ↓zj2, ↓zj3, ↓zbd_s, ↓zar_p, ↓zld_p, ↓zst_p, ↓if_pos, ↓if_neg, if_true, if_false]
theorem q_E2 {C : zSt} {r w p l : Int → Int} {k gap : Int} {z1 : ((Int → zSt → Option zL5) → Int → zSt → Option zL5) → Int → zSt → Option zL5} {z2 : ((Int → Int → zSt → Option zL5) → Int → Int → zSt → Option zL5) → Int → Int → zSt → Option zL5} {j8 : Int → Int → Int → zSt → Option zL5} (hg : gap < 1) (e : m_X8_emend C 0 gap (-1) = some (.inr ("java/lang/IllegalStateException", C))) : mE2 z1 z2 j8 (zLw C r w p l) 1 k gap (-1) = j8 1 1 k (zLw C r w p l) := by
  simp (disch := first | omega | decide) only [mE2, zLw_C, e, zbw_I, zLw_J, ↓zj0, ↓zj1, ↓zj2, ↓zj3, ↓zbd_s, ↓zar_p, ↓zld_p, ↓zst_p, ↓if_pos, ↓if_neg, if_true, if_false]
theorem q_E3 {C C' : zSt} {r w p l f p' l' : Int → Int} {n k gap x : Int} {z1 : ((Int → zSt → Option zL5) → Int → zSt → Option zL5) → Int → zSt → Option zL5} {z2 : ((Int → Int → zSt → Option zL5) → Int → Int → zSt → Option zL5) → Int → Int → zSt → Option zL5} {j8 : Int → Int → Int → zSt → Option zL5} (hg : 0 ≤ gap ∧ gap < n) (hn : 2 ≤ n ∧ n ≤ 12) (h1 : ∀ j21, z1 (b_L_law_339 n j21 1) gap (zLw C r w p l) = j21 (zLw C f w p l)) (h2 : ∀ j10, z2 (b_L_law_405 k j10 1 gap (n - 1)) 0 0 (zLw C f w p l) = j10 (n - 1) x (zLw C f w p' l')) (e : m_X8_emend C 0 gap (-1) = some (.inl (x, C'))) : mE2 z1 z2 j8 (zLw C r w p l) n k gap (-1) = j8 (n - 1) 1 k (zLw C' f w p' l') := by
  simp (disch := first | omega | decide) only [mE2, zLw_C, e, zbw_l, zLw_J, h1, h2, zLw_1, zLw_p1, zfu_same, ↓zj0, ↓zj1, ↓zj2, ↓zj3, ↓zbd_s, ↓zar_p, ↓zld_p, ↓zst_p, ↓if_pos, ↓if_neg, if_true, if_false]
theorem q_E4 {C C' : zSt} {r w p l p' l' : Int → Int} {n k gap wd x : Int} {z1 : ((Int → zSt → Option zL5) → Int → zSt → Option zL5) → Int → zSt → Option zL5} {z2 : ((Int → Int → zSt → Option zL5) → Int → Int → zSt → Option zL5) → Int → Int → zSt → Option zL5} {j8 : Int → Int → Int → zSt → Option zL5} (hg : 0 ≤ gap ∧ gap < n) (hn : 1 ≤ n ∧ n ≤ 12) (hw : 0 ≤ wd) (h1 : ∀ j21, z1 (b_L_law_339 n j21 0) gap (zLw C r w p l) = j21 (zLw C r w p l)) (h2 : ∀ j10, z2 (b_L_law_405 k j10 0 gap n) 0 0 (zLw C (zfu r gap wd) w p l) = j10 n x (zLw C (zfu r gap wd) w p' l')) (e : m_X8_emend C 0 gap wd = some (.inl (x, C'))) : mE2 z1 z2 j8 (zLw C r w p l) n k gap wd = j8 n 1 k (zLw C' (zfu r gap wd) w p' l') := by
  simp (disch := first | omega | decide) only [mE2, zLw_C, e, zbw_l, zLw_J, h1, h2, zLw_1, zLw_p1, Int.sub_zero, ↓zj0, ↓zj1, ↓zj2, ↓zj3, ↓zbd_s, ↓zar_p, ↓zld_p, ↓zst_p, ↓if_pos, ↓if_neg, if_true, if_false]
theorem q_E {C : zSt} {r w p l : Int → Int} {n k gap wd : Int} {j8 : Int → Int → Int → zSt → Option zL5} (hI : I28 C r w p l n k) (hk : k ≤ 60) (hg : 0 ≤ gap) (hw : -1 ≤ wd ∧ wd ≤ 3) : ∃ n' C' r' p' l', mE2 (zl1 1000) (zl2 1000) j8 (zLw C r w p l) n k gap wd = j8 n' 1 k (zLw C' r' w p' l') ∧ I28 C' r' w p' l' n' k := by
  obtain ⟨⟨t1, t2, t3, t4⟩, ⟨c1, c2⟩, hr, hh, hl⟩ := id hI
  have hS := p_ss t1 t2 t3.2
  by_cases c : n ≤ gap
  · have hp := p_hp0 t1 t2 c
    refine ⟨n, C, r, p, l, q_E1 c hw.1 ?_, hI⟩
    clear hh hr hl hI hS
    simp (disch := omega) only [m_X8_emend, hp, zlt, zbd_s, zbx_l, zbx_r, zj0, zj1, zj2, zj3, zset_2, zput_1, if_true, if_false, zar_p, zld_p, zst_p, zdv_p, zrm_p, zc01_p, zb_p, zb_n, if_pos, if_neg]
  have hp := p_hp1 t1 t2 (a := gap) ⟨hg, by omega⟩
  have hz := p_sz t1 t2
  by_cases cw : wd = -1
  · subst cw
    by_cases cn : n = 1
    · subst cn
      refine ⟨1, C, r, p, l, q_E2 (by omega) ?_, hI⟩
      clear hh hr hl hI hS
      simp (disch := omega) only [m_X8_emend, hp, hz, p_X8_needArgument, zlt, zbd_s, zbx_l, zbx_r, zj0, zj1, zj2, zj3, zset_2, zput_1, if_true, if_false, zar_p, zld_p, zst_p, zdv_p, zrm_p, zc01_p, zb_p, zb_n, if_pos, if_neg]
    · have tk := q_tk (C := C) (u := 0) (a := gap) (s := n) (by omega) (by omega) hS t2 t3 ⟨hg, by omega⟩
      have hrow : ∀ j, 0 ≤ j → j < n - 1 → zsh (C.2 1) (12 * 0 + gap) (12 * 0 + n - 1) j = zsh r gap (n - 1) j ∧ 0 ≤ zsh r gap (n - 1) j ∧ zsh r gap (n - 1) j ≤ 3 := fun j j1 j2 => by
        by_cases q : gap ≤ j
        · rw [zsh_in _ (by omega), zsh_in _ (by omega)]
          exact hr (j + 1) (by omega) (by omega)
        · rw [zsh_at _ (by omega), zsh_at _ (by omega)]
          exact hr j j1 (by omega)
      have hz0 : (zput (zrp C 1 (zsh (C.2 1) (12 * 0 + gap) (12 * 0 + n - 1))) 2 0 (n - 1)).2 2 0 = n - 1 := by
        rw [zput_e]; exact if_pos rfl
      have sz : m_X7_sizeOf (zput (zrp C 1 (zsh (C.2 1) (12 * 0 + gap) (12 * 0 + n - 1))) 2 0 (n - 1)) 0 = some (n - 1, zput (zrp C 1 (zsh (C.2 1) (12 * 0 + gap) (12 * 0 + n - 1))) 2 0 (n - 1)) := p_sz t1 hz0
      obtain ⟨gg, cg, hgg⟩ := q_cg (S := zput (zrp C 1 (zsh (C.2 1) (12 * 0 + gap) (12 * 0 + n - 1))) 2 0 (n - 1)) (u := 0) (a := gap) (l := n - 1 - 1) (n := k) c1 ⟨c2, hk⟩ (fun j j1 j2 _ => by
        obtain ⟨h1, h2, h3, h4, h5, h6, h7, h8, h9⟩ := hh j j1 j2
        show 0 ≤ C.2 14 j ∧ C.2 14 j ≤ 12
        rw [h4]; omega)
      obtain ⟨x, f, g, p', l', hA, hB, hZ⟩ := q_hl (Ca := zrp (zput (zrp C 1 (zsh (C.2 1) (12 * 0 + gap) (12 * 0 + n - 1))) 2 0 (n - 1)) 14 gg) (C := C) (r := zsh r gap (n - 1)) (w := w) (p := p) (l := l) (k := k) (n := n - 1) (gap := gap) (io := 1) c1 ⟨c2, hk⟩ t1 hz0 (by omega) (fun j j1 j2 => (hrow j j1 j2).1) (Or.inr rfl) hg (fun i i1 i2 => by
        obtain ⟨h1, h2, h3, h4, h5, h6, h7, h8, h9⟩ := hh i i1 i2
        refine ⟨h1, h3, h5, ?_, ⟨h7.1, by omega⟩, h6, h8⟩
        have q := (hgg i).1 ⟨⟨i1, i2⟩, h1, h3⟩
        have q2 : (zput (zrp C 1 (zsh (C.2 1) (12 * 0 + gap) (12 * 0 + n - 1))) 2 0 (n - 1)).2 14 i = p i := h4
        rw [q2] at q
        show gg i = _
        rw [q]
        unfold zst7
        repeat' split
        all_goals omega)
      refine ⟨n - 1, _, zsh r gap (n - 1), p', l', q_E3 ⟨hg, by omega⟩ ⟨by omega, t3.2⟩ (fun j21 => q_339a t3 ⟨hg, by omega⟩) hB (q_em8a hp hz ⟨by omega, t3.2⟩ tk sz cg hA), ?_⟩
      refine ⟨⟨t1, hz0, by omega, t4⟩, ⟨c1, c2⟩, hrow, fun j j1 j2 => ?_, fun j j1 => ?_⟩
      · obtain ⟨h1, h2, h3, h4, h5, h6, h7, h8, h9⟩ := hh j j1 j2
        obtain ⟨y1, y2, y3, y4⟩ := hZ.1 j j1 j2
        exact ⟨h1, h2, h3, y1, h5, y3, y2, y4, h9⟩
      · obtain ⟨y1, y2, y3, y4⟩ := hZ.2 j (by omega)
        exact y3.trans (hl j j1)
  · have pt := p_X7_put C 0 gap wd (by omega) (by omega) (by omega) (by omega)
    have hrow : ∀ j, 0 ≤ j → j < n → (zput C 1 (12 * 0 + gap) wd).2 1 j = zfu r gap wd j ∧ 0 ≤ zfu r gap wd j ∧ zfu r gap wd j ≤ 3 := fun j j1 j2 => by
      show (if j = 12 * 0 + gap then wd else C.2 1 j) = zfu r gap wd j ∧ 0 ≤ zfu r gap wd j ∧ zfu r gap wd j ≤ 3
      by_cases q : j = gap
      · rw [if_pos (by omega), q, zfu_e]; exact ⟨rfl, by omega, hw.2⟩
      · rw [if_neg (by omega), zfu_n _ _ q]; exact hr j j1 j2
    obtain ⟨x, f, g, p', l', hA, hB, hZ⟩ := q_hl (Ca := zput C 1 (12 * 0 + gap) wd) (C := C) (r := zfu r gap wd) (w := w) (p := p) (l := l) (k := k) (n := n) (gap := gap) (io := 0) c1 ⟨c2, hk⟩ t1 t2 t3 (fun j j1 j2 => (hrow j j1 j2).1) (Or.inl rfl) hg (fun i i1 i2 => by
      obtain ⟨h1, h2, h3, h4, h5, h6, h7, h8, h9⟩ := hh i i1 i2
      refine ⟨h1, h3, h5, ?_, ⟨h7.1, by omega⟩, h6, h8⟩
      unfold zst7
      rw [if_neg (by omega), if_neg (by omega)]
      exact h4)
    refine ⟨n, _, zfu r gap wd, p', l', q_E4 ⟨hg, by omega⟩ t3 (by omega) (fun j21 => q_339b t3 ⟨hg, by omega⟩) hB (q_em8b hp ⟨by omega, by omega⟩ pt hA), ?_⟩
    refine ⟨⟨t1, t2, t3, t4⟩, ⟨c1, c2⟩, hrow, fun j j1 j2 => ?_, fun j j1 => ?_⟩
    · obtain ⟨h1, h2, h3, h4, h5, h6, h7, h8, h9⟩ := hh j j1 j2
      obtain ⟨y1, y2, y3, y4⟩ := hZ.1 j j1 j2
      exact ⟨h1, h2, h3, y1, h5, y3, y2, y4, h9⟩
    · obtain ⟨y1, y2, y3, y4⟩ := hZ.2 j (by omega)
      exact y3.trans (hl j j1)
theorem q_EE {C : zSt} {r w p l : Int → Int} {n k x1 : Int} {j8 : Int → Int → Int → zSt → Option zL5} (hI : I28 C r w p l n k) (hk : k ≤ 60) : ∃ n' C' r' p' l', mE j8 x1 (zLw C r w p l) n k = j8 n' 1 k (zLw C' r' w p' l') ∧ I28 C' r' w p' l' n' k := by
  unfold mE
  rw [zdq_p (by decide), p_up _ _ (by decide), zbd_s, zdq_p (by decide), p_up _ _ (by decide), zbd_s]
  have h1 := upv_in (a := (zI x1 / zI 8).toInt) (n := 13) (by decide)
  have h2 := upv_in (a := (zI x1 / zI 1024).toInt) (n := 4) (by decide)
  by_cases c : upv (zI x1 / zI 128).toInt 6 = 0
  · rw [if_pos c]
    exact q_E hI hk h1.1 ⟨by omega, by omega⟩
  · rw [if_neg c, zdq_p (by decide), p_up _ _ (by decide), zbd_s]
    exact q_E hI hk h1.1 ⟨by omega, by omega⟩
/-- one turn of the law -/
theorem p_LB {cel : Int → Int} {C : zSt} {r w p l : Int → Int} {n k t : Int} (hI : I28 C r w p l n k) (hk : k < 60) (ht : 0 ≤ t ∧ t < 55) : ∃ C' r' w' p' l' n' k', m_L_B cel (zLw C r w p l) n 1 k t = some (1, n', k', t + 1, zLw C' r' w' p' l') ∧ I28 C' r' w' p' l' n' k' ∧ k' ≤ k + 1 := by
  rw [mB_e, zce_p (by omega), p_up _ _ (by decide), zbd_s]
  by_cases c : upv (cel t) 3 = 0
  · rw [if_pos c]
    obtain ⟨k', C', w', p', l', e, hI', hk'⟩ := q_C (x1 := cel t) (j8 := tB t) hI hk
    exact ⟨C', r, w', p', l', n, k', e.trans (q_tl hI' (by omega) ht), hI', hk'⟩
  · rw [if_neg c]
    obtain ⟨n', C', r', p', l', e, hI'⟩ := q_EE (x1 := cel t) (j8 := tB t) hI (by omega)
    exact ⟨C', r', w, p', l', n', k, e.trans (q_tl hI' (by omega) ht), hI', by omega⟩
