/-! emend: the reference's loop and hookAnew -/
def zfr (s a w x : Int) : Int := if s - 1 < (if w = -1 ∧ a < x then x - 1 else x) then s - 1 else (if w = -1 ∧ a < x then x - 1 else x)
theorem zfr_b {s a w x : Int} (hs : 1 ≤ s ∧ s ≤ 12) (ha : 0 ≤ a) (hx : 0 ≤ x) : 0 ≤ zfr s a w x ∧ zfr s a w x < s := by
  unfold zfr
  repeat' split
  all_goals omega
theorem q_hk3 {S : zSt} {u a w n x i r s : Int} {rec : Int → Int → zSt → Option zRes} {j1 : Int → zSt → Option zRes} (hn : S.1 4 = n) (hn2 : n ≤ 60) (hi : 0 ≤ i ∧ i < n) (hu : 0 ≤ u ∧ u < 20) (hx : 0 ≤ x ∧ x ≤ 60) (h1 : S.2 8 i = -1) (h2 : S.2 10 i = u) (hs : S.2 2 u = s) (hm : 1 ≤ s ∧ s ≤ 12) (hp : 0 ≤ S.2 12 i ∧ S.2 12 i ≤ 12) (ha : 0 ≤ a) (hr : m_X9_nearest S u (S.2 11 i) (zfr s a w (S.2 12 i)) = some (r, S)) (hl : S.2 13 i = 0 ∨ S.2 13 i = 1) : b_X9_emend_161 u a w j1 rec x i S = (if r = -1 then (if S.2 13 i = 1 then rec x (i + 1) (zput (zput S 13 i 1) 12 i (zfr s a w (S.2 12 i))) else rec (x + 1) (i + 1) (zput (zput S 13 i 1) 12 i (zfr s a w (S.2 12 i)))) else (if S.2 13 i = 0 then rec x (i + 1) (zput (zput S 13 i 0) 12 i r) else rec (x + 1) (i + 1) (zput (zput S 13 i 0) 12 i r))) := by
  subst hs
  by_cases c1 : w = -1 ∧ a < S.2 12 i
  · by_cases c2 : S.2 2 u - 1 < S.2 12 i - 1
    · have e : zfr (S.2 2 u) a w (S.2 12 i) = S.2 2 u - 1 := by unfold zfr; rw [if_pos c1, if_pos c2]
      rw [e] at hr ⊢
      exact q_hk3a1 hn hn2 hi hu hx h1 h2 hm hp ha c1 c2 hr hl
    · have e : zfr (S.2 2 u) a w (S.2 12 i) = S.2 12 i - 1 := by unfold zfr; rw [if_pos c1, if_neg c2]
      rw [e] at hr ⊢
      exact q_hk3b1 hn hn2 hi hu hx h1 h2 hm hp ha c1 (by omega) hr hl
  · by_cases c2 : S.2 2 u - 1 < S.2 12 i
    · have e : zfr (S.2 2 u) a w (S.2 12 i) = S.2 2 u - 1 := by unfold zfr; rw [if_neg c1, if_pos c2]
      rw [e] at hr ⊢
      exact q_hk3a0 hn hn2 hi hu hx h1 h2 hm hp ha c1 c2 hr hl
    · have e : zfr (S.2 2 u) a w (S.2 12 i) = S.2 12 i := by unfold zfr; rw [if_neg c1, if_neg c2]
      rw [e] at hr ⊢
      exact q_hk3c0 hn hn2 hi hu hx h1 h2 hm hp ha c1 (by omega) hr hl
/-- hook i on unit u -/
abbrev zhk (C : zSt) (n u j : Int) : Prop := (0 ≤ j ∧ j < n) ∧ C.2 11 j = -1 ∧ C.2 13 j = u
def zho (C M : zSt) (n u s i : Int) (f l f' l' : Int → Int) : Prop := ∀ j, (l' j = l j ∧ (l j = 0 ∨ l j = 1)) ∧ (j < i ∧ zhk C n u j → f' j = f j ∧ 0 ≤ f j ∧ f j < s) ∧ (¬ (j < i ∧ zhk C n u j) → f j = C.2 14 j ∧ f' j = M.2 12 j ∧ l j = C.2 16 j)
theorem zho_s {C M : zSt} {n u s i : Int} {f l f' l' F L F' L' : Int → Int} (h : zho C M n u s i f l f' l') (hi : zhk C n u i) (h1 : ∀ j, j ≠ i → F j = f j ∧ L j = l j ∧ F' j = f' j ∧ L' j = l' j) (h2 : L' i = L i ∧ (L i = 0 ∨ L i = 1)) (h3 : F' i = F i ∧ 0 ≤ F i ∧ F i < s) : zho C M n u s (i + 1) F L F' L' := by
  intro j
  by_cases e : j = i
  · subst e
    exact ⟨h2, fun _ => h3, fun q => absurd ⟨by omega, hi⟩ q⟩
  · obtain ⟨a1, a2, a3, a4⟩ := h1 j e
    obtain ⟨b1, b2, b3⟩ := h j
    rw [a1, a2, a3, a4]
    exact ⟨b1, fun q => b2 ⟨by omega, q.2⟩, fun q => b3 fun z => q ⟨by omega, z.2⟩⟩
theorem zho_n {C M : zSt} {n u s i : Int} {f l f' l' : Int → Int} (h : zho C M n u s i f l f' l') (hi : ¬ zhk C n u i) : zho C M n u s (i + 1) f l f' l' := by
  intro j
  obtain ⟨b1, b2, b3⟩ := h j
  refine ⟨b1, fun q => b2 ⟨?_, q.2⟩, fun q => b3 fun z => q ⟨by omega, z.2⟩⟩
  have : j ≠ i := fun e => hi (e ▸ q.2)
  omega
theorem q_hka {C M : zSt} {u a w n s : Int} (hn : C.1 3 = n) (hn' : M.1 4 = n) (hn2 : 0 ≤ n ∧ n ≤ 60) (hu : 0 ≤ u ∧ u < C.1 1) (hU : C.1 1 ≤ 20) (hS : ∀ x, 0 ≤ x → x < C.1 1 → C.2 2 x ≤ 12) (hs : C.2 2 u = s) (hs' : M.2 2 u = s) (hs2 : 1 ≤ s ∧ s ≤ 12) (hw : ∀ k, 0 ≤ k → k < s → M.2 1 (12 * u + k) = C.2 1 (12 * u + k)) (ha : 0 ≤ a) (h1 : ∀ i, 0 ≤ i → i < n → M.2 8 i = C.2 11 i ∧ (C.2 11 i = -1 → M.2 10 i = C.2 13 i ∧ M.2 11 i = C.2 15 i ∧ 0 ≤ M.2 12 i ∧ M.2 12 i ≤ 12)) (h2 : ∀ i, zhk C n u i → C.2 14 i = zfr s a w (M.2 12 i)) (h3 : ∀ i, M.2 13 i = C.2 16 i ∧ (C.2 16 i = 0 ∨ C.2 16 i = 1)) : ∃ x f l f' l', m_X1_hookAnew C u = some (x, zrp (zrp C 14 f) 16 l) ∧ zl2 1000 (b_X9_emend_161 u a w (fun (v2 : Int) (S5 : zSt) => some (v2, S5) : Int → zSt → Option zRes)) 0 0 M = some (x, zrp (zrp M 13 l') 12 f') ∧ zho C M n u s n f l f' l' := by
  refine zw22 (F := b_X1_hookAnew_5 u (fun (v1 : Int) (S1 : zSt) => some (v1, S1) : Int → zSt → Option zRes)) (G := b_X9_emend_161 u a w (fun (v2 : Int) (S5 : zSt) => some (v2, S5) : Int → zSt → Option zRes)) (fun d x i S x' i' T => x = x' ∧ i = i' ∧ 0 ≤ i ∧ i + d = n ∧ 0 ≤ x ∧ x ≤ i ∧ ∃ f l f' l', S = zrp (zrp C 14 f) 16 l ∧ T = zrp (zrp M 13 l') 12 f' ∧ zho C M n u s i f l f' l') (fun p q => ∃ x f l f' l', p = some (x, zrp (zrp C 14 f) 16 l) ∧ q = some (x, zrp (zrp M 13 l') 12 f') ∧ zho C M n u s n f l f' l') ?_ 1000 1000 n.toNat 0 0 C 0 0 M ⟨rfl, rfl, by omega, by omega, by omega, by omega, C.2 14, C.2 16, M.2 12, M.2 13, ?_, ?_, ?_⟩ (by omega) (by omega)
  · rintro rec rec2 d x i S x' i' T ⟨rfl, rfl, hi, hd, x1, x2, f, l, f', l', rfl, rfl, hz⟩
    have e1 : (zrp (zrp C 14 f) 16 l).1 3 = n := hn
    have e2 : (zrp (zrp M 13 l') 12 f').1 4 = n := hn'
    by_cases c : n ≤ i
    · refine Or.inl ⟨x, f, l, f', l', ?_, ?_, by rw [show n = i by omega]; rw [show n = i by omega] at hz; exact hz⟩
      · clear hz h1 h2 h3 hw hS; simp (disch := omega) only [b_X1_hookAnew_5, e1, zlt, zbd_s, zbx_l, zbx_r, zj0, zj1, zj2, zj3, zset_2, zput_1, if_true, if_false, zar_p, zld_p, zst_p, zdv_p, zrm_p, zc01_p, zb_p, zb_n, if_pos, if_neg]
      · clear hz h1 h2 h3 hw hS; simp (disch := omega) only [b_X9_emend_161, e2, zlt, zbd_s, zbx_l, zbx_r, zj0, zj1, zj2, zj3, zset_2, zput_1, if_true, if_false, zar_p, zld_p, zst_p, zdv_p, zrm_p, zc01_p, zb_p, zb_n, if_pos, if_neg]
    · obtain ⟨g1, g2⟩ := h1 i hi (by omega)
      by_cases hk : zhk C n u i
      · obtain ⟨g3, g4, g5, g6⟩ := g2 hk.2.1
        obtain ⟨z1, -, z3⟩ := hz i
        obtain ⟨z4, z5, z6⟩ := z3 (fun q => by have := q.1; omega)
        have v2 := h2 i hk
        have bz := zfr_b (w := w) hs2 ha g5
        have hzz : m_X7_sizeOf (zrp (zrp C 14 f) 16 l) u = some (s, zrp (zrp C 14 f) 16 l) := by
          rw [p_X7_sizeOf (zrp (zrp C 14 f) 16 l) u hU]
          have q : 0 ≤ u ∧ u < (zrp (zrp C 14 f) 16 l).1 1 := hu
          rw [if_pos q]; exact congrArg (fun t => some (t, zrp (zrp C 14 f) 16 l)) hs
        have hww : ∀ k, 0 ≤ k → k < s → m_X7_wordAt (zrp (zrp C 14 f) 16 l) u k = some ((zrp (zrp M 13 l') 12 f').2 1 (12 * u + k), zrp (zrp C 14 f) 16 l) := fun k k1 k2 => by
          rw [p_X7_wordAt (zrp (zrp C 14 f) 16 l) u k hU hS]
          have q : (0 ≤ u ∧ u < (zrp (zrp C 14 f) 16 l).1 1) ∧ 0 ≤ k ∧ k < (zrp (zrp C 14 f) 16 l).2 2 u := ⟨hu, k1, hs ▸ k2⟩
          rw [if_pos q]
          have q2 : (zrp (zrp C 14 f) 16 l).2 1 (u * 12 + k) = (zrp (zrp M 13 l') 12 f').2 1 (12 * u + k) := by
            rw [show u * 12 + k = 12 * u + k by omega]; exact (hw k k1 k2).symm
          rw [q2]
        obtain ⟨r, r1, r2, r3⟩ := q_near (C := zrp (zrp C 14 f) 16 l) (M := zrp (zrp M 13 l') 12 f') (u := u) (wd := C.2 15 i) (s := zfr s a w (M.2 12 i)) (n := s) ⟨hu.1, by omega⟩ hs' ⟨by omega, hs2.2⟩ hzz hww ⟨bz.1, by omega⟩
        have st1 := q_hk1 (S := zrp (zrp C 14 f) 16 l) (u := u) (x := x) (i := i) (rec := rec) (j1 := (fun (v1 : Int) (S1 : zSt) => some (v1, S1) : Int → zSt → Option zRes)) e1 hn2.2 ⟨hi, by omega⟩ ⟨x1, by omega⟩ hk.2.1 hk.2.2 (r := r) (by
          have e : (zrp (zrp C 14 f) 16 l).2 14 i = zfr s a w (M.2 12 i) := z4.trans v2
          rw [e]; exact r2) ⟨r1.1, by omega⟩ (by exact z1.2)
        have st2 := q_hk3 (S := zrp (zrp M 13 l') 12 f') (u := u) (a := a) (w := w) (x := x) (i := i) (s := s) (rec := rec2) (j1 := (fun (v1 : Int) (S1 : zSt) => some (v1, S1) : Int → zSt → Option zRes)) e2 hn2.2 ⟨hi, by omega⟩ ⟨hu.1, by omega⟩ ⟨x1, by omega⟩ (g1.trans hk.2.1) (g3.trans hk.2.2) hs' hs2 (by
          have e : (zrp (zrp M 13 l') 12 f').2 12 i = M.2 12 i := z5
          rw [e]; exact ⟨g5, g6⟩) ha (r := r) (by
          have e : (zrp (zrp M 13 l') 12 f').2 12 i = M.2 12 i := z5
          have e3 : (zrp (zrp M 13 l') 12 f').2 11 i = C.2 15 i := g4
          rw [e, e3]; exact r3) (by
          have e : (zrp (zrp M 13 l') 12 f').2 13 i = l i := z1.1
          rw [e]; exact z1.2)
        have y1 : (zrp (zrp C 14 f) 16 l).2 16 i = l i := rfl
        have y2 : (zrp (zrp M 13 l') 12 f').2 13 i = l i := z1.1
        have y3 : (zrp (zrp M 13 l') 12 f').2 12 i = M.2 12 i := z5
        rw [y1, zput_rp, zput_rp2 (a := 14) (b := 16) _ _ _ _ _ (by decide), zput_rp] at st1
        rw [y2, y3, zput_rp2 (a := 13) (b := 12) _ _ _ _ _ (by decide), zput_rp2 (a := 13) (b := 12) _ _ _ _ _ (by decide), zput_rp, zput_rp] at st2
        have hne : ∀ (F : Int → Int) (v : Int) (j : Int), j ≠ i → zfu F i v j = F j := fun F v j e => zfu_n F v e
        by_cases c1 : r = -1
        · rw [if_pos c1] at st1 st2
          by_cases c2 : l i = 1
          · rw [if_pos c2] at st1 st2
            refine Or.inr ⟨d - 1, x, i + 1, _, x, i + 1, _, by omega, ⟨rfl, rfl, by omega, by omega, by omega, by omega, f, l, zfu f' i (zfr s a w (M.2 12 i)), zfu l' i 1, rfl, rfl, zho_s hz hk (fun j e => ⟨rfl, rfl, hne _ _ _ e, hne _ _ _ e⟩) ?_ ?_⟩, st1, st2⟩
            · rw [zfu_e]; exact ⟨c2.symm, Or.inr c2⟩
            · rw [zfu_e, z4, v2]; exact ⟨rfl, bz⟩
          · rw [if_neg c2] at st1 st2
            refine Or.inr ⟨d - 1, x + 1, i + 1, _, x + 1, i + 1, _, by omega, ⟨rfl, rfl, by omega, by omega, by omega, by omega, f, zfu l i 1, zfu f' i (zfr s a w (M.2 12 i)), zfu l' i 1, rfl, rfl, zho_s hz hk (fun j e => ⟨rfl, hne _ _ _ e, hne _ _ _ e, hne _ _ _ e⟩) ?_ ?_⟩, st1, st2⟩
            · rw [zfu_e, zfu_e]; exact ⟨rfl, Or.inr rfl⟩
            · rw [zfu_e, z4, v2]; exact ⟨rfl, bz⟩
        · rw [if_neg c1] at st1 st2
          by_cases c2 : l i = 0
          · rw [if_pos c2] at st1 st2
            refine Or.inr ⟨d - 1, x, i + 1, _, x, i + 1, _, by omega, ⟨rfl, rfl, by omega, by omega, by omega, by omega, zfu f i r, l, zfu f' i r, zfu l' i 0, rfl, rfl, zho_s hz hk (fun j e => ⟨hne _ _ _ e, rfl, hne _ _ _ e, hne _ _ _ e⟩) ?_ ?_⟩, st1, st2⟩
            · rw [zfu_e]; exact ⟨c2.symm, Or.inl c2⟩
            · rw [zfu_e, zfu_e]; exact ⟨rfl, by omega, by omega⟩
          · rw [if_neg c2] at st1 st2
            refine Or.inr ⟨d - 1, x + 1, i + 1, _, x + 1, i + 1, _, by omega, ⟨rfl, rfl, by omega, by omega, by omega, by omega, zfu f i r, zfu l i 0, zfu f' i r, zfu l' i 0, rfl, rfl, zho_s hz hk (fun j e => ⟨hne _ _ _ e, hne _ _ _ e, hne _ _ _ e, hne _ _ _ e⟩) ?_ ?_⟩, st1, st2⟩
            · rw [zfu_e, zfu_e]; exact ⟨rfl, Or.inl rfl⟩
            · rw [zfu_e, zfu_e]; exact ⟨rfl, by omega, by omega⟩
      · refine Or.inr ⟨d - 1, x, i + 1, _, x, i + 1, _, by omega, ⟨rfl, rfl, by omega, by omega, by omega, by omega, f, l, f', l', rfl, rfl, zho_n hz hk⟩, q_hk2 (S := zrp (zrp C 14 f) 16 l) e1 hn2.2 ⟨hi, by omega⟩ (fun q => hk ⟨⟨hi, by omega⟩, q⟩), q_hk4 (S := zrp (zrp M 13 l') 12 f') e2 hn2.2 ⟨hi, by omega⟩ (fun q => ?_)⟩
        have q1 : C.2 11 i = -1 := g1.symm.trans q.1
        exact hk ⟨⟨hi, by omega⟩, q1, (g2 q1).1.symm.trans q.2⟩
  · rw [zrp_self]
    exact (zrp_self C 16).symm
  · rw [zrp_self]
    exact (zrp_self M 12).symm
  · exact fun j => ⟨h3 j, fun q => absurd q.1 (by have := q.2.1; omega), fun _ => ⟨rfl, rfl, rfl⟩⟩

