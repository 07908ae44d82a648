/-! p28, the pure side: a word emended or taken out, and the hooks -/
def zst7 (io gap n x : Int) : Int := if io = 1 ∧ gap < x then x - 1 else if io = 1 ∧ n ≤ x then n - 1 else x
theorem zst7_b {io gap n x : Int} (hn : 1 ≤ n) (hg : 0 ≤ gap) (hx : 0 ≤ x) (hx2 : x < n + io) (hio : io = 0 ∨ io = 1) : 0 ≤ zst7 io gap n x ∧ zst7 io gap n x < n := by
  unfold zst7
  repeat' split
  all_goals omega
theorem q_lk {S : zSt} {k n gap io x i v s : Int} {rec : Int → Int → zSt → Option zL5} {j10 : Int → Int → zSt → Option zL5} (hn : 1 ≤ n ∧ n ≤ 12) (hk : k ≤ 60) (hi : 0 ≤ i ∧ i < k) (hx : 0 ≤ x ∧ x ≤ 60) (hp : 0 ≤ S.2 5 i ∧ S.2 5 i ≤ 12) (hio : io = 0 ∨ io = 1) (hs : zst7 io gap n (S.2 5 i) = s) (hv : m_L_near S n (S.2 3 i) s = some (v, S)) (hl : S.2 7 i = 0 ∨ S.2 7 i = 1) : b_L_law_405 k j10 io gap n rec x i S = (if v < 0 then (if S.2 7 i = 1 then rec x (i + 1) (zput (zput S 7 i 1) 5 i s) else rec (x + 1) (i + 1) (zput (zput S 7 i 1) 5 i s)) else (if S.2 7 i = 0 then rec x (i + 1) (zput (zput S 7 i 0) 5 i v) else rec (x + 1) (i + 1) (zput (zput S 7 i 0) 5 i v))) := by
  unfold zst7 at hs
  rcases hio with rfl | rfl
  · rw [if_neg (by omega), if_neg (by omega)] at hs
    subst hs
    by_cases cv : v < 0
    · rcases hl with hl1 | hl1
      · simp (disch := omega) only [b_L_law_405, hv, hl1, Int.add_zero, ↓zj0, ↓zj1, ↓zj2, ↓zj3, ↓zbd_s, ↓zar_p, ↓zld_p, ↓zst_p, ↓if_pos, ↓if_neg, if_true, if_false]
      · simp (disch := omega) only [b_L_law_405, hv, hl1, Int.add_zero, ↓zj0, ↓zj1, ↓zj2, ↓zj3, ↓zbd_s, ↓zar_p, ↓zld_p, ↓zst_p, ↓if_pos, ↓if_neg, if_true, if_false]
    · rcases hl with hl1 | hl1
      · simp (disch := omega) only [b_L_law_405, hv, hl1, Int.add_zero, ↓zj0, ↓zj1, ↓zj2, ↓zj3, ↓zbd_s, ↓zar_p, ↓zld_p, ↓zst_p, ↓if_pos, ↓if_neg, if_true, if_false]
      · simp (disch := omega) only [b_L_law_405, hv, hl1, Int.add_zero, ↓zj0, ↓zj1, ↓zj2, ↓zj3, ↓zbd_s, ↓zar_p, ↓zld_p, ↓zst_p, ↓if_pos, ↓if_neg, if_true, if_false]
  · by_cases g1 : gap < S.2 5 i
    · rw [if_pos (by omega)] at hs
      subst hs
      by_cases cv : v < 0
      · rcases hl with hl1 | hl1
        · simp (disch := omega) only [b_L_law_405, hv, hl1, Int.add_zero, ↓zj0, ↓zj1, ↓zj2, ↓zj3, ↓zbd_s, ↓zar_p, ↓zld_p, ↓zst_p, ↓if_pos, ↓if_neg, if_true, if_false]
        · simp (disch := omega) only [b_L_law_405, hv, hl1, Int.add_zero, ↓zj0, ↓zj1, ↓zj2, ↓zj3, ↓zbd_s, ↓zar_p, ↓zld_p, ↓zst_p, ↓if_pos, ↓if_neg, if_true, if_false]
      · rcases hl with hl1 | hl1
        · simp (disch := omega) only [b_L_law_405, hv, hl1, Int.add_zero, ↓zj0, ↓zj1, ↓zj2, ↓zj3, ↓zbd_s, ↓zar_p, ↓zld_p, ↓zst_p, ↓if_pos, ↓if_neg, if_true, if_false]
        · simp (disch := omega) only [b_L_law_405, hv, hl1, Int.add_zero, ↓zj0, ↓zj1, ↓zj2, ↓zj3, ↓zbd_s, ↓zar_p, ↓zld_p, ↓zst_p, ↓if_pos, ↓if_neg, if_true, if_false]
    · rw [if_neg (by omega)] at hs
      by_cases g2 : n ≤ S.2 5 i
      · rw [if_pos (by omega)] at hs
        subst hs
        by_cases cv : v < 0
        · rcases hl with hl1 | hl1
          · simp (disch := omega) only [b_L_law_405, hv, hl1, Int.add_zero, ↓zj0, ↓zj1, ↓zj2, ↓zj3, ↓zbd_s, ↓zar_p, ↓zld_p, ↓zst_p, ↓if_pos, ↓if_neg, if_true, if_false]
          · simp (disch := omega) only [b_L_law_405, hv, hl1, Int.add_zero, ↓zj0, ↓zj1, ↓zj2, ↓zj3, ↓zbd_s, ↓zar_p, ↓zld_p, ↓zst_p, ↓if_pos, ↓if_neg, if_true, if_false]
        · rcases hl with hl1 | hl1
          · simp (disch := omega) only [b_L_law_405, hv, hl1, Int.add_zero, ↓zj0, ↓zj1, ↓zj2, ↓zj3, ↓zbd_s, ↓zar_p, ↓zld_p, ↓zst_p, ↓if_pos, ↓if_neg, if_true, if_false]
          · simp (disch := omega) only [b_L_law_405, hv, hl1, Int.add_zero, ↓zj0, ↓zj1, ↓zj2, ↓zj3, ↓zbd_s, ↓zar_p, ↓zld_p, ↓zst_p, ↓if_pos, ↓if_neg, if_true, if_false]
      · rw [if_neg (by omega)] at hs
        subst hs
        by_cases cv : v < 0
        · rcases hl with hl1 | hl1
          · simp (disch := omega) only [b_L_law_405, hv, hl1, Int.add_zero, ↓zj0, ↓zj1, ↓zj2, ↓zj3, ↓zbd_s, ↓zar_p, ↓zld_p, ↓zst_p, ↓if_pos, ↓if_neg, if_true, if_false]
          · simp (disch := omega) only [b_L_law_405, hv, hl1, Int.add_zero, ↓zj0, ↓zj1, ↓zj2, ↓zj3, ↓zbd_s, ↓zar_p, ↓zld_p, ↓zst_p, ↓if_pos, ↓if_neg, if_true, if_false]
        · rcases hl with hl1 | hl1
          · simp (disch := omega) only [b_L_law_405, hv, hl1, Int.add_zero, ↓zj0, ↓zj1, ↓zj2, ↓zj3, ↓zbd_s, ↓zar_p, ↓zld_p, ↓zst_p, ↓if_pos, ↓if_neg, if_true, if_false]
          · simp (disch := omega) only [b_L_law_405, hv, hl1, Int.add_zero, ↓zj0, ↓zj1, ↓zj2, ↓zj3, ↓zbd_s, ↓zar_p, ↓zld_p, ↓zst_p, ↓if_pos, ↓if_neg, if_true, if_false]
/-- the hooks anew, on both sides -/
def zhl (Ca : zSt) (p l : Int → Int) (n i : Int) (f g p' l' : Int → Int) : Prop := (∀ j, 0 ≤ j → j < i → f j = p' j ∧ (0 ≤ p' j ∧ p' j < n) ∧ g j = l' j ∧ (l' j = 0 ∨ l' j = 1)) ∧ ∀ j, ¬ (0 ≤ j ∧ j < i) → f j = Ca.2 14 j ∧ p' j = p j ∧ g j = Ca.2 16 j ∧ l' j = l j
theorem zhl_s {Ca : zSt} {p l : Int → Int} {n i : Int} {f g p' l' f9 g9 p9 l9 : Int → Int} (h : zhl Ca p l n i f g p' l') (h0 : 0 ≤ i) (e : ∀ j, j ≠ i → f9 j = f j ∧ g9 j = g j ∧ p9 j = p' j ∧ l9 j = l' j) (e1 : f9 i = p9 i) (e2 : 0 ≤ p9 i ∧ p9 i < n) (e3 : g9 i = l9 i) (e4 : l9 i = 0 ∨ l9 i = 1) : zhl Ca p l n (i + 1) f9 g9 p9 l9 := by
  refine ⟨fun j j1 j2 => ?_, fun j hj => ?_⟩
  · by_cases q : j = i
    · rw [q]; exact ⟨e1, e2, e3, e4⟩
    · obtain ⟨a1, a2, a3, a4⟩ := e j q
      rw [a1, a2, a3, a4]
      exact h.1 j j1 (by omega)
  · have q : j ≠ i := fun q => hj (by omega)
    obtain ⟨a1, a2, a3, a4⟩ := e j q
    rw [a1, a2, a3, a4]
    exact h.2 j (fun z => hj ⟨z.1, by omega⟩)
theorem q_hll {Ca C : zSt} {r w p l : Int → Int} {k n gap io : Int} (hk : Ca.1 3 = k) (hk2 : 0 ≤ k ∧ k ≤ 60) (hu : Ca.1 1 = 1) (hs : Ca.2 2 0 = n) (hn : 1 ≤ n ∧ n ≤ 12) (hr : ∀ j, 0 ≤ j → j < n → Ca.2 1 j = r j) (hio : io = 0 ∨ io = 1) (hg : 0 ≤ gap) (hh : ∀ i, 0 ≤ i → i < k → Ca.2 11 i = -1 ∧ Ca.2 13 i = 0 ∧ Ca.2 15 i = w i ∧ Ca.2 14 i = zst7 io gap n (p i) ∧ (0 ≤ p i ∧ p i < n + io) ∧ Ca.2 16 i = l i ∧ (l i = 0 ∨ l i = 1)) : ∀ (d q1 q2 : Nat) (x i : Int) (f g p' l' : Int → Int), 0 ≤ i → i + d = k → 0 ≤ x ∧ x ≤ i → zhl Ca p l n i f g p' l' → d < q1 → d < q2 → ∃ x9 f9 g9 p9 l9, zl2 q1 (b_X1_hookAnew_5 0 (fun (v1 : Int) (S1 : zSt) => some (v1, S1) : Int → zSt → Option zRes)) x i (zrp (zrp Ca 14 f) 16 g) = some (x9, zrp (zrp Ca 14 f9) 16 g9) ∧ (∀ j10 : Int → Int → zSt → Option zL5, zl2 q2 (b_L_law_405 k j10 io gap n) x i (zLw C r w p' l') = j10 n x9 (zLw C r w p9 l9)) ∧ zhl Ca p l n k f9 g9 p9 l9 := by
  intro d
  induction d with
  | zero =>
    intro q1 q2 x i f g p' l' a1 a2 a3 hz b1 b2
    obtain ⟨q1, rfl⟩ : ∃ k, q1 = k + 1 := ⟨q1 - 1, by omega⟩
    obtain ⟨q2, rfl⟩ : ∃ k, q2 = k + 1 := ⟨q2 - 1, by omega⟩
    have e1 : (zrp (zrp Ca 14 f) 16 g).1 3 = k := hk
    refine ⟨x, f, g, p', l', ?_, fun j10 => ?_, by rw [show k = i by omega]; exact hz⟩
    · clear hz hh hr; simp (disch := omega) only [zl2_s, b_X1_hookAnew_5, e1, ↓zj0, ↓zj1, ↓zj2, ↓zj3, ↓zbd_s, ↓zar_p, ↓zld_p, ↓zst_p, ↓if_pos, ↓if_neg, if_true, if_false, zlt]
    · clear hz hh hr; simp (disch := omega) only [zl2_s, b_L_law_405, ↓zj0, ↓zj1, ↓zj2, ↓zj3, ↓zbd_s, ↓zar_p, ↓zld_p, ↓zst_p, ↓if_pos, ↓if_neg, if_true, if_false]
  | succ d ih =>
    intro q1 q2 x i f g p' l' a1 a2 a3 hz b1 b2
    obtain ⟨q1, rfl⟩ : ∃ k, q1 = k + 1 := ⟨q1 - 1, by omega⟩
    obtain ⟨q2, rfl⟩ : ∃ k, q2 = k + 1 := ⟨q2 - 1, by omega⟩
    have e1 : (zrp (zrp Ca 14 f) 16 g).1 3 = k := hk
    obtain ⟨h1, h2, h3, h4, h5, h6, h7⟩ := hh i a1 (by omega)
    obtain ⟨z1, z2, z3, z4⟩ := hz.2 i (by omega)
    have hb := zst7_b (gap := gap) hn.1 hg h5.1 h5.2 hio
    have hzz : m_X7_sizeOf (zrp (zrp Ca 14 f) 16 g) 0 = some (n, zrp (zrp Ca 14 f) 16 g) := p_sz hu hs
    have hww : ∀ q, 0 ≤ q → q < n → m_X7_wordAt (zrp (zrp Ca 14 f) 16 g) 0 q = some ((zLw C r w p' l').2 1 q, zrp (zrp Ca 14 f) 16 g) := fun q q1 q2 => by
      rw [p_wa (C := zrp (zrp Ca 14 f) 16 g) hu hs hn.2 q q1, if_pos q2]
      exact congrArg (fun t => some (t, zrp (zrp Ca 14 f) 16 g)) (hr q q1 q2)
    obtain ⟨v, v1, v2, v3⟩ := q_nr (wd := w i) (s := zst7 io gap n (p i)) hn hzz hww hb
    have st1 := q_hk1 (S := zrp (zrp Ca 14 f) 16 g) (u := 0) (x := x) (i := i) (rec := zl2 q1 (b_X1_hookAnew_5 0 (fun (v1 : Int) (S1 : zSt) => some (v1, S1) : Int → zSt → Option zRes))) (j1 := (fun (v1 : Int) (S1 : zSt) => some (v1, S1) : Int → zSt → Option zRes)) e1 hk2.2 ⟨a1, by omega⟩ ⟨a3.1, by omega⟩ h1 h2 (r := v) (by
      have q1 : (zrp (zrp Ca 14 f) 16 g).2 15 i = w i := h3
      have q2 : (zrp (zrp Ca 14 f) 16 g).2 14 i = zst7 io gap n (p i) := z1.trans h4
      rw [q1, q2]; exact v2) ⟨v1.1, by omega⟩ (by
      have q1 : (zrp (zrp Ca 14 f) 16 g).2 16 i = l i := z3.trans h6
      rw [q1]; exact h7)
    have st2 : ∀ j10 : Int → Int → zSt → Option zL5, b_L_law_405 k j10 io gap n (zl2 q2 (b_L_law_405 k j10 io gap n)) x i (zLw C r w p' l') = (if v < 0 then (if l i = 1 then zl2 q2 (b_L_law_405 k j10 io gap n) x (i + 1) (zLw C r w (zfu p' i (zst7 io gap n (p i))) (zfu l' i 1)) else zl2 q2 (b_L_law_405 k j10 io gap n) (x + 1) (i + 1) (zLw C r w (zfu p' i (zst7 io gap n (p i))) (zfu l' i 1))) else (if l i = 0 then zl2 q2 (b_L_law_405 k j10 io gap n) x (i + 1) (zLw C r w (zfu p' i v) (zfu l' i 0)) else zl2 q2 (b_L_law_405 k j10 io gap n) (x + 1) (i + 1) (zLw C r w (zfu p' i v) (zfu l' i 0)))) := fun j10 => by
      have e := q_lk (S := zLw C r w p' l') (k := k) (n := n) (gap := gap) (io := io) (x := x) (i := i) (v := v) (s := zst7 io gap n (p i)) (rec := zl2 q2 (b_L_law_405 k j10 io gap n)) (j10 := j10) hn hk2.2 ⟨a1, by omega⟩ ⟨a3.1, by omega⟩ (by rw [zLw_5, z2]; omega) hio (by rw [zLw_5, z2]) (by rw [zLw_3]; exact v3) (by rw [zLw_7, z4]; exact h7)
      rw [zLw_7, z4, zLw_p7, zLw_p7, zLw_p5, zLw_p5] at e
      exact e
    have y1 : (zrp (zrp Ca 14 f) 16 g).2 16 i = l i := z3.trans h6
    rw [y1, zput_rp, zput_rp2 (a := 14) (b := 16) _ _ _ _ _ (by decide), zput_rp] at st1
    have hne : ∀ (F : Int → Int) (v : Int) (j : Int), j ≠ i → zfu F i v j = F j := fun F v j e => zfu_n F v e
    rw [zl2_s]
    have st2 : ∀ j10 : Int → Int → zSt → Option zL5, zl2 (q2 + 1) (b_L_law_405 k j10 io gap n) x i (zLw C r w p' l') = _ := fun j10 => (zl2_s q2 _ x i _).trans (st2 j10)
    by_cases c1 : v = -1
    · rw [if_pos c1] at st1
      simp only [if_pos (show v < 0 by omega)] at st2
      by_cases c2 : l i = 1
      · rw [if_pos c2] at st1
        simp only [if_pos c2] at st2
        obtain ⟨x9, f9, g9, p9, l9, i1, i2, i3⟩ := ih q1 q2 x (i + 1) f g (zfu p' i (zst7 io gap n (p i))) (zfu l' i 1) (by omega) (by omega) (by omega) (zhl_s hz a1 (fun j e => ⟨rfl, rfl, hne _ _ _ e, hne _ _ _ e⟩) (by rw [zfu_e, z1, h4]) (by rw [zfu_e]; exact hb) (by rw [zfu_e, z3, h6, c2]) (by rw [zfu_e]; exact Or.inr rfl)) (by omega) (by omega)
        exact ⟨x9, f9, g9, p9, l9, st1.trans i1, fun j10 => (st2 j10).trans (i2 j10), i3⟩
      · rw [if_neg c2] at st1
        simp only [if_neg c2] at st2
        obtain ⟨x9, f9, g9, p9, l9, i1, i2, i3⟩ := ih q1 q2 (x + 1) (i + 1) f (zfu g i 1) (zfu p' i (zst7 io gap n (p i))) (zfu l' i 1) (by omega) (by omega) (by omega) (zhl_s hz a1 (fun j e => ⟨rfl, hne _ _ _ e, hne _ _ _ e, hne _ _ _ e⟩) (by rw [zfu_e, z1, h4]) (by rw [zfu_e]; exact hb) (by rw [zfu_e, zfu_e]) (by rw [zfu_e]; exact Or.inr rfl)) (by omega) (by omega)
        exact ⟨x9, f9, g9, p9, l9, st1.trans i1, fun j10 => (st2 j10).trans (i2 j10), i3⟩
    · rw [if_neg c1] at st1
      simp only [if_neg (show ¬ v < 0 by omega)] at st2
      by_cases c2 : l i = 0
      · rw [if_pos c2] at st1
        simp only [if_pos c2] at st2
        obtain ⟨x9, f9, g9, p9, l9, i1, i2, i3⟩ := ih q1 q2 x (i + 1) (zfu f i v) g (zfu p' i v) (zfu l' i 0) (by omega) (by omega) (by omega) (zhl_s hz a1 (fun j e => ⟨hne _ _ _ e, rfl, hne _ _ _ e, hne _ _ _ e⟩) (by rw [zfu_e, zfu_e]) (by rw [zfu_e]; omega) (by rw [zfu_e, z3, h6, c2]) (by rw [zfu_e]; exact Or.inl rfl)) (by omega) (by omega)
        exact ⟨x9, f9, g9, p9, l9, st1.trans i1, fun j10 => (st2 j10).trans (i2 j10), i3⟩
      · rw [if_neg c2] at st1
        simp only [if_neg c2] at st2
        obtain ⟨x9, f9, g9, p9, l9, i1, i2, i3⟩ := ih q1 q2 (x + 1) (i + 1) (zfu f i v) (zfu g i 0) (zfu p' i v) (zfu l' i 0) (by omega) (by omega) (by omega) (zhl_s hz a1 (fun j e => ⟨hne _ _ _ e, hne _ _ _ e, hne _ _ _ e, hne _ _ _ e⟩) (by rw [zfu_e, zfu_e]) (by rw [zfu_e]; omega) (by rw [zfu_e, zfu_e]) (by rw [zfu_e]; exact Or.inl rfl)) (by omega) (by omega)
        exact ⟨x9, f9, g9, p9, l9, st1.trans i1, fun j10 => (st2 j10).trans (i2 j10), i3⟩
theorem q_hl {Ca C : zSt} {r w p l : Int → Int} {k n gap io : Int} (hk : Ca.1 3 = k) (hk2 : 0 ≤ k ∧ k ≤ 60) (hu : Ca.1 1 = 1) (hs : Ca.2 2 0 = n) (hn : 1 ≤ n ∧ n ≤ 12) (hr : ∀ j, 0 ≤ j → j < n → Ca.2 1 j = r j) (hio : io = 0 ∨ io = 1) (hg : 0 ≤ gap) (hh : ∀ i, 0 ≤ i → i < k → Ca.2 11 i = -1 ∧ Ca.2 13 i = 0 ∧ Ca.2 15 i = w i ∧ Ca.2 14 i = zst7 io gap n (p i) ∧ (0 ≤ p i ∧ p i < n + io) ∧ Ca.2 16 i = l i ∧ (l i = 0 ∨ l i = 1)) : ∃ x f g p' l', m_X1_hookAnew Ca 0 = some (x, zrp (zrp Ca 14 f) 16 g) ∧ (∀ j10 : Int → Int → zSt → Option zL5, zl2 1000 (b_L_law_405 k j10 io gap n) 0 0 (zLw C r w p l) = j10 n x (zLw C r w p' l')) ∧ zhl Ca p l n k f g p' l' := by
  obtain ⟨x, f, g, p', l', e1, e2, e3⟩ := q_hll (C := C) hk hk2 hu hs hn hr hio hg hh k.toNat 1000 1000 0 0 (Ca.2 14) (Ca.2 16) p l (Int.le_refl 0) (by omega) (by omega) ⟨fun j j1 j2 => by omega, fun j _ => ⟨rfl, rfl, rfl, rfl⟩⟩ (by omega) (by omega)
  rw [zrp2_self] at e1
  exact ⟨x, f, g, p', l', e1, e2, e3⟩
/-! the law's row, a word taken out of it -/
theorem q_339a {C : zSt} {r w p l : Int → Int} {n a : Int} {j21 : zSt → Option zL5} (hn : 1 ≤ n ∧ n ≤ 12) (ha : 0 ≤ a ∧ a < n) : zl1 1000 (b_L_law_339 n j21 1) a (zLw C r w p l) = j21 (zLw C (zsh r a (n - 1)) w p l) := by
  refine zw1 (F := b_L_law_339 n j21 1) (fun d i T => (a ≤ i ∧ i + d = n - 1) ∧ T = zLw C (zsh r a i) w p l) (fun x => x = j21 (zLw C (zsh r a (n - 1)) w p l)) ?_ 1000 (n - 1 - a).toNat a (zLw C r w p l) ⟨by omega, by rw [zsh_0 r (Int.le_refl a)]⟩ (by omega)
  rintro rec d i T ⟨⟨a1, a2⟩, rfl⟩
  by_cases c : n - 1 ≤ i
  · refine Or.inl ?_
    rw [show n - 1 = i by omega]
    simp (disch := omega) only [b_L_law_339, ↓zj0, ↓zj1, ↓zj2, ↓zj3, ↓zbd_s, ↓zar_p, ↓zld_p, ↓zst_p, ↓if_pos, ↓if_neg, if_true, if_false]
  · refine Or.inr ⟨d - 1, i + 1, _, by omega, ⟨by omega, rfl⟩, ?_⟩
    have e : zLw C (zsh r a (i + 1)) w p l = zput (zLw C (zsh r a i) w p l) 1 i (r (i + 1)) := by rw [zLw_p1, zsh_s r (by omega)]
    have e2 : (zLw C (zsh r a i) w p l).2 1 (i + 1) = r (i + 1) := by rw [zLw_1, zsh_at r (by omega)]
    rw [e]
    generalize zLw C (zsh r a i) w p l = T at *
    simp (disch := omega) only [b_L_law_339, e2, ↓zj0, ↓zj1, ↓zj2, ↓zj3, ↓zbd_s, ↓zar_p, ↓zld_p, ↓zst_p, ↓if_pos, ↓if_neg, if_true, if_false]
theorem q_339b {S : zSt} {n a : Int} {j21 : zSt → Option zL5} (hn : 1 ≤ n ∧ n ≤ 12) (ha : 0 ≤ a ∧ a < n) : zl1 1000 (b_L_law_339 n j21 0) a S = j21 S := by
  refine (zl1_s 999 _ a S).trans ?_
  by_cases c : n - 1 ≤ a
  · simp (disch := omega) only [b_L_law_339, ↓zj0, ↓zj1, ↓zj2, ↓zj3, ↓zbd_s, ↓zar_p, ↓zld_p, ↓zst_p, ↓if_pos, ↓if_neg, if_true, if_false]
  · simp (disch := omega) only [b_L_law_339, ↓zj0, ↓zj1, ↓zj2, ↓zj3, ↓zbd_s, ↓zar_p, ↓zld_p, ↓zst_p, ↓if_pos, ↓if_neg, if_true, if_false]
