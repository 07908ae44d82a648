/-! THE RELATION between the class's state C and the reference's M -/
theorem zbx_l {R : Type} (r : Int) (S : zSt) (k : Int → zSt → Option (R ⊕ (String × zSt))) : zbx (some (.inl (r, S))) k = k r S := rfl
theorem zbx_r {R : Type} (e : String × zSt) (k : Int → zSt → Option (R ⊕ (String × zSt))) : zbx (some (.inr e)) k = some (.inr e) := rfl
def jPad (C M : zSt) : Prop := 0 ≤ C.1 0 ∧ C.1 0 ≤ 12 ∧ M.1 1 = C.1 0 ∧ ∀ i, 0 ≤ i → i < C.1 0 → M.2 0 i = C.2 0 i
def jTxt (C M : zSt) : Prop := 0 ≤ C.1 1 ∧ C.1 1 ≤ 20 ∧ M.1 2 = C.1 1 ∧ (∀ u, 0 ≤ u → u < C.1 1 → 1 ≤ C.2 2 u ∧ C.2 2 u ≤ 12 ∧ M.2 2 u = C.2 2 u) ∧ ∀ u k, 0 ≤ u → u < C.1 1 → 0 ≤ k → k < C.2 2 u → M.2 1 (12 * u + k) = C.2 1 (12 * u + k)
def jAut (C M : zSt) : Prop := 0 ≤ C.1 2 ∧ C.1 2 ≤ 12 ∧ M.1 3 = C.1 2 ∧ ∀ a, 0 ≤ a → a < C.1 2 → M.2 3 a = C.2 4 a ∧ M.2 4 a = C.2 5 a ∧ M.2 5 a = C.2 6 a
/-- a comment: by whom, its kind, lines, margin; on what, its root; of a hook its unit, word, place -/
def jCo (C M : zSt) (i : Int) : Prop := (M.2 6 i = C.2 7 i ∧ 0 ≤ C.2 7 i ∧ C.2 7 i < C.1 2) ∧ (M.2 7 i = C.2 8 i ∧ 0 ≤ C.2 8 i ∧ C.2 8 i ≤ 4) ∧ (M.2 14 i = C.2 9 i ∧ 1 ≤ C.2 9 i ∧ C.2 9 i ≤ 9) ∧ (M.2 15 i = C.2 10 i ∧ 0 ≤ C.2 10 i ∧ C.2 10 i ≤ 1) ∧ (M.2 8 i = C.2 11 i ∧ -1 ≤ C.2 11 i ∧ C.2 11 i < i) ∧ (M.2 9 i = C.2 12 i ∧ 0 ≤ C.2 12 i ∧ C.2 12 i ≤ i ∧ C.2 11 (C.2 12 i) = -1 ∧ (C.2 11 i = -1 → C.2 12 i = i)) ∧ M.2 10 i = C.2 13 (C.2 12 i) ∧ (C.2 11 i = -1 → 0 ≤ C.2 13 i ∧ C.2 13 i < C.1 1 ∧ M.2 11 i = C.2 15 i ∧ M.2 12 i = C.2 14 i ∧ 0 ≤ C.2 14 i ∧ C.2 14 i < C.2 2 (C.2 13 i))
def jCom (C M : zSt) : Prop := 0 ≤ C.1 3 ∧ C.1 3 ≤ 60 ∧ M.1 4 = C.1 3 ∧ (∀ i, 0 ≤ i → i < C.1 3 → jCo C M i) ∧ ∀ i, M.2 13 i = C.2 16 i ∧ (C.2 16 i = 0 ∨ C.2 16 i = 1) ∧ (¬ (0 ≤ i ∧ i < C.1 3 ∧ C.2 11 i = -1) → C.2 16 i = 0)
abbrev zbit (x : Int) (a : Int) : Prop := x.toNat.testBit a.toNat = true
def jRul (C M : zSt) : Prop := ∀ t, 0 ≤ t → t < 10 → (0 ≤ C.2 18 t ∧ C.2 18 t < 4096) ∧ (0 ≤ C.2 19 t ∧ C.2 19 t < 4096) ∧ ∀ a, 0 ≤ a → a < 12 → (zbit (C.2 18 t) a ↔ M.2 17 (10 * a + t) ≠ -1) ∧ (zbit (C.2 19 t) a ↔ M.2 17 (10 * a + t) = 1) ∧ (M.2 17 (10 * a + t) = -1 ∨ M.2 17 (10 * a + t) = 0 ∨ M.2 17 (10 * a + t) = 1) ∧ (C.1 2 ≤ a → M.2 17 (10 * a + t) = -1)
def jFol (C M : zSt) : Prop := 0 ≤ C.1 4 ∧ C.1 4 ≤ 6 ∧ M.1 5 = C.1 4 ∧ ∀ k, 0 ≤ k → k < C.1 4 → M.2 18 k = C.2 20 k ∧ M.2 19 k = C.2 21 k ∧ 0 ≤ C.2 20 k ∧ C.2 20 k ≤ 3 ∧ (C.2 20 k = 0 → 0 ≤ C.2 21 k ∧ C.2 21 k ≤ 3) ∧ (C.2 20 k = 3 → 0 ≤ C.2 21 k ∧ C.2 21 k ≤ 19)
def jEdi (C M : zSt) : Prop := 0 ≤ C.1 9 ∧ C.1 9 ≤ 8 ∧ M.1 6 = C.1 9 ∧ (0 < C.1 9 → M.2 20 (C.1 9 - 1) = C.1 10 ∧ 1 ≤ C.1 10 ∧ C.1 10 ≤ 12) ∧ ∀ e, 0 ≤ e → e < C.1 9 → M.2 21 e = C.2 26 e ∧ 1 ≤ C.2 26 e ∧ 0 ≤ C.2 27 e ∧ C.2 27 e ≤ 20 ∧ ∀ u, 0 ≤ u → u < 20 → (u < C.2 27 e → M.2 22 (20 * e + u) = C.2 25 (20 * e + u) ∧ 0 ≤ C.2 25 (20 * e + u)) ∧ (C.2 27 e ≤ u → M.2 22 (20 * e + u) = -1)
def J (C M : zSt) : Prop := (RG bsC C ∧ RG bsM M) ∧ jPad C M ∧ jTxt C M ∧ jAut C M ∧ jCom C M ∧ jRul C M ∧ jFol C M ∧ jEdi C M
/-- but for the bounds of all numbers, which the machine's side gives -/
def Jn (C M : zSt) : Prop := jPad C M ∧ jTxt C M ∧ jAut C M ∧ jCom C M ∧ jRul C M ∧ jFol C M ∧ jEdi C M
theorem J.thr {C M : zSt} (h : J C M) (k : Int) : Jn C (zset M 0 k) := h.2
/-- one call: class and reference answer alike -/
def Sim (hs : List String) (pm : Option zRes) (px : Option zRx) : Prop := ∃ (b : Int) (M' : zSt), pm = some (b, M') ∧ ∃ r, px = some r ∧ (match r with
  | .inl q => M'.1 0 = 0 ∧ q.1 = b ∧ Jn q.2 M'
  | .inr q => q.1 ∈ hs ∧ M'.1 0 = ((hs.idxOf q.1 : Nat) : Int) + 1 ∧ Jn q.2 M')
def SimN (pm : Option zRes) (px : Option zRes) : Prop := ∃ (b : Int) (C' M' : zSt), pm = some (b, M') ∧ px = some (b, C') ∧ Jn C' M'
theorem Sim.ok {hs : List String} {pm : Option zRes} {px : Option zRx} {b : Int} {C' M' : zSt} (h1 : pm = some (b, M')) (h2 : px = some (.inl (b, C'))) (h3 : M'.1 0 = 0) (h4 : Jn C' M') : Sim hs pm px := ⟨b, M', h1, _, h2, h3, rfl, h4⟩
theorem Sim.no {hs : List String} {pm : Option zRes} {px : Option zRx} {b : Int} {E : String} {C' M' : zSt} (h1 : pm = some (b, M')) (h2 : px = some (.inr (E, C'))) (hE : E ∈ hs) (h3 : M'.1 0 = ((hs.idxOf E : Nat) : Int) + 1) (h4 : Jn C' M') : Sim hs pm px := ⟨b, M', h1, _, h2, hE, h3, h4⟩
theorem p_X4_isFull (S : zSt) : m_X4_isFull S = some (zb (12 ≤ S.1 0), S) := by
  simp only [m_X4_isFull, zlt, zb]
  repeat' split
  all_goals first | rfl | (exfalso; omega)
theorem p_X4_add (S : zSt) (a : Int) (h0 : 0 ≤ S.1 0) (h : S.1 0 < 12) : m_X4_add S a = some (0, zset (zput S 0 (S.1 0) a) 0 (S.1 0 + 1)) := by
  simp (disch := omega) only [m_X4_add, p_X4_isFull, zlt, zbd_s, zbx_l, zbx_r, zj0, zj1, zj2, zj3, zset_2, zput_1, if_true, if_false, zar_p, zld_p, zst_p, zdv_p, zrm_p, zc01_p, zb_p, zb_n, if_pos, if_neg]
theorem s_word {C M : zSt} {a : Int} (hJ : J C M) : Sim ["java/lang/IllegalArgumentException", "java/lang/IllegalStateException"] (m_X9_word M a) (m_X8_word C a) := by
  obtain ⟨hRG, ⟨p1, p2, p3, p4⟩, hT, hA, hC, hR, hF, hE⟩ := id hJ
  by_cases h1 : 0 ≤ a ∧ a ≤ 59
  · by_cases h2 : 12 ≤ C.1 0
    · refine Sim.no (b := 0) (E := "java/lang/IllegalStateException") (M' := zset M 0 2) (C' := C) ?_ ?_ (by decide) rfl (hJ.thr 2)
      · simp (disch := omega) only [m_X9_word, p_X9_between, zset_e, p3, zlt, zbd_s, zbx_l, zbx_r, zj0, zj1, zj2, zj3, zset_2, zput_1, if_true, if_false, zar_p, zld_p, zst_p, zdv_p, zrm_p, zc01_p, zb_p, zb_n, if_pos, if_neg]
      · simp (disch := omega) only [m_X8_word, p_X8_needArgument, p_X4_isFull, zlt, zbd_s, zbx_l, zbx_r, zj0, zj1, zj2, zj3, zset_2, zput_1, if_true, if_false, zar_p, zld_p, zst_p, zdv_p, zrm_p, zc01_p, zb_p, zb_n, if_pos, if_neg]
    · refine Sim.ok (b := C.1 0 + 1) (M' := zset (zput (zset M 0 0) 0 (C.1 0) a) 1 (C.1 0 + 1)) (C' := zset (zput C 0 (C.1 0) a) 0 (C.1 0 + 1)) ?_ ?_ rfl ?_
      · simp (disch := omega) only [m_X9_word, p_X9_between, zset_e, zset_n, p3, zlt, zbd_s, zbx_l, zbx_r, zj0, zj1, zj2, zj3, zset_2, zput_1, if_true, if_false, zar_p, zld_p, zst_p, zdv_p, zrm_p, zc01_p, zb_p, zb_n, if_pos, if_neg]
      · simp (disch := omega) only [m_X8_word, p_X8_needArgument, p_X4_isFull, p_X4_add, m_X4_size, zset_e, zlt, zbd_s, zbx_l, zbx_r, zj0, zj1, zj2, zj3, zset_2, zput_1, if_true, if_false, zar_p, zld_p, zst_p, zdv_p, zrm_p, zc01_p, zb_p, zb_n, if_pos, if_neg]
      · refine ⟨⟨?_, ?_, rfl, fun i h3 h4 => ?_⟩, hT, hA, hC, hR, hF, hE⟩
        · show 0 ≤ C.1 0 + 1; omega
        · show C.1 0 + 1 ≤ 12; omega
        · have h4 : i < C.1 0 + 1 := h4
          show (if i = C.1 0 then a else M.2 0 i) = (if i = C.1 0 then a else C.2 0 i)
          by_cases e : i = C.1 0
          · rw [if_pos e, if_pos e]
          · rw [if_neg e, if_neg e]; exact p4 i h3 (by omega)
  · refine Sim.no (b := 0) (E := "java/lang/IllegalArgumentException") (M' := zset M 0 1) (C' := C) ?_ ?_ (by decide) rfl (hJ.thr 1)
    · simp (disch := omega) only [m_X9_word, p_X9_between, zset_e, zlt, zbd_s, zbx_l, zbx_r, zj0, zj1, zj2, zj3, zset_2, zput_1, if_true, if_false, zar_p, zld_p, zst_p, zdv_p, zrm_p, zc01_p, zb_p, zb_n, if_pos, if_neg]
    · simp (disch := omega) only [m_X8_word, p_X8_needArgument, zlt, zbd_s, zbx_l, zbx_r, zj0, zj1, zj2, zj3, zset_2, zput_1, if_true, if_false, zar_p, zld_p, zst_p, zdv_p, zrm_p, zc01_p, zb_p, zb_n, if_pos, if_neg]
theorem s_wipe {C M : zSt} (hJ : J C M) : SimN (m_X9_wipe M) (m_X8_wipe C) := by
  obtain ⟨hRG, ⟨p1, p2, p3, p4⟩, hT, hA, hC, hR, hF, hE⟩ := id hJ
  refine ⟨C.1 0, zset C 0 0, zset (zset M 0 0) 1 0, ?_, ?_, ?_⟩
  · simp (disch := omega) only [m_X9_wipe, zset_e, zset_n, p3, zlt, zbd_s, zbx_l, zbx_r, zj0, zj1, zj2, zj3, zset_2, zput_1, if_true, if_false, zar_p, zld_p, zst_p, zdv_p, zrm_p, zc01_p, zb_p, zb_n, if_pos, if_neg]
  · simp (disch := omega) only [m_X8_wipe, m_X4_size, m_X4_clear, zlt, zbd_s, zbx_l, zbx_r, zj0, zj1, zj2, zj3, zset_2, zput_1, if_true, if_false, zar_p, zld_p, zst_p, zdv_p, zrm_p, zc01_p, zb_p, zb_n, if_pos, if_neg]
  · exact ⟨⟨show (0 : Int) ≤ 0 by decide, show (0 : Int) ≤ 12 by decide, rfl, fun i h3 h4 => absurd (show i < 0 from h4) (by omega)⟩, hT, hA, hC, hR, hF, hE⟩
theorem p_X7_wordAt (S : zSt) (u k : Int) (h : S.1 1 ≤ 20) (hs : ∀ u, 0 ≤ u → u < S.1 1 → S.2 2 u ≤ 12) : m_X7_wordAt S u k = some (if (0 ≤ u ∧ u < S.1 1) ∧ 0 ≤ k ∧ k < S.2 2 u then S.2 1 (u * 12 + k) else -1, S) := by
  simp only [m_X7_wordAt, p_X7_hasPlace S u k h, zbd_s, zb_0]
  by_cases c : 0 ≤ u ∧ u < S.1 1
  · have hs1 := hs u c.1 c.2
    simp only [if_pos c]
    by_cases c2 : 0 ≤ k ∧ k < S.2 2 u
    · simp (disch := omega) only [zlt, zbd_s, zbx_l, zbx_r, zj0, zj1, zj2, zj3, zset_2, zput_1, if_true, if_false, zar_p, zld_p, zst_p, zdv_p, zrm_p, zc01_p, zb_p, zb_n, if_pos, if_neg]
    · simp (disch := omega) only [zlt, zbd_s, zbx_l, zbx_r, zj0, zj1, zj2, zj3, zset_2, zput_1, if_true, if_false, zar_p, zld_p, zst_p, zdv_p, zrm_p, zc01_p, zb_p, zb_n, if_pos, if_neg]
  · simp only [if_neg c]
    simp (disch := omega) only [zlt, zbd_s, zbx_l, zbx_r, zj0, zj1, zj2, zj3, zset_2, zput_1, if_true, if_false, zar_p, zld_p, zst_p, zdv_p, zrm_p, zc01_p, zb_p, zb_n, if_pos, if_neg]
theorem s_textOf {C M : zSt} {a b : Int} (hJ : J C M) : Sim ["java/lang/IndexOutOfBoundsException"] (m_X9_textOf M a b) (m_X8_textOf C a b) := by
  obtain ⟨hRG, hP, ⟨t1, t2, t3, t4, t5⟩, hA, hC, hR, hF, hE⟩ := id hJ
  by_cases h1 : 0 ≤ a ∧ a < C.1 1
  · have hz := t4 a h1.1 h1.2
    have hw := p_X7_wordAt C a b t2 (fun u h2 h3 => (t4 u h2 h3).2.1)
    by_cases h2 : 0 ≤ b
    · by_cases h3 : b < C.2 2 a
      · refine Sim.ok (b := C.2 1 (a * 12 + b)) (M' := zset M 0 0) (C' := C) ?_ ?_ rfl (hJ.thr 0)
        · have e := t5 a b h1.1 h1.2 h2 h3
          rw [show a * 12 + b = 12 * a + b by omega]
          simp (disch := omega) only [m_X9_textOf, p_X9_isUnit, zset_e, zset_n, t3, hz.2.2, e, zlt, zbd_s, zbx_l, zbx_r, zj0, zj1, zj2, zj3, zset_2, zput_1, if_true, if_false, zar_p, zld_p, zst_p, zdv_p, zrm_p, zc01_p, zb_p, zb_n, if_pos, if_neg]
        · simp (disch := omega) only [m_X8_textOf, p_X8_needUnit, hw, zlt, zbd_s, zbx_l, zbx_r, zj0, zj1, zj2, zj3, zset_2, zput_1, if_true, if_false, zar_p, zld_p, zst_p, zdv_p, zrm_p, zc01_p, zb_p, zb_n, if_pos, if_neg]
      · refine Sim.ok (b := -1) (M' := zset M 0 0) (C' := C) ?_ ?_ rfl (hJ.thr 0)
        · simp (disch := omega) only [m_X9_textOf, p_X9_isUnit, zset_e, zset_n, t3, hz.2.2, zlt, zbd_s, zbx_l, zbx_r, zj0, zj1, zj2, zj3, zset_2, zput_1, if_true, if_false, zar_p, zld_p, zst_p, zdv_p, zrm_p, zc01_p, zb_p, zb_n, if_pos, if_neg]
        · simp (disch := omega) only [m_X8_textOf, p_X8_needUnit, hw, zlt, zbd_s, zbx_l, zbx_r, zj0, zj1, zj2, zj3, zset_2, zput_1, if_true, if_false, zar_p, zld_p, zst_p, zdv_p, zrm_p, zc01_p, zb_p, zb_n, if_pos, if_neg]
    · refine Sim.no (b := 0) (E := "java/lang/IndexOutOfBoundsException") (M' := zset M 0 1) (C' := C) ?_ ?_ (by decide) rfl (hJ.thr 1)
      · simp (disch := omega) only [m_X9_textOf, p_X9_isUnit, zset_e, zset_n, t3, zlt, zbd_s, zbx_l, zbx_r, zj0, zj1, zj2, zj3, zset_2, zput_1, if_true, if_false, zar_p, zld_p, zst_p, zdv_p, zrm_p, zc01_p, zb_p, zb_n, if_pos, if_neg]
      · simp (disch := omega) only [m_X8_textOf, p_X8_needUnit, zlt, zbd_s, zbx_l, zbx_r, zj0, zj1, zj2, zj3, zset_2, zput_1, if_true, if_false, zar_p, zld_p, zst_p, zdv_p, zrm_p, zc01_p, zb_p, zb_n, if_pos, if_neg]
  · refine Sim.no (b := 0) (E := "java/lang/IndexOutOfBoundsException") (M' := zset M 0 1) (C' := C) ?_ ?_ (by decide) rfl (hJ.thr 1)
    · simp (disch := omega) only [m_X9_textOf, p_X9_isUnit, zset_e, zset_n, t3, zlt, zbd_s, zbx_l, zbx_r, zj0, zj1, zj2, zj3, zset_2, zput_1, if_true, if_false, zar_p, zld_p, zst_p, zdv_p, zrm_p, zc01_p, zb_p, zb_n, if_pos, if_neg]
    · simp (disch := omega) only [m_X8_textOf, p_X8_needUnit, zlt, zbd_s, zbx_l, zbx_r, zj0, zj1, zj2, zj3, zset_2, zput_1, if_true, if_false, zar_p, zld_p, zst_p, zdv_p, zrm_p, zc01_p, zb_p, zb_n, if_pos, if_neg]
theorem p_X0_add (S : zSt) (a b c : Int) (h0 : 0 ≤ S.1 2) (h : S.1 2 < 12) : m_X0_add S a b c = some (0, zset (zput (zput (zput S 4 (S.1 2) a) 5 (S.1 2) b) 6 (S.1 2) c) 2 (S.1 2 + 1)) := by
  simp (disch := omega) only [m_X0_add, p_X0_isFull, zlt, zbd_s, zbx_l, zbx_r, zj0, zj1, zj2, zj3, zset_2, zput_1, if_true, if_false, zar_p, zld_p, zst_p, zdv_p, zrm_p, zc01_p, zb_p, zb_n, if_pos, if_neg]
theorem s_author {C M : zSt} {a b c : Int} (hJ : J C M) : Sim ["java/lang/IllegalArgumentException", "java/lang/IllegalStateException"] (m_X9_author M a b c) (m_X8_author C a b c) := by
  obtain ⟨hRG, hP, hT, ⟨p1, p2, p3, p4⟩, hC, hR, hF, hE⟩ := id hJ
  by_cases h1 : 0 ≤ a ∧ a ≤ 2000
  · by_cases h2 : 0 ≤ b ∧ b ≤ 3
    · by_cases h3 : 0 ≤ c ∧ c ≤ 99
      · by_cases h4 : 12 ≤ C.1 2
        · refine Sim.no (b := 0) (E := "java/lang/IllegalStateException") (M' := zset M 0 2) (C' := C) ?_ ?_ (by decide) rfl (hJ.thr 2)
          · simp (disch := omega) only [m_X9_author, p_X9_between, zset_e, p3, zlt, zbd_s, zbx_l, zbx_r, zj0, zj1, zj2, zj3, zset_2, zput_1, if_true, if_false, zar_p, zld_p, zst_p, zdv_p, zrm_p, zc01_p, zb_p, zb_n, if_pos, if_neg]
          · simp (disch := omega) only [m_X8_author, p_X8_needArgument, p_X0_isFull, zlt, zbd_s, zbx_l, zbx_r, zj0, zj1, zj2, zj3, zset_2, zput_1, if_true, if_false, zar_p, zld_p, zst_p, zdv_p, zrm_p, zc01_p, zb_p, zb_n, if_pos, if_neg]
        · refine Sim.ok (b := C.1 2) (M' := zset (zput (zput (zput (zset M 0 0) 3 (C.1 2) a) 4 (C.1 2) b) 5 (C.1 2) c) 3 (C.1 2 + 1)) (C' := zset (zput (zput (zput C 4 (C.1 2) a) 5 (C.1 2) b) 6 (C.1 2) c) 2 (C.1 2 + 1)) ?_ ?_ rfl ?_
          · simp (disch := omega) only [m_X9_author, p_X9_between, zset_e, zset_n, p3, Int.add_sub_cancel, zlt, zbd_s, zbx_l, zbx_r, zj0, zj1, zj2, zj3, zset_2, zput_1, if_true, if_false, zar_p, zld_p, zst_p, zdv_p, zrm_p, zc01_p, zb_p, zb_n, if_pos, if_neg]
          · simp (disch := omega) only [m_X8_author, p_X8_needArgument, p_X0_isFull, p_X0_add, m_X0_count, zset_e, Int.add_sub_cancel, zlt, zbd_s, zbx_l, zbx_r, zj0, zj1, zj2, zj3, zset_2, zput_1, if_true, if_false, zar_p, zld_p, zst_p, zdv_p, zrm_p, zc01_p, zb_p, zb_n, if_pos, if_neg]
          · refine ⟨hP, hT, ⟨?_, ?_, rfl, fun i h5 h6 => ?_⟩, ⟨hC.1, hC.2.1, hC.2.2.1, fun i h5 h6 => ?_, hC.2.2.2.2⟩, fun t h5 h6 => ?_, hF, hE⟩
            · show 0 ≤ C.1 2 + 1; omega
            · show C.1 2 + 1 ≤ 12; omega
            · have h6 : i < C.1 2 + 1 := h6
              show (if i = C.1 2 then a else M.2 3 i) = (if i = C.1 2 then a else C.2 4 i) ∧ (if i = C.1 2 then b else M.2 4 i) = (if i = C.1 2 then b else C.2 5 i) ∧ (if i = C.1 2 then c else M.2 5 i) = (if i = C.1 2 then c else C.2 6 i)
              by_cases e : i = C.1 2
              · simp only [if_pos e, and_self]
              · simp only [if_neg e]; exact p4 i h5 (by omega)
            · obtain ⟨⟨a1, a2, a3⟩, ar⟩ := hC.2.2.2.1 i h5 h6
              exact ⟨⟨a1, a2, show C.2 7 i < C.1 2 + 1 by omega⟩, ar⟩
            · obtain ⟨q1, q2, q3⟩ := hR t h5 h6
              refine ⟨q1, q2, fun x h7 h8 => ?_⟩
              obtain ⟨e1, e2, e3, e4⟩ := q3 x h7 h8
              exact ⟨e1, e2, e3, fun z => e4 (show C.1 2 ≤ x by have z : C.1 2 + 1 ≤ x := z; omega)⟩
      · refine Sim.no (b := 0) (E := "java/lang/IllegalArgumentException") (M' := zset M 0 1) (C' := C) ?_ ?_ (by decide) rfl (hJ.thr 1)
        · simp (disch := omega) only [m_X9_author, p_X9_between, zset_e, zlt, zbd_s, zbx_l, zbx_r, zj0, zj1, zj2, zj3, zset_2, zput_1, if_true, if_false, zar_p, zld_p, zst_p, zdv_p, zrm_p, zc01_p, zb_p, zb_n, if_pos, if_neg]
        · simp (disch := omega) only [m_X8_author, p_X8_needArgument, zlt, zbd_s, zbx_l, zbx_r, zj0, zj1, zj2, zj3, zset_2, zput_1, if_true, if_false, zar_p, zld_p, zst_p, zdv_p, zrm_p, zc01_p, zb_p, zb_n, if_pos, if_neg]
    · refine Sim.no (b := 0) (E := "java/lang/IllegalArgumentException") (M' := zset M 0 1) (C' := C) ?_ ?_ (by decide) rfl (hJ.thr 1)
      · simp (disch := omega) only [m_X9_author, p_X9_between, zset_e, zlt, zbd_s, zbx_l, zbx_r, zj0, zj1, zj2, zj3, zset_2, zput_1, if_true, if_false, zar_p, zld_p, zst_p, zdv_p, zrm_p, zc01_p, zb_p, zb_n, if_pos, if_neg]
      · simp (disch := omega) only [m_X8_author, p_X8_needArgument, zlt, zbd_s, zbx_l, zbx_r, zj0, zj1, zj2, zj3, zset_2, zput_1, if_true, if_false, zar_p, zld_p, zst_p, zdv_p, zrm_p, zc01_p, zb_p, zb_n, if_pos, if_neg]
  · refine Sim.no (b := 0) (E := "java/lang/IllegalArgumentException") (M' := zset M 0 1) (C' := C) ?_ ?_ (by decide) rfl (hJ.thr 1)
    · simp (disch := omega) only [m_X9_author, p_X9_between, zset_e, zlt, zbd_s, zbx_l, zbx_r, zj0, zj1, zj2, zj3, zset_2, zput_1, if_true, if_false, zar_p, zld_p, zst_p, zdv_p, zrm_p, zc01_p, zb_p, zb_n, if_pos, if_neg]
    · simp (disch := omega) only [m_X8_author, p_X8_needArgument, zlt, zbd_s, zbx_l, zbx_r, zj0, zj1, zj2, zj3, zset_2, zput_1, if_true, if_false, zar_p, zld_p, zst_p, zdv_p, zrm_p, zc01_p, zb_p, zb_n, if_pos, if_neg]

