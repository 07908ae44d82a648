/-! p28, the pure side: the law's start -/
noncomputable def tA (n : Int) : zSt → Option zL5 := fun (S2 : zSt) => zby (m_X8_unit (zpC S2)) S2 fun x4 S3 => zj1 (fun (v1 : Int) (S4 : zSt) => some (v1, n, 0, 0, S4)) fun j1 => zj0 (fun (S5 : zSt) => j1 0 S5) fun j2 => if x4 = 0 then (zby (m_X8_author (zpC S3) 5 0 0) S3 fun x5 S6 => if x5 = 0 then (j1 1 S6) else (j2 S6)) else (j2 S3)
theorem mA_e (cel : Int → Int) (S : zSt) : m_L_A cel S = zce cel 60 fun x1 => zbd (m_L_up S x1 9) fun x2 S1 => zar (4 + x2) fun x3 => zj0 (tA x3) fun j3 => zl1 1000 (b_L_law_48 cel j3 x3) 0 S1 := rfl
theorem zj0_r {R : Type} (K : zSt → Option R) (b : (zSt → Option R) → Option R) : zj0 K b = b K := rfl
theorem zset_s (S : zSt) (j : Nat) (v x : Int) : zset (zset S j v) j x = zset S j x := by
  refine Prod.ext (funext fun q => ?_) rfl
  show (if q = j then x else if q = j then v else S.1 q) = (if q = j then x else S.1 q)
  by_cases e : q = j
  · rw [if_pos e, if_pos e]
  · rw [if_neg e, if_neg e, if_neg e]
/-- the class with i words on its pad -/
def zCw (f : Int → Int) (i : Int) : zSt := zrp (zset zS0 0 i) 0 f
theorem zCw_0 (f : Int → Int) (i : Int) : (zCw f i).1 0 = i := zset_e zS0 0 i
theorem p_word {C : zSt} {i a : Int} (hi : C.1 0 = i) (h : 0 ≤ i ∧ i < 12) (ha : 0 ≤ a ∧ a ≤ 59) : m_X8_word C a = some (.inl (i + 1, zset (zput C 0 i a) 0 (i + 1))) := by
  have e : m_X4_add C a = some (0, zset (zput C 0 i a) 0 (i + 1)) := by
    rw [p_X4_add C a (by omega) (by omega), hi]
  simp (disch := omega) only [m_X8_word, p_X8_needArgument, p_X4_isFull, e, m_X4_size, zset_e, zlt, zbd_s, zbx_l, zbx_r, zj0, zj1, zj2, zj3, zset_2, zput_1, if_true, if_false, zar_p, zld_p, zst_p, zdv_p, zrm_p, zc01_p, zb_p, zb_n, if_pos, if_neg]
theorem p_wordw {f : Int → Int} {i a : Int} (h : 0 ≤ i ∧ i < 12) (ha : 0 ≤ a ∧ a ≤ 59) : m_X8_word (zCw f i) a = some (.inl (i + 1, zCw (zfu f i a) (i + 1))) := by
  rw [p_word (C := zCw f i) (i := i) (zCw_0 f i) h ha]
  unfold zCw
  rw [zput_rp, zset_rp, zset_s]
theorem q_48 {cel : Int → Int} {w p l : Int → Int} {n : Int} {j3 : zSt → Option zL5} (hn : 4 ≤ n ∧ n ≤ 12) (r0 : Int → Int) : ∃ r, zl1 1000 (b_L_law_48 cel j3 n) 0 (zLw (zCw r0 0) r0 w p l) = j3 (zLw (zCw r n) r w p l) ∧ ∀ j, 0 ≤ j → j < n → 0 ≤ r j ∧ r j ≤ 3 := by
  refine zw1 (F := b_L_law_48 cel j3 n) (fun d i T => (0 ≤ i ∧ i + d = n) ∧ ∃ r, T = zLw (zCw r i) r w p l ∧ ∀ j, 0 ≤ j → j < i → 0 ≤ r j ∧ r j ≤ 3) (fun x => ∃ r, x = j3 (zLw (zCw r n) r w p l) ∧ ∀ j, 0 ≤ j → j < n → 0 ≤ r j ∧ r j ≤ 3) ?_ 1000 n.toNat 0 (zLw (zCw r0 0) r0 w p l) ⟨by omega, r0, rfl, fun j j1 j2 => by omega⟩ (by omega)
  rintro rec d i T ⟨⟨a1, a2⟩, r, rfl, hr⟩
  by_cases c : n ≤ i
  · refine Or.inl ⟨r, ?_, by rw [show n = i by omega]; exact hr⟩
    rw [show n = i by omega]
    clear hr
    simp (disch := omega) only [b_L_law_48, ↓zj0, ↓zj1, ↓zj2, ↓zj3, ↓zbd_s, ↓zar_p, ↓zld_p, ↓zst_p, ↓if_pos, ↓if_neg, if_true, if_false]
  · have hx := upv_in (a := cel (61 + i)) (n := 4) (by decide)
    obtain ⟨x, ex⟩ : ∃ x, upv (cel (61 + i)) 4 = x := ⟨_, rfl⟩
    rw [ex] at hx
    have eW := p_wordw (f := r) (i := i) (a := x) ⟨a1, by omega⟩ ⟨hx.1, by omega⟩
    refine Or.inr ⟨d - 1, i + 1, zLw (zCw (zfu r i x) (i + 1)) (zfu r i x) w p l, by omega, ⟨by omega, _, rfl, fun j j1 j2 => ?_⟩, ?_⟩
    · by_cases q : j = i
      · rw [q, zfu_e]; omega
      · rw [zfu_n _ _ q]; exact hr j j1 (by omega)
    · clear hr
      simp (disch := omega) only [b_L_law_48, zce_p, p_up, ex, zLw_p1, zLw_1, zfu_e, zLw_C, eW, zby_s, zLw_J, ↓zj0, ↓zj1, ↓zj2, ↓zj3, ↓zbd_s, ↓zar_p, ↓zld_p, ↓zst_p, ↓if_pos, ↓if_neg, if_true, if_false]
theorem p_unit {C : zSt} {n : Int} (h0 : C.1 0 = n) (hn : 1 ≤ n ∧ n ≤ 12) (h1 : C.1 1 = 0) : ∃ f, m_X8_unit C = some (.inl (0, zset (zrp (zput (zset C 1 1) 2 0 n) 1 f) 0 0)) ∧ ∀ k, 0 ≤ k → k < n → f k = C.2 0 k := by
  obtain ⟨f, e, -, h3⟩ := p_X7_add C (by omega) (by omega)
  rw [h1, h0] at e h3
  rw [show (0 : Int) + 1 = 1 by decide] at e
  refine ⟨f, ?_, fun k k1 k2 => ?_⟩
  · have e2 : (zset (zrp (zput (zset C 1 1) 2 0 n) 1 f) 0 0).1 1 = 1 := rfl
    clear h3
    simp (disch := omega) only [m_X8_unit, m_X4_size, m_X7_isFull, m_X4_clear, m_X7_count, h0, h1, e, e2, Int.sub_self, zlt, zbd_s, zbx_l, zbx_r, zj0, zj1, zj2, zj3, zset_2, zput_1, if_true, if_false, zar_p, zld_p, zst_p, zdv_p, zrm_p, zc01_p, zb_p, zb_n, if_pos, if_neg]
  · have := h3 k k1 k2
    rw [show 12 * (0 : Int) + k = k by omega] at this
    exact this
theorem p_auth {C : zSt} (h : C.1 2 = 0) : m_X8_author C 5 0 0 = some (.inl (0, zset (zput (zput (zput C 4 0 5) 5 0 0) 6 0 0) 2 1)) := by
  have e : m_X0_add C 5 0 0 = some (0, zset (zput (zput (zput C 4 0 5) 5 0 0) 6 0 0) 2 1) := by
    rw [p_X0_add C 5 0 0 (by omega) (by omega), h]; rfl
  have e2 : (zset (zput (zput (zput C 4 0 5) 5 0 0) 6 0 0) 2 1).1 2 = 1 := rfl
  simp (disch := omega) only [m_X8_author, p_X8_needArgument, p_X0_isFull, e, m_X0_count, e2, Int.sub_self, zlt, zbd_s, zbx_l, zbx_r, zj0, zj1, zj2, zj3, zset_2, zput_1, if_true, if_false, zar_p, zld_p, zst_p, zdv_p, zrm_p, zc01_p, zb_p, zb_n, if_pos, if_neg]
def z0f : Int → Int := fun _ => 0
theorem q_A (cel : Int → Int) : ∃ n C r, m_L_A cel (zLw (zCw z0f 0) z0f z0f z0f z0f) = some (1, n, 0, 0, zLw C r z0f z0f z0f) ∧ I28 C r z0f z0f z0f n 0 := by
  rw [mA_e, zce_p (by decide), p_up _ _ (by decide), zbd_s]
  have hx := upv_in (a := cel 60) (n := 9) (by decide)
  rw [zar_p ⟨by omega, by omega⟩, zj0_r]
  obtain ⟨n, en⟩ : ∃ n, 4 + upv (cel 60) 9 = n := ⟨_, rfl⟩
  rw [en]
  have hn : 4 ≤ n ∧ n ≤ 12 := by omega
  obtain ⟨r, e1, hr⟩ := q_48 (cel := cel) (w := z0f) (p := z0f) (l := z0f) (j3 := tA n) hn z0f
  rw [e1]
  obtain ⟨f, eU, hf⟩ := p_unit (C := zCw r n) (n := n) (zCw_0 r n) ⟨by omega, by omega⟩ rfl
  obtain ⟨C2, hC2⟩ : ∃ C2, C2 = zset (zrp (zput (zset (zCw r n) 1 1) 2 0 n) 1 f) 0 0 := ⟨_, rfl⟩
  rw [← hC2] at eU
  have eA := p_auth (C := C2) (by rw [hC2]; rfl)
  obtain ⟨C3, hC3⟩ : ∃ C3, C3 = zset (zput (zput (zput C2 4 0 5) 5 0 0) 6 0 0) 2 1 := ⟨_, rfl⟩
  rw [← hC3] at eA
  refine ⟨n, C3, r, ?_, ?_⟩
  · clear hr hf e1 hC2 hC3
    simp (disch := omega) only [tA, zLw_C, eU, zby_s, zLw_J, eA, ↓zj0, ↓zj1, ↓zj2, ↓zj3, ↓zbd_s, ↓zar_p, ↓zld_p, ↓zst_p, ↓if_pos, ↓if_neg, if_true, if_false]
  · subst hC3
    subst hC2
    refine ⟨⟨rfl, ?_, ⟨by omega, hn.2⟩, rfl⟩, ⟨rfl, Int.le_refl 0⟩, fun j j1 j2 => ⟨?_, hr j j1 j2⟩, fun j j1 j2 => by omega, fun j j1 => rfl⟩
    · show (zput (zset (zCw r n) 1 1) 2 0 n).2 2 0 = n
      rw [zput_e]; exact if_pos rfl
    · have e := hf j j1 j2
      exact e
theorem zS0_e : zS0 = zLw (zCw z0f 0) z0f z0f z0f z0f := by
  refine Prod.ext (funext fun q => ?_) (funext fun q => ?_)
  · show (0 : Int) = (if q % 2 = 0 then (if q / 2 = 0 then 0 else 0) else 0)
    repeat' split
    all_goals rfl
  · show (fun _ : Int => (0 : Int)) = (if q % 2 = 0 then (if q / 2 = 0 then z0f else fun _ => 0) else if q / 2 = 0 then z0f else if q / 2 = 1 then z0f else if q / 2 = 2 then z0f else if q / 2 = 3 then z0f else fun _ => 0)
    repeat' split
    all_goals rfl
