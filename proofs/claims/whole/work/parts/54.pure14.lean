/-! setting: the notes of a line -/
def zln (C : zSt) (w c : Int) : Int := 12 * C.2 13 (C.2 12 c) + (C.2 14 (C.2 12 c) - C.2 14 (C.2 12 c) % w)
abbrev zin (C : zSt) (w l c : Int) : Prop := C.2 16 (C.2 12 c) = 0 ∧ zln C w c = l
def zH (C : zSt) (w m l c : Int) : Int := if zin C w l c ∧ C.2 10 c = m then C.2 9 c else 0
/-- what holds of each comment -/
def zok (C : zSt) (n : Int) : Prop := ∀ c, 0 ≤ c → c < n → (0 ≤ C.2 12 c ∧ C.2 12 c ≤ c) ∧ (0 ≤ C.2 13 (C.2 12 c) ∧ C.2 13 (C.2 12 c) < C.1 1) ∧ (0 ≤ C.2 14 (C.2 12 c) ∧ C.2 14 (C.2 12 c) < C.2 2 (C.2 13 (C.2 12 c)) ∧ C.2 14 (C.2 12 c) < 12) ∧ (C.2 16 (C.2 12 c) = 0 ∨ C.2 16 (C.2 12 c) = 1) ∧ (1 ≤ C.2 9 c ∧ C.2 9 c ≤ 9) ∧ 0 ≤ C.2 10 c ∧ C.2 10 c ≤ 1
theorem zok_of {C M : zSt} (hT : jTxt C M) (hC : jCom C M) : zok C (C.1 3) := by
  intro c h1 h2
  obtain ⟨c1, c2, c3, c4, c5⟩ := hC
  obtain ⟨a1, a2, a3, a4, a5, a6, a7, a8⟩ := c4 c h1 h2
  have r := (c4 (C.2 12 c) a6.2.1 (by omega)).2.2.2.2.2.2.2 a6.2.2.2.1
  have t := hT.2.2.2.1 (C.2 13 (C.2 12 c)) r.1 r.2.1
  exact ⟨⟨a6.2.1, a6.2.2.1⟩, ⟨r.1, r.2.1⟩, ⟨r.2.2.2.2.1, r.2.2.2.2.2, by omega⟩, (c5 (C.2 12 c)).2.1, a3.2, a4.2⟩
theorem zH_b {C : zSt} {n : Int} (h : zok C n) (w m l : Int) {c : Int} (h1 : 0 ≤ c) (h2 : c < n) : 0 ≤ zH C w m l c ∧ zH C w m l c ≤ 9 := by
  obtain ⟨-, -, -, -, a, -⟩ := h c h1 h2
  unfold zH; split <;> omega
theorem zHs_b {C : zSt} {n : Int} (h : zok C n) (w m l : Int) : ∀ k : Nat, (k : Int) ≤ n → 0 ≤ rs (zH C w m l) 0 k ∧ rs (zH C w m l) 0 k ≤ 9 * k := by
  intro k
  induction k with
  | zero => intro _; exact ⟨Int.le_refl _, Int.le_refl _⟩
  | succ k ih =>
    intro hk
    have h1 := ih (by omega)
    have h2 := zH_b h w m l (c := 0 + (k : Int)) (by omega) (by omega)
    rw [rs_back]; omega
theorem rs_i {f : Int → Int} {i : Int} (h : 0 ≤ i) : rs f 0 (i + 1).toNat = rs f 0 i.toNat + f i := by
  rw [show (i + 1).toNat = i.toNat + 1 by omega, rs_back, show (0 : Int) + ((i.toNat : Nat) : Int) = i by omega]
theorem em_le {x w : Int} (h : 0 ≤ x) (hw : 1 ≤ w) : x % w ≤ x := by
  by_cases c : x < w
  · rw [Int.emod_eq_of_lt h c]; omega
  · have := Int.emod_lt_of_pos x (show 0 < w by omega)
    omega
theorem p_lineOf (T : zSt) {w c : Int} (hw : T.1 7 = w) (hw2 : 1 ≤ w ∧ w ≤ 12) (hc : 0 ≤ c ∧ c < 60) (h1 : 0 ≤ T.2 12 c ∧ T.2 12 c < 60) (h2 : 0 ≤ T.2 13 (T.2 12 c) ∧ T.2 13 (T.2 12 c) < 20) (h3 : 0 ≤ T.2 14 (T.2 12 c) ∧ T.2 14 (T.2 12 c) < 12) : m_X6_lineOf T c = some (zln T w c, T) := by
  have b1 : 0 ≤ T.2 14 (T.2 12 c) % w := Int.emod_nonneg _ (by omega)
  have b2 : T.2 14 (T.2 12 c) % w ≤ T.2 14 (T.2 12 c) := em_le h3.1 hw2.1
  unfold zln
  generalize hq : T.2 14 (T.2 12 c) % w = q at *
  have e : ∀ x y : Int, x * 12 + y = 12 * x + y := fun x y => by omega
  simp (disch := omega) only [m_X6_lineOf, m_X1_unitOf, m_X1_placeOf, m_X6_firstOfLine, p_at, zat_p, hw, hq, e, zlt, zbd_s, zbx_l, zbx_r, zj0, zj1, zj2, zj3, zset_2, zput_1, if_true, if_false, zar_p, zld_p, zst_p, zdv_p, zrm_p, zc01_p, zb_p, zb_n, if_pos, if_neg]
theorem q_gat {B : zSt} {w n : Int} (hn : B.1 3 = n) (hn2 : 0 ≤ n ∧ n ≤ 60) (hu : B.1 1 ≤ 20) (hw : B.1 7 = w) (hw2 : 1 ≤ w ∧ w ≤ 12) (hk : zok B n) (f0 g0 : Int → Int) (h0 : ∀ l, 0 ≤ l → l < 240 → f0 l = 0 ∧ g0 l = 0) : ∃ f g, m_X6_gatherNotes (zrp (zrp B 22 f0) 23 g0) = some (0, zrp (zrp B 22 f) 23 g) ∧ ∀ l, 0 ≤ l → l < 240 → f l = rs (zH B w 0 l) 0 n.toNat ∧ g l = rs (zH B w 1 l) 0 n.toNat := by
  refine zw1 (F := b_X6_gatherNotes_2) (fun d i T => 0 ≤ i ∧ i + d = n ∧ ∃ f g, T = zrp (zrp B 22 f) 23 g ∧ ∀ l, 0 ≤ l → l < 240 → f l = rs (zH B w 0 l) 0 i.toNat ∧ g l = rs (zH B w 1 l) 0 i.toNat) (fun x => ∃ f g, x = some (0, zrp (zrp B 22 f) 23 g) ∧ ∀ l, 0 ≤ l → l < 240 → f l = rs (zH B w 0 l) 0 n.toNat ∧ g l = rs (zH B w 1 l) 0 n.toNat) ?_ 1000 n.toNat 0 (zrp (zrp B 22 f0) 23 g0) ⟨by omega, by omega, f0, g0, rfl, h0⟩ (by omega)
  rintro rec d i T ⟨h1, h2, f, g, rfl, h3⟩
  have e1 : (zrp (zrp B 22 f) 23 g).1 3 = n := hn
  by_cases c : n ≤ i
  · refine Or.inl ⟨f, g, ?_, fun l l1 l2 => ?_⟩
    · clear h3; simp (disch := omega) only [b_X6_gatherNotes_2, m_X1_count, e1, zlt, zbd_s, zbx_l, zbx_r, zj0, zj1, zj2, zj3, zset_2, zput_1, if_true, if_false, zar_p, zld_p, zst_p, zdv_p, zrm_p, zc01_p, zb_p, zb_n, if_pos, if_neg]
    · rw [show n = i by omega]; exact h3 l l1 l2
  · obtain ⟨k1, k2, k3, k4, k5, k6⟩ := hk i h1 (by omega)
    have zl : m_X1_isLost (zrp (zrp B 22 f) 23 g) i = some (B.2 16 (B.2 12 i), zrp (zrp B 22 f) 23 g) := p_X1_isLost (zrp (zrp B 22 f) 23 g) i (by omega) ⟨k1.1, show B.2 12 i < B.1 3 by omega⟩ (by rw [e1]; omega) k4
    have zm : m_X1_marginOf (zrp (zrp B 22 f) 23 g) i = some (B.2 10 i, zrp (zrp B 22 f) 23 g) := by
      have e : (zrp (zrp B 22 f) 23 g).2 10 = B.2 10 := rfl
      simp (disch := omega) only [m_X1_marginOf, p_at, zat_p, e, zlt, zbd_s, zbx_l, zbx_r, zj0, zj1, zj2, zj3, zset_2, zput_1]
    have zs : m_X1_linesOf (zrp (zrp B 22 f) 23 g) i = some (B.2 9 i, zrp (zrp B 22 f) 23 g) := by
      have e : (zrp (zrp B 22 f) 23 g).2 9 = B.2 9 := rfl
      simp (disch := omega) only [m_X1_linesOf, p_at, zat_p, e, zlt, zbd_s, zbx_l, zbx_r, zj0, zj1, zj2, zj3, zset_2, zput_1]
    have zo : m_X6_lineOf (zrp (zrp B 22 f) 23 g) i = some (zln B w i, zrp (zrp B 22 f) 23 g) := p_lineOf (zrp (zrp B 22 f) 23 g) hw hw2 (by omega) ⟨k1.1, show B.2 12 i < 60 by omega⟩ ⟨k2.1, show B.2 13 (B.2 12 i) < 20 by omega⟩ ⟨k3.1, k3.2.2⟩
    have b1 : 0 ≤ B.2 14 (B.2 12 i) % w := Int.emod_nonneg _ (by omega)
    have b2 : B.2 14 (B.2 12 i) % w ≤ B.2 14 (B.2 12 i) := em_le k3.1 hw2.1
    have b3 : 0 ≤ zln B w i ∧ zln B w i < 240 := by unfold zln; omega
    have nn : ∀ l m, (zH B w m l i = if zin B w l i ∧ B.2 10 i = m then B.2 9 i else 0) := fun _ _ => rfl
    by_cases c1 : B.2 16 (B.2 12 i) = 0
    · have s0 := zHs_b hk w 0 (zln B w i) i.toNat (by omega)
      have s1 := zHs_b hk w 1 (zln B w i) i.toNat (by omega)
      obtain ⟨g1, g2⟩ := h3 (zln B w i) b3.1 b3.2
      rw [← g1] at s0
      rw [← g2] at s1
      by_cases c2 : B.2 10 i = 0
      · refine Or.inr ⟨d - 1, i + 1, zput (zrp (zrp B 22 f) 23 g) 22 (zln B w i) (f (zln B w i) + B.2 9 i), by omega, ⟨by omega, by omega, zfu f (zln B w i) (f (zln B w i) + B.2 9 i), g, zput_rp2 _ _ _ _ _ (by decide), fun l l1 l2 => ?_⟩, ?_⟩
        · rw [rs_i h1, rs_i h1, nn, nn]
          have h4 := h3 l l1 l2
          by_cases e : l = zln B w i
          · rw [e, zfu_e, if_pos ⟨⟨c1, rfl⟩, c2⟩, if_neg (fun q => by omega)]; rw [e] at h4; omega
          · rw [zfu_n _ _ e, if_neg (fun q => e q.1.2.symm), if_neg (fun q => e q.1.2.symm)]; omega
        · have za : m_X3i_add (zrp (zrp B 22 f) 23 g) (zln B w i) (B.2 9 i) = some (0, zput (zrp (zrp B 22 f) 23 g) 22 (zln B w i) (f (zln B w i) + B.2 9 i)) := by
            have e : (zrp (zrp B 22 f) 23 g).2 22 = f := rfl
            clear h3 g1 g2
            simp (disch := omega) only [m_X3i_add, e, zlt, zbd_s, zbx_l, zbx_r, zj0, zj1, zj2, zj3, zset_2, zput_1, if_true, if_false, zar_p, zld_p, zst_p, zdv_p, zrm_p, zc01_p, zb_p, zb_n, if_pos, if_neg]
          clear h3 g1 g2
          simp (disch := omega) only [b_X6_gatherNotes_2, m_X1_count, e1, zl, zm, zo, zs, za, c1, c2, zlt, zbd_s, zbx_l, zbx_r, zj0, zj1, zj2, zj3, zset_2, zput_1, if_true, if_false, zar_p, zld_p, zst_p, zdv_p, zrm_p, zc01_p, zb_p, zb_n, if_pos, if_neg]
      · refine Or.inr ⟨d - 1, i + 1, zput (zrp (zrp B 22 f) 23 g) 23 (zln B w i) (g (zln B w i) + B.2 9 i), by omega, ⟨by omega, by omega, f, zfu g (zln B w i) (g (zln B w i) + B.2 9 i), zput_rp _ _ _ _ _, fun l l1 l2 => ?_⟩, ?_⟩
        · rw [rs_i h1, rs_i h1, nn, nn]
          have h4 := h3 l l1 l2
          by_cases e : l = zln B w i
          · rw [e, zfu_e, if_neg (fun q => c2 q.2), if_pos ⟨⟨c1, rfl⟩, by omega⟩]; rw [e] at h4; omega
          · rw [zfu_n _ _ e, if_neg (fun q => e q.1.2.symm), if_neg (fun q => e q.1.2.symm)]; omega
        · have za : m_X3o_add (zrp (zrp B 22 f) 23 g) (zln B w i) (B.2 9 i) = some (0, zput (zrp (zrp B 22 f) 23 g) 23 (zln B w i) (g (zln B w i) + B.2 9 i)) := by
            have e : (zrp (zrp B 22 f) 23 g).2 23 = g := rfl
            clear h3 g1 g2
            simp (disch := omega) only [m_X3o_add, e, zlt, zbd_s, zbx_l, zbx_r, zj0, zj1, zj2, zj3, zset_2, zput_1, if_true, if_false, zar_p, zld_p, zst_p, zdv_p, zrm_p, zc01_p, zb_p, zb_n, if_pos, if_neg]
          clear h3 g1 g2
          simp (disch := omega) only [b_X6_gatherNotes_2, m_X1_count, e1, zl, zm, zo, zs, za, c1, zlt, zbd_s, zbx_l, zbx_r, zj0, zj1, zj2, zj3, zset_2, zput_1, if_true, if_false, zar_p, zld_p, zst_p, zdv_p, zrm_p, zc01_p, zb_p, zb_n, if_pos, if_neg]
    · refine Or.inr ⟨d - 1, i + 1, _, by omega, ⟨by omega, by omega, f, g, rfl, fun l l1 l2 => ?_⟩, ?_⟩
      · rw [rs_i h1, rs_i h1, nn, nn, if_neg (fun q => c1 q.1.1), if_neg (fun q => c1 q.1.1)]
        have h4 := h3 l l1 l2
        omega
      · clear h3
        simp (disch := omega) only [b_X6_gatherNotes_2, m_X1_count, e1, zl, zlt, zbd_s, zbx_l, zbx_r, zj0, zj1, zj2, zj3, zset_2, zput_1, if_true, if_false, zar_p, zld_p, zst_p, zdv_p, zrm_p, zc01_p, zb_p, zb_n, if_pos, if_neg]
theorem q_div {w p x : Int} (hw : 1 ≤ w) (h1 : 0 ≤ p) (h2 : 0 ≤ x) (hp : p % w = 0) : x - x % w = p ↔ p ≤ x ∧ x ≤ p + w - 1 := by
  have a1 := Int.emod_nonneg x (show w ≠ 0 by omega)
  have a2 := Int.emod_lt_of_pos x (show 0 < w by omega)
  constructor
  · intro h; omega
  · intro h
    have e : x = (x - p) + p := by omega
    have e2 : x % w = (x - p) % w := by
      rw [e, Int.add_emod, hp, Int.add_zero, Int.emod_emod]; congr 1; omega
    rw [e2, Int.emod_eq_of_lt (by omega) (by omega)]; omega

