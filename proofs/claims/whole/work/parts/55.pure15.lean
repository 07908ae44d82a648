/-! setting: one line on each side -/
def zq (D : zSt) (a b c : Int) (f : Int → Int) : zSt := (fun q => if q = 8 then a else if q = 5 then b else if q = 6 then c else D.1 q, fun q => if q = 24 then f else D.2 q)
theorem zq_8 (D : zSt) (a b c v : Int) (f : Int → Int) : zset (zq D a b c f) 8 v = zq D v b c f := by
  refine Prod.ext (funext fun q => ?_) rfl
  show (if q = 8 then v else if q = 8 then a else if q = 5 then b else if q = 6 then c else D.1 q) = (if q = 8 then v else if q = 5 then b else if q = 6 then c else D.1 q)
  by_cases e : q = 8
  · rw [if_pos e, if_pos e]
  · rw [if_neg e, if_neg e, if_neg e]
theorem zq_5 (D : zSt) (a b c v : Int) (f : Int → Int) : zset (zq D a b c f) 5 v = zq D a v c f := by
  refine Prod.ext (funext fun q => ?_) rfl
  show (if q = 5 then v else if q = 8 then a else if q = 5 then b else if q = 6 then c else D.1 q) = (if q = 8 then a else if q = 5 then v else if q = 6 then c else D.1 q)
  by_cases e : q = 5
  · subst e; rfl
  · rw [if_neg e, if_neg e, if_neg e]
theorem zq_6 (D : zSt) (a b c v : Int) (f : Int → Int) : zset (zq D a b c f) 6 v = zq D a b v f := by
  refine Prod.ext (funext fun q => ?_) rfl
  show (if q = 6 then v else if q = 8 then a else if q = 5 then b else if q = 6 then c else D.1 q) = (if q = 8 then a else if q = 5 then b else if q = 6 then v else D.1 q)
  by_cases e : q = 6
  · subst e; rfl
  · rw [if_neg e, if_neg e, if_neg e]
theorem zq_24 (D : zSt) (a b c i v : Int) (f : Int → Int) : zput (zq D a b c f) 24 i v = zq D a b c (zfu f i v) := by
  refine Prod.ext rfl (funext fun q => ?_)
  show (if q = 24 then (fun t => if t = i then v else f t) else if q = 24 then f else D.2 q) = (if q = 24 then zfu f i v else D.2 q)
  by_cases e : q = 24
  · rw [if_pos e, if_pos e]; rfl
  · rw [if_neg e, if_neg e, if_neg e]
def zm (M : zSt) (a : Int) (f g : Int → Int) : zSt := (fun q => if q = 7 then a else M.1 q, fun q => if q = 23 then f else if q = 24 then g else M.2 q)
theorem zm_7 (M : zSt) (a v : Int) (f g : Int → Int) : zset (zm M a f g) 7 v = zm M v f g := by
  refine Prod.ext (funext fun q => ?_) rfl
  show (if q = 7 then v else if q = 7 then a else M.1 q) = (if q = 7 then v else M.1 q)
  by_cases e : q = 7
  · rw [if_pos e, if_pos e]
  · rw [if_neg e, if_neg e, if_neg e]
theorem zm_23 (M : zSt) (a i v : Int) (f g : Int → Int) : zput (zm M a f g) 23 i v = zm M a (zfu f i v) g := by
  refine Prod.ext rfl (funext fun q => ?_)
  show (if q = 23 then (fun t => if t = i then v else f t) else if q = 23 then f else if q = 24 then g else M.2 q) = (if q = 23 then zfu f i v else if q = 24 then g else M.2 q)
  by_cases e : q = 23
  · rw [if_pos e, if_pos e]; rfl
  · rw [if_neg e, if_neg e, if_neg e]
theorem zm_24 (M : zSt) (a i v : Int) (f g : Int → Int) : zput (zm M a f g) 24 i v = zm M a f (zfu g i v) := by
  refine Prod.ext rfl (funext fun q => ?_)
  show (if q = 24 then (fun t => if t = i then v else g t) else if q = 23 then f else if q = 24 then g else M.2 q) = (if q = 23 then f else if q = 24 then zfu g i v else M.2 q)
  by_cases e : q = 24
  · subst e; rfl
  · rw [if_neg e, if_neg e, if_neg e]
def zr1 (h a b : Int) : Int := if h ≤ 0 then a else if a < b then b else a
theorem zr1_p {h a b : Int} (c : h ≤ 0) : zr1 h a b = a := if_pos c
theorem zr1_n {h a b : Int} (c : 0 < h) : zr1 h a b = if a < b then b else a := if_neg (by omega)
theorem zr1_b (h a b : Int) : a ≤ zr1 h a b ∧ (zr1 h a b = a ∨ zr1 h a b = b) := by
  unfold zr1
  split
  · omega
  · split <;> omega
def zf1 (h r b : Int) : Int := if h ≤ 0 then b else r + h
theorem q_line {D : zSt} {l h k a b c : Int} {f : Int → Int} (hh : D.2 22 l = h) (hk : D.2 23 l = k) (h1 : 0 ≤ l ∧ l < 240) (h2 : 0 ≤ h ∧ h ≤ 1000) (h3 : 0 ≤ k ∧ k ≤ 1000) (h4 : 0 ≤ a ∧ a ≤ 1000000) (h5 : 0 ≤ b ∧ b ≤ 1000000) (h6 : 0 ≤ c ∧ c ≤ 1000000) : m_X6_setLine (zq D a b c f) l = some (0, zq D (zr1 k (zr1 h a b) c + 1) (zf1 h (zr1 k (zr1 h a b) c) b) (zf1 k (zr1 k (zr1 h a b) c) c) (zfu f l (zr1 k (zr1 h a b) c))) := by
  have e1 : ∀ a b c f, (zq D a b c f).2 22 = D.2 22 := fun _ _ _ _ => rfl
  have e2 : ∀ a b c f, (zq D a b c f).2 23 = D.2 23 := fun _ _ _ _ => rfl
  have e3 : ∀ a b c f, (zq D a b c f).1 8 = a := fun _ _ _ _ => rfl
  have e4 : ∀ a b c f, (zq D a b c f).1 5 = b := fun _ _ _ _ => rfl
  have e5 : ∀ a b c f, (zq D a b c f).1 6 = c := fun _ _ _ _ => rfl
  have r1 : m_X3i_rowFor (zq D a b c f) l a = some (zr1 h a b, zq D a b c f) := by
    by_cases c1 : h ≤ 0
    · simp (disch := omega) only [m_X3i_rowFor, p_at, zat_p, e1, hh, zr1_p, zlt, zbd_s, zbx_l, zbx_r, zj0, zj1, zj2, zj3, zset_2, zput_1, if_true, if_false, zar_p, zld_p, zst_p, zdv_p, zrm_p, zc01_p, zb_p, zb_n, if_pos, if_neg]
    · simp (disch := omega) only [m_X3i_rowFor, p_at, zat_p, e1, e4, hh, zr1_n, zlt, zbd_s, zbx_l, zbx_r, zj0, zj1, zj2, zj3, zset_2, zput_1, if_true, if_false, zar_p, zld_p, zst_p, zdv_p, zrm_p, zc01_p, zb_p, zb_n, if_pos, if_neg]
  have b1 := zr1_b h a b
  generalize zr1 h a b = x at *
  have r2 : m_X3o_rowFor (zq D a b c f) l x = some (zr1 k x c, zq D a b c f) := by
    by_cases c1 : k ≤ 0
    · simp (disch := omega) only [m_X3o_rowFor, p_at, zat_p, e2, hk, zr1_p, zlt, zbd_s, zbx_l, zbx_r, zj0, zj1, zj2, zj3, zset_2, zput_1, if_true, if_false, zar_p, zld_p, zst_p, zdv_p, zrm_p, zc01_p, zb_p, zb_n, if_pos, if_neg]
    · simp (disch := omega) only [m_X3o_rowFor, p_at, zat_p, e2, e5, hk, zr1_n, zlt, zbd_s, zbx_l, zbx_r, zj0, zj1, zj2, zj3, zset_2, zput_1, if_true, if_false, zar_p, zld_p, zst_p, zdv_p, zrm_p, zc01_p, zb_p, zb_n, if_pos, if_neg]
  have b2 := zr1_b k x c
  generalize zr1 k x c = y at *
  have r3 : m_X3i_fill (zq D a b c f) l y = some (0, zq D a (zf1 h y b) c f) := by
    unfold zf1
    by_cases c1 : h ≤ 0
    · simp (disch := omega) only [m_X3i_fill, p_at, zat_p, e1, hh, zlt, zbd_s, zbx_l, zbx_r, zj0, zj1, zj2, zj3, zset_2, zput_1, if_true, if_false, zar_p, zld_p, zst_p, zdv_p, zrm_p, zc01_p, zb_p, zb_n, if_pos, if_neg]
    · simp (disch := omega) only [m_X3i_fill, p_at, zat_p, e1, hh, zq_5, zlt, zbd_s, zbx_l, zbx_r, zj0, zj1, zj2, zj3, zset_2, zput_1, if_true, if_false, zar_p, zld_p, zst_p, zdv_p, zrm_p, zc01_p, zb_p, zb_n, if_pos, if_neg]
  generalize zf1 h y b = b' at *
  have r4 : m_X3o_fill (zq D a b' c f) l y = some (0, zq D a b' (zf1 k y c) f) := by
    unfold zf1
    by_cases c1 : k ≤ 0
    · simp (disch := omega) only [m_X3o_fill, p_at, zat_p, e2, hk, zlt, zbd_s, zbx_l, zbx_r, zj0, zj1, zj2, zj3, zset_2, zput_1, if_true, if_false, zar_p, zld_p, zst_p, zdv_p, zrm_p, zc01_p, zb_p, zb_n, if_pos, if_neg]
    · simp (disch := omega) only [m_X3o_fill, p_at, zat_p, e2, hk, zq_6, zlt, zbd_s, zbx_l, zbx_r, zj0, zj1, zj2, zj3, zset_2, zput_1, if_true, if_false, zar_p, zld_p, zst_p, zdv_p, zrm_p, zc01_p, zb_p, zb_n, if_pos, if_neg]
  generalize zf1 k y c = c' at *
  simp (disch := omega) only [m_X6_setLine, e3, r1, r2, r3, r4, zq_8, zq_24, zlt, zbd_s, zbx_l, zbx_r, zj0, zj1, zj2, zj3, zset_2, zput_1, if_true, if_false, zar_p, zld_p, zst_p, zdv_p, zrm_p, zc01_p, zb_p, zb_n, if_pos, if_neg]
/-- the reference's comments are the class's -/
def zrel (C S : zSt) (n : Int) : Prop := ∀ c, 0 ≤ c → c < n → S.2 9 c = C.2 12 c ∧ S.2 10 c = C.2 13 (C.2 12 c) ∧ S.2 13 (C.2 12 c) = C.2 16 (C.2 12 c) ∧ S.2 12 (C.2 12 c) = C.2 14 (C.2 12 c) ∧ S.2 15 c = C.2 10 c ∧ S.2 14 c = C.2 9 c
theorem zrel_of {C M : zSt} (hC : jCom C M) : zrel C M (C.1 3) := by
  intro c h1 h2
  obtain ⟨c1, c2, c3, c4, c5⟩ := hC
  obtain ⟨a1, a2, a3, a4, a5, a6, a7, a8⟩ := c4 c h1 h2
  have r := (c4 (C.2 12 c) a6.2.1 (by omega)).2.2.2.2.2.2.2 a6.2.2.2.1
  exact ⟨a6.1, a7, (c5 (C.2 12 c)).1, r.2.2.2.1, a4.1, a3.1⟩
theorem p_isIn {C S : zSt} {n w c u p : Int} (hk : zok C n) (hr : zrel C S n) (hc : 0 ≤ c ∧ c < n) (hn : n ≤ 60) (hw : 1 ≤ w ∧ w ≤ 12) (hp : 0 ≤ p ∧ p < 12 ∧ p % w = 0) : m_X9_isIn S c u p (p + w - 1) = some (zb (zin C w (12 * u + p) c), S) := by
  obtain ⟨k1, k2, k3, k4, k5, k6⟩ := hk c hc.1 hc.2
  obtain ⟨r1, r2, r3, r4, r5, r6⟩ := hr c hc.1 hc.2
  have hd := q_div hw.1 hp.1 k3.1 hp.2.2
  have b1 := Int.emod_nonneg (C.2 14 (C.2 12 c)) (show w ≠ 0 by omega)
  have b2 := em_le k3.1 hw.1
  have nn : zin C w (12 * u + p) c ↔ C.2 16 (C.2 12 c) = 0 ∧ C.2 13 (C.2 12 c) = u ∧ p ≤ C.2 14 (C.2 12 c) ∧ C.2 14 (C.2 12 c) ≤ p + w - 1 := by
    rw [← hd]
    show C.2 16 (C.2 12 c) = 0 ∧ 12 * C.2 13 (C.2 12 c) + (C.2 14 (C.2 12 c) - C.2 14 (C.2 12 c) % w) = 12 * u + p ↔ _
    constructor
    · intro q; omega
    · intro q; omega
  have e : zb (zin C w (12 * u + p) c) = zb (C.2 16 (C.2 12 c) = 0 ∧ C.2 13 (C.2 12 c) = u ∧ p ≤ C.2 14 (C.2 12 c) ∧ C.2 14 (C.2 12 c) ≤ p + w - 1) := by
    unfold zb
    by_cases q : zin C w (12 * u + p) c
    · rw [if_pos q, if_pos (nn.1 q)]
    · rw [if_neg q, if_neg (fun x => q (nn.2 x))]
  rw [e]
  clear e nn hd
  by_cases c1 : C.2 13 (C.2 12 c) = u
  · by_cases c2 : C.2 16 (C.2 12 c) = 0
    · by_cases c3 : p ≤ C.2 14 (C.2 12 c) ∧ C.2 14 (C.2 12 c) ≤ p + w - 1
      · simp (disch := omega) only [m_X9_isIn, r1, r2, r3, r4, p_X9_between, zlt, zbd_s, zbx_l, zbx_r, zj0, zj1, zj2, zj3, zset_2, zput_1, if_true, if_false, zar_p, zld_p, zst_p, zdv_p, zrm_p, zc01_p, zb_p, zb_n, if_pos, if_neg]
      · simp (disch := omega) only [m_X9_isIn, r1, r2, r3, r4, p_X9_between, zlt, zbd_s, zbx_l, zbx_r, zj0, zj1, zj2, zj3, zset_2, zput_1, if_true, if_false, zar_p, zld_p, zst_p, zdv_p, zrm_p, zc01_p, zb_p, zb_n, if_pos, if_neg]
    · simp (disch := omega) only [m_X9_isIn, r1, r2, r3, r4, p_X9_between, zlt, zbd_s, zbx_l, zbx_r, zj0, zj1, zj2, zj3, zset_2, zput_1, if_true, if_false, zar_p, zld_p, zst_p, zdv_p, zrm_p, zc01_p, zb_p, zb_n, if_pos, if_neg]
  · simp (disch := omega) only [m_X9_isIn, r1, r2, r3, r4, p_X9_between, zlt, zbd_s, zbx_l, zbx_r, zj0, zj1, zj2, zj3, zset_2, zput_1, if_true, if_false, zar_p, zld_p, zst_p, zdv_p, zrm_p, zc01_p, zb_p, zb_n, if_pos, if_neg]
theorem q_has {C S : zSt} {n w u p : Int} {j : Int → Int → zSt → Option zRes} (hS : S.1 4 = n) (hn : 0 ≤ n ∧ n ≤ 60) (hk : zok C n) (hr : zrel C S n) (hw : 1 ≤ w ∧ w ≤ 12) (hp : 0 ≤ p ∧ p < 12 ∧ p % w = 0) : zl3 1000 (b_X9_set_56 j p u (p + w - 1)) 0 0 0 S = j (zb (0 < rs (zH C w 0 (12 * u + p)) 0 n.toNat)) (zb (0 < rs (zH C w 1 (12 * u + p)) 0 n.toNat)) S := by
  refine zw3 (F := b_X9_set_56 j p u (p + w - 1)) (fun d x y i T => T = S ∧ 0 ≤ i ∧ i + d = n ∧ x = zb (0 < rs (zH C w 0 (12 * u + p)) 0 i.toNat) ∧ y = zb (0 < rs (zH C w 1 (12 * u + p)) 0 i.toNat)) (fun q => q = j (zb (0 < rs (zH C w 0 (12 * u + p)) 0 n.toNat)) (zb (0 < rs (zH C w 1 (12 * u + p)) 0 n.toNat)) S) ?_ 1000 n.toNat 0 0 0 S ⟨rfl, by omega, by omega, rfl, rfl⟩ (by omega)
  rintro rec d x y i T ⟨rfl, h1, h2, h3, h4⟩
  by_cases c : n ≤ i
  · refine Or.inl ?_
    rw [show n = i by omega, ← h3, ← h4]
    simp (disch := omega) only [b_X9_set_56, hS, zlt, zbd_s, zbx_l, zbx_r, zj0, zj1, zj2, zj3, zset_2, zput_1, if_true, if_false, zar_p, zld_p, zst_p, zdv_p, zrm_p, zc01_p, zb_p, zb_n, if_pos, if_neg]
  · obtain ⟨k1, k2, k3, k4, k5, k6⟩ := hk i h1 (by omega)
    have r5 := (hr i h1 (by omega)).2.2.2.2.1
    have hin := p_isIn (u := u) hk hr ⟨h1, show i < n by omega⟩ hn.2 hw hp
    have s0 := zHs_b hk w 0 (12 * u + p) i.toNat (by omega)
    have s1 := zHs_b hk w 1 (12 * u + p) i.toNat (by omega)
    have e0 := rs_i (f := zH C w 0 (12 * u + p)) h1
    have e1 := rs_i (f := zH C w 1 (12 * u + p)) h1
    have nn : ∀ m, (zH C w m (12 * u + p) i = if zin C w (12 * u + p) i ∧ C.2 10 i = m then C.2 9 i else 0) := fun _ => rfl
    rw [nn] at e0 e1
    generalize rs (zH C w 0 (12 * u + p)) 0 i.toNat = A at *
    generalize rs (zH C w 1 (12 * u + p)) 0 i.toNat = A1 at *
    refine Or.inr ⟨d - 1, zb (0 < rs (zH C w 0 (12 * u + p)) 0 (i + 1).toNat), zb (0 < rs (zH C w 1 (12 * u + p)) 0 (i + 1).toNat), i + 1, T, by omega, ⟨rfl, by omega, by omega, rfl, rfl⟩, ?_⟩
    rw [e0, e1]
    by_cases c1 : zin C w (12 * u + p) i
    · rw [zb_p c1] at hin
      by_cases c2 : C.2 10 i = 0
      · rw [if_pos ⟨c1, c2⟩, if_neg (fun q => by have := q.2; omega), Int.add_zero, zb_p (c := 0 < A + C.2 9 i) (by omega), ← h4]
        clear hk hr nn c1 e0 e1
        by_cases x0 : x = 0
        · by_cases y0 : y = 0
          · simp (disch := omega) only [b_X9_set_56, hS, hin, r5, c2, x0, y0, zlt, zbd_s, zbx_l, zbx_r, zj0, zj1, zj2, zj3, zset_2, zput_1, if_true, if_false, zar_p, zld_p, zst_p, zdv_p, zrm_p, zc01_p, zb_p, zb_n, if_pos, if_neg]
          · have y1 : y = 1 := (h4 ▸ zb_01 : y = 0 ∨ y = 1).elim (fun q => absurd q y0) id
            simp (disch := omega) only [b_X9_set_56, hS, hin, r5, c2, x0, y1, zlt, zbd_s, zbx_l, zbx_r, zj0, zj1, zj2, zj3, zset_2, zput_1, if_true, if_false, zar_p, zld_p, zst_p, zdv_p, zrm_p, zc01_p, zb_p, zb_n, if_pos, if_neg]
        · by_cases y0 : y = 0
          · simp (disch := omega) only [b_X9_set_56, hS, hin, r5, c2, y0, zlt, zbd_s, zbx_l, zbx_r, zj0, zj1, zj2, zj3, zset_2, zput_1, if_true, if_false, zar_p, zld_p, zst_p, zdv_p, zrm_p, zc01_p, zb_p, zb_n, if_pos, if_neg]
          · have y1 : y = 1 := (h4 ▸ zb_01 : y = 0 ∨ y = 1).elim (fun q => absurd q y0) id
            simp (disch := omega) only [b_X9_set_56, hS, hin, r5, c2, y1, zlt, zbd_s, zbx_l, zbx_r, zj0, zj1, zj2, zj3, zset_2, zput_1, if_true, if_false, zar_p, zld_p, zst_p, zdv_p, zrm_p, zc01_p, zb_p, zb_n, if_pos, if_neg]
      · have c3 : C.2 10 i = 1 := by omega
        rw [if_neg (fun q => c2 q.2), if_pos ⟨c1, c3⟩, Int.add_zero, zb_p (c := 0 < A1 + C.2 9 i) (by omega), ← h3]
        clear hk hr nn c1 e0 e1
        by_cases x0 : x = 0
        · by_cases y0 : y = 0
          · simp (disch := omega) only [b_X9_set_56, hS, hin, r5, c3, x0, y0, zlt, zbd_s, zbx_l, zbx_r, zj0, zj1, zj2, zj3, zset_2, zput_1, if_true, if_false, zar_p, zld_p, zst_p, zdv_p, zrm_p, zc01_p, zb_p, zb_n, if_pos, if_neg]
          · simp (disch := omega) only [b_X9_set_56, hS, hin, r5, c3, x0, zlt, zbd_s, zbx_l, zbx_r, zj0, zj1, zj2, zj3, zset_2, zput_1, if_true, if_false, zar_p, zld_p, zst_p, zdv_p, zrm_p, zc01_p, zb_p, zb_n, if_pos, if_neg]
        · have x1 : x = 1 := (h3 ▸ zb_01 : x = 0 ∨ x = 1).elim (fun q => absurd q x0) id
          by_cases y0 : y = 0
          · simp (disch := omega) only [b_X9_set_56, hS, hin, r5, c3, x1, y0, zlt, zbd_s, zbx_l, zbx_r, zj0, zj1, zj2, zj3, zset_2, zput_1, if_true, if_false, zar_p, zld_p, zst_p, zdv_p, zrm_p, zc01_p, zb_p, zb_n, if_pos, if_neg]
          · simp (disch := omega) only [b_X9_set_56, hS, hin, r5, c3, x1, zlt, zbd_s, zbx_l, zbx_r, zj0, zj1, zj2, zj3, zset_2, zput_1, if_true, if_false, zar_p, zld_p, zst_p, zdv_p, zrm_p, zc01_p, zb_p, zb_n, if_pos, if_neg]
    · rw [zb_n c1] at hin
      rw [if_neg (fun q => c1 q.1), if_neg (fun q => c1 q.1), Int.add_zero, Int.add_zero, ← h3, ← h4]
      have x2 : x = 0 ∨ x = 1 := h3 ▸ zb_01
      have y2 : y = 0 ∨ y = 1 := h4 ▸ zb_01
      clear hk hr nn c1 e0 e1 h3 h4
      rcases x2 with rfl | rfl
      · rcases y2 with rfl | rfl
        · simp (disch := omega) only [b_X9_set_56, hS, hin, zlt, zbd_s, zbx_l, zbx_r, zj0, zj1, zj2, zj3, zset_2, zput_1, if_true, if_false, zar_p, zld_p, zst_p, zdv_p, zrm_p, zc01_p, zb_p, zb_n, if_pos, if_neg]
        · simp (disch := omega) only [b_X9_set_56, hS, hin, zlt, zbd_s, zbx_l, zbx_r, zj0, zj1, zj2, zj3, zset_2, zput_1, if_true, if_false, zar_p, zld_p, zst_p, zdv_p, zrm_p, zc01_p, zb_p, zb_n, if_pos, if_neg]
      · rcases y2 with rfl | rfl
        · simp (disch := omega) only [b_X9_set_56, hS, hin, zlt, zbd_s, zbx_l, zbx_r, zj0, zj1, zj2, zj3, zset_2, zput_1, if_true, if_false, zar_p, zld_p, zst_p, zdv_p, zrm_p, zc01_p, zb_p, zb_n, if_pos, if_neg]
        · simp (disch := omega) only [b_X9_set_56, hS, hin, zlt, zbd_s, zbx_l, zbx_r, zj0, zj1, zj2, zj3, zset_2, zput_1, if_true, if_false, zar_p, zld_p, zst_p, zdv_p, zrm_p, zc01_p, zb_p, zb_n, if_pos, if_neg]

