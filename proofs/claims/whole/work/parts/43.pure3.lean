/-! LOOPS, whole arrays; meant, unit, comment, gloss, follow, unfollow -/
theorem zw1 {R : Type} {F : (Int → zSt → Option R) → Int → zSt → Option R} (I : Nat → Int → zSt → Prop) (Q : Option R → Prop) (step : ∀ (rec : Int → zSt → Option R) (d : Nat) (a0 : Int) (S : zSt), I d a0 S → Q (F rec a0 S) ∨ ∃ (e : Nat) (x0 : Int) (T : zSt), e < d ∧ I e x0 T ∧ F rec a0 S = rec x0 T) : ∀ (g d : Nat) (a0 : Int) (S : zSt), I d a0 S → d < g → Q (zl1 g F a0 S) := by
  intro g
  induction g with
  | zero => intro d a0 S _ h; exact absurd h (Nat.not_lt_zero d)
  | succ g ih =>
    intro d a0 S hI h
    rw [zl1_s]
    rcases step (zl1 g F) d a0 S hI with q | ⟨e, x0, T, h1, h2, h3⟩
    · exact q
    · rw [h3]; exact ih e x0 T h2 (by omega)
theorem zw2 {R : Type} {F : (Int → Int → zSt → Option R) → Int → Int → zSt → Option R} (I : Nat → Int → Int → zSt → Prop) (Q : Option R → Prop) (step : ∀ (rec : Int → Int → zSt → Option R) (d : Nat) (a0 a1 : Int) (S : zSt), I d a0 a1 S → Q (F rec a0 a1 S) ∨ ∃ (e : Nat) (x0 x1 : Int) (T : zSt), e < d ∧ I e x0 x1 T ∧ F rec a0 a1 S = rec x0 x1 T) : ∀ (g d : Nat) (a0 a1 : Int) (S : zSt), I d a0 a1 S → d < g → Q (zl2 g F a0 a1 S) := by
  intro g
  induction g with
  | zero => intro d a0 a1 S _ h; exact absurd h (Nat.not_lt_zero d)
  | succ g ih =>
    intro d a0 a1 S hI h
    rw [zl2_s]
    rcases step (zl2 g F) d a0 a1 S hI with q | ⟨e, x0, x1, T, h1, h2, h3⟩
    · exact q
    · rw [h3]; exact ih e x0 x1 T h2 (by omega)
theorem zw3 {R : Type} {F : (Int → Int → Int → zSt → Option R) → Int → Int → Int → zSt → Option R} (I : Nat → Int → Int → Int → zSt → Prop) (Q : Option R → Prop) (step : ∀ (rec : Int → Int → Int → zSt → Option R) (d : Nat) (a0 a1 a2 : Int) (S : zSt), I d a0 a1 a2 S → Q (F rec a0 a1 a2 S) ∨ ∃ (e : Nat) (x0 x1 x2 : Int) (T : zSt), e < d ∧ I e x0 x1 x2 T ∧ F rec a0 a1 a2 S = rec x0 x1 x2 T) : ∀ (g d : Nat) (a0 a1 a2 : Int) (S : zSt), I d a0 a1 a2 S → d < g → Q (zl3 g F a0 a1 a2 S) := by
  intro g
  induction g with
  | zero => intro d a0 a1 a2 S _ h; exact absurd h (Nat.not_lt_zero d)
  | succ g ih =>
    intro d a0 a1 a2 S hI h
    rw [zl3_s]
    rcases step (zl3 g F) d a0 a1 a2 S hI with q | ⟨e, x0, x1, x2, T, h1, h2, h3⟩
    · exact q
    · rw [h3]; exact ih e x0 x1 x2 T h2 (by omega)
theorem zw4 {R : Type} {F : (Int → Int → Int → Int → zSt → Option R) → Int → Int → Int → Int → zSt → Option R} (I : Nat → Int → Int → Int → Int → zSt → Prop) (Q : Option R → Prop) (step : ∀ (rec : Int → Int → Int → Int → zSt → Option R) (d : Nat) (a0 a1 a2 a3 : Int) (S : zSt), I d a0 a1 a2 a3 S → Q (F rec a0 a1 a2 a3 S) ∨ ∃ (e : Nat) (x0 x1 x2 x3 : Int) (T : zSt), e < d ∧ I e x0 x1 x2 x3 T ∧ F rec a0 a1 a2 a3 S = rec x0 x1 x2 x3 T) : ∀ (g d : Nat) (a0 a1 a2 a3 : Int) (S : zSt), I d a0 a1 a2 a3 S → d < g → Q (zl4 g F a0 a1 a2 a3 S) := by
  intro g
  induction g with
  | zero => intro d a0 a1 a2 a3 S _ h; exact absurd h (Nat.not_lt_zero d)
  | succ g ih =>
    intro d a0 a1 a2 a3 S hI h
    rw [zl4_s]
    rcases step (zl4 g F) d a0 a1 a2 a3 S hI with q | ⟨e, x0, x1, x2, x3, T, h1, h2, h3⟩
    · exact q
    · rw [h3]; exact ih e x0 x1 x2 x3 T h2 (by omega)
theorem zw11 {R R2 : Type} {F : (Int → zSt → Option R) → Int → zSt → Option R} {G : (Int → zSt → Option R2) → Int → zSt → Option R2} (I : Nat → Int → zSt → Int → zSt → Prop) (Q : Option R → Option R2 → Prop) (step : ∀ (rec : Int → zSt → Option R) (rec2 : Int → zSt → Option R2) (d : Nat) (a0 : Int) (S : zSt) (b0 : Int) (S2 : zSt), I d a0 S b0 S2 → Q (F rec a0 S) (G rec2 b0 S2) ∨ ∃ (e : Nat) (x0 : Int) (T : zSt) (y0 : Int) (T2 : zSt), e < d ∧ I e x0 T y0 T2 ∧ F rec a0 S = rec x0 T ∧ G rec2 b0 S2 = rec2 y0 T2) : ∀ (g g2 d : Nat) (a0 : Int) (S : zSt) (b0 : Int) (S2 : zSt), I d a0 S b0 S2 → d < g → d < g2 → Q (zl1 g F a0 S) (zl1 g2 G b0 S2) := by
  intro g
  induction g with
  | zero => intro g2 d a0 S b0 S2 _ h; exact absurd h (Nat.not_lt_zero d)
  | succ g ih =>
    intro g2 d a0 S b0 S2 hI h h2
    obtain ⟨g2, rfl⟩ : ∃ k, g2 = k + 1 := ⟨g2 - 1, by omega⟩
    rw [zl1_s, zl1_s]
    rcases step (zl1 g F) (zl1 g2 G) d a0 S b0 S2 hI with q | ⟨e, x0, T, y0, T2, h3, h4, h5, h6⟩
    · exact q
    · rw [h5, h6]; exact ih g2 e x0 T y0 T2 h4 (by omega) (by omega)
theorem zw22 {R R2 : Type} {F : (Int → Int → zSt → Option R) → Int → Int → zSt → Option R} {G : (Int → Int → zSt → Option R2) → Int → Int → zSt → Option R2} (I : Nat → Int → Int → zSt → Int → Int → zSt → Prop) (Q : Option R → Option R2 → Prop) (step : ∀ (rec : Int → Int → zSt → Option R) (rec2 : Int → Int → zSt → Option R2) (d : Nat) (a0 a1 : Int) (S : zSt) (b0 b1 : Int) (S2 : zSt), I d a0 a1 S b0 b1 S2 → Q (F rec a0 a1 S) (G rec2 b0 b1 S2) ∨ ∃ (e : Nat) (x0 x1 : Int) (T : zSt) (y0 y1 : Int) (T2 : zSt), e < d ∧ I e x0 x1 T y0 y1 T2 ∧ F rec a0 a1 S = rec x0 x1 T ∧ G rec2 b0 b1 S2 = rec2 y0 y1 T2) : ∀ (g g2 d : Nat) (a0 a1 : Int) (S : zSt) (b0 b1 : Int) (S2 : zSt), I d a0 a1 S b0 b1 S2 → d < g → d < g2 → Q (zl2 g F a0 a1 S) (zl2 g2 G b0 b1 S2) := by
  intro g
  induction g with
  | zero => intro g2 d a0 a1 S b0 b1 S2 _ h; exact absurd h (Nat.not_lt_zero d)
  | succ g ih =>
    intro g2 d a0 a1 S b0 b1 S2 hI h h2
    obtain ⟨g2, rfl⟩ : ∃ k, g2 = k + 1 := ⟨g2 - 1, by omega⟩
    rw [zl2_s, zl2_s]
    rcases step (zl2 g F) (zl2 g2 G) d a0 a1 S b0 b1 S2 hI with q | ⟨e, x0, x1, T, y0, y1, T2, h3, h4, h5, h6⟩
    · exact q
    · rw [h5, h6]; exact ih g2 e x0 x1 T y0 y1 T2 h4 (by omega) (by omega)
theorem zw23 {R R2 : Type} {F : (Int → Int → zSt → Option R) → Int → Int → zSt → Option R} {G : (Int → Int → Int → zSt → Option R2) → Int → Int → Int → zSt → Option R2} (I : Nat → Int → Int → zSt → Int → Int → Int → zSt → Prop) (Q : Option R → Option R2 → Prop) (step : ∀ (rec : Int → Int → zSt → Option R) (rec2 : Int → Int → Int → zSt → Option R2) (d : Nat) (a0 a1 : Int) (S : zSt) (b0 b1 b2 : Int) (S2 : zSt), I d a0 a1 S b0 b1 b2 S2 → Q (F rec a0 a1 S) (G rec2 b0 b1 b2 S2) ∨ ∃ (e : Nat) (x0 x1 : Int) (T : zSt) (y0 y1 y2 : Int) (T2 : zSt), e < d ∧ I e x0 x1 T y0 y1 y2 T2 ∧ F rec a0 a1 S = rec x0 x1 T ∧ G rec2 b0 b1 b2 S2 = rec2 y0 y1 y2 T2) : ∀ (g g2 d : Nat) (a0 a1 : Int) (S : zSt) (b0 b1 b2 : Int) (S2 : zSt), I d a0 a1 S b0 b1 b2 S2 → d < g → d < g2 → Q (zl2 g F a0 a1 S) (zl3 g2 G b0 b1 b2 S2) := by
  intro g
  induction g with
  | zero => intro g2 d a0 a1 S b0 b1 b2 S2 _ h; exact absurd h (Nat.not_lt_zero d)
  | succ g ih =>
    intro g2 d a0 a1 S b0 b1 b2 S2 hI h h2
    obtain ⟨g2, rfl⟩ : ∃ k, g2 = k + 1 := ⟨g2 - 1, by omega⟩
    rw [zl2_s, zl3_s]
    rcases step (zl2 g F) (zl3 g2 G) d a0 a1 S b0 b1 b2 S2 hI with q | ⟨e, x0, x1, T, y0, y1, y2, T2, h3, h4, h5, h6⟩
    · exact q
    · rw [h5, h6]; exact ih g2 e x0 x1 T y0 y1 y2 T2 h4 (by omega) (by omega)
def zrp (S : zSt) (j : Nat) (f : Int → Int) : zSt := (S.1, fun q => if q = j then f else S.2 q)
theorem zrp_e (S : zSt) (j : Nat) (f : Int → Int) : (zrp S j f).2 j = f := if_pos rfl
theorem zrp_n (S : zSt) {j q : Nat} (f : Int → Int) (h : q ≠ j) : (zrp S j f).2 q = S.2 q := if_neg h
theorem zrp_1 (S : zSt) (j : Nat) (f : Int → Int) : (zrp S j f).1 = S.1 := rfl
theorem zrp_self (S : zSt) (j : Nat) : zrp S j (S.2 j) = S := by
  refine Prod.ext rfl (funext fun q => ?_)
  show (if q = j then S.2 j else S.2 q) = S.2 q
  by_cases e : q = j
  · rw [if_pos e, e]
  · rw [if_neg e]
def zfu (f : Int → Int) (i v : Int) : Int → Int := fun t => if t = i then v else f t
theorem zfu_e (f : Int → Int) (i v : Int) : zfu f i v i = v := if_pos rfl
theorem zfu_n (f : Int → Int) {i t : Int} (v : Int) (h : t ≠ i) : zfu f i v t = f t := if_neg h
theorem zput_rp (S : zSt) (j : Nat) (f : Int → Int) (i v : Int) : zput (zrp S j f) j i v = zrp S j (zfu f i v) := by
  refine Prod.ext rfl (funext fun q => ?_)
  show (if q = j then (fun t => if t = i then v else (zrp S j f).2 j t) else (zrp S j f).2 q) = (if q = j then (fun t => if t = i then v else f t) else S.2 q)
  by_cases e : q = j
  · rw [if_pos e, if_pos e, zrp_e]
  · rw [if_neg e, if_neg e, zrp_n S f e]
theorem zset_rp (S : zSt) (j k : Nat) (f : Int → Int) (v : Int) : zset (zrp S j f) k v = zrp (zset S k v) j f := rfl
theorem p_X0_later (S : zSt) (a b : Int) (ha : -1 ≤ a ∧ a < 12) (hb : 0 ≤ b ∧ b < 12) : m_X0_later S a b = some (if a = -1 ∨ S.2 4 a < S.2 4 b then b else a, S) := by
  simp only [m_X0_later, m_X0_yearOf, p_at, zlt, zbd_s, zbx_l, zbx_r, zj0, zj1, zj2, zj3, zset_2, zput_1]
  by_cases c : a = -1
  · simp (disch := omega) only [zlt, zbd_s, zbx_l, zbx_r, zj0, zj1, zj2, zj3, zset_2, zput_1, if_true, if_false, zar_p, zld_p, zst_p, zdv_p, zrm_p, zc01_p, zb_p, zb_n, if_pos, if_neg]
  · by_cases c2 : S.2 4 a < S.2 4 b
    · simp (disch := omega) only [zat_p, zlt, zbd_s, zbx_l, zbx_r, zj0, zj1, zj2, zj3, zset_2, zput_1, if_true, if_false, zar_p, zld_p, zst_p, zdv_p, zrm_p, zc01_p, zb_p, zb_n, if_pos, if_neg]
    · simp (disch := omega) only [zat_p, zlt, zbd_s, zbx_l, zbx_r, zj0, zj1, zj2, zj3, zset_2, zput_1, if_true, if_false, zar_p, zld_p, zst_p, zdv_p, zrm_p, zc01_p, zb_p, zb_n, if_pos, if_neg]
theorem s_meant {C M : zSt} {a b : Int} (hJ : J C M) : Sim ["java/lang/IllegalArgumentException"] (m_X9_meant M a b) (m_X8_meant C a b) := by
  obtain ⟨hRG, hP, hT, ⟨p1, p2, p3, p4⟩, hC, hR, hF, hE⟩ := id hJ
  by_cases h1 : 0 ≤ a ∧ a ≤ 99
  · by_cases h2 : 0 ≤ b ∧ b ≤ 2000
    · have key := zw22 (F := b_X0_latestCalled_5 a b (fun v1 S1 => some (v1, S1))) (G := b_X9_meant_37 a b (fun (v2 : Int) (S4 : zSt) => zlt (S4.1 0) fun x2 => if x2 ≤ 0 then (some (v2, S4)) else (some (0, S4))))
        (fun d x y S x' y' S' => S = C ∧ S' = zset M 0 0 ∧ x = x' ∧ y = y' ∧ 0 ≤ y ∧ y + d = C.1 2 ∧ -1 ≤ x ∧ x < y)
        (fun p q => ∃ r : Int, p = some (r, C) ∧ q = some (r, zset M 0 0)) (by
          rintro rec rec2 d x y S x' y' S' ⟨rfl, rfl, rfl, rfl, h3, h4, h5, h6⟩
          by_cases c : S.1 2 ≤ y
          · refine Or.inl ⟨x, ?_, ?_⟩
            · simp (disch := omega) only [b_X0_latestCalled_5, zlt, zbd_s, zbx_l, zbx_r, zj0, zj1, zj2, zj3, zset_2, zput_1, if_true, if_false, zar_p, zld_p, zst_p, zdv_p, zrm_p, zc01_p, zb_p, zb_n, if_pos, if_neg]
            · simp (disch := omega) only [b_X9_meant_37, p3, zset_n, zset_e, zlt, zbd_s, zbx_l, zbx_r, zj0, zj1, zj2, zj3, zset_2, zput_1, if_true, if_false, zar_p, zld_p, zst_p, zdv_p, zrm_p, zc01_p, zb_p, zb_n, if_pos, if_neg]
          · obtain ⟨q1, q2, q3⟩ := p4 y h3 (by omega)
            have hl := p_X0_later S x y (by omega) (by omega)
            by_cases c1 : S.2 6 y = a ∧ S.2 4 y ≤ b
            · by_cases c2 : x = -1
              · refine Or.inr ⟨d - 1, y, y + 1, S, y, y + 1, _, by omega, ⟨rfl, rfl, rfl, rfl, by omega, by omega, by omega, by omega⟩, ?_, ?_⟩
                · simp (disch := omega) only [b_X0_latestCalled_5, hl, zlt, zbd_s, zbx_l, zbx_r, zj0, zj1, zj2, zj3, zset_2, zput_1, if_true, if_false, zar_p, zld_p, zst_p, zdv_p, zrm_p, zc01_p, zb_p, zb_n, if_pos, if_neg]
                · simp (disch := omega) only [b_X9_meant_37, p3, q1, q3, zset_n, zset_e, zlt, zbd_s, zbx_l, zbx_r, zj0, zj1, zj2, zj3, zset_2, zput_1, if_true, if_false, zar_p, zld_p, zst_p, zdv_p, zrm_p, zc01_p, zb_p, zb_n, if_pos, if_neg]
              · obtain ⟨r1, r2, r3⟩ := p4 x (by omega) (by omega)
                by_cases c3 : S.2 4 x < S.2 4 y
                · refine Or.inr ⟨d - 1, y, y + 1, S, y, y + 1, _, by omega, ⟨rfl, rfl, rfl, rfl, by omega, by omega, by omega, by omega⟩, ?_, ?_⟩
                  · simp (disch := omega) only [b_X0_latestCalled_5, hl, zlt, zbd_s, zbx_l, zbx_r, zj0, zj1, zj2, zj3, zset_2, zput_1, if_true, if_false, zar_p, zld_p, zst_p, zdv_p, zrm_p, zc01_p, zb_p, zb_n, if_pos, if_neg]
                  · simp (disch := omega) only [b_X9_meant_37, p3, q1, q3, r1, zset_n, zset_e, zlt, zbd_s, zbx_l, zbx_r, zj0, zj1, zj2, zj3, zset_2, zput_1, if_true, if_false, zar_p, zld_p, zst_p, zdv_p, zrm_p, zc01_p, zb_p, zb_n, if_pos, if_neg]
                · refine Or.inr ⟨d - 1, x, y + 1, S, x, y + 1, _, by omega, ⟨rfl, rfl, rfl, rfl, by omega, by omega, by omega, by omega⟩, ?_, ?_⟩
                  · simp (disch := omega) only [b_X0_latestCalled_5, hl, zlt, zbd_s, zbx_l, zbx_r, zj0, zj1, zj2, zj3, zset_2, zput_1, if_true, if_false, zar_p, zld_p, zst_p, zdv_p, zrm_p, zc01_p, zb_p, zb_n, if_pos, if_neg]
                  · simp (disch := omega) only [b_X9_meant_37, p3, q1, q3, r1, zset_n, zset_e, zlt, zbd_s, zbx_l, zbx_r, zj0, zj1, zj2, zj3, zset_2, zput_1, if_true, if_false, zar_p, zld_p, zst_p, zdv_p, zrm_p, zc01_p, zb_p, zb_n, if_pos, if_neg]
            · refine Or.inr ⟨d - 1, x, y + 1, S, x, y + 1, _, by omega, ⟨rfl, rfl, rfl, rfl, by omega, by omega, by omega, by omega⟩, ?_, ?_⟩
              · by_cases c2 : S.2 6 y = a
                · simp (disch := omega) only [b_X0_latestCalled_5, zlt, zbd_s, zbx_l, zbx_r, zj0, zj1, zj2, zj3, zset_2, zput_1, if_true, if_false, zar_p, zld_p, zst_p, zdv_p, zrm_p, zc01_p, zb_p, zb_n, if_pos, if_neg]
                · simp (disch := omega) only [b_X0_latestCalled_5, zlt, zbd_s, zbx_l, zbx_r, zj0, zj1, zj2, zj3, zset_2, zput_1, if_true, if_false, zar_p, zld_p, zst_p, zdv_p, zrm_p, zc01_p, zb_p, zb_n, if_pos, if_neg]
              · by_cases c2 : S.2 6 y = a
                · simp (disch := omega) only [b_X9_meant_37, p3, q1, q3, zset_n, zset_e, zlt, zbd_s, zbx_l, zbx_r, zj0, zj1, zj2, zj3, zset_2, zput_1, if_true, if_false, zar_p, zld_p, zst_p, zdv_p, zrm_p, zc01_p, zb_p, zb_n, if_pos, if_neg]
                · simp (disch := omega) only [b_X9_meant_37, p3, q1, q3, zset_n, zset_e, zlt, zbd_s, zbx_l, zbx_r, zj0, zj1, zj2, zj3, zset_2, zput_1, if_true, if_false, zar_p, zld_p, zst_p, zdv_p, zrm_p, zc01_p, zb_p, zb_n, if_pos, if_neg])
        1000 1000 (C.1 2).toNat (-1) 0 C (-1) 0 (zset M 0 0) ⟨rfl, rfl, rfl, rfl, by omega, by omega, by omega, by omega⟩ (by omega) (by omega)
      obtain ⟨r, e1, e2⟩ := key
      refine Sim.ok (b := r) (M' := zset M 0 0) (C' := C) ?_ ?_ rfl (hJ.thr 0)
      · simp (disch := omega) only [m_X9_meant, p_X9_between, zj1, e2, zset_e, zlt, zbd_s, zbx_l, zbx_r, zj0, zj1, zj2, zj3, zset_2, zput_1, if_true, if_false, zar_p, zld_p, zst_p, zdv_p, zrm_p, zc01_p, zb_p, zb_n, if_pos, if_neg]
        exact e2
      · simp (disch := omega) only [m_X8_meant, p_X8_needArgument, m_X0_latestCalled, e1, zlt, zbd_s, zbx_l, zbx_r, zj0, zj1, zj2, zj3, zset_2, zput_1, if_true, if_false, zar_p, zld_p, zst_p, zdv_p, zrm_p, zc01_p, zb_p, zb_n, if_pos, if_neg]
    · have e2 : zl2 1000 (b_X9_meant_37 a b (fun (v2 : Int) (S4 : zSt) => zlt (S4.1 0) fun x2 => if x2 ≤ 0 then (some (v2, S4)) else (some (0, S4)))) (-1) 0 (zset M 0 1) = some (0, zset M 0 1) := by
        refine (zl2_s 999 _ (-1) 0 (zset M 0 1)).trans ?_
        by_cases c : C.1 2 ≤ 0
        · simp (disch := omega) only [b_X9_meant_37, p3, zset_n, zset_e, zlt, zbd_s, zbx_l, zbx_r, zj0, zj1, zj2, zj3, zset_2, zput_1, if_true, if_false, zar_p, zld_p, zst_p, zdv_p, zrm_p, zc01_p, zb_p, zb_n, if_pos, if_neg]
        · simp (disch := omega) only [b_X9_meant_37, p3, zset_n, zset_e, zlt, zbd_s, zbx_l, zbx_r, zj0, zj1, zj2, zj3, zset_2, zput_1, if_true, if_false, zar_p, zld_p, zst_p, zdv_p, zrm_p, zc01_p, zb_p, zb_n, if_pos, if_neg]
      refine Sim.no (b := 0) (E := "java/lang/IllegalArgumentException") (M' := zset M 0 1) (C' := C) ?_ ?_ (by decide) rfl (hJ.thr 1)
      · simp (disch := omega) only [m_X9_meant, p_X9_between, zset_e, zlt, zbd_s, zbx_l, zbx_r, zj0, zj1, zj2, zj3, zset_2, zput_1, if_true, if_false, zar_p, zld_p, zst_p, zdv_p, zrm_p, zc01_p, zb_p, zb_n, if_pos, if_neg]
        exact e2
      · simp (disch := omega) only [m_X8_meant, p_X8_needArgument, zlt, zbd_s, zbx_l, zbx_r, zj0, zj1, zj2, zj3, zset_2, zput_1, if_true, if_false, zar_p, zld_p, zst_p, zdv_p, zrm_p, zc01_p, zb_p, zb_n, if_pos, if_neg]
  · have e2 : zl2 1000 (b_X9_meant_37 a b (fun (v2 : Int) (S4 : zSt) => zlt (S4.1 0) fun x2 => if x2 ≤ 0 then (some (v2, S4)) else (some (0, S4)))) (-1) 0 (zset M 0 1) = some (0, zset M 0 1) := by
      refine (zl2_s 999 _ (-1) 0 (zset M 0 1)).trans ?_
      by_cases c : C.1 2 ≤ 0
      · simp (disch := omega) only [b_X9_meant_37, p3, zset_n, zset_e, zlt, zbd_s, zbx_l, zbx_r, zj0, zj1, zj2, zj3, zset_2, zput_1, if_true, if_false, zar_p, zld_p, zst_p, zdv_p, zrm_p, zc01_p, zb_p, zb_n, if_pos, if_neg]
      · simp (disch := omega) only [b_X9_meant_37, p3, zset_n, zset_e, zlt, zbd_s, zbx_l, zbx_r, zj0, zj1, zj2, zj3, zset_2, zput_1, if_true, if_false, zar_p, zld_p, zst_p, zdv_p, zrm_p, zc01_p, zb_p, zb_n, if_pos, if_neg]
    refine Sim.no (b := 0) (E := "java/lang/IllegalArgumentException") (M' := zset M 0 1) (C' := C) ?_ ?_ (by decide) rfl (hJ.thr 1)
    · simp (disch := omega) only [m_X9_meant, p_X9_between, zset_e, zlt, zbd_s, zbx_l, zbx_r, zj0, zj1, zj2, zj3, zset_2, zput_1, if_true, if_false, zar_p, zld_p, zst_p, zdv_p, zrm_p, zc01_p, zb_p, zb_n, if_pos, if_neg]
      exact e2
    · simp (disch := omega) only [m_X8_meant, p_X8_needArgument, zlt, zbd_s, zbx_l, zbx_r, zj0, zj1, zj2, zj3, zset_2, zput_1, if_true, if_false, zar_p, zld_p, zst_p, zdv_p, zrm_p, zc01_p, zb_p, zb_n, if_pos, if_neg]

