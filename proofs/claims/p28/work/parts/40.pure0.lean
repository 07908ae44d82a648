/-! THE PURE SIDE: what the mirrors of the class say (rows of claims/whole, taken by name) -/
theorem zar_p {R : Type} {e : Int} {k : Int → Option R} (h : inR e) : zar e k = k e := if_pos h
theorem zld_p {R : Type} {a : Int → Int} {n i : Int} {k : Int → Option R} (h : 0 ≤ i ∧ i < n) : zld a n i k = k (a i) := if_pos h
theorem zst_p {R : Type} {S : zSt} {j : Nat} {n i v : Int} {k : zSt → Option R} (h : 0 ≤ i ∧ i < n) : zst S j n i v k = k (zput S j i v) := if_pos h
theorem zdv_p {R : Type} {a b : Int} {k : Int → Option R} (h : 0 ≤ a ∧ 0 < b) : zdv a b k = k (a / b) := if_pos h
theorem zrm_p {R : Type} {a b : Int} {k : Int → Option R} (h : 0 ≤ a ∧ 0 < b) : zrm a b k = k (a % b) := if_pos h
theorem zc01_p {R : Type} {x : Int} {k : Option R} (h : x = 0 ∨ x = 1) : zc01 x k = k := if_pos h
theorem zbd_s {R : Type} (r : Int) (S : zSt) (k : Int → zSt → Option R) : zbd (some (r, S)) k = k r S := rfl
theorem zput_1 (S : zSt) (j : Nat) (i v : Int) : (zput S j i v).1 = S.1 := rfl
theorem zset_2 (S : zSt) (j : Nat) (v : Int) : (zset S j v).2 = S.2 := rfl
theorem zput_e (S : zSt) (j : Nat) (i v : Int) : (zput S j i v).2 j = fun t => if t = i then v else S.2 j t := if_pos rfl
theorem zput_n (S : zSt) {j q : Nat} (i v : Int) (h : q ≠ j) : (zput S j i v).2 q = S.2 q := if_neg h
theorem zset_e (S : zSt) (j : Nat) (v : Int) : (zset S j v).1 j = v := if_pos rfl
theorem zset_n (S : zSt) {j q : Nat} (v : Int) (h : q ≠ j) : (zset S j v).1 q = S.1 q := if_neg h
def zat (a : Int → Int) (n i : Int) : Int := if 0 ≤ i ∧ i < n then a i else -1
theorem zat_p {a : Int → Int} {n i : Int} (h : 0 ≤ i ∧ i < n) : zat a n i = a i := if_pos h
theorem p_at (S : zSt) (j : Nat) (n i : Int) : m_at S j n i = some (zat (S.2 j) n i, S) := by
  unfold m_at zat
  by_cases h1 : i < 0
  · rw [if_pos h1, if_neg (by omega)]
  · by_cases h2 : n ≤ i
    · rw [if_neg h1, if_pos h2, if_neg (by omega)]
    · rw [if_neg h1, if_neg h2, zld_p (by omega), if_pos (by omega)]
def zb (c : Prop) [Decidable c] : Int := if c then 1 else 0
theorem zb_p {c : Prop} [Decidable c] (h : c) : zb c = 1 := if_pos h
theorem zb_n {c : Prop} [Decidable c] (h : ¬ c) : zb c = 0 := if_neg h
theorem zb_0 {c : Prop} [Decidable c] : zb c = 0 ↔ ¬ c := by
  unfold zb
  by_cases h : c
  · rw [if_pos h]; exact ⟨fun q => (by cases q), fun q => absurd h q⟩
  · rw [if_neg h]; exact ⟨fun _ => h, fun _ => rfl⟩
theorem p_X0_has (S : zSt) (a : Int) : m_X0_has S a = some (zb (0 ≤ a ∧ a < S.1 2), S) := by
  simp only [m_X0_has, zj0, zlt, zb]
  repeat' split
  all_goals first | rfl | (exfalso; omega)
theorem p_X1_has (S : zSt) (a : Int) : m_X1_has S a = some (zb (0 ≤ a ∧ a < S.1 3), S) := by
  simp only [m_X1_has, zj0, zlt, zb]
  repeat' split
  all_goals first | rfl | (exfalso; omega)
theorem p_X7_has (S : zSt) (a : Int) : m_X7_has S a = some (zb (0 ≤ a ∧ a < S.1 1), S) := by
  simp only [m_X7_has, zj0, zlt, zb]
  repeat' split
  all_goals first | rfl | (exfalso; omega)
theorem p_X0_isFull (S : zSt) : m_X0_isFull S = some (zb (12 ≤ S.1 2), S) := by
  simp only [m_X0_isFull, zlt, zb]
  repeat' split
  all_goals first | rfl | (exfalso; omega)
theorem p_X1_isFull (S : zSt) : m_X1_isFull S = some (zb (60 ≤ S.1 3), S) := by
  simp only [m_X1_isFull, zlt, zb]
  repeat' split
  all_goals first | rfl | (exfalso; omega)
theorem p_X8_needArgument (S : zSt) (a b c : Int) : m_X8_needArgument S a b c = if b ≤ a ∧ a ≤ c then some (.inl (0, S)) else some (.inr ("java/lang/IllegalArgumentException", S)) := by
  simp only [m_X8_needArgument, zj0]
  repeat' split
  all_goals first | rfl | (exfalso; omega)
theorem p_X8_needUnit (S : zSt) (a : Int) : m_X8_needUnit S a = if 0 ≤ a ∧ a < S.1 1 then some (.inl (0, S)) else some (.inr ("java/lang/IndexOutOfBoundsException", S)) := by
  simp only [m_X8_needUnit, p_X7_has, zbd_s, zb_0]
  repeat' split
  all_goals first | rfl | (exfalso; omega)
theorem p_X8_needAuthor (S : zSt) (a : Int) : m_X8_needAuthor S a = if 0 ≤ a ∧ a < S.1 2 then some (.inl (0, S)) else some (.inr ("java/lang/IndexOutOfBoundsException", S)) := by
  simp only [m_X8_needAuthor, p_X0_has, zbd_s, zb_0]
  repeat' split
  all_goals first | rfl | (exfalso; omega)
theorem p_X8_needComment (S : zSt) (a : Int) : m_X8_needComment S a = if 0 ≤ a ∧ a < S.1 3 then some (.inl (0, S)) else some (.inr ("java/lang/IndexOutOfBoundsException", S)) := by
  simp only [m_X8_needComment, p_X1_has, zbd_s, zb_0]
  repeat' split
  all_goals first | rfl | (exfalso; omega)
theorem p_X8_needRoomForComment (S : zSt) : m_X8_needRoomForComment S = if S.1 3 < 60 then some (.inl (0, S)) else some (.inr ("java/lang/IllegalStateException", S)) := by
  simp only [m_X8_needRoomForComment, p_X1_isFull, zbd_s, zb_0]
  repeat' split
  all_goals first | rfl | (exfalso; omega)
theorem p_X7_sizeOf (S : zSt) (a : Int) (h : S.1 1 ≤ 20) : m_X7_sizeOf S a = some (if 0 ≤ a ∧ a < S.1 1 then S.2 2 a else 0, S) := by
  simp only [m_X7_sizeOf, p_X7_has, zbd_s, zb_0]
  by_cases c : 0 ≤ a ∧ a < S.1 1
  · rw [if_neg (not_not_intro c), if_pos c, zld_p (by omega)]
  · rw [if_pos c, if_neg c]
theorem p_X7_hasPlace (S : zSt) (a k : Int) (h : S.1 1 ≤ 20) : m_X7_hasPlace S a k = some (zb (0 ≤ k ∧ k < (if 0 ≤ a ∧ a < S.1 1 then S.2 2 a else 0)), S) := by
  simp only [m_X7_hasPlace, p_X7_sizeOf S a h, zbd_s, zj0, zb]
  by_cases c : 0 ≤ a ∧ a < S.1 1
  · simp only [if_pos c]
    repeat' split
    all_goals first | rfl | (exfalso; omega)
  · simp only [if_neg c]
    repeat' split
    all_goals first | rfl | (exfalso; omega)
theorem zbx_l {R : Type} (r : Int) (S : zSt) (k : Int → zSt → Option (R ⊕ (String × zSt))) : zbx (some (.inl (r, S))) k = k r S := rfl
theorem zbx_r {R : Type} (e : String × zSt) (k : Int → zSt → Option (R ⊕ (String × zSt))) : zbx (some (.inr e)) k = some (.inr e) := rfl
theorem p_X4_isFull (S : zSt) : m_X4_isFull S = some (zb (12 ≤ S.1 0), S) := by
  simp only [m_X4_isFull, zlt, zb]
  repeat' split
  all_goals first | rfl | (exfalso; omega)
theorem p_X4_add (S : zSt) (a : Int) (h0 : 0 ≤ S.1 0) (h : S.1 0 < 12) : m_X4_add S a = some (0, zset (zput S 0 (S.1 0) a) 0 (S.1 0 + 1)) := by
  simp (disch := omega) only [m_X4_add, p_X4_isFull, zlt, zbd_s, zbx_l, zbx_r, zj0, zj1, zj2, zj3, zset_2, zput_1, if_true, if_false, zar_p, zld_p, zst_p, zdv_p, zrm_p, zc01_p, zb_p, zb_n, if_pos, if_neg]
theorem p_X7_wordAt (S : zSt) (u k : Int) (h : S.1 1 ≤ 20) (hs : ∀ u, 0 ≤ u → u < S.1 1 → S.2 2 u ≤ 12) : m_X7_wordAt S u k = some (if (0 ≤ u ∧ u < S.1 1) ∧ 0 ≤ k ∧ k < S.2 2 u then S.2 1 (u * 12 + k) else -1, S) := by
  simp only [m_X7_wordAt, p_X7_hasPlace S u k h, zbd_s, zb_0]
  by_cases c : 0 ≤ u ∧ u < S.1 1
  · have hs1 := hs u c.1 c.2
    simp only [if_pos c]
    by_cases c2 : 0 ≤ k ∧ k < S.2 2 u
    · simp (disch := omega) only [zlt, zbd_s, zbx_l, zbx_r, zj0, zj1, zj2, zj3, zset_2, zput_1, if_true, if_false, zar_p, zld_p, zst_p, zdv_p, zrm_p, zc01_p, zb_p, zb_n, if_pos, if_neg]
    · simp (disch := omega) only [zlt, zbd_s, zbx_l, zbx_r, zj0, zj1, zj2, zj3, zset_2, zput_1, if_true, if_false, zar_p, zld_p, zst_p, zdv_p, zrm_p, zc01_p, zb_p, zb_n, if_pos, if_neg]
  · simp only [if_neg c]
    simp (disch := omega) only [zlt, zbd_s, zbx_l, zbx_r, zj0, zj1, zj2, zj3, zset_2, zput_1, if_true, if_false, zar_p, zld_p, zst_p, zdv_p, zrm_p, zc01_p, zb_p, zb_n, if_pos, if_neg]
theorem p_X0_add (S : zSt) (a b c : Int) (h0 : 0 ≤ S.1 2) (h : S.1 2 < 12) : m_X0_add S a b c = some (0, zset (zput (zput (zput S 4 (S.1 2) a) 5 (S.1 2) b) 6 (S.1 2) c) 2 (S.1 2 + 1)) := by
  simp (disch := omega) only [m_X0_add, p_X0_isFull, zlt, zbd_s, zbx_l, zbx_r, zj0, zj1, zj2, zj3, zset_2, zput_1, if_true, if_false, zar_p, zld_p, zst_p, zdv_p, zrm_p, zc01_p, zb_p, zb_n, if_pos, if_neg]
theorem zl1_s {R : Type} (g : Nat) (F : (Int → zSt → Option R) → Int → zSt → Option R) (a : Int) (S : zSt) : zl1 (g + 1) F a S = F (zl1 g F) a S := rfl
theorem zl2_s {R : Type} (g : Nat) (F : (Int → Int → zSt → Option R) → Int → Int → zSt → Option R) (a b : Int) (S : zSt) : zl2 (g + 1) F a b S = F (zl2 g F) a b S := rfl
theorem zl3_s {R : Type} (g : Nat) (F : (Int → Int → Int → zSt → Option R) → Int → Int → Int → zSt → Option R) (a b c : Int) (S : zSt) : zl3 (g + 1) F a b c S = F (zl3 g F) a b c S := rfl
theorem zl4_s {R : Type} (g : Nat) (F : (Int → Int → Int → Int → zSt → Option R) → Int → Int → Int → Int → zSt → Option R) (a b c d : Int) (S : zSt) : zl4 (g + 1) F a b c d S = F (zl4 g F) a b c d S := rfl
theorem zw1 {R : Type} {F : (Int → zSt → Option R) → Int → zSt → Option R} (I : Nat → Int → zSt → Prop) (Q : Option R → Prop) (step : ∀ (rec : Int → zSt → Option R) (d : Nat) (a0 : Int) (S : zSt), I d a0 S → Q (F rec a0 S) ∨ ∃ (e : Nat) (x0 : Int) (T : zSt), e < d ∧ I e x0 T ∧ F rec a0 S = rec x0 T) : ∀ (g d : Nat) (a0 : Int) (S : zSt), I d a0 S → d < g → Q (zl1 g F a0 S) := by
  intro g
  induction g with
  | zero => intro d a0 S _ h; exact absurd h (Nat.not_lt_zero d)
  | succ g ih =>
    intro d a0 S hI h
    rw [zl1_s]
    rcases step (zl1 g F) d a0 S hI with q | ⟨e, x0, T, h1, h2, h3⟩
    · exact q
    · rw [h3]; exact ih e x0 T h2 (by omega)
theorem zw2 {R : Type} {F : (Int → Int → zSt → Option R) → Int → Int → zSt → Option R} (I : Nat → Int → Int → zSt → Prop) (Q : Option R → Prop) (step : ∀ (rec : Int → Int → zSt → Option R) (d : Nat) (a0 a1 : Int) (S : zSt), I d a0 a1 S → Q (F rec a0 a1 S) ∨ ∃ (e : Nat) (x0 x1 : Int) (T : zSt), e < d ∧ I e x0 x1 T ∧ F rec a0 a1 S = rec x0 x1 T) : ∀ (g d : Nat) (a0 a1 : Int) (S : zSt), I d a0 a1 S → d < g → Q (zl2 g F a0 a1 S) := by
  intro g
  induction g with
  | zero => intro d a0 a1 S _ h; exact absurd h (Nat.not_lt_zero d)
  | succ g ih =>
    intro d a0 a1 S hI h
    rw [zl2_s]
    rcases step (zl2 g F) d a0 a1 S hI with q | ⟨e, x0, x1, T, h1, h2, h3⟩
    · exact q
    · rw [h3]; exact ih e x0 x1 T h2 (by omega)
theorem zw3 {R : Type} {F : (Int → Int → Int → zSt → Option R) → Int → Int → Int → zSt → Option R} (I : Nat → Int → Int → Int → zSt → Prop) (Q : Option R → Prop) (step : ∀ (rec : Int → Int → Int → zSt → Option R) (d : Nat) (a0 a1 a2 : Int) (S : zSt), I d a0 a1 a2 S → Q (F rec a0 a1 a2 S) ∨ ∃ (e : Nat) (x0 x1 x2 : Int) (T : zSt), e < d ∧ I e x0 x1 x2 T ∧ F rec a0 a1 a2 S = rec x0 x1 x2 T) : ∀ (g d : Nat) (a0 a1 a2 : Int) (S : zSt), I d a0 a1 a2 S → d < g → Q (zl3 g F a0 a1 a2 S) := by
  intro g
  induction g with
  | zero => intro d a0 a1 a2 S _ h; exact absurd h (Nat.not_lt_zero d)
  | succ g ih =>
    intro d a0 a1 a2 S hI h
    rw [zl3_s]
    rcases step (zl3 g F) d a0 a1 a2 S hI with q | ⟨e, x0, x1, x2, T, h1, h2, h3⟩
    · exact q
    · rw [h3]; exact ih e x0 x1 x2 T h2 (by omega)
theorem zw22 {R R2 : Type} {F : (Int → Int → zSt → Option R) → Int → Int → zSt → Option R} {G : (Int → Int → zSt → Option R2) → Int → Int → zSt → Option R2} (I : Nat → Int → Int → zSt → Int → Int → zSt → Prop) (Q : Option R → Option R2 → Prop) (step : ∀ (rec : Int → Int → zSt → Option R) (rec2 : Int → Int → zSt → Option R2) (d : Nat) (a0 a1 : Int) (S : zSt) (b0 b1 : Int) (S2 : zSt), I d a0 a1 S b0 b1 S2 → Q (F rec a0 a1 S) (G rec2 b0 b1 S2) ∨ ∃ (e : Nat) (x0 x1 : Int) (T : zSt) (y0 y1 : Int) (T2 : zSt), e < d ∧ I e x0 x1 T y0 y1 T2 ∧ F rec a0 a1 S = rec x0 x1 T ∧ G rec2 b0 b1 S2 = rec2 y0 y1 T2) : ∀ (g g2 d : Nat) (a0 a1 : Int) (S : zSt) (b0 b1 : Int) (S2 : zSt), I d a0 a1 S b0 b1 S2 → d < g → d < g2 → Q (zl2 g F a0 a1 S) (zl2 g2 G b0 b1 S2) := by
  intro g
  induction g with
  | zero => intro g2 d a0 a1 S b0 b1 S2 _ h; exact absurd h (Nat.not_lt_zero d)
  | succ g ih =>
    intro g2 d a0 a1 S b0 b1 S2 hI h h2
    obtain ⟨g2, rfl⟩ : ∃ k, g2 = k + 1 := ⟨g2 - 1, by omega⟩
    rw [zl2_s, zl2_s]
    rcases step (zl2 g F) (zl2 g2 G) d a0 a1 S b0 b1 S2 hI with q | ⟨e, x0, x1, T, y0, y1, T2, h3, h4, h5, h6⟩
    · exact q
    · rw [h5, h6]; exact ih g2 e x0 x1 T y0 y1 T2 h4 (by omega) (by omega)
theorem zw23 {R R2 : Type} {F : (Int → Int → zSt → Option R) → Int → Int → zSt → Option R} {G : (Int → Int → Int → zSt → Option R2) → Int → Int → Int → zSt → Option R2} (I : Nat → Int → Int → zSt → Int → Int → Int → zSt → Prop) (Q : Option R → Option R2 → Prop) (step : ∀ (rec : Int → Int → zSt → Option R) (rec2 : Int → Int → Int → zSt → Option R2) (d : Nat) (a0 a1 : Int) (S : zSt) (b0 b1 b2 : Int) (S2 : zSt), I d a0 a1 S b0 b1 b2 S2 → Q (F rec a0 a1 S) (G rec2 b0 b1 b2 S2) ∨ ∃ (e : Nat) (x0 x1 : Int) (T : zSt) (y0 y1 y2 : Int) (T2 : zSt), e < d ∧ I e x0 x1 T y0 y1 y2 T2 ∧ F rec a0 a1 S = rec x0 x1 T ∧ G rec2 b0 b1 b2 S2 = rec2 y0 y1 y2 T2) : ∀ (g g2 d : Nat) (a0 a1 : Int) (S : zSt) (b0 b1 b2 : Int) (S2 : zSt), I d a0 a1 S b0 b1 b2 S2 → d < g → d < g2 → Q (zl2 g F a0 a1 S) (zl3 g2 G b0 b1 b2 S2) := by
  intro g
  induction g with
  | zero => intro g2 d a0 a1 S b0 b1 b2 S2 _ h; exact absurd h (Nat.not_lt_zero d)
  | succ g ih =>
    intro g2 d a0 a1 S b0 b1 b2 S2 hI h h2
    obtain ⟨g2, rfl⟩ : ∃ k, g2 = k + 1 := ⟨g2 - 1, by omega⟩
    rw [zl2_s, zl3_s]
    rcases step (zl2 g F) (zl3 g2 G) d a0 a1 S b0 b1 b2 S2 hI with q | ⟨e, x0, x1, T, y0, y1, y2, T2, h3, h4, h5, h6⟩
    · exact q
    · rw [h5, h6]; exact ih g2 e x0 x1 T y0 y1 y2 T2 h4 (by omega) (by omega)
def zrp (S : zSt) (j : Nat) (f : Int → Int) : zSt := (S.1, fun q => if q = j then f else S.2 q)
theorem zrp_e (S : zSt) (j : Nat) (f : Int → Int) : (zrp S j f).2 j = f := if_pos rfl
theorem zrp_n (S : zSt) {j q : Nat} (f : Int → Int) (h : q ≠ j) : (zrp S j f).2 q = S.2 q := if_neg h
theorem zrp_1 (S : zSt) (j : Nat) (f : Int → Int) : (zrp S j f).1 = S.1 := rfl
theorem zrp_self (S : zSt) (j : Nat) : zrp S j (S.2 j) = S := by
  refine Prod.ext rfl (funext fun q => ?_)
  show (if q = j then S.2 j else S.2 q) = S.2 q
  by_cases e : q = j
  · rw [if_pos e, e]
  · rw [if_neg e]
def zfu (f : Int → Int) (i v : Int) : Int → Int := fun t => if t = i then v else f t
theorem zfu_e (f : Int → Int) (i v : Int) : zfu f i v i = v := if_pos rfl
theorem zfu_n (f : Int → Int) {i t : Int} (v : Int) (h : t ≠ i) : zfu f i v t = f t := if_neg h
theorem zput_rp (S : zSt) (j : Nat) (f : Int → Int) (i v : Int) : zput (zrp S j f) j i v = zrp S j (zfu f i v) := by
  refine Prod.ext rfl (funext fun q => ?_)
  show (if q = j then (fun t => if t = i then v else (zrp S j f).2 j t) else (zrp S j f).2 q) = (if q = j then (fun t => if t = i then v else f t) else S.2 q)
  by_cases e : q = j
  · rw [if_pos e, if_pos e, zrp_e]
  · rw [if_neg e, if_neg e, zrp_n S f e]
theorem zset_rp (S : zSt) (j k : Nat) (f : Int → Int) (v : Int) : zset (zrp S j f) k v = zrp (zset S k v) j f := rfl
theorem p_X4_wordAt (S : zSt) (k : Int) (h : 0 ≤ k ∧ k < S.1 0) (h2 : S.1 0 ≤ 12) : m_X4_wordAt S k = some (S.2 0 k, S) := by
  simp (disch := omega) only [m_X4_wordAt, p_at, zat_p, zlt, zbd_s, zbx_l, zbx_r, zj0, zj1, zj2, zj3, zset_2, zput_1, if_true, if_false, zar_p, zld_p, zst_p, zdv_p, zrm_p, zc01_p, zb_p, zb_n, if_pos, if_neg]
theorem p_X7_put (S : zSt) (a k w : Int) (ha : 0 ≤ a ∧ a < S.1 1) (hk : 0 ≤ k ∧ k < S.2 2 a) (h1 : S.1 1 ≤ 20) (h2 : S.2 2 a ≤ 12) : m_X7_put S a k w = some (0, zput S 1 (12 * a + k) w) := by
  have e : a * 12 + k = 12 * a + k := by omega
  simp (disch := omega) only [m_X7_put, p_X7_hasPlace S a k h1, e, zlt, zbd_s, zbx_l, zbx_r, zj0, zj1, zj2, zj3, zset_2, zput_1, if_true, if_false, zar_p, zld_p, zst_p, zdv_p, zrm_p, zc01_p, zb_p, zb_n, if_pos, if_neg]
theorem p_X7_add (S : zSt) (h0 : 0 ≤ S.1 1 ∧ S.1 1 < 20) (h1 : 0 ≤ S.1 0 ∧ S.1 0 ≤ 12) : ∃ f, m_X7_add S = some (0, zrp (zput (zset S 1 (S.1 1 + 1)) 2 (S.1 1) (S.1 0)) 1 f) ∧ (∀ t, t < 12 * S.1 1 → f t = S.2 1 t) ∧ ∀ k, 0 ≤ k → k < S.1 0 → f (12 * S.1 1 + k) = S.2 0 k := by
  have key := zw1 (F := b_X7_add_35 (S.1 1)) (fun d i T => 0 ≤ i ∧ i + d = S.1 0 ∧ ∃ f, T = zrp (zput (zset S 1 (S.1 1 + 1)) 2 (S.1 1) (S.1 0)) 1 f ∧ (∀ t, t < 12 * S.1 1 → f t = S.2 1 t) ∧ ∀ k, 0 ≤ k → k < i → f (12 * S.1 1 + k) = S.2 0 k)
    (fun x => ∃ f, x = some (0, zrp (zput (zset S 1 (S.1 1 + 1)) 2 (S.1 1) (S.1 0)) 1 f) ∧ (∀ t, t < 12 * S.1 1 → f t = S.2 1 t) ∧ ∀ k, 0 ≤ k → k < S.1 0 → f (12 * S.1 1 + k) = S.2 0 k) (by
      rintro rec d i T ⟨h2, h3, f, rfl, h4, h5⟩
      have z1 : (zrp (zput (zset S 1 (S.1 1 + 1)) 2 (S.1 1) (S.1 0)) 1 f).1 0 = S.1 0 := rfl
      have z2 : (zrp (zput (zset S 1 (S.1 1 + 1)) 2 (S.1 1) (S.1 0)) 1 f).1 1 = S.1 1 + 1 := rfl
      have z3 : (zrp (zput (zset S 1 (S.1 1 + 1)) 2 (S.1 1) (S.1 0)) 1 f).2 2 (S.1 1) = S.1 0 := if_pos rfl
      have z4 : (zrp (zput (zset S 1 (S.1 1 + 1)) 2 (S.1 1) (S.1 0)) 1 f).2 0 = S.2 0 := rfl
      by_cases c : S.1 0 ≤ i
      · refine Or.inl ⟨f, ?_, h4, fun k h6 h7 => h5 k h6 (by omega)⟩
        simp (disch := omega) only [b_X7_add_35, m_X4_size, z1, zlt, zbd_s, zbx_l, zbx_r, zj0, zj1, zj2, zj3, zset_2, zput_1, if_true, if_false, zar_p, zld_p, zst_p, zdv_p, zrm_p, zc01_p, zb_p, zb_n, if_pos, if_neg]
      · refine Or.inr ⟨d - 1, i + 1, _, by omega, ⟨by omega, by omega, zfu f (12 * S.1 1 + i) (S.2 0 i), rfl, fun t h6 => ?_, fun k h6 h7 => ?_⟩, ?_⟩
        · rw [zfu_n _ _ (by omega)]; exact h4 t h6
        · by_cases e : k = i
          · rw [e, zfu_e]
          · rw [zfu_n _ _ (by omega)]; exact h5 k h6 (by omega)
        · have hp := fun w => p_X7_put (zrp (zput (zset S 1 (S.1 1 + 1)) 2 (S.1 1) (S.1 0)) 1 f) (S.1 1) i w ⟨by omega, by rw [z2]; omega⟩ ⟨h2, by rw [z3]; omega⟩ (by rw [z2]; omega) (by rw [z3]; omega)
          have hw := p_X4_wordAt (zrp (zput (zset S 1 (S.1 1 + 1)) 2 (S.1 1) (S.1 0)) 1 f) i ⟨h2, by rw [z1]; omega⟩ (by rw [z1]; omega)
          rw [z4] at hw
          simp (disch := omega) only [b_X7_add_35, m_X4_size, z1, hw, hp, zput_rp, zlt, zbd_s, zbx_l, zbx_r, zj0, zj1, zj2, zj3, zset_2, zput_1, if_true, if_false, zar_p, zld_p, zst_p, zdv_p, zrm_p, zc01_p, zb_p, zb_n, if_pos, if_neg])
    1000 (S.1 0).toNat 0 (zput (zset S 1 (S.1 1 + 1)) 2 (S.1 1) (S.1 0)) ⟨by omega, by omega, S.2 1, (zrp_self _ 1).symm, fun t _ => rfl, fun k h2 h3 => absurd h2 (by omega)⟩ (by omega)
  obtain ⟨f, e1, e2, e3⟩ := key
  refine ⟨f, ?_, e2, e3⟩
  simp (disch := omega) only [m_X7_add, m_X7_isFull, m_X4_size, zset_n, e1, zlt, zbd_s, zbx_l, zbx_r, zj0, zj1, zj2, zj3, zset_2, zput_1, if_true, if_false, zar_p, zld_p, zst_p, zdv_p, zrm_p, zc01_p, zb_p, zb_n, if_pos, if_neg]
theorem p_X1_add (S : zSt) (a b c d : Int) (h : 0 ≤ S.1 3 ∧ S.1 3 < 60) : m_X1_add S a b c d = some (S.1 3, zset (zput (zput (zput (zput S 7 (S.1 3) a) 8 (S.1 3) b) 9 (S.1 3) c) 10 (S.1 3) d) 3 (S.1 3 + 1)) := by
  simp (disch := omega) only [m_X1_add, p_X1_isFull, zset_e, Int.add_sub_cancel, zlt, zbd_s, zbx_l, zbx_r, zj0, zj1, zj2, zj3, zset_2, zput_1, if_true, if_false, zar_p, zld_p, zst_p, zdv_p, zrm_p, zc01_p, zb_p, zb_n, if_pos, if_neg]
theorem p_X1_hookTo (S : zSt) (c u p w : Int) (h : 0 ≤ c ∧ c < S.1 3) (h2 : S.1 3 ≤ 60) : m_X1_hookTo S c u p w = some (0, zput (zput (zput (zput (zput S 11 c (-1)) 12 c c) 13 c u) 14 c p) 15 c w) := by
  simp (disch := omega) only [m_X1_hookTo, p_X1_has, zlt, zbd_s, zbx_l, zbx_r, zj0, zj1, zj2, zj3, zset_2, zput_1, if_true, if_false, zar_p, zld_p, zst_p, zdv_p, zrm_p, zc01_p, zb_p, zb_n, if_pos, if_neg]
theorem q_comm2 {C : zSt} {a u k w m l g n na nu r : Int} (c3 : C.1 3 = n) (p3 : C.1 2 = na) (t3 : C.1 1 = nu) (h1 : 0 ≤ a ∧ a < na) (hb : 0 ≤ u ∧ u < nu) (h : ((0 ≤ k ∧ k ≤ 4) ∧ (1 ≤ l ∧ l ≤ 9) ∧ 0 ≤ g ∧ g ≤ 1) ∧ (0 ≤ w ∧ w ≤ 59) ∧ 1 ≤ m ∧ m ≤ 12) (h5 : 0 ≤ n ∧ n < 60) (hf : m_X7_placeOf C u w m = some (r, C)) (hr : 0 ≤ r) : m_X8_comment C a u k w m l g = some (.inl (n, zput (zput (zput (zput (zput (zset (zput (zput (zput (zput C 7 n a) 8 n k) 9 n l) 10 n g) 3 (n + 1)) 11 n (-1)) 12 n n) 13 n u) 14 n r) 15 n w)) := by
  simp (disch := omega) only [m_X8_comment, p_X8_needAuthor, p_X8_needUnit, p_X8_needArgument, p_X8_needRoomForComment, p3, c3, t3, hf, m_X1_add, p_X1_isFull, m_X1_hookTo, p_X1_has, zset_e, zset_n, Int.add_sub_cancel, zlt, zbd_s, zbx_l, zbx_r, zj0, zj1, zj2, zj3, zset_2, zput_1, if_true, if_false, zar_p, zld_p, zst_p, zdv_p, zrm_p, zc01_p, zb_p, zb_n, if_pos, if_neg]
theorem q_comm4 {C : zSt} {a u k w m l g n na nu r : Int} (c3 : C.1 3 = n) (p3 : C.1 2 = na) (t3 : C.1 1 = nu) (h1 : 0 ≤ a ∧ a < na) (hb : 0 ≤ u ∧ u < nu) (h : ((0 ≤ k ∧ k ≤ 4) ∧ (1 ≤ l ∧ l ≤ 9) ∧ 0 ≤ g ∧ g ≤ 1) ∧ (0 ≤ w ∧ w ≤ 59) ∧ 1 ≤ m ∧ m ≤ 12) (h5 : 0 ≤ n ∧ n ≤ 60) (hf : m_X7_placeOf C u w m = some (r, C)) (hr : n = 60 ∨ r = -1) : m_X8_comment C a u k w m l g = some (.inr ("java/lang/IllegalStateException", C)) := by
  by_cases e : n = 60
  · simp (disch := omega) only [m_X8_comment, p_X8_needAuthor, p_X8_needUnit, p_X8_needArgument, p_X8_needRoomForComment, p3, c3, t3, hf, zlt, zbd_s, zbx_l, zbx_r, zj0, zj1, zj2, zj3, zset_2, zput_1, if_true, if_false, zar_p, zld_p, zst_p, zdv_p, zrm_p, zc01_p, zb_p, zb_n, if_pos, if_neg]
  · simp (disch := omega) only [m_X8_comment, p_X8_needAuthor, p_X8_needUnit, p_X8_needArgument, p_X8_needRoomForComment, p3, c3, t3, hf, zlt, zbd_s, zbx_l, zbx_r, zj0, zj1, zj2, zj3, zset_2, zput_1, if_true, if_false, zar_p, zld_p, zst_p, zdv_p, zrm_p, zc01_p, zb_p, zb_n, if_pos, if_neg]
theorem zput_rp2 (S : zSt) {a b : Nat} (f g : Int → Int) (i v : Int) (h : a ≠ b) : zput (zrp (zrp S a f) b g) a i v = zrp (zrp S a (zfu f i v)) b g := by
  refine Prod.ext rfl (funext fun q => ?_)
  show (if q = a then (fun t => if t = i then v else (if a = b then g else if a = a then f else S.2 a) t) else (if q = b then g else if q = a then f else S.2 q)) = (if q = b then g else if q = a then zfu f i v else S.2 q)
  rw [if_neg h, if_pos rfl]
  by_cases e : q = a
  · rw [if_pos e, if_neg (by rw [e]; exact h), if_pos e]; rfl
  · rw [if_neg e, if_neg e, if_neg e]
theorem zrp2_self (S : zSt) (a b : Nat) : zrp (zrp S a (S.2 a)) b (S.2 b) = S := by rw [zrp_self, zrp_self]
theorem p_X1_isHook (S : zSt) (c u : Int) (hc : 0 ≤ c ∧ c < S.1 3) (hn : S.1 3 ≤ 60) : m_X1_isHook S c u = some (zb (S.2 11 c = -1 ∧ S.2 13 c = u), S) := by
  by_cases h : S.2 11 c = -1
  · by_cases h2 : S.2 13 c = u
    · simp (disch := omega) only [m_X1_isHook, p_X1_has, zlt, zbd_s, zbx_l, zbx_r, zj0, zj1, zj2, zj3, zset_2, zput_1, if_true, if_false, zar_p, zld_p, zst_p, zdv_p, zrm_p, zc01_p, zb_p, zb_n, if_pos, if_neg]
    · simp (disch := omega) only [m_X1_isHook, p_X1_has, zlt, zbd_s, zbx_l, zbx_r, zj0, zj1, zj2, zj3, zset_2, zput_1, if_true, if_false, zar_p, zld_p, zst_p, zdv_p, zrm_p, zc01_p, zb_p, zb_n, if_pos, if_neg]
  · simp (disch := omega) only [m_X1_isHook, p_X1_has, zlt, zbd_s, zbx_l, zbx_r, zj0, zj1, zj2, zj3, zset_2, zput_1, if_true, if_false, zar_p, zld_p, zst_p, zdv_p, zrm_p, zc01_p, zb_p, zb_n, if_pos, if_neg]
theorem q_hk1 {S : zSt} {u n x i r : Int} {rec : Int → Int → zSt → Option zRes} {j1 : Int → zSt → Option zRes} (hn : S.1 3 = n) (hn2 : n ≤ 60) (hi : 0 ≤ i ∧ i < n) (hx : 0 ≤ x ∧ x ≤ 60) (h1 : S.2 11 i = -1) (h2 : S.2 13 i = u) (hr : m_X7_nearest S u (S.2 15 i) (S.2 14 i) = some (r, S)) (hr2 : -1 ≤ r ∧ r < 12) (hl : S.2 16 i = 0 ∨ S.2 16 i = 1) : b_X1_hookAnew_5 u j1 rec x i S = (if r = -1 then (if S.2 16 i = 1 then rec x (i + 1) S else rec (x + 1) (i + 1) (zput S 16 i 1)) else (if S.2 16 i = 0 then rec x (i + 1) (zput S 14 i r) else rec (x + 1) (i + 1) (zput (zput S 14 i r) 16 i 0))) := by
  have hk := p_X1_isHook S i u (by omega) (by omega)
  have e : ∀ v, (zput S 14 i v).2 16 = S.2 16 := fun v => rfl
  by_cases c1 : r = -1
  · rcases hl with c2 | c2
    · simp (disch := omega) only [b_X1_hookAnew_5, hn, hk, hr, c2, zlt, zbd_s, zbx_l, zbx_r, zj0, zj1, zj2, zj3, zset_2, zput_1, if_true, if_false, zar_p, zld_p, zst_p, zdv_p, zrm_p, zc01_p, zb_p, zb_n, if_pos, if_neg]
    · simp (disch := omega) only [b_X1_hookAnew_5, hn, hk, hr, c2, zlt, zbd_s, zbx_l, zbx_r, zj0, zj1, zj2, zj3, zset_2, zput_1, if_true, if_false, zar_p, zld_p, zst_p, zdv_p, zrm_p, zc01_p, zb_p, zb_n, if_pos, if_neg]
  · rcases hl with c2 | c2
    · simp (disch := omega) only [b_X1_hookAnew_5, hn, hk, hr, e, c2, zlt, zbd_s, zbx_l, zbx_r, zj0, zj1, zj2, zj3, zset_2, zput_1, if_true, if_false, zar_p, zld_p, zst_p, zdv_p, zrm_p, zc01_p, zb_p, zb_n, if_pos, if_neg]
    · simp (disch := omega) only [b_X1_hookAnew_5, hn, hk, hr, e, c2, zlt, zbd_s, zbx_l, zbx_r, zj0, zj1, zj2, zj3, zset_2, zput_1, if_true, if_false, zar_p, zld_p, zst_p, zdv_p, zrm_p, zc01_p, zb_p, zb_n, if_pos, if_neg]
theorem q_cg1 {S : zSt} {u a l n i : Int} {rec : Int → zSt → Option zRes} (hn : S.1 3 = n) (hn2 : n ≤ 60) (hi : 0 ≤ i ∧ i < n) (h1 : S.2 11 i = -1) (h2 : S.2 13 i = u) (hp : 0 ≤ S.2 14 i ∧ S.2 14 i ≤ 12) : b_X1_closeGap_3 u a l rec i S = rec (i + 1) (zput S 14 i (if l < (if a < S.2 14 i then S.2 14 i - 1 else S.2 14 i) then l else if a < S.2 14 i then S.2 14 i - 1 else S.2 14 i)) := by
  have hk := p_X1_isHook S i u (by omega) (by omega)
  by_cases c1 : a < S.2 14 i
  · simp (disch := omega) only [b_X1_closeGap_3, hn, hk, zlt, zbd_s, zbx_l, zbx_r, zj0, zj1, zj2, zj3, zset_2, zput_1, if_true, if_false, zar_p, zld_p, zst_p, zdv_p, zrm_p, zc01_p, zb_p, zb_n, if_pos, if_neg]
  · simp (disch := omega) only [b_X1_closeGap_3, hn, hk, zlt, zbd_s, zbx_l, zbx_r, zj0, zj1, zj2, zj3, zset_2, zput_1, if_true, if_false, zar_p, zld_p, zst_p, zdv_p, zrm_p, zc01_p, zb_p, zb_n, if_pos, if_neg]
theorem q_cg2 {S : zSt} {u a l n i : Int} {rec : Int → zSt → Option zRes} (hn : S.1 3 = n) (hn2 : n ≤ 60) (hi : 0 ≤ i ∧ i < n) (h : ¬ (S.2 11 i = -1 ∧ S.2 13 i = u)) : b_X1_closeGap_3 u a l rec i S = rec (i + 1) S := by
  have hk := p_X1_isHook S i u (by omega) (by omega)
  simp (disch := omega) only [b_X1_closeGap_3, hn, hk, zlt, zbd_s, zbx_l, zbx_r, zj0, zj1, zj2, zj3, zset_2, zput_1, if_true, if_false, zar_p, zld_p, zst_p, zdv_p, zrm_p, zc01_p, zb_p, zb_n, if_pos, if_neg]
theorem q_cg {S : zSt} {u a l n : Int} (hn : S.1 3 = n) (hn2 : 0 ≤ n ∧ n ≤ 60) (hp : ∀ j, 0 ≤ j → j < n → S.2 11 j = -1 → 0 ≤ S.2 14 j ∧ S.2 14 j ≤ 12) : ∃ g, m_X1_closeGap S u a l = some (0, zrp S 14 g) ∧ ∀ j, ((0 ≤ j ∧ j < n) ∧ S.2 11 j = -1 ∧ S.2 13 j = u → g j = (if l < (if a < S.2 14 j then S.2 14 j - 1 else S.2 14 j) then l else if a < S.2 14 j then S.2 14 j - 1 else S.2 14 j)) ∧ (¬ ((0 ≤ j ∧ j < n) ∧ S.2 11 j = -1 ∧ S.2 13 j = u) → g j = S.2 14 j) := by
  refine zw1 (F := b_X1_closeGap_3 u a l) (fun d i T => 0 ≤ i ∧ i + d = n ∧ ∃ g, T = zrp S 14 g ∧ ∀ j, ((0 ≤ j ∧ j < i) ∧ S.2 11 j = -1 ∧ S.2 13 j = u → g j = (if l < (if a < S.2 14 j then S.2 14 j - 1 else S.2 14 j) then l else if a < S.2 14 j then S.2 14 j - 1 else S.2 14 j)) ∧ (¬ ((0 ≤ j ∧ j < i) ∧ S.2 11 j = -1 ∧ S.2 13 j = u) → g j = S.2 14 j)) (fun x => ∃ g, x = some (0, zrp S 14 g) ∧ ∀ j, ((0 ≤ j ∧ j < n) ∧ S.2 11 j = -1 ∧ S.2 13 j = u → g j = (if l < (if a < S.2 14 j then S.2 14 j - 1 else S.2 14 j) then l else if a < S.2 14 j then S.2 14 j - 1 else S.2 14 j)) ∧ (¬ ((0 ≤ j ∧ j < n) ∧ S.2 11 j = -1 ∧ S.2 13 j = u) → g j = S.2 14 j)) ?_ 1000 n.toNat 0 S ⟨by omega, by omega, S.2 14, (zrp_self S 14).symm, fun j => ⟨fun q => absurd q.1 (by omega), fun _ => rfl⟩⟩ (by omega)
  rintro rec d i T ⟨h1, h2, g, rfl, h3⟩
  have e1 : (zrp S 14 g).1 3 = n := hn
  by_cases c : n ≤ i
  · refine Or.inl ⟨g, ?_, ?_⟩
    · clear h3; simp (disch := omega) only [b_X1_closeGap_3, e1, zlt, zbd_s, zbx_l, zbx_r, zj0, zj1, zj2, zj3, zset_2, zput_1, if_true, if_false, zar_p, zld_p, zst_p, zdv_p, zrm_p, zc01_p, zb_p, zb_n, if_pos, if_neg]
    · rw [show n = i by omega]; exact h3
  · have hg : g i = S.2 14 i := (h3 i).2 fun q => by have := q.1; omega
    by_cases c1 : S.2 11 i = -1 ∧ S.2 13 i = u
    · have hp1 := hp i h1 (by omega) c1.1
      have st := q_cg1 (S := zrp S 14 g) (u := u) (a := a) (l := l) (rec := rec) e1 hn2.2 ⟨h1, by omega⟩ c1.1 c1.2 (by rw [zrp_e, hg]; exact hp1)
      rw [zrp_e, hg] at st
      refine Or.inr ⟨d - 1, i + 1, _, by omega, ⟨by omega, by omega, _, zput_rp _ _ _ _ _, fun j => ?_⟩, st⟩
      by_cases e : j = i
      · subst e
        rw [zfu_e]
        exact ⟨fun _ => rfl, fun q => absurd ⟨⟨h1, by omega⟩, c1⟩ q⟩
      · rw [zfu_n _ _ e]
        exact ⟨fun q => (h3 j).1 ⟨⟨q.1.1, by have := q.1.2; omega⟩, q.2⟩, fun q => (h3 j).2 fun z => q ⟨⟨z.1.1, by have := z.1.2; omega⟩, z.2⟩⟩
    · refine Or.inr ⟨d - 1, i + 1, zrp S 14 g, by omega, ⟨by omega, by omega, g, rfl, fun j => ?_⟩, q_cg2 (S := zrp S 14 g) e1 hn2.2 ⟨h1, by omega⟩ c1⟩
      by_cases e : j = i
      · subst e
        exact ⟨fun q => absurd q.2 c1, fun _ => hg⟩
      · exact ⟨fun q => (h3 j).1 ⟨⟨q.1.1, by have := q.1.2; omega⟩, q.2⟩, fun q => (h3 j).2 fun z => q ⟨⟨z.1.1, by have := z.1.2; omega⟩, z.2⟩⟩
def zsh (g : Int → Int) (lo hi : Int) : Int → Int := fun j => if lo ≤ j ∧ j < hi then g (j + 1) else g j
theorem zsh_0 (g : Int → Int) {lo hi : Int} (h : hi ≤ lo) : zsh g lo hi = g := funext fun j => if_neg (by omega)
theorem zsh_at (g : Int → Int) {lo hi j : Int} (h : hi ≤ j ∨ j < lo) : zsh g lo hi j = g j := if_neg (by omega)
theorem zsh_in (g : Int → Int) {lo hi j : Int} (h : lo ≤ j ∧ j < hi) : zsh g lo hi j = g (j + 1) := if_pos h
theorem zsh_s (g : Int → Int) {lo i : Int} (h : lo ≤ i) : zfu (zsh g lo i) i (g (i + 1)) = zsh g lo (i + 1) := by
  funext j
  by_cases e : j = i
  · subst e; rw [zfu_e, zsh_in g ⟨h, by omega⟩]
  · rw [zfu_n _ _ e]
    by_cases q : lo ≤ j ∧ j < i
    · rw [zsh_in g q, zsh_in g ⟨q.1, by omega⟩]
    · rw [zsh_at g (by omega), zsh_at g (by omega)]
theorem q_tk1 {C : zSt} {u a s : Int} (hu : 0 ≤ u ∧ u < C.1 1) (hU : C.1 1 ≤ 20) (hS : ∀ x, 0 ≤ x → x < C.1 1 → C.2 2 x ≤ 12) (hs : C.2 2 u = s) (hs2 : 1 ≤ s ∧ s ≤ 12) (ha : 0 ≤ a ∧ a < s) {j1 : zSt → Option zRes} : zl1 1000 (b_X7_takeOut_12 u j1) a C = j1 (zrp C 1 (zsh (C.2 1) (12 * u + a) (12 * u + s - 1))) := by
  refine zw1 (F := b_X7_takeOut_12 u j1) (fun d i S => a ≤ i ∧ i + d = s - 1 ∧ S = zrp C 1 (zsh (C.2 1) (12 * u + a) (12 * u + i))) (fun x => x = j1 (zrp C 1 (zsh (C.2 1) (12 * u + a) (12 * u + s - 1)))) ?_ 1000 (s - 1 - a).toNat a C ⟨by omega, by omega, by rw [zsh_0 _ (by omega), zrp_self]⟩ (by omega)
  rintro rec d i S ⟨h1, h2, rfl⟩
  have e1 : (zrp C 1 (zsh (C.2 1) (12 * u + a) (12 * u + i))).2 2 u = s := hs
  by_cases c : s ≤ i + 1
  · refine Or.inl ?_
    rw [show 12 * u + s - 1 = 12 * u + i by omega]
    clear hS
    simp (disch := omega) only [b_X7_takeOut_12, e1, zlt, zbd_s, zbx_l, zbx_r, zj0, zj1, zj2, zj3, zset_2, zput_1, if_true, if_false, zar_p, zld_p, zst_p, zdv_p, zrm_p, zc01_p, zb_p, zb_n, if_pos, if_neg]
  · have w1 : m_X7_wordAt (zrp C 1 (zsh (C.2 1) (12 * u + a) (12 * u + i))) u (i + 1) = some (C.2 1 (12 * u + i + 1), zrp C 1 (zsh (C.2 1) (12 * u + a) (12 * u + i))) := by
      rw [p_X7_wordAt (zrp C 1 (zsh (C.2 1) (12 * u + a) (12 * u + i))) u (i + 1) hU hS]
      have q : (0 ≤ u ∧ u < (zrp C 1 (zsh (C.2 1) (12 * u + a) (12 * u + i))).1 1) ∧ 0 ≤ i + 1 ∧ i + 1 < (zrp C 1 (zsh (C.2 1) (12 * u + a) (12 * u + i))).2 2 u := ⟨hu, by omega, by omega⟩
      rw [if_pos q, zrp_e, zsh_at _ (by omega), show u * 12 + (i + 1) = 12 * u + i + 1 by omega]
    have w2 : ∀ v, m_X7_put (zrp C 1 (zsh (C.2 1) (12 * u + a) (12 * u + i))) u i v = some (0, zput (zrp C 1 (zsh (C.2 1) (12 * u + a) (12 * u + i))) 1 (12 * u + i) v) := fun v => p_X7_put _ _ _ _ hu ⟨by omega, by omega⟩ hU (by omega)
    refine Or.inr ⟨d - 1, i + 1, zrp C 1 (zsh (C.2 1) (12 * u + a) (12 * u + (i + 1))), by omega, ⟨by omega, by omega, rfl⟩, ?_⟩
    have w3 := zput_rp C 1 (zsh (C.2 1) (12 * u + a) (12 * u + i)) (12 * u + i) (C.2 1 (12 * u + i + 1))
    rw [zsh_s _ (by omega)] at w3
    rw [← Int.add_assoc, ← w3]
    clear hS w3
    generalize zrp C 1 (zsh (C.2 1) (12 * u + a) (12 * u + i)) = T at *
    simp (disch := omega) only [b_X7_takeOut_12, e1, w1, w2, zlt, zbd_s, zbx_l, zbx_r, zj0, zj1, zj2, zj3, zset_2, zput_1, if_true, if_false, zar_p, zld_p, zst_p, zdv_p, zrm_p, zc01_p, zb_p, zb_n, if_pos, if_neg]
theorem q_tk {C : zSt} {u a s : Int} (hu : 0 ≤ u ∧ u < C.1 1) (hU : C.1 1 ≤ 20) (hS : ∀ x, 0 ≤ x → x < C.1 1 → C.2 2 x ≤ 12) (hs : C.2 2 u = s) (hs2 : 1 ≤ s ∧ s ≤ 12) (ha : 0 ≤ a ∧ a < s) : m_X7_takeOut C u a = some (0, zput (zrp C 1 (zsh (C.2 1) (12 * u + a) (12 * u + s - 1))) 2 u (s - 1)) := by
  have hp : m_X7_hasPlace C u a = some (1, C) := by
    rw [p_X7_hasPlace _ _ _ hU, if_pos hu, zb_p ⟨ha.1, by omega⟩]
  have h := fun j1 => q_tk1 hu hU hS hs hs2 ha (j1 := j1)
  have e1 : (zrp C 1 (zsh (C.2 1) (12 * u + a) (12 * u + s - 1))).2 2 u = s := hs
  clear hS
  show (zbd (m_X7_hasPlace C u a) fun x1 S1 => if x1 = 0 then (some (0, S1)) else (zj0 (fun (S2 : zSt) => zld (S2.2 2) 20 u fun x2 => zar (x2 - 1) fun x3 => zst S2 2 20 u x3 fun S3 => some (0, S3)) fun j1 => zl1 1000 (b_X7_takeOut_12 u j1) a S1)) = _
  rw [hp]
  generalize zl1 (R := zRes) 1000 = zz at *
  generalize zrp C 1 (zsh (C.2 1) (12 * u + a) (12 * u + s - 1)) = T at *
  simp (disch := omega) only [↓zbd_s, ↓if_neg, ↓zj0, h, ↓zld_p, e1, ↓zar_p, ↓zst_p]
theorem q_em8a {C T1 T2 T3 : zSt} {u a s x : Int} (hp : m_X7_hasPlace C u a = some (1, C)) (hz : m_X7_sizeOf C u = some (s, C)) (hs : 2 ≤ s ∧ s ≤ 12) (h1 : m_X7_takeOut C u a = some (0, T1)) (h2 : m_X7_sizeOf T1 u = some (s - 1, T1)) (h3 : m_X1_closeGap T1 u a (s - 1 - 1) = some (0, T2)) (h4 : m_X1_hookAnew T2 u = some (x, T3)) : m_X8_emend C u a (-1) = some (.inl (x, T3)) := by
  simp (disch := omega) only [m_X8_emend, hp, p_X8_needArgument, hz, h1, h2, h3, h4, zlt, zbd_s, zbx_l, zbx_r, zj0, zj1, zj2, zj3, zset_2, zput_1, if_true, if_false, zar_p, zld_p, zst_p, zdv_p, zrm_p, zc01_p, zb_p, zb_n, if_pos, if_neg]
theorem q_em8b {C T1 T3 : zSt} {u a w x : Int} (hp : m_X7_hasPlace C u a = some (1, C)) (hw : 0 ≤ w ∧ w ≤ 59) (h1 : m_X7_put C u a w = some (0, T1)) (h4 : m_X1_hookAnew T1 u = some (x, T3)) : m_X8_emend C u a w = some (.inl (x, T3)) := by
  simp (disch := omega) only [m_X8_emend, hp, p_X8_needArgument, h1, h4, zlt, zbd_s, zbx_l, zbx_r, zj0, zj1, zj2, zj3, zset_2, zput_1, if_true, if_false, zar_p, zld_p, zst_p, zdv_p, zrm_p, zc01_p, zb_p, zb_n, if_pos, if_neg]
