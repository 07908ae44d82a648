/-! THE PURE SIDE: what the mirrors say. Words first -/
theorem zar_p {R : Type} {e : Int} {k : Int → Option R} (h : inR e) : zar e k = k e := if_pos h
theorem zld_p {R : Type} {a : Int → Int} {n i : Int} {k : Int → Option R} (h : 0 ≤ i ∧ i < n) : zld a n i k = k (a i) := if_pos h
theorem zst_p {R : Type} {S : zSt} {j : Nat} {n i v : Int} {k : zSt → Option R} (h : 0 ≤ i ∧ i < n) : zst S j n i v k = k (zput S j i v) := if_pos h
theorem zdv_p {R : Type} {a b : Int} {k : Int → Option R} (h : 0 ≤ a ∧ 0 < b) : zdv a b k = k (a / b) := if_pos h
theorem zrm_p {R : Type} {a b : Int} {k : Int → Option R} (h : 0 ≤ a ∧ 0 < b) : zrm a b k = k (a % b) := if_pos h
theorem zc01_p {R : Type} {x : Int} {k : Option R} (h : x = 0 ∨ x = 1) : zc01 x k = k := if_pos h
theorem zbd_s {R : Type} (r : Int) (S : zSt) (k : Int → zSt → Option R) : zbd (some (r, S)) k = k r S := rfl
theorem zput_1 (S : zSt) (j : Nat) (i v : Int) : (zput S j i v).1 = S.1 := rfl
theorem zset_2 (S : zSt) (j : Nat) (v : Int) : (zset S j v).2 = S.2 := rfl
theorem zput_e (S : zSt) (j : Nat) (i v : Int) : (zput S j i v).2 j = fun t => if t = i then v else S.2 j t := if_pos rfl
theorem zput_n (S : zSt) {j q : Nat} (i v : Int) (h : q ≠ j) : (zput S j i v).2 q = S.2 q := if_neg h
theorem zset_e (S : zSt) (j : Nat) (v : Int) : (zset S j v).1 j = v := if_pos rfl
theorem zset_n (S : zSt) {j q : Nat} (v : Int) (h : q ≠ j) : (zset S j v).1 q = S.1 q := if_neg h
def zat (a : Int → Int) (n i : Int) : Int := if 0 ≤ i ∧ i < n then a i else -1
theorem zat_p {a : Int → Int} {n i : Int} (h : 0 ≤ i ∧ i < n) : zat a n i = a i := if_pos h
theorem p_at (S : zSt) (j : Nat) (n i : Int) : m_at S j n i = some (zat (S.2 j) n i, S) := by
  unfold m_at zat
  by_cases h1 : i < 0
  · rw [if_pos h1, if_neg (by omega)]
  · by_cases h2 : n ≤ i
    · rw [if_neg h1, if_pos h2, if_neg (by omega)]
    · rw [if_neg h1, if_neg h2, zld_p (by omega), if_pos (by omega)]
-- whether: 1 or 0
def zb (c : Prop) [Decidable c] : Int := if c then 1 else 0
theorem zb_p {c : Prop} [Decidable c] (h : c) : zb c = 1 := if_pos h
theorem zb_n {c : Prop} [Decidable c] (h : ¬ c) : zb c = 0 := if_neg h
theorem zb_0 {c : Prop} [Decidable c] : zb c = 0 ↔ ¬ c := by
  unfold zb
  by_cases h : c
  · rw [if_pos h]; exact ⟨fun q => (by cases q), fun q => absurd h q⟩
  · rw [if_neg h]; exact ⟨fun _ => h, fun _ => rfl⟩
theorem p_X0_has (S : zSt) (a : Int) : m_X0_has S a = some (zb (0 ≤ a ∧ a < S.1 2), S) := by
  simp only [m_X0_has, zj0, zlt, zb]
  repeat' split
  all_goals first | rfl | (exfalso; omega)
theorem p_X1_has (S : zSt) (a : Int) : m_X1_has S a = some (zb (0 ≤ a ∧ a < S.1 3), S) := by
  simp only [m_X1_has, zj0, zlt, zb]
  repeat' split
  all_goals first | rfl | (exfalso; omega)
theorem p_X2_has (S : zSt) (a : Int) : m_X2_has S a = some (zb (0 ≤ a ∧ a < S.1 9), S) := by
  simp only [m_X2_has, zj0, zlt, zb]
  repeat' split
  all_goals first | rfl | (exfalso; omega)
theorem p_X7_has (S : zSt) (a : Int) : m_X7_has S a = some (zb (0 ≤ a ∧ a < S.1 1), S) := by
  simp only [m_X7_has, zj0, zlt, zb]
  repeat' split
  all_goals first | rfl | (exfalso; omega)
theorem p_X0_isFull (S : zSt) : m_X0_isFull S = some (zb (12 ≤ S.1 2), S) := by
  simp only [m_X0_isFull, zlt, zb]
  repeat' split
  all_goals first | rfl | (exfalso; omega)
theorem p_X1_isFull (S : zSt) : m_X1_isFull S = some (zb (60 ≤ S.1 3), S) := by
  simp only [m_X1_isFull, zlt, zb]
  repeat' split
  all_goals first | rfl | (exfalso; omega)
theorem p_X2_isFull (S : zSt) : m_X2_isFull S = some (zb (8 ≤ S.1 9), S) := by
  simp only [m_X2_isFull, zlt, zb]
  repeat' split
  all_goals first | rfl | (exfalso; omega)
theorem p_X9_between (S : zSt) (a b c : Int) : m_X9_between S a b c = some (zb (b ≤ a ∧ a ≤ c), S) := by
  simp only [m_X9_between, zj0, zb]
  repeat' split
  all_goals first | rfl | (exfalso; omega)
theorem p_X8_needArgument (S : zSt) (a b c : Int) : m_X8_needArgument S a b c = if b ≤ a ∧ a ≤ c then some (.inl (0, S)) else some (.inr ("java/lang/IllegalArgumentException", S)) := by
  simp only [m_X8_needArgument, zj0]
  repeat' split
  all_goals first | rfl | (exfalso; omega)
theorem p_X8_needTopic (S : zSt) (a : Int) : m_X8_needTopic S a = if 0 ≤ a ∧ a < 10 then some (.inl (0, S)) else some (.inr ("java/lang/IndexOutOfBoundsException", S)) := by
  simp only [m_X8_needTopic, zj0]
  repeat' split
  all_goals first | rfl | (exfalso; omega)
theorem p_X8_needUnit (S : zSt) (a : Int) : m_X8_needUnit S a = if 0 ≤ a ∧ a < S.1 1 then some (.inl (0, S)) else some (.inr ("java/lang/IndexOutOfBoundsException", S)) := by
  simp only [m_X8_needUnit, p_X7_has, zbd_s, zb_0]
  repeat' split
  all_goals first | rfl | (exfalso; omega)
theorem p_X8_needAuthor (S : zSt) (a : Int) : m_X8_needAuthor S a = if 0 ≤ a ∧ a < S.1 2 then some (.inl (0, S)) else some (.inr ("java/lang/IndexOutOfBoundsException", S)) := by
  simp only [m_X8_needAuthor, p_X0_has, zbd_s, zb_0]
  repeat' split
  all_goals first | rfl | (exfalso; omega)
theorem p_X8_needComment (S : zSt) (a : Int) : m_X8_needComment S a = if 0 ≤ a ∧ a < S.1 3 then some (.inl (0, S)) else some (.inr ("java/lang/IndexOutOfBoundsException", S)) := by
  simp only [m_X8_needComment, p_X1_has, zbd_s, zb_0]
  repeat' split
  all_goals first | rfl | (exfalso; omega)
theorem p_X8_needEdition (S : zSt) (a : Int) : m_X8_needEdition S a = if 0 ≤ a ∧ a < S.1 9 then some (.inl (0, S)) else some (.inr ("java/lang/IndexOutOfBoundsException", S)) := by
  simp only [m_X8_needEdition, p_X2_has, zbd_s, zb_0]
  repeat' split
  all_goals first | rfl | (exfalso; omega)
theorem p_X8_needRoomForComment (S : zSt) : m_X8_needRoomForComment S = if S.1 3 < 60 then some (.inl (0, S)) else some (.inr ("java/lang/IllegalStateException", S)) := by
  simp only [m_X8_needRoomForComment, p_X1_isFull, zbd_s, zb_0]
  repeat' split
  all_goals first | rfl | (exfalso; omega)
theorem p_X7_sizeOf (S : zSt) (a : Int) (h : S.1 1 ≤ 20) : m_X7_sizeOf S a = some (if 0 ≤ a ∧ a < S.1 1 then S.2 2 a else 0, S) := by
  simp only [m_X7_sizeOf, p_X7_has, zbd_s, zb_0]
  by_cases c : 0 ≤ a ∧ a < S.1 1
  · rw [if_neg (not_not_intro c), if_pos c, zld_p (by omega)]
  · rw [if_pos c, if_neg c]
theorem p_X7_hasPlace (S : zSt) (a k : Int) (h : S.1 1 ≤ 20) : m_X7_hasPlace S a k = some (zb (0 ≤ k ∧ k < (if 0 ≤ a ∧ a < S.1 1 then S.2 2 a else 0)), S) := by
  simp only [m_X7_hasPlace, p_X7_sizeOf S a h, zbd_s, zj0, zb]
  by_cases c : 0 ≤ a ∧ a < S.1 1
  · simp only [if_pos c]
    repeat' split
    all_goals first | rfl | (exfalso; omega)
  · simp only [if_neg c]
    repeat' split
    all_goals first | rfl | (exfalso; omega)
theorem p_X9_isUnit (S : zSt) (a : Int) (h : inR (S.1 2 - 1)) : m_X9_isUnit S a = some (zb (0 ≤ a ∧ a < S.1 2), S) := by
  simp only [m_X9_isUnit, zlt, zar_p h, p_X9_between, zbd_s, zb]
  repeat' split
  all_goals first | rfl | (exfalso; omega)
theorem p_X9_isAuthor (S : zSt) (a : Int) (h : inR (S.1 3 - 1)) : m_X9_isAuthor S a = some (zb (0 ≤ a ∧ a < S.1 3), S) := by
  simp only [m_X9_isAuthor, zlt, zar_p h, p_X9_between, zbd_s, zb]
  repeat' split
  all_goals first | rfl | (exfalso; omega)
theorem p_X9_isComment (S : zSt) (a : Int) (h : inR (S.1 4 - 1)) : m_X9_isComment S a = some (zb (0 ≤ a ∧ a < S.1 4), S) := by
  simp only [m_X9_isComment, zlt, zar_p h, p_X9_between, zbd_s, zb]
  repeat' split
  all_goals first | rfl | (exfalso; omega)
theorem p_X9_isEdition (S : zSt) (a : Int) (h : inR (S.1 6 - 1)) : m_X9_isEdition S a = some (zb (0 ≤ a ∧ a < S.1 6), S) := by
  simp only [m_X9_isEdition, zlt, zar_p h, p_X9_between, zbd_s, zb]
  repeat' split
  all_goals first | rfl | (exfalso; omega)
