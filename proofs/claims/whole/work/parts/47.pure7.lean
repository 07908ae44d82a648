/-! sums, bits; ruling, decided -/
noncomputable def qsum (f : Int → Int) (n : Nat) : Int := Nat.rec (motive := fun _ => Int) 0 (fun k s => s + f (k : Int)) n
theorem qsum_0 (f : Int → Int) : qsum f 0 = 0 := rfl
theorem qsum_s (f : Int → Int) (n : Nat) : qsum f (n + 1) = qsum f n + f n := rfl
theorem qsum_c {f g : Int → Int} : ∀ {n : Nat}, (∀ k : Nat, k < n → f k = g k) → qsum f n = qsum g n := by
  intro n
  induction n with
  | zero => intro _; rfl
  | succ n ih => intro h; rw [qsum_s, qsum_s, ih (fun k hk => h k (by omega)), h n (by omega)]
theorem qsum_x {f : Int → Int} {n : Nat} : ∀ {d : Nat}, (∀ k : Nat, n ≤ k → k < n + d → f k = 0) → qsum f (n + d) = qsum f n := by
  intro d
  induction d with
  | zero => intro _; rfl
  | succ d ih => intro h; rw [← Nat.add_assoc, qsum_s, ih (fun k h1 h2 => h k h1 (by omega)), h (n + d) (by omega) (by omega), Int.add_zero]
theorem qsum_b {f : Int → Int} : ∀ {n : Nat}, (∀ k : Nat, k < n → -1 ≤ f k ∧ f k ≤ 1) → -(n : Int) ≤ qsum f n ∧ qsum f n ≤ n := by
  intro n
  induction n with
  | zero => intro _; rw [qsum_0]; omega
  | succ n ih => intro h; have := ih (fun k hk => h k (by omega)); have := h n (by omega); rw [qsum_s]; omega
theorem qsum_add (f g : Int → Int) : ∀ n : Nat, qsum (fun i => f i + g i) n = qsum f n + qsum g n := by
  intro n
  induction n with
  | zero => rfl
  | succ n ih => rw [qsum_s, qsum_s, qsum_s, ih]; omega
theorem qpop (n : Nat) : ∀ k : Nat, (((List.range k).foldl (fun t i => t + n / 2 ^ i % 2) 0 : Nat) : Int) = qsum (fun i => ((n / 2 ^ i.toNat % 2 : Nat) : Int)) k := by
  intro k
  induction k with
  | zero => rfl
  | succ k ih => rw [List.range_succ, List.foldl_append, qsum_s, ← ih]; rfl
theorem zbit_v (x : Int) (a : Int) : ((x.toNat / 2 ^ a.toNat % 2 : Nat) : Int) = zb (zbit x a) := by
  unfold zb zbit
  rw [Nat.testBit_eq_decide_div_mod_eq]
  rcases Nat.mod_two_eq_zero_or_one (x.toNat / 2 ^ a.toNat) with h | h
  · rw [h]; decide
  · rw [h]; decide
theorem q_pop (x : Int) : ((zpop x.toNat : Nat) : Int) = qsum (fun a => zb (zbit x a)) 12 := by
  refine (qpop x.toNat 12).trans (qsum_c fun k _ => ?_)
  exact zbit_v x k
theorem q_shr {x a : Int} (h : 0 ≤ x) (ha : 0 ≤ a) : ((((x / 2 ^ a.toNat).toNat &&& (1 : Int).toNat : Nat)) : Int) = zb (zbit x a) := by
  rw [← zbit_v]
  obtain ⟨n, rfl⟩ : ∃ n : Nat, x = n := ⟨x.toNat, by omega⟩
  have e : (((n : Int) / 2 ^ a.toNat)).toNat = n / 2 ^ a.toNat := by
    have : ((2 : Int) ^ a.toNat) = ((2 ^ a.toNat : Nat) : Int) := by rw [Int.natCast_pow]; rfl
    rw [this, ← Int.natCast_ediv, Int.toNat_natCast]
  rw [e, show (1 : Int).toNat = 1 from rfl, Nat.and_one_is_mod, Int.toNat_natCast]
theorem q_bit1 {R : Type} {x a : Int} {k : Int → Option R} (h : zbit x a) (h0 : 0 ≤ x) (ha : 0 ≤ a) (h2 : a < 31) : (zishr x a fun x2 => ziand x2 1 k) = k 1 := by
  have h3 : 0 ≤ x / 2 ^ a.toNat := Int.ediv_nonneg h0 (Int.le_of_lt (Int.pow_pos (by decide)))
  unfold zishr
  rw [if_pos ⟨h0, ha, h2⟩]
  show ziand (x / 2 ^ a.toNat) 1 k = _
  unfold ziand
  rw [if_pos ⟨h3, by decide⟩, q_shr h0 ha, zb_p h]
theorem q_bit0 {R : Type} {x a : Int} {k : Int → Option R} (h : ¬ zbit x a) (h0 : 0 ≤ x) (ha : 0 ≤ a) (h2 : a < 31) : (zishr x a fun x2 => ziand x2 1 k) = k 0 := by
  have h3 : 0 ≤ x / 2 ^ a.toNat := Int.ediv_nonneg h0 (Int.le_of_lt (Int.pow_pos (by decide)))
  unfold zishr
  rw [if_pos ⟨h0, ha, h2⟩]
  show ziand (x / 2 ^ a.toNat) 1 k = _
  unfold ziand
  rw [if_pos ⟨h3, by decide⟩, q_shr h0 ha, zb_n h]
theorem q_shl {R : Type} {a : Int} {k : Int → Option R} (ha : 0 ≤ a) (h2 : a < 31) : zishl 1 a k = k (2 ^ a.toNat) := by
  have h3 : (2 : Int) ^ a.toNat < 2147483648 := by
    have h4 : (2 : Nat) ^ a.toNat ≤ 2 ^ 30 := Nat.pow_le_pow_right (by decide) (by omega)
    have : ((2 : Int) ^ a.toNat) = ((2 ^ a.toNat : Nat) : Int) := by rw [Int.natCast_pow]; rfl
    rw [this]; omega
  unfold zishl
  rw [Int.one_mul, if_pos ⟨by decide, ha, h2, h3⟩]
def zor (x y : Int) : Int := ((x.toNat ||| y.toNat : Nat) : Int)
theorem zior_p {R : Type} {x y : Int} {k : Int → Option R} (h : 0 ≤ x) (h2 : 0 ≤ y) : zior x y k = k (zor x y) := if_pos ⟨h, h2⟩
theorem pow_tn (a : Int) : ((2 : Int) ^ a.toNat).toNat = 2 ^ a.toNat := by
  have : ((2 : Int) ^ a.toNat) = ((2 ^ a.toNat : Nat) : Int) := by rw [Int.natCast_pow]; rfl
  rw [this, Int.toNat_natCast]
theorem pow_nn (a : Int) : 0 ≤ (2 : Int) ^ a.toNat := Int.le_of_lt (Int.pow_pos (by decide))
theorem zor_bit {x a b : Int} (ha : 0 ≤ a) (hb : 0 ≤ b) : zbit (zor x (2 ^ a.toNat)) b ↔ zbit x b ∨ b = a := by
  unfold zbit zor
  rw [Int.toNat_natCast, pow_tn, Nat.testBit_or, Nat.testBit_two_pow, Bool.or_eq_true, decide_eq_true_eq]
  exact ⟨fun h => h.elim Or.inl fun h => Or.inr (by omega), fun h => h.elim Or.inl fun h => Or.inr (by omega)⟩
theorem zor_lt {x a : Int} (hx : x < 4096) (ha : 0 ≤ a) (h2 : a < 12) : 0 ≤ zor x (2 ^ a.toNat) ∧ zor x (2 ^ a.toNat) < 4096 := by
  unfold zor
  rw [pow_tn]
  have h4 : (2 : Nat) ^ a.toNat < 2 ^ 12 := Nat.pow_lt_pow_right (by decide) (by omega)
  have := Nat.or_lt_two_pow (n := 12) (show x.toNat < 2 ^ 12 by omega) h4
  omega
theorem zor_0 {x : Int} (h : 0 ≤ x) : zor x 0 = x := by
  unfold zor
  rw [show (0 : Int).toNat = 0 from rfl, Nat.or_zero]
  omega
theorem zbc_p {R : Type} {x : Int} {k : Int → Option R} (h : 0 ≤ x ∧ x < 4096) : zbc x k = k (qsum (fun a => zb (zbit x a)) 12) := by
  unfold zbc
  rw [if_pos h, q_pop]

theorem q_rulc {S : zSt} {t na : Int} {j1 : Int → zSt → Option zRes} (hn : S.1 3 = na) (hn2 : 0 ≤ na ∧ na ≤ 12) (ht : 0 ≤ t ∧ t < 10) : zl2 1000 (b_X9_ruling_94 t j1) 0 0 S = j1 (qsum (fun a => zb (S.2 17 (10 * a + t) ≠ -1)) na.toNat) S := by
  refine zw2 (F := b_X9_ruling_94 t j1) (fun d x i T => T = S ∧ 0 ≤ i ∧ i + d = na ∧ x = qsum (fun a => zb (S.2 17 (10 * a + t) ≠ -1)) i.toNat) (fun q => q = j1 (qsum (fun a => zb (S.2 17 (10 * a + t) ≠ -1)) na.toNat) S) ?_ 1000 na.toNat 0 0 S ⟨rfl, by omega, by omega, rfl⟩ (by omega)
  rintro rec d x i T ⟨rfl, h1, h2, h3⟩
  have hb := qsum_b (f := fun a => zb (T.2 17 (10 * a + t) ≠ -1)) (n := i.toNat) (fun k _ => by unfold zb; split <;> omega)
  rw [← h3] at hb
  have hs : qsum (fun a => zb (T.2 17 (10 * a + t) ≠ -1)) (i + 1).toNat = x + zb (T.2 17 (10 * i + t) ≠ -1) := by
    rw [show (i + 1).toNat = i.toNat + 1 by omega, qsum_s, h3, show ((i.toNat : Nat) : Int) = i by omega]
  by_cases c : na ≤ i
  · refine Or.inl ?_
    rw [show na = i by omega, ← h3]
    simp (disch := omega) only [b_X9_ruling_94, hn, zlt, zbd_s, zbx_l, zbx_r, zj0, zj1, zj2, zj3, zset_2, zput_1, if_true, if_false, zar_p, zld_p, zst_p, zdv_p, zrm_p, zc01_p, zb_p, zb_n, if_pos, if_neg]
  · by_cases c2 : T.2 17 (10 * i + t) = -1
    · rw [zb_n (fun q => q c2)] at hs
      refine Or.inr ⟨d - 1, x, i + 1, T, by omega, ⟨rfl, by omega, by omega, by omega⟩, ?_⟩
      simp (disch := omega) only [b_X9_ruling_94, hn, Int.add_zero, zlt, zbd_s, zbx_l, zbx_r, zj0, zj1, zj2, zj3, zset_2, zput_1, if_true, if_false, zar_p, zld_p, zst_p, zdv_p, zrm_p, zc01_p, zb_p, zb_n, if_pos, if_neg]
    · rw [zb_p c2] at hs
      refine Or.inr ⟨d - 1, x + 1, i + 1, T, by omega, ⟨rfl, by omega, by omega, by omega⟩, ?_⟩
      simp (disch := omega) only [b_X9_ruling_94, hn, zlt, zbd_s, zbx_l, zbx_r, zj0, zj1, zj2, zj3, zset_2, zput_1, if_true, if_false, zar_p, zld_p, zst_p, zdv_p, zrm_p, zc01_p, zb_p, zb_n, if_pos, if_neg]

theorem q_rul1 {M : zSt} {a t v na : Int} (p3 : M.1 3 = na) (h1 : 0 ≤ a ∧ a < na) (h2 : 0 ≤ t ∧ t ≤ 9) (h6 : na ≤ 12) (h : M.2 17 (10 * a + t) = -1) : m_X9_ruling M a t v = some (qsum (fun x => zb (zfu (M.2 17) (10 * a + t) (if v = 0 then 0 else 1) (10 * x + t) ≠ -1)) na.toNat, zput (zset (zset M 0 0) 0 0) 17 (10 * a + t) (if v = 0 then 0 else 1)) := by
  have hl := fun w (j1 : Int → zSt → Option zRes) => q_rulc (S := zput (zset (zset M 0 0) 0 0) 17 (10 * a + t) w) (t := t) (na := na) (j1 := j1) p3 (by omega) (by omega)
  by_cases e : v = 0
  · rw [if_pos e]
    simp (disch := omega) only [m_X9_ruling, p_X9_isAuthor, p_X9_between, zset_e, zset_n, p3, h, hl, zlt, zbd_s, zbx_l, zbx_r, zj0, zj1, zj2, zj3, zset_2, zput_1, if_true, if_false, zar_p, zld_p, zst_p, zdv_p, zrm_p, zc01_p, zb_p, zb_n, if_pos, if_neg]
    rfl
  · rw [if_neg e]
    simp (disch := omega) only [m_X9_ruling, p_X9_isAuthor, p_X9_between, zset_e, zset_n, p3, h, hl, zlt, zbd_s, zbx_l, zbx_r, zj0, zj1, zj2, zj3, zset_2, zput_1, if_true, if_false, zar_p, zld_p, zst_p, zdv_p, zrm_p, zc01_p, zb_p, zb_n, if_pos, if_neg]
    rfl
theorem q_rul2a {C : zSt} {a t x : Int} (h1 : 0 ≤ a ∧ a < 12) (h2 : 0 ≤ t ∧ t ≤ 9) (hx : C.2 18 t = x) (hx2 : 0 ≤ x ∧ x < 4096) (h : ¬ zbit x a) : m_X5_has C a t = some (0, C) := by
  simp (disch := first | assumption | omega) only [m_X5_has, p_at, zat_p, hx, q_bit0, zlt, zbd_s, zbx_l, zbx_r, zj0, zj1, zj2, zj3, zset_2, zput_1, if_true, if_false, zar_p, zld_p, zst_p, zdv_p, zrm_p, zc01_p, zb_p, zb_n, if_pos, if_neg]
theorem q_rul2b {C : zSt} {a t v x y : Int} (h1 : 0 ≤ a ∧ a < 12) (h2 : 0 ≤ t ∧ t ≤ 9) (hx : C.2 18 t = x) (hx2 : 0 ≤ x ∧ x < 4096) (hy : C.2 19 t = y) (hy2 : 0 ≤ y ∧ y < 4096) (w : Int) (hw : 2 ^ a.toNat = w) : m_X5_add C a t v = some (0, zput (zput C 18 t (zor x w)) 19 t (zor y (if v = 0 then 0 else w))) := by
  have z2 : 0 ≤ w := hw ▸ pow_nn a
  have hs : ∀ k : Int → Option zRes, zishl 1 a k = k w := fun k => hw ▸ q_shl h1.1 (by omega)
  by_cases e : v = 0
  · simp (disch := first | assumption | omega) only [m_X5_add, hx, hy, hs, zior_p, zput_n, zlt, zbd_s, zbx_l, zbx_r, zj0, zj1, zj2, zj3, zset_2, zput_1, if_true, if_false, zar_p, zld_p, zst_p, zdv_p, zrm_p, zc01_p, zb_p, zb_n, if_pos, if_neg]
  · simp (disch := first | assumption | omega) only [m_X5_add, hx, hy, hs, zior_p, zput_n, zlt, zbd_s, zbx_l, zbx_r, zj0, zj1, zj2, zj3, zset_2, zput_1, if_true, if_false, zar_p, zld_p, zst_p, zdv_p, zrm_p, zc01_p, zb_p, zb_n, if_pos, if_neg]
theorem q_rul2c {S : zSt} {t z : Int} (h2 : 0 ≤ t ∧ t ≤ 9) (hz : 0 ≤ z ∧ z < 4096) (h : S.2 18 t = z) : m_X5_countOn S t = some (qsum (fun b => zb (zbit z b)) 12, S) := by
  simp (disch := first | assumption | omega) only [m_X5_countOn, p_at, zat_p, h, zbc_p, zlt, zbd_s, zbx_l, zbx_r, zj0, zj1, zj2, zj3, zset_2, zput_1]
theorem q_rul2 {C : zSt} {a t v na x y : Int} (p3 : C.1 2 = na) (h1 : 0 ≤ a ∧ a < na) (h2 : 0 ≤ t ∧ t ≤ 9) (h6 : na ≤ 12) (hx : C.2 18 t = x) (hx2 : 0 ≤ x ∧ x < 4096) (hy : C.2 19 t = y) (hy2 : 0 ≤ y ∧ y < 4096) (h : ¬ zbit x a) (w : Int) (hw : 2 ^ a.toNat = w) (z1 : 0 ≤ zor x w ∧ zor x w < 4096) : m_X8_ruling C a t v = some (.inl (qsum (fun b => zb (zbit (zor x w) b)) 12, zput (zput C 18 t (zor x w)) 19 t (zor y (if v = 0 then 0 else w)))) := by
  have e1 : m_X5_has C a t = some (0, C) := q_rul2a ⟨h1.1, by omega⟩ h2 hx hx2 h
  have e2 : m_X5_add C a t v = some (0, zput (zput C 18 t (zor x w)) 19 t (zor y (if v = 0 then 0 else w))) := q_rul2b ⟨h1.1, by omega⟩ h2 hx hx2 hy hy2 w hw
  have e4 : (zput (zput C 18 t (zor x w)) 19 t (zor y (if v = 0 then 0 else w))).2 18 t = zor x w := by
    rw [zput_n _ _ _ (show (18 : Nat) ≠ 19 by decide), zput_e]; exact if_pos rfl
  have e3 := q_rul2c h2 z1 e4
  simp (disch := omega) only [m_X8_ruling, p_X8_needAuthor, p_X8_needTopic, p3, e1, e2, e3, zlt, zbd_s, zbx_l, zbx_r, zj0, zj1, zj2, zj3, zset_2, zput_1, if_true, if_false, zar_p, zld_p, zst_p, zdv_p, zrm_p, zc01_p, zb_p, zb_n, if_pos, if_neg]
theorem q_rul3 {M : zSt} {a t v na : Int} (p3 : M.1 3 = na) (h1 : 0 ≤ a ∧ a < na) (h2 : 0 ≤ t ∧ t ≤ 9) (h6 : na ≤ 12) (h : M.2 17 (10 * a + t) ≠ -1) : m_X9_ruling M a t v = some (0, zset (zset M 0 0) 0 2) := by
  simp (disch := omega) only [m_X9_ruling, p_X9_isAuthor, p_X9_between, zset_e, zset_n, p3, zlt, zbd_s, zbx_l, zbx_r, zj0, zj1, zj2, zj3, zset_2, zput_1, if_true, if_false, zar_p, zld_p, zst_p, zdv_p, zrm_p, zc01_p, zb_p, zb_n, if_pos, if_neg]
theorem q_rul4 {C : zSt} {a t v na x : Int} (p3 : C.1 2 = na) (h1 : 0 ≤ a ∧ a < na) (h2 : 0 ≤ t ∧ t ≤ 9) (h6 : na ≤ 12) (hx : C.2 18 t = x) (hx2 : 0 ≤ x ∧ x < 4096) (h : zbit x a) : m_X8_ruling C a t v = some (.inr ("java/lang/IllegalStateException", C)) := by
  have e1 : m_X5_has C a t = some (1, C) := by
    simp (disch := first | assumption | omega) only [m_X5_has, p_at, zat_p, hx, q_bit1, zlt, zbd_s, zbx_l, zbx_r, zj0, zj1, zj2, zj3, zset_2, zput_1, if_true, if_false, zar_p, zld_p, zst_p, zdv_p, zrm_p, zc01_p, zb_p, zb_n, if_pos, if_neg]
  simp (disch := omega) only [m_X8_ruling, p_X8_needAuthor, p_X8_needTopic, p3, e1, zlt, zbd_s, zbx_l, zbx_r, zj0, zj1, zj2, zj3, zset_2, zput_1, if_true, if_false, zar_p, zld_p, zst_p, zdv_p, zrm_p, zc01_p, zb_p, zb_n, if_pos, if_neg]
theorem q_rul5 {M : zSt} {a t v na : Int} (p3 : M.1 3 = na) (h6 : 0 ≤ na ∧ na ≤ 12) (h1 : ¬ ((0 ≤ a ∧ a < na) ∧ 0 ≤ t ∧ t ≤ 9)) : m_X9_ruling M a t v = some (0, zset M 0 1) := by
  by_cases e : 0 ≤ a ∧ a < na
  · simp (disch := omega) only [m_X9_ruling, p_X9_isAuthor, p_X9_between, zset_e, zset_n, p3, zlt, zbd_s, zbx_l, zbx_r, zj0, zj1, zj2, zj3, zset_2, zput_1, if_true, if_false, zar_p, zld_p, zst_p, zdv_p, zrm_p, zc01_p, zb_p, zb_n, if_pos, if_neg]
  · simp (disch := omega) only [m_X9_ruling, p_X9_isAuthor, p_X9_between, zset_e, zset_n, p3, zlt, zbd_s, zbx_l, zbx_r, zj0, zj1, zj2, zj3, zset_2, zput_1, if_true, if_false, zar_p, zld_p, zst_p, zdv_p, zrm_p, zc01_p, zb_p, zb_n, if_pos, if_neg]
theorem q_rul6 {C : zSt} {a t v na : Int} (p3 : C.1 2 = na) (h1 : ¬ ((0 ≤ a ∧ a < na) ∧ 0 ≤ t ∧ t ≤ 9)) : m_X8_ruling C a t v = some (.inr ("java/lang/IndexOutOfBoundsException", C)) := by
  by_cases e : 0 ≤ a ∧ a < na
  · simp (disch := omega) only [m_X8_ruling, p_X8_needAuthor, p_X8_needTopic, p3, zlt, zbd_s, zbx_l, zbx_r, zj0, zj1, zj2, zj3, zset_2, zput_1, if_true, if_false, zar_p, zld_p, zst_p, zdv_p, zrm_p, zc01_p, zb_p, zb_n, if_pos, if_neg]
  · simp (disch := omega) only [m_X8_ruling, p_X8_needAuthor, p_X8_needTopic, p3, zlt, zbd_s, zbx_l, zbx_r, zj0, zj1, zj2, zj3, zset_2, zput_1, if_true, if_false, zar_p, zld_p, zst_p, zdv_p, zrm_p, zc01_p, zb_p, zb_n, if_pos, if_neg]
theorem s_ruling {C M : zSt} {a t v : Int} (hJ : J C M) : Sim ["java/lang/IndexOutOfBoundsException", "java/lang/IllegalStateException"] (m_X9_ruling M a t v) (m_X8_ruling C a t v) := by
  obtain ⟨hRG, hP, hT, ⟨p1, p2, p3, p4⟩, hC, hR, hF, hE⟩ := id hJ
  by_cases h1 : (0 ≤ a ∧ a < C.1 2) ∧ 0 ≤ t ∧ t ≤ 9
  · obtain ⟨h1, h2⟩ := h1
    obtain ⟨r1, r2, r3⟩ := hR t h2.1 (by omega)
    obtain ⟨s1, s2, s3, s4⟩ := r3 a h1.1 (by omega)
    by_cases h3 : zbit (C.2 18 t) a
    · exact Sim.no (q_rul3 p3 h1 h2 p2 (s1.1 h3)) (q_rul4 rfl h1 h2 p2 rfl r1 h3) (by decide) rfl (hJ.thr 0 : Jn C (zset (zset M 0 0) 0 2))
    · have h4 : M.2 17 (10 * a + t) = -1 := Classical.byContradiction fun q => h3 (s1.2 q)
      have hz : ∀ x, 0 ≤ x → x < 12 → (zbit (zor (C.2 18 t) (2 ^ a.toNat)) x ↔ zfu (M.2 17) (10 * a + t) (if v = 0 then 0 else 1) (10 * x + t) ≠ -1) := by
        intro x x1 x2
        rw [zor_bit h1.1 x1]
        by_cases e : x = a
        · rw [e, zfu_e]
          exact ⟨fun _ => by split <;> omega, fun _ => Or.inr rfl⟩
        · rw [zfu_n _ _ (by omega)]
          have := (r3 x x1 x2).1
          exact ⟨fun q => q.elim this.1 fun q => absurd q e, fun q => Or.inl (this.2 q)⟩
      have hq : qsum (fun x => zb (zfu (M.2 17) (10 * a + t) (if v = 0 then 0 else 1) (10 * x + t) ≠ -1)) (C.1 2).toNat = qsum (fun b => zb (zbit (zor (C.2 18 t) (2 ^ a.toNat)) b)) 12 := by
        have e : (12 : Nat) = (C.1 2).toNat + (12 - (C.1 2).toNat) := by omega
        rw [e, qsum_x (fun k k1 k2 => ?_)]
        · refine qsum_c fun k hk => ?_
          have := hz k (by omega) (by omega)
          unfold zb
          by_cases c : zbit (zor (C.2 18 t) (2 ^ a.toNat)) (k : Int)
          · rw [if_pos c, if_pos (this.1 c)]
          · rw [if_neg c, if_neg fun q => c (this.2 q)]
        · refine zb_n fun q => (hz k (by omega) (by omega)).1 q ?_
          rw [zfu_n _ _ (by omega)]
          exact (r3 k (by omega) (by omega)).2.2.2 (by omega)
      have hM := q_rul1 (v := v) p3 h1 h2 p2 h4
      rw [hq] at hM
      refine Sim.ok hM (q_rul2 rfl h1 h2 p2 rfl r1 rfl r2 h3 _ rfl (zor_lt r1.2 h1.1 (by omega))) rfl ?_
      refine ⟨hP, hT, ⟨p1, p2, p3, p4⟩, hC, fun t' h5 h6 => ?_, hF, hE⟩
      show (0 ≤ (if t' = t then zor (C.2 18 t) (2 ^ a.toNat) else C.2 18 t') ∧ (if t' = t then zor (C.2 18 t) (2 ^ a.toNat) else C.2 18 t') < 4096) ∧ (0 ≤ (if t' = t then zor (C.2 19 t) (if v = 0 then 0 else 2 ^ a.toNat) else C.2 19 t') ∧ (if t' = t then zor (C.2 19 t) (if v = 0 then 0 else 2 ^ a.toNat) else C.2 19 t') < 4096) ∧ ∀ x, 0 ≤ x → x < 12 → (zbit (if t' = t then zor (C.2 18 t) (2 ^ a.toNat) else C.2 18 t') x ↔ zfu (M.2 17) (10 * a + t) (if v = 0 then 0 else 1) (10 * x + t') ≠ -1) ∧ (zbit (if t' = t then zor (C.2 19 t) (if v = 0 then 0 else 2 ^ a.toNat) else C.2 19 t') x ↔ zfu (M.2 17) (10 * a + t) (if v = 0 then 0 else 1) (10 * x + t') = 1) ∧ (zfu (M.2 17) (10 * a + t) (if v = 0 then 0 else 1) (10 * x + t') = -1 ∨ zfu (M.2 17) (10 * a + t) (if v = 0 then 0 else 1) (10 * x + t') = 0 ∨ zfu (M.2 17) (10 * a + t) (if v = 0 then 0 else 1) (10 * x + t') = 1) ∧ (C.1 2 ≤ x → zfu (M.2 17) (10 * a + t) (if v = 0 then 0 else 1) (10 * x + t') = -1)
      by_cases e : t' = t
      · subst e
        simp only [if_true]
        refine ⟨zor_lt r1.2 h1.1 (by omega), ?_, fun x x1 x2 => ?_⟩
        · by_cases e : v = 0
          · rw [if_pos e, zor_0 r2.1]; exact r2
          · rw [if_neg e]; exact zor_lt r2.2 h1.1 (by omega)
        · refine ⟨hz x x1 x2, ?_⟩
          obtain ⟨q1, q2, q3, q4⟩ := r3 x x1 x2
          by_cases e2 : x = a
          · subst e2
            rw [zfu_e]
            by_cases e : v = 0
            · rw [if_pos e, if_pos e, zor_0 r2.1]
              exact ⟨⟨fun q => absurd (q2.1 q) (by omega), fun q => absurd q (by decide)⟩, Or.inr (Or.inl rfl), fun q => absurd q (by omega)⟩
            · rw [if_neg e, if_neg e, zor_bit h1.1 x1]
              exact ⟨⟨fun _ => rfl, fun _ => Or.inr rfl⟩, Or.inr (Or.inr rfl), fun q => absurd q (by omega)⟩
          · rw [zfu_n _ _ (by omega)]
            refine ⟨?_, q3, q4⟩
            by_cases e : v = 0
            · rw [if_pos e, zor_0 r2.1]; exact q2
            · rw [if_neg e, zor_bit h1.1 x1]
              exact ⟨fun q => q.elim q2.1 fun q => absurd q e2, fun q => Or.inl (q2.2 q)⟩
      · simp only [if_neg e]
        obtain ⟨w1, w2, w3⟩ := hR t' h5 h6
        refine ⟨w1, w2, fun x x1 x2 => ?_⟩
        rw [zfu_n _ _ (by omega)]
        exact w3 x x1 x2
  · exact Sim.no (q_rul5 p3 ⟨p1, p2⟩ h1) (q_rul6 rfl h1) (by decide) rfl (hJ.thr 1)

