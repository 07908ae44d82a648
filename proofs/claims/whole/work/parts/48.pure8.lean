/-! decided -/
theorem q_amg {C M : zSt} {s t na x : Int} (p2 : C.1 2 = na) (p3 : M.1 3 = na) (hna : 0 ≤ na ∧ na ≤ 12) (ht : 0 ≤ t ∧ t ≤ 9) (hx : 0 ≤ x ∧ x < 4096) (hb : ∀ a, 0 ≤ a → a < na → (zbit x a ↔ M.2 17 (10 * a + t) ≠ -1)) (hy : ∀ a, 0 ≤ a → a < na → M.2 3 a = C.2 4 a ∧ M.2 4 a = C.2 5 a) : ∃ r, (r = -1 ∨ (0 ≤ r ∧ r < na ∧ M.2 17 (10 * r + t) ≠ -1)) ∧ m_X0_latestAmong C x s = some (r, C) ∧ m_X9_latestRuling M s t = (fun (v1 : Int) (S1 : zSt) => if v1 = (-1) then (some ((-1), S1)) else (zar (10 * v1) fun x1 => zar (x1 + t) fun x2 => zld (S1.2 17) 120 x2 fun x3 => some (x3, S1)) : Int → zSt → Option zRes) r M := by
  refine zw22 (F := b_X0_latestAmong_5 x s (fun v1 S1 => some (v1, S1))) (G := b_X9_latestRuling_5 s t (fun (v1 : Int) (S1 : zSt) => if v1 = (-1) then (some ((-1), S1)) else (zar (10 * v1) fun x1 => zar (x1 + t) fun x2 => zld (S1.2 17) 120 x2 fun x3 => some (x3, S1)) : Int → zSt → Option zRes))
    (fun d b y S b' y' S' => S = C ∧ S' = M ∧ b = b' ∧ y = y' ∧ 0 ≤ y ∧ y + d = na ∧ (b = -1 ∨ (0 ≤ b ∧ b < y ∧ M.2 17 (10 * b + t) ≠ -1)))
    (fun p q => ∃ r, (r = -1 ∨ (0 ≤ r ∧ r < na ∧ M.2 17 (10 * r + t) ≠ -1)) ∧ p = some (r, C) ∧ q = (fun (v1 : Int) (S1 : zSt) => if v1 = (-1) then (some ((-1), S1)) else (zar (10 * v1) fun x1 => zar (x1 + t) fun x2 => zld (S1.2 17) 120 x2 fun x3 => some (x3, S1)) : Int → zSt → Option zRes) r M) ?_ 1000 1000 na.toNat (-1) 0 C (-1) 0 M ⟨rfl, rfl, rfl, rfl, by omega, by omega, Or.inl rfl⟩ (by omega) (by omega)
  generalize hj : (fun (v1 : Int) (S1 : zSt) => if v1 = (-1) then (some ((-1), S1)) else (zar (10 * v1) fun x1 => zar (x1 + t) fun x2 => zld (S1.2 17) 120 x2 fun x3 => some (x3, S1)) : Int → zSt → Option zRes) = j1
  rintro rec rec2 d b y S b' y' S' ⟨rfl, rfl, rfl, rfl, h1, h2, h3⟩
  by_cases c : na ≤ y
  · refine Or.inl ⟨b, by omega, ?_, ?_⟩
    · simp (disch := omega) only [b_X0_latestAmong_5, p2, zlt, zbd_s, zbx_l, zbx_r, zj0, zj1, zj2, zj3, zset_2, zput_1, if_true, if_false, zar_p, zld_p, zst_p, zdv_p, zrm_p, zc01_p, zb_p, zb_n, if_pos, if_neg]
    · simp (disch := omega) only [b_X9_latestRuling_5, p3, zlt, zbd_s, zbx_l, zbx_r, zj0, zj1, zj2, zj3, zset_2, zput_1, if_true, if_false, zar_p, zld_p, zst_p, zdv_p, zrm_p, zc01_p, zb_p, zb_n, if_pos, if_neg]
  · obtain ⟨y1, y2⟩ := hy y h1 (by omega)
    have hb1 := hb y h1 (by omega)
    have hl := p_X0_later S b y (by omega) (by omega)
    by_cases c1 : zbit x y
    · have c1' := hb1.1 c1
      by_cases c2 : s = -1 ∨ S.2 5 y = s
      · by_cases c3 : b = -1
        · refine Or.inr ⟨d - 1, y, y + 1, S, y, y + 1, S', by omega, ⟨rfl, rfl, rfl, rfl, by omega, by omega, Or.inr ⟨h1, by omega, c1'⟩⟩, ?_, ?_⟩
          · by_cases c4 : s = -1
            · simp (disch := first | assumption | omega) only [b_X0_latestAmong_5, p2, q_bit1, hl, zlt, zbd_s, zbx_l, zbx_r, zj0, zj1, zj2, zj3, zset_2, zput_1, if_true, if_false, zar_p, zld_p, zst_p, zdv_p, zrm_p, zc01_p, zb_p, zb_n, if_pos, if_neg]
            · simp (disch := first | assumption | omega) only [b_X0_latestAmong_5, p2, q_bit1, hl, zlt, zbd_s, zbx_l, zbx_r, zj0, zj1, zj2, zj3, zset_2, zput_1, if_true, if_false, zar_p, zld_p, zst_p, zdv_p, zrm_p, zc01_p, zb_p, zb_n, if_pos, if_neg]
          · by_cases c4 : s = -1
            · simp (disch := first | assumption | omega) only [b_X9_latestRuling_5, p3, y1, y2, zlt, zbd_s, zbx_l, zbx_r, zj0, zj1, zj2, zj3, zset_2, zput_1, if_true, if_false, zar_p, zld_p, zst_p, zdv_p, zrm_p, zc01_p, zb_p, zb_n, if_pos, if_neg]
            · simp (disch := first | assumption | omega) only [b_X9_latestRuling_5, p3, y1, y2, zlt, zbd_s, zbx_l, zbx_r, zj0, zj1, zj2, zj3, zset_2, zput_1, if_true, if_false, zar_p, zld_p, zst_p, zdv_p, zrm_p, zc01_p, zb_p, zb_n, if_pos, if_neg]
        · have y3 := (hy b (by omega) (by omega)).1
          by_cases c5 : S.2 4 b < S.2 4 y
          · refine Or.inr ⟨d - 1, y, y + 1, S, y, y + 1, S', by omega, ⟨rfl, rfl, rfl, rfl, by omega, by omega, Or.inr ⟨h1, by omega, c1'⟩⟩, ?_, ?_⟩
            · by_cases c4 : s = -1
              · simp (disch := first | assumption | omega) only [b_X0_latestAmong_5, p2, q_bit1, hl, zlt, zbd_s, zbx_l, zbx_r, zj0, zj1, zj2, zj3, zset_2, zput_1, if_true, if_false, zar_p, zld_p, zst_p, zdv_p, zrm_p, zc01_p, zb_p, zb_n, if_pos, if_neg]
              · simp (disch := first | assumption | omega) only [b_X0_latestAmong_5, p2, q_bit1, hl, zlt, zbd_s, zbx_l, zbx_r, zj0, zj1, zj2, zj3, zset_2, zput_1, if_true, if_false, zar_p, zld_p, zst_p, zdv_p, zrm_p, zc01_p, zb_p, zb_n, if_pos, if_neg]
            · by_cases c4 : s = -1
              · simp (disch := first | assumption | omega) only [b_X9_latestRuling_5, p3, y1, y2, y3, zlt, zbd_s, zbx_l, zbx_r, zj0, zj1, zj2, zj3, zset_2, zput_1, if_true, if_false, zar_p, zld_p, zst_p, zdv_p, zrm_p, zc01_p, zb_p, zb_n, if_pos, if_neg]
              · simp (disch := first | assumption | omega) only [b_X9_latestRuling_5, p3, y1, y2, y3, zlt, zbd_s, zbx_l, zbx_r, zj0, zj1, zj2, zj3, zset_2, zput_1, if_true, if_false, zar_p, zld_p, zst_p, zdv_p, zrm_p, zc01_p, zb_p, zb_n, if_pos, if_neg]
          · refine Or.inr ⟨d - 1, b, y + 1, S, b, y + 1, S', by omega, ⟨rfl, rfl, rfl, rfl, by omega, by omega, by omega⟩, ?_, ?_⟩
            · by_cases c4 : s = -1
              · simp (disch := first | assumption | omega) only [b_X0_latestAmong_5, p2, q_bit1, hl, zlt, zbd_s, zbx_l, zbx_r, zj0, zj1, zj2, zj3, zset_2, zput_1, if_true, if_false, zar_p, zld_p, zst_p, zdv_p, zrm_p, zc01_p, zb_p, zb_n, if_pos, if_neg]
              · simp (disch := first | assumption | omega) only [b_X0_latestAmong_5, p2, q_bit1, hl, zlt, zbd_s, zbx_l, zbx_r, zj0, zj1, zj2, zj3, zset_2, zput_1, if_true, if_false, zar_p, zld_p, zst_p, zdv_p, zrm_p, zc01_p, zb_p, zb_n, if_pos, if_neg]
            · by_cases c4 : s = -1
              · simp (disch := first | assumption | omega) only [b_X9_latestRuling_5, p3, y1, y2, y3, zlt, zbd_s, zbx_l, zbx_r, zj0, zj1, zj2, zj3, zset_2, zput_1, if_true, if_false, zar_p, zld_p, zst_p, zdv_p, zrm_p, zc01_p, zb_p, zb_n, if_pos, if_neg]
              · simp (disch := first | assumption | omega) only [b_X9_latestRuling_5, p3, y1, y2, y3, zlt, zbd_s, zbx_l, zbx_r, zj0, zj1, zj2, zj3, zset_2, zput_1, if_true, if_false, zar_p, zld_p, zst_p, zdv_p, zrm_p, zc01_p, zb_p, zb_n, if_pos, if_neg]
      · refine Or.inr ⟨d - 1, b, y + 1, S, b, y + 1, S', by omega, ⟨rfl, rfl, rfl, rfl, by omega, by omega, by omega⟩, ?_, ?_⟩
        · simp (disch := first | assumption | omega) only [b_X0_latestAmong_5, p2, q_bit1, zlt, zbd_s, zbx_l, zbx_r, zj0, zj1, zj2, zj3, zset_2, zput_1, if_true, if_false, zar_p, zld_p, zst_p, zdv_p, zrm_p, zc01_p, zb_p, zb_n, if_pos, if_neg]
        · simp (disch := first | assumption | omega) only [b_X9_latestRuling_5, p3, y1, y2, zlt, zbd_s, zbx_l, zbx_r, zj0, zj1, zj2, zj3, zset_2, zput_1, if_true, if_false, zar_p, zld_p, zst_p, zdv_p, zrm_p, zc01_p, zb_p, zb_n, if_pos, if_neg]
    · have c1' : S'.2 17 (10 * y + t) = -1 := Classical.byContradiction fun q => c1 (hb1.2 q)
      refine Or.inr ⟨d - 1, b, y + 1, S, b, y + 1, S', by omega, ⟨rfl, rfl, rfl, rfl, by omega, by omega, by omega⟩, ?_, ?_⟩
      · simp (disch := first | assumption | omega) only [b_X0_latestAmong_5, p2, q_bit0, zlt, zbd_s, zbx_l, zbx_r, zj0, zj1, zj2, zj3, zset_2, zput_1, if_true, if_false, zar_p, zld_p, zst_p, zdv_p, zrm_p, zc01_p, zb_p, zb_n, if_pos, if_neg]
      · simp (disch := first | assumption | omega) only [b_X9_latestRuling_5, p3, zlt, zbd_s, zbx_l, zbx_r, zj0, zj1, zj2, zj3, zset_2, zput_1, if_true, if_false, zar_p, zld_p, zst_p, zdv_p, zrm_p, zc01_p, zb_p, zb_n, if_pos, if_neg]
theorem q_rof {C M : zSt} {r t y : Int} (hr : r = -1 ∨ (0 ≤ r ∧ r < 12 ∧ M.2 17 (10 * r + t) ≠ -1)) (ht : 0 ≤ t ∧ t ≤ 9) (hy : C.2 19 t = y) (hy2 : 0 ≤ y ∧ y < 4096) (hb : ∀ a, 0 ≤ a → a < 12 → (zbit y a ↔ M.2 17 (10 * a + t) = 1) ∧ (M.2 17 (10 * a + t) = -1 ∨ M.2 17 (10 * a + t) = 0 ∨ M.2 17 (10 * a + t) = 1)) : ∃ v, (v = -1 ∨ v = 0 ∨ v = 1) ∧ m_X5_rulingOf C r t = some (v, C) ∧ (fun (v1 : Int) (S1 : zSt) => if v1 = (-1) then (some ((-1), S1)) else (zar (10 * v1) fun x1 => zar (x1 + t) fun x2 => zld (S1.2 17) 120 x2 fun x3 => some (x3, S1)) : Int → zSt → Option zRes) r M = some (v, M) := by
  by_cases e : r = -1
  · exact ⟨-1, by omega, by simp (disch := omega) only [m_X5_rulingOf, if_true, if_false, zar_p, zld_p, zst_p, zdv_p, zrm_p, zc01_p, zb_p, zb_n, if_pos, if_neg], by simp (disch := omega) only [if_true, if_false, zar_p, zld_p, zst_p, zdv_p, zrm_p, zc01_p, zb_p, zb_n, if_pos, if_neg]⟩
  · obtain ⟨h1, h2, h3⟩ : 0 ≤ r ∧ r < 12 ∧ M.2 17 (10 * r + t) ≠ -1 := hr.elim (fun q => absurd q e) id
    obtain ⟨h4, h5⟩ := hb r h1 h2
    by_cases c : zbit y r
    · have h6 := h4.1 c
      exact ⟨1, by omega, by simp (disch := first | assumption | omega) only [m_X5_rulingOf, p_at, zat_p, hy, q_bit1, zlt, zbd_s, zbx_l, zbx_r, zj0, zj1, zj2, zj3, zset_2, zput_1, if_true, if_false, zar_p, zld_p, zst_p, zdv_p, zrm_p, zc01_p, zb_p, zb_n, if_pos, if_neg], by simp (disch := omega) only [h6, if_true, if_false, zar_p, zld_p, zst_p, zdv_p, zrm_p, zc01_p, zb_p, zb_n, if_pos, if_neg]⟩
    · have h6 : M.2 17 (10 * r + t) = 0 := by
        rcases h5 with q | q | q
        · exact absurd q h3
        · exact q
        · exact absurd (h4.2 q) c
      exact ⟨0, by omega, by simp (disch := first | assumption | omega) only [m_X5_rulingOf, p_at, zat_p, hy, q_bit0, zlt, zbd_s, zbx_l, zbx_r, zj0, zj1, zj2, zj3, zset_2, zput_1, if_true, if_false, zar_p, zld_p, zst_p, zdv_p, zrm_p, zc01_p, zb_p, zb_n, if_pos, if_neg], by simp (disch := omega) only [h6, if_true, if_false, zar_p, zld_p, zst_p, zdv_p, zrm_p, zc01_p, zb_p, zb_n, if_pos, if_neg]⟩
def qv (x : Int) : Int := if x = 1 then 1 else if x = 0 then -1 else 0
theorem qv_b (x : Int) : -1 ≤ qv x ∧ qv x ≤ 1 := by
  unfold qv
  split
  · omega
  · split <;> omega
theorem q_most {S : zSt} {t na : Int} {j3 : Int → zSt → Option zRes} (hn : S.1 3 = na) (hn2 : 0 ≤ na ∧ na ≤ 12) (ht : 0 ≤ t ∧ t < 10) : zl2 1000 (b_X9_tells_72 t j3) 0 0 S = j3 (qsum (fun a => qv (S.2 17 (10 * a + t))) na.toNat) S := by
  refine zw2 (F := b_X9_tells_72 t j3) (fun d x i T => T = S ∧ 0 ≤ i ∧ i + d = na ∧ x = qsum (fun a => qv (S.2 17 (10 * a + t))) i.toNat) (fun q => q = j3 (qsum (fun a => qv (S.2 17 (10 * a + t))) na.toNat) S) ?_ 1000 na.toNat 0 0 S ⟨rfl, by omega, by omega, rfl⟩ (by omega)
  rintro rec d x i T ⟨rfl, h1, h2, h3⟩
  have hb := qsum_b (f := fun a => qv (T.2 17 (10 * a + t))) (n := i.toNat) (fun k _ => qv_b _)
  rw [← h3] at hb
  have hs : qsum (fun a => qv (T.2 17 (10 * a + t))) (i + 1).toNat = x + qv (T.2 17 (10 * i + t)) := by
    rw [show (i + 1).toNat = i.toNat + 1 by omega, qsum_s, h3, show ((i.toNat : Nat) : Int) = i by omega]
  have hv : ∀ x, qv x = if x = 1 then 1 else if x = 0 then -1 else 0 := fun _ => rfl
  rw [hv (T.2 17 (10 * i + t))] at hs
  by_cases c : na ≤ i
  · refine Or.inl ?_
    rw [show na = i by omega, ← h3]
    simp (disch := omega) only [b_X9_tells_72, hn, zlt, zbd_s, zbx_l, zbx_r, zj0, zj1, zj2, zj3, zset_2, zput_1, if_true, if_false, zar_p, zld_p, zst_p, zdv_p, zrm_p, zc01_p, zb_p, zb_n, if_pos, if_neg]
  · by_cases c2 : T.2 17 (10 * i + t) = 1
    · rw [if_pos c2] at hs
      refine Or.inr ⟨d - 1, x + 1, i + 1, T, by omega, ⟨rfl, by omega, by omega, by omega⟩, ?_⟩
      simp (disch := omega) only [b_X9_tells_72, hn, zlt, zbd_s, zbx_l, zbx_r, zj0, zj1, zj2, zj3, zset_2, zput_1, if_true, if_false, zar_p, zld_p, zst_p, zdv_p, zrm_p, zc01_p, zb_p, zb_n, if_pos, if_neg]
    · rw [if_neg c2] at hs
      by_cases c3 : T.2 17 (10 * i + t) = 0
      · rw [if_pos c3] at hs
        refine Or.inr ⟨d - 1, x + (-1), i + 1, T, by omega, ⟨rfl, by omega, by omega, by omega⟩, ?_⟩
        simp (disch := omega) only [b_X9_tells_72, hn, zlt, zbd_s, zbx_l, zbx_r, zj0, zj1, zj2, zj3, zset_2, zput_1, if_true, if_false, zar_p, zld_p, zst_p, zdv_p, zrm_p, zc01_p, zb_p, zb_n, if_pos, if_neg]
      · rw [if_neg c3] at hs
        refine Or.inr ⟨d - 1, x, i + 1, T, by omega, ⟨rfl, by omega, by omega, by omega⟩, ?_⟩
        simp (disch := omega) only [b_X9_tells_72, hn, Int.add_zero, zlt, zbd_s, zbx_l, zbx_r, zj0, zj1, zj2, zj3, zset_2, zput_1, if_true, if_false, zar_p, zld_p, zst_p, zdv_p, zrm_p, zc01_p, zb_p, zb_n, if_pos, if_neg]
theorem q_wh1 {R : Type} {b : Int} {k : Int → Option R} (h : 0 ≤ b) : zishr b 1 k = k (b / 2) := if_pos ⟨h, by decide, by decide⟩
theorem q_wh2 {R : Type} {b : Int} {k : Int → Option R} (h : 0 ≤ b) : ziand b 1 k = k (b % 2) := by
  have e : ((b.toNat &&& (1 : Int).toNat : Nat) : Int) = b % 2 := by
    rw [show (1 : Int).toNat = 1 from rfl, Nat.and_one_is_mod]; omega
  unfold ziand
  rw [if_pos ⟨h, by decide⟩, e]
theorem q_tell {C M : zSt} {k t : Int} (hJ : J C M) (hk : 0 ≤ k ∧ k < C.1 4) (ht : 0 ≤ t ∧ t ≤ 9) : ∃ r, (r = -1 ∨ r = 0 ∨ r = 1) ∧ m_X9_tells M k t = some (r, M) ∧ m_X5_tell C (C.2 20 k) (C.2 21 k) t = some (r, C) := by
  obtain ⟨hRG, hP, hT, ⟨p1, p2, p3, p4⟩, hC, hR, ⟨f1, f2, f3, f4⟩, hE⟩ := id hJ
  obtain ⟨k1, k2, k3, k4, k5, k6⟩ := f4 k hk.1 hk.2
  obtain ⟨r1, r2, r3⟩ := hR t ht.1 (by omega)
  have am := fun s => q_amg (C := C) (M := M) (s := s) rfl p3 ⟨p1, p2⟩ ht r1 (fun a h1 h2 => (r3 a h1 (by omega)).1) (fun a h1 h2 => ⟨(p4 a h1 h2).1, (p4 a h1 h2).2.1⟩)
  by_cases e0 : C.2 20 k = 0
  · obtain ⟨r, a1, a2, a3⟩ := am (C.2 21 k)
    obtain ⟨v, b1, b2, b3⟩ := q_rof (C := C) (M := M) (r := r) (by omega) ht rfl r2 (fun a h1 h2 => ⟨(r3 a h1 h2).2.1, (r3 a h1 h2).2.2.1⟩)
    rw [b3] at a3
    refine ⟨v, b1, ?_, ?_⟩
    · clear r3 am; simp (disch := omega) only [m_X9_tells, k1, k2, a3, zlt, zbd_s, zbx_l, zbx_r, zj0, zj1, zj2, zj3, zset_2, zput_1, if_true, if_false, zar_p, zld_p, zst_p, zdv_p, zrm_p, zc01_p, zb_p, zb_n, if_pos, if_neg]
    · clear r3 am; simp (disch := omega) only [m_X5_tell, p_at, zat_p, a2, b2, zlt, zbd_s, zbx_l, zbx_r, zj0, zj1, zj2, zj3, zset_2, zput_1, if_true, if_false, zar_p, zld_p, zst_p, zdv_p, zrm_p, zc01_p, zb_p, zb_n, if_pos, if_neg]
  · by_cases e1 : C.2 20 k = 1
    · obtain ⟨r, a1, a2, a3⟩ := am (-1)
      obtain ⟨v, b1, b2, b3⟩ := q_rof (C := C) (M := M) (r := r) (by omega) ht rfl r2 (fun a h1 h2 => ⟨(r3 a h1 h2).2.1, (r3 a h1 h2).2.2.1⟩)
      rw [b3] at a3
      refine ⟨v, b1, ?_, ?_⟩
      · clear r3 am; simp (disch := omega) only [m_X9_tells, k1, k2, a3, zlt, zbd_s, zbx_l, zbx_r, zj0, zj1, zj2, zj3, zset_2, zput_1, if_true, if_false, zar_p, zld_p, zst_p, zdv_p, zrm_p, zc01_p, zb_p, zb_n, if_pos, if_neg]
      · clear r3 am; simp (disch := omega) only [m_X5_tell, p_at, zat_p, a2, b2, zlt, zbd_s, zbx_l, zbx_r, zj0, zj1, zj2, zj3, zset_2, zput_1, if_true, if_false, zar_p, zld_p, zst_p, zdv_p, zrm_p, zc01_p, zb_p, zb_n, if_pos, if_neg]
    · by_cases e2 : C.2 20 k = 2
      · have m1 := fun j3 : Int → zSt → Option zRes => q_most (t := t) (j3 := j3) p3 ⟨p1, p2⟩ (by omega)
        have e : qsum (fun a => qv (M.2 17 (10 * a + t))) (C.1 2).toNat + qsum (fun a => zb (zbit (C.2 18 t) a)) 12 = qsum (fun a => zb (zbit (C.2 19 t) a)) 12 + qsum (fun a => zb (zbit (C.2 19 t) a)) 12 := by
          have x1 : qsum (fun a => qv (M.2 17 (10 * a + t))) ((C.1 2).toNat + (12 - (C.1 2).toNat)) = qsum (fun a => qv (M.2 17 (10 * a + t))) (C.1 2).toNat := qsum_x fun j j1 j2 => by
            rw [(r3 j (by omega) (by omega)).2.2.2 (by omega)]; decide
          rw [← x1, show (C.1 2).toNat + (12 - (C.1 2).toNat) = 12 by omega, ← qsum_add, ← qsum_add]
          refine qsum_c fun j hj => ?_
          obtain ⟨x2, x3, x4, x5⟩ := r3 j (by omega) (by omega)
          unfold qv
          by_cases c : zbit (C.2 19 t) (j : Int)
          · have c1 := x3.1 c
            rw [if_pos c1, zb_p c, zb_p (x2.2 (by omega))]
          · have c1 : M.2 17 (10 * (j : Int) + t) ≠ 1 := fun q => c (x3.2 q)
            rw [if_neg c1, zb_n c]
            by_cases c2 : zbit (C.2 18 t) (j : Int)
            · have := x2.1 c2
              rw [if_pos (by omega), zb_p c2]; rfl
            · have : M.2 17 (10 * (j : Int) + t) = -1 := Classical.byContradiction fun q => c2 (x2.2 q)
              rw [if_neg (by omega), zb_n c2]
        have y1 := qsum_b (f := fun a => zb (zbit (C.2 18 t) a)) (n := 12) (fun k _ => by unfold zb; split <;> omega)
        have y2 := qsum_b (f := fun a => zb (zbit (C.2 19 t) a)) (n := 12) (fun k _ => by unfold zb; split <;> omega)
        generalize qsum (fun a => qv (M.2 17 (10 * a + t))) (C.1 2).toNat = w at m1 e
        have z1 : m_X5_countOn C t = some (qsum (fun a => zb (zbit (C.2 18 t) a)) 12, C) := q_rul2c ht r1 rfl
        have z2 : ∀ kk : Int → Option zRes, zbc (C.2 19 t) kk = kk (qsum (fun a => zb (zbit (C.2 19 t) a)) 12) := fun kk => zbc_p r2
        generalize qsum (fun a => zb (zbit (C.2 18 t) a)) 12 = u at e y1 z1
        generalize qsum (fun a => zb (zbit (C.2 19 t) a)) 12 = v at e y2 z2
        refine ⟨if 0 < w then 1 else if w < 0 then 0 else -1, by repeat' split
                                                                 all_goals omega, ?_, ?_⟩
        · clear r3 am hR p4 f4
          by_cases c1 : 0 < w
          · simp (disch := omega) only [m_X9_tells, k1, k2, m1, zlt, zbd_s, zbx_l, zbx_r, zj0, zj1, zj2, zj3, zset_2, zput_1, if_true, if_false, zar_p, zld_p, zst_p, zdv_p, zrm_p, zc01_p, zb_p, zb_n, if_pos, if_neg]
          · by_cases c2 : w < 0
            · simp (disch := omega) only [m_X9_tells, k1, k2, m1, zlt, zbd_s, zbx_l, zbx_r, zj0, zj1, zj2, zj3, zset_2, zput_1, if_true, if_false, zar_p, zld_p, zst_p, zdv_p, zrm_p, zc01_p, zb_p, zb_n, if_pos, if_neg]
            · simp (disch := omega) only [m_X9_tells, k1, k2, m1, zlt, zbd_s, zbx_l, zbx_r, zj0, zj1, zj2, zj3, zset_2, zput_1, if_true, if_false, zar_p, zld_p, zst_p, zdv_p, zrm_p, zc01_p, zb_p, zb_n, if_pos, if_neg]
        · clear r3 am hR p4 f4
          by_cases c1 : 0 < w
          · simp (disch := omega) only [m_X5_tell, m_X5_rulingOfMost, p_at, zat_p, z1, z2, zlt, zbd_s, zbx_l, zbx_r, zj0, zj1, zj2, zj3, zset_2, zput_1, if_true, if_false, zar_p, zld_p, zst_p, zdv_p, zrm_p, zc01_p, zb_p, zb_n, if_pos, if_neg]
          · by_cases c2 : w < 0
            · simp (disch := omega) only [m_X5_tell, m_X5_rulingOfMost, p_at, zat_p, z1, z2, zlt, zbd_s, zbx_l, zbx_r, zj0, zj1, zj2, zj3, zset_2, zput_1, if_true, if_false, zar_p, zld_p, zst_p, zdv_p, zrm_p, zc01_p, zb_p, zb_n, if_pos, if_neg]
            · simp (disch := omega) only [m_X5_tell, m_X5_rulingOfMost, p_at, zat_p, z1, z2, zlt, zbd_s, zbx_l, zbx_r, zj0, zj1, zj2, zj3, zset_2, zput_1, if_true, if_false, zar_p, zld_p, zst_p, zdv_p, zrm_p, zc01_p, zb_p, zb_n, if_pos, if_neg]
      · have e3 : C.2 20 k = 3 := by omega
        have k7 := k6 e3
        refine ⟨if C.2 21 k / 2 = t then C.2 21 k % 2 else -1, by split <;> omega, ?_, ?_⟩
        · clear r3 am hR p4 f4
          by_cases c1 : C.2 21 k / 2 = t
          · simp (disch := omega) only [m_X9_tells, k1, k2, zlt, zbd_s, zbx_l, zbx_r, zj0, zj1, zj2, zj3, zset_2, zput_1, if_true, if_false, zar_p, zld_p, zst_p, zdv_p, zrm_p, zc01_p, zb_p, zb_n, if_pos, if_neg]
          · simp (disch := omega) only [m_X9_tells, k1, k2, zlt, zbd_s, zbx_l, zbx_r, zj0, zj1, zj2, zj3, zset_2, zput_1, if_true, if_false, zar_p, zld_p, zst_p, zdv_p, zrm_p, zc01_p, zb_p, zb_n, if_pos, if_neg]
        · clear r3 am hR p4 f4
          by_cases c1 : C.2 21 k / 2 = t
          · simp (disch := omega) only [m_X5_tell, q_wh1, q_wh2, zlt, zbd_s, zbx_l, zbx_r, zj0, zj1, zj2, zj3, zset_2, zput_1, if_true, if_false, zar_p, zld_p, zst_p, zdv_p, zrm_p, zc01_p, zb_p, zb_n, if_pos, if_neg]
          · simp (disch := omega) only [m_X5_tell, q_wh1, q_wh2, zlt, zbd_s, zbx_l, zbx_r, zj0, zj1, zj2, zj3, zset_2, zput_1, if_true, if_false, zar_p, zld_p, zst_p, zdv_p, zrm_p, zc01_p, zb_p, zb_n, if_pos, if_neg]
theorem s_decided {C M : zSt} {t : Int} (hJ : J C M) : Sim ["java/lang/IndexOutOfBoundsException"] (m_X9_decided M t) (m_X8_decided C t) := by
  have f1 := hJ.2.2.2.2.2.2.1.1
  have f2 := hJ.2.2.2.2.2.2.1.2.1
  have f3 := hJ.2.2.2.2.2.2.1.2.2.1
  by_cases h1 : 0 ≤ t ∧ t ≤ 9
  · have hJ' : J C (zset M 0 0) := ⟨⟨hJ.1.1, RG_set hJ.1.2 (show inR 0 by omega)⟩, hJ.thr 0⟩
    have key := zw11 (F := b_X9_decided_31 t (fun (S4 : zSt) => some ((-1), S4))) (G := b_X5_decide_2 t (fun (S1 : zSt) => some ((-1), S1)))
      (fun d i S i' S' => S = zset M 0 0 ∧ S' = C ∧ i = i' ∧ 0 ≤ i ∧ i + d = C.1 4) (fun p q => ∃ r, p = some (r, zset M 0 0) ∧ q = some (r, C)) (by
        rintro rec rec2 d i S i' S' ⟨rfl, rfl, rfl, h2, h3⟩
        by_cases c : S'.1 4 ≤ i
        · refine Or.inl ⟨-1, ?_, ?_⟩
          · simp (disch := omega) only [b_X9_decided_31, zset_n, f3, zlt, zbd_s, zbx_l, zbx_r, zj0, zj1, zj2, zj3, zset_2, zput_1, if_true, if_false, zar_p, zld_p, zst_p, zdv_p, zrm_p, zc01_p, zb_p, zb_n, if_pos, if_neg]
          · simp (disch := omega) only [b_X5_decide_2, zlt, zbd_s, zbx_l, zbx_r, zj0, zj1, zj2, zj3, zset_2, zput_1, if_true, if_false, zar_p, zld_p, zst_p, zdv_p, zrm_p, zc01_p, zb_p, zb_n, if_pos, if_neg]
        · obtain ⟨r, r1, r2, r3⟩ := q_tell hJ' ⟨h2, by omega⟩ h1
          by_cases e : r = -1
          · subst e
            refine Or.inr ⟨d - 1, i + 1, _, i + 1, _, by omega, ⟨rfl, rfl, rfl, by omega, by omega⟩, ?_, ?_⟩
            · simp (disch := omega) only [b_X9_decided_31, zset_n, f3, r2, zlt, zbd_s, zbx_l, zbx_r, zj0, zj1, zj2, zj3, zset_2, zput_1, if_true, if_false, zar_p, zld_p, zst_p, zdv_p, zrm_p, zc01_p, zb_p, zb_n, if_pos, if_neg]
            · simp (disch := omega) only [b_X5_decide_2, r3, zlt, zbd_s, zbx_l, zbx_r, zj0, zj1, zj2, zj3, zset_2, zput_1, if_true, if_false, zar_p, zld_p, zst_p, zdv_p, zrm_p, zc01_p, zb_p, zb_n, if_pos, if_neg]
          · refine Or.inl ⟨10 * i + r, ?_, ?_⟩
            · simp (disch := omega) only [b_X9_decided_31, zset_n, f3, r2, zlt, zbd_s, zbx_l, zbx_r, zj0, zj1, zj2, zj3, zset_2, zput_1, if_true, if_false, zar_p, zld_p, zst_p, zdv_p, zrm_p, zc01_p, zb_p, zb_n, if_pos, if_neg]
            · simp (disch := omega) only [b_X5_decide_2, r3, zlt, zbd_s, zbx_l, zbx_r, zj0, zj1, zj2, zj3, zset_2, zput_1, if_true, if_false, zar_p, zld_p, zst_p, zdv_p, zrm_p, zc01_p, zb_p, zb_n, if_pos, if_neg])
      1000 1000 (C.1 4).toNat 0 (zset M 0 0) 0 C ⟨rfl, rfl, rfl, by omega, by omega⟩ (by omega) (by omega)
    obtain ⟨r, e1, e2⟩ := key
    refine Sim.ok (b := r) (M' := zset M 0 0) (C' := C) ?_ ?_ rfl (hJ.thr 0)
    · simp (disch := omega) only [m_X9_decided, p_X9_between, zset_e, e1, zlt, zbd_s, zbx_l, zbx_r, zj0, zj1, zj2, zj3, zset_2, zput_1, if_true, if_false, zar_p, zld_p, zst_p, zdv_p, zrm_p, zc01_p, zb_p, zb_n, if_pos, if_neg]
    · simp (disch := omega) only [m_X8_decided, p_X8_needTopic, m_X5_decide, e2, zlt, zbd_s, zbx_l, zbx_r, zj0, zj1, zj2, zj3, zset_2, zput_1, if_true, if_false, zar_p, zld_p, zst_p, zdv_p, zrm_p, zc01_p, zb_p, zb_n, if_pos, if_neg]
  · refine Sim.no (b := 0) (E := "java/lang/IndexOutOfBoundsException") (M' := zset M 0 1) (C' := C) ?_ ?_ (by decide) rfl (hJ.thr 1)
    · simp (disch := omega) only [m_X9_decided, p_X9_between, zset_e, zlt, zbd_s, zbx_l, zbx_r, zj0, zj1, zj2, zj3, zset_2, zput_1, if_true, if_false, zar_p, zld_p, zst_p, zdv_p, zrm_p, zc01_p, zb_p, zb_n, if_pos, if_neg]
    · simp (disch := omega) only [m_X8_decided, p_X8_needTopic, zlt, zbd_s, zbx_l, zbx_r, zj0, zj1, zj2, zj3, zset_2, zput_1, if_true, if_false, zar_p, zld_p, zst_p, zdv_p, zrm_p, zc01_p, zb_p, zb_n, if_pos, if_neg]

