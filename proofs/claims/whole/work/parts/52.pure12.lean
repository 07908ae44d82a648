/-! found, exact -/
theorem zrp_rp (S : zSt) (j : Nat) (f g : Int → Int) : zrp (zrp S j f) j g = zrp S j g := by
  refine Prod.ext rfl (funext fun q => ?_)
  show (if q = j then g else if q = j then f else S.2 q) = (if q = j then g else S.2 q)
  by_cases e : q = j
  · rw [if_pos e, if_pos e]
  · rw [if_neg e, if_neg e, if_neg e]
noncomputable def qL (a b : Int → Int) (i : Nat) : Nat → Int := Nat.rec (motive := fun _ => Nat → Int) (fun _ => 0) (fun i r j => Nat.rec (motive := fun _ => Int) 0 (fun j v => if a (i : Int) = b (j : Int) then r j + 1 else if r (j + 1) ≤ v then v else r (j + 1)) j) i
theorem qL_00 (a b : Int → Int) (j : Nat) : qL a b 0 j = 0 := rfl
theorem qL_s0 (a b : Int → Int) (i : Nat) : qL a b (i + 1) 0 = 0 := rfl
theorem qL_ss (a b : Int → Int) (i j : Nat) : qL a b (i + 1) (j + 1) = if a (i : Int) = b (j : Int) then qL a b i j + 1 else if qL a b i (j + 1) ≤ qL a b (i + 1) j then qL a b (i + 1) j else qL a b i (j + 1) := rfl
theorem qL_i0 (a b : Int → Int) (i : Nat) : qL a b i 0 = 0 := by
  cases i with
  | zero => rfl
  | succ i => rfl
theorem qL_b (a b : Int → Int) : ∀ i j : Nat, 0 ≤ qL a b i j ∧ qL a b i j ≤ i := by
  intro i
  induction i with
  | zero => intro j; rw [qL_00]; omega
  | succ i ih =>
    intro j
    induction j with
    | zero => rw [qL_s0]; omega
    | succ j ih2 =>
      rw [qL_ss]
      have h1 := ih j
      have h2 := ih (j + 1)
      by_cases c : a (i : Int) = b (j : Int)
      · rw [if_pos c]; omega
      · rw [if_neg c]; split <;> omega
theorem qL_z (a b : Int → Int) {p k : Int} (hp : 1 ≤ p) (hk : 0 ≤ k) : qL a b p.toNat (k + 1).toNat = if a (p - 1) = b k then qL a b (p - 1).toNat k.toNat + 1 else if qL a b (p - 1).toNat (k + 1).toNat ≤ qL a b p.toNat k.toNat then qL a b p.toNat k.toNat else qL a b (p - 1).toNat (k + 1).toNat := by
  have e1 : p.toNat = (p - 1).toNat + 1 := by omega
  have e2 : (k + 1).toNat = k.toNat + 1 := by omega
  rw [e1, e2, qL_ss, show (((p - 1).toNat : Nat) : Int) = p - 1 by omega, show ((k.toNat : Nat) : Int) = k by omega]
theorem q_lc1 {C : zSt} {a b : Int → Int} {n k : Int} {j2 : zSt → Option zRes} (hn : C.1 0 = n) (hn2 : 0 ≤ n ∧ n ≤ 12) (hk : 0 ≤ k) (hp : ∀ f i, 0 ≤ i → i < n → m_X4_wordAt (zrp C 3 f) i = some (a i, zrp C 3 f)) (f : Int → Int) (hf : ∀ q, 0 ≤ q → q ≤ n → f q = qL a b q.toNat k.toNat) : ∃ f', zl2 1000 (b_X7_likeness_33 j2 (b k)) 0 1 (zrp C 3 f) = j2 (zrp C 3 f') ∧ ∀ q, 0 ≤ q → q ≤ n → f' q = qL a b q.toNat (k + 1).toNat := by
  refine zw2 (F := b_X7_likeness_33 j2 (b k)) (fun d w p T => 1 ≤ p ∧ p + d = n + 1 ∧ w = qL a b (p - 1).toNat k.toNat ∧ ∃ f, T = zrp C 3 f ∧ (∀ q, 0 ≤ q → q < p → f q = qL a b q.toNat (k + 1).toNat) ∧ ∀ q, p ≤ q → q ≤ n → f q = qL a b q.toNat k.toNat) (fun x => ∃ f', x = j2 (zrp C 3 f') ∧ ∀ q, 0 ≤ q → q ≤ n → f' q = qL a b q.toNat (k + 1).toNat) ?_ 1000 n.toNat 0 1 (zrp C 3 f) ⟨by omega, by omega, rfl, f, rfl, fun q q1 q2 => ?_, fun q q1 q2 => hf q (by omega) q2⟩ (by omega)
  · rintro rec d w p T ⟨h1, h2, h3, f, rfl, h4, h5⟩
    have e1 : (zrp C 3 f).1 0 = n := hn
    by_cases c : n < p
    · refine Or.inl ⟨f, ?_, fun q q1 q2 => h4 q q1 (by omega)⟩
      simp (disch := omega) only [b_X7_likeness_33, m_X4_size, e1, zlt, zbd_s, zbx_l, zbx_r, zj0, zj1, zj2, zj3, zset_2, zput_1, if_true, if_false, zar_p, zld_p, zst_p, zdv_p, zrm_p, zc01_p, zb_p, zb_n, if_pos, if_neg]
    · have g1 := h5 p (by omega) (by omega)
      have g2 := h4 (p - 1) (by omega) (by omega)
      have b1 := qL_b a b (p - 1).toNat k.toNat
      have hz := qL_z a b h1 hk
      have hw := hp f (p - 1) (by omega) (by omega)
      refine Or.inr ⟨d - 1, f p, p + 1, zput (zrp C 3 f) 3 p (qL a b p.toNat (k + 1).toNat), by omega, ⟨by omega, by omega, by rw [g1, show p + 1 - 1 = p by omega], zfu f p (qL a b p.toNat (k + 1).toNat), zput_rp _ _ _ _ _, fun q q1 q2 => ?_, fun q q1 q2 => ?_⟩, ?_⟩
      · by_cases e : q = p
        · rw [e, zfu_e]
        · rw [zfu_n _ _ e]; exact h4 q q1 (by omega)
      · rw [zfu_n _ _ (by omega)]; exact h5 q (by omega) q2
      · rw [hz, ← g1, ← g2, ← h3]
        rw [← h3] at b1
        clear hz g1 g2 h3 h4 h5 hf
        by_cases c1 : a (p - 1) = b k
        · rw [if_pos c1]
          simp (disch := omega) only [b_X7_likeness_33, m_X4_size, e1, zrp_e, hw, zlt, zbd_s, zbx_l, zbx_r, zj0, zj1, zj2, zj3, zset_2, zput_1, if_true, if_false, zar_p, zld_p, zst_p, zdv_p, zrm_p, zc01_p, zb_p, zb_n, if_pos, if_neg]
        · rw [if_neg c1]
          by_cases c2 : f p < f (p - 1)
          · rw [if_neg (by omega)]
            simp (disch := omega) only [b_X7_likeness_33, m_X4_size, e1, zrp_e, hw, zlt, zbd_s, zbx_l, zbx_r, zj0, zj1, zj2, zj3, zset_2, zput_1, if_true, if_false, zar_p, zld_p, zst_p, zdv_p, zrm_p, zc01_p, zb_p, zb_n, if_pos, if_neg]
          · rw [if_pos (by omega)]
            simp (disch := omega) only [b_X7_likeness_33, m_X4_size, e1, zrp_e, hw, zlt, zbd_s, zbx_l, zbx_r, zj0, zj1, zj2, zj3, zset_2, zput_1, if_true, if_false, zar_p, zld_p, zst_p, zdv_p, zrm_p, zc01_p, zb_p, zb_n, if_pos, if_neg]
  · rw [hf q q1 (by omega), show q = 0 by omega]
    rfl
theorem q_likC {C : zSt} {a b : Int → Int} {u n m : Int} (hn : C.1 0 = n) (hn2 : 0 ≤ n ∧ n ≤ 12) (hm : 0 ≤ m ∧ m ≤ 12) (hs : ∀ f, m_X7_sizeOf (zrp C 3 f) u = some (m, zrp C 3 f)) (hw : ∀ f k, 0 ≤ k → k < m → m_X7_wordAt (zrp C 3 f) u k = some (b k, zrp C 3 f)) (hp : ∀ f i, 0 ≤ i → i < n → m_X4_wordAt (zrp C 3 f) i = some (a i, zrp C 3 f)) (f0 : Int → Int) : ∃ f, m_X7_likeness (zrp C 3 f0) u = some (qL a b n.toNat m.toNat, zrp C 3 f) := by
  have key := zw1 (F := b_X7_likeness_10 u (fun (S2 : zSt) => zbd (m_X4_size S2) fun x1 S3 => zbd (m_at S3 3 13 x1) fun x2 S4 => some (x2, S4))) (fun d k T => 0 ≤ k ∧ k + d = m ∧ ∃ f, T = zrp C 3 f ∧ ∀ q, 0 ≤ q → q ≤ n → f q = qL a b q.toNat k.toNat) (fun x => ∃ f, x = some (qL a b n.toNat m.toNat, zrp C 3 f)) (by
      rintro rec d k T ⟨h1, h2, f, rfl, h3⟩
      have e1 : (zrp C 3 f).1 0 = n := hn
      have hs1 := hs f
      by_cases c : m ≤ k
      · have h4 := h3 n hn2.1 (by omega)
        rw [show k = m by omega] at h4
        refine Or.inl ⟨f, ?_⟩
        clear h3
        simp (disch := omega) only [b_X7_likeness_10, hs1, m_X4_size, e1, p_at, zat_p, zrp_e, h4, zlt, zbd_s, zbx_l, zbx_r, zj0, zj1, zj2, zj3, zset_2, zput_1, if_true, if_false, zar_p, zld_p, zst_p, zdv_p, zrm_p, zc01_p, zb_p, zb_n, if_pos, if_neg]
      · have hw1 := hw f k h1 (by omega)
        obtain ⟨f', g1, g2⟩ := q_lc1 (j2 := fun (S8 : zSt) => zar (k + 1) fun x5 => rec x5 S8) hn hn2 h1 hp f h3
        refine Or.inr ⟨d - 1, k + 1, zrp C 3 f', by omega, ⟨by omega, by omega, f', rfl, g2⟩, ?_⟩
        have g3 : (fun (S8 : zSt) => zar (k + 1) fun x5 => rec x5 S8) (zrp C 3 f') = rec (k + 1) (zrp C 3 f') := zar_p (by omega)
        unfold b_X7_likeness_10
        rw [hs1, zbd_s, if_neg c, hw1, zbd_s]
        exact g1.trans g3)
    1000 m.toNat 0 (zrp C 3 (fun t => if 0 ≤ t ∧ t < 13 then 0 else f0 t)) ⟨by omega, by omega, _, rfl, fun q q1 q2 => by
      show (if 0 ≤ q ∧ q < 13 then (0 : Int) else f0 q) = _
      rw [if_pos (by omega)]; exact (qL_i0 a b _).symm⟩ (by omega)
  obtain ⟨f, e1⟩ := key
  refine ⟨f, ?_⟩
  have e2 : zfl (zrp C 3 f0) 3 13 0 = zrp C 3 (fun t => if 0 ≤ t ∧ t < 13 then 0 else f0 t) := by
    refine Eq.trans ?_ (zrp_rp C 3 f0 _)
    rfl
  unfold m_X7_likeness
  rw [e2]
  exact e1
theorem q_lm1 {M : zSt} {u n m i : Int} {j2 : zSt → Option zRes} (hn2 : 0 ≤ n ∧ n ≤ 12) (hm : 0 ≤ m ∧ m ≤ 12) (hu : 0 ≤ u ∧ u < 20) (hi : 0 ≤ i ∧ i < n) (hs : M.2 2 u = m) (g : Int → Int) (hg : ∀ q, 0 ≤ q → q ≤ m → g q = qL (M.2 0) (fun k => M.2 1 (12 * u + k)) i.toNat q.toNat) : ∃ g', zl2 1000 (b_X9_likeness_36 u j2 i) 0 0 (zrp M 25 g) = j2 (zrp M 25 g') ∧ ∀ q, 0 ≤ q → q ≤ m → g' q = qL (M.2 0) (fun k => M.2 1 (12 * u + k)) (i + 1).toNat q.toNat := by
  generalize hb : (fun k => M.2 1 (12 * u + k)) = b at *
  refine zw2 (F := b_X9_likeness_36 u j2 i) (fun d w j T => 0 ≤ j ∧ j + d = m ∧ w = qL (M.2 0) b i.toNat j.toNat ∧ ∃ g, T = zrp M 25 g ∧ (∀ q, 0 ≤ q → q ≤ j → g q = qL (M.2 0) b (i + 1).toNat q.toNat) ∧ ∀ q, j < q → q ≤ m → g q = qL (M.2 0) b i.toNat q.toNat) (fun x => ∃ g', x = j2 (zrp M 25 g') ∧ ∀ q, 0 ≤ q → q ≤ m → g' q = qL (M.2 0) b (i + 1).toNat q.toNat) ?_ 1000 m.toNat 0 0 (zrp M 25 g) ⟨by omega, by omega, ?_, g, rfl, fun q q1 q2 => ?_, fun q q1 q2 => hg q (by omega) q2⟩ (by omega)
  · rintro rec d w j T ⟨h1, h2, h3, g, rfl, h4, h5⟩
    have e1 : (zrp M 25 g).2 2 u = m := hs
    by_cases c : m ≤ j
    · refine Or.inl ⟨g, ?_, fun q q1 q2 => h4 q q1 (by omega)⟩
      simp (disch := omega) only [b_X9_likeness_36, e1, zlt, zbd_s, zbx_l, zbx_r, zj0, zj1, zj2, zj3, zset_2, zput_1, if_true, if_false, zar_p, zld_p, zst_p, zdv_p, zrm_p, zc01_p, zb_p, zb_n, if_pos, if_neg]
    · have g1 := h5 (j + 1) (by omega) (by omega)
      have g2 := h4 j (by omega) (by omega)
      have b1 := qL_b (M.2 0) b i.toNat j.toNat
      have hz := qL_z (M.2 0) b (p := i + 1) (k := j) (by omega) h1
      rw [show i + 1 - 1 = i by omega] at hz
      have e2 : (zrp M 25 g).2 0 = M.2 0 := rfl
      have e3 : (zrp M 25 g).2 1 (12 * u + j) = b j := by rw [← hb]; rfl
      refine Or.inr ⟨d - 1, g (j + 1), j + 1, zput (zrp M 25 g) 25 (j + 1) (qL (M.2 0) b (i + 1).toNat (j + 1).toNat), by omega, ⟨by omega, by omega, g1, zfu g (j + 1) (qL (M.2 0) b (i + 1).toNat (j + 1).toNat), zput_rp _ _ _ _ _, fun q q1 q2 => ?_, fun q q1 q2 => ?_⟩, ?_⟩
      · by_cases e : q = j + 1
        · rw [e, zfu_e]
        · rw [zfu_n _ _ e]; exact h4 q q1 (by omega)
      · rw [zfu_n _ _ (by omega)]; exact h5 q (by omega) q2
      · rw [hz, ← g1, ← g2, ← h3]
        rw [← h3] at b1
        clear hz g1 g2 h3 h4 h5 hg
        by_cases c1 : M.2 0 i = b j
        · rw [if_pos c1]
          by_cases c2 : g (j + 1) ≤ g j
          · simp (disch := omega) only [b_X9_likeness_36, e1, e2, e3, zrp_e, zlt, zbd_s, zbx_l, zbx_r, zj0, zj1, zj2, zj3, zset_2, zput_1, if_true, if_false, zar_p, zld_p, zst_p, zdv_p, zrm_p, zc01_p, zb_p, zb_n, if_pos, if_neg]
          · simp (disch := omega) only [b_X9_likeness_36, e1, e2, e3, zrp_e, zlt, zbd_s, zbx_l, zbx_r, zj0, zj1, zj2, zj3, zset_2, zput_1, if_true, if_false, zar_p, zld_p, zst_p, zdv_p, zrm_p, zc01_p, zb_p, zb_n, if_pos, if_neg]
        · rw [if_neg c1]
          by_cases c2 : g (j + 1) ≤ g j
          · rw [if_pos c2]
            simp (disch := omega) only [b_X9_likeness_36, e1, e2, e3, zrp_e, zlt, zbd_s, zbx_l, zbx_r, zj0, zj1, zj2, zj3, zset_2, zput_1, if_true, if_false, zar_p, zld_p, zst_p, zdv_p, zrm_p, zc01_p, zb_p, zb_n, if_pos, if_neg]
          · rw [if_neg c2]
            simp (disch := omega) only [b_X9_likeness_36, e1, e2, e3, zrp_e, zlt, zbd_s, zbx_l, zbx_r, zj0, zj1, zj2, zj3, zset_2, zput_1, if_true, if_false, zar_p, zld_p, zst_p, zdv_p, zrm_p, zc01_p, zb_p, zb_n, if_pos, if_neg]
  · exact (qL_i0 _ _ _).symm
  · rw [hg q q1 (by omega), show q = 0 by omega]
    exact (qL_i0 _ _ _).trans (qL_i0 _ _ _).symm
theorem q_likM {M : zSt} {u n m : Int} (hn : M.1 1 = n) (hn2 : 0 ≤ n ∧ n ≤ 12) (hm : 0 ≤ m ∧ m ≤ 12) (hu : 0 ≤ u ∧ u < 20) (hs : M.2 2 u = m) (g0 : Int → Int) : ∃ g, m_X9_likeness (zrp M 25 g0) u = some (qL (M.2 0) (fun k => M.2 1 (12 * u + k)) n.toNat m.toNat, zrp M 25 g) := by
  generalize hj2 : (fun (S2 : zSt) => zld (S2.2 2) 20 u fun x1 => zld (S2.2 25) 13 x1 fun x2 => some (x2, S2) : zSt → Option zRes) = j1
  have key : ∀ g, (∀ q, 0 ≤ q → q ≤ m → g q = 0) → ∃ g', zl1 1000 (b_X9_likeness_23 u j1) 0 (zrp M 25 g) = some (qL (M.2 0) (fun k => M.2 1 (12 * u + k)) n.toNat m.toNat, zrp M 25 g') := fun g hg => by
    refine zw1 (F := b_X9_likeness_23 u j1) (fun d i T => 0 ≤ i ∧ i + d = n ∧ ∃ g, T = zrp M 25 g ∧ ∀ q, 0 ≤ q → q ≤ m → g q = qL (M.2 0) (fun k => M.2 1 (12 * u + k)) i.toNat q.toNat) (fun x => ∃ g', x = some (qL (M.2 0) (fun k => M.2 1 (12 * u + k)) n.toNat m.toNat, zrp M 25 g')) ?_ 1000 n.toNat 0 (zrp M 25 g) ⟨by omega, by omega, g, rfl, fun q q1 q2 => hg q q1 q2⟩ (by omega)
    rintro rec d i T ⟨h1, h2, g, rfl, h3⟩
    have e1 : (zrp M 25 g).1 1 = n := hn
    have e2 : (zrp M 25 g).2 2 u = m := hs
    by_cases c : n ≤ i
    · have h4 := h3 m hm.1 (by omega)
      rw [show i = n by omega] at h4
      refine Or.inl ⟨g, ?_⟩
      clear h3
      rw [← hj2]
      simp (disch := omega) only [b_X9_likeness_23, e1, e2, zrp_e, h4, zlt, zbd_s, zbx_l, zbx_r, zj0, zj1, zj2, zj3, zset_2, zput_1, if_true, if_false, zar_p, zld_p, zst_p, zdv_p, zrm_p, zc01_p, zb_p, zb_n, if_pos, if_neg]
    · obtain ⟨g', g1, g2⟩ := q_lm1 (j2 := fun (S4 : zSt) => zar (i + 1) fun x4 => rec x4 S4) hn2 hm hu ⟨h1, by omega⟩ hs g h3
      refine Or.inr ⟨d - 1, i + 1, zrp M 25 g', by omega, ⟨by omega, by omega, g', rfl, g2⟩, ?_⟩
      have g3 : (fun (S4 : zSt) => zar (i + 1) fun x4 => rec x4 S4) (zrp M 25 g') = rec (i + 1) (zrp M 25 g') := zar_p (by omega)
      unfold b_X9_likeness_23
      simp only [zlt, e1, if_neg c, zj0]
      exact g1.trans g3
  have key2 := zw1 (F := b_X9_likeness_2 (fun (S1 : zSt) => zl1 1000 (b_X9_likeness_23 u j1) 0 S1)) (fun d v T => 0 ≤ v ∧ v + d = 13 ∧ ∃ g, T = zrp M 25 g ∧ ∀ q, 0 ≤ q → q < v → g q = 0) (fun x => ∃ g', x = some (qL (M.2 0) (fun k => M.2 1 (12 * u + k)) n.toNat m.toNat, zrp M 25 g')) (by
      rintro rec d v T ⟨h1, h2, g, rfl, h3⟩
      by_cases c : 13 ≤ v
      · obtain ⟨g', g1⟩ := key g (fun q q1 q2 => h3 q q1 (by omega))
        refine Or.inl ⟨g', ?_⟩
        unfold b_X9_likeness_2
        rw [if_pos c]
        exact g1
      · refine Or.inr ⟨d - 1, v + 1, zput (zrp M 25 g) 25 v 0, by omega, ⟨by omega, by omega, zfu g v 0, zput_rp _ _ _ _ _, fun q q1 q2 => ?_⟩, ?_⟩
        · by_cases e : q = v
          · rw [e, zfu_e]
          · rw [zfu_n _ _ e]; exact h3 q q1 (by omega)
        · clear h3
          simp (disch := omega) only [b_X9_likeness_2, if_true, if_false, zar_p, zld_p, zst_p, zdv_p, zrm_p, zc01_p, zb_p, zb_n, if_pos, if_neg]) 1000 13 0 (zrp M 25 g0) ⟨by omega, by omega, g0, rfl, fun q q1 q2 => absurd q1 (by omega)⟩ (by omega)
  obtain ⟨g, e⟩ := key2
  refine ⟨g, ?_⟩
  unfold m_X9_likeness
  unfold zj0
  rw [hj2]
  exact e
theorem q_find2 {C M : zSt} (hP : jPad C M) (hT : jTxt C M) : ∃ r f g, (-1 ≤ r ∧ r < C.1 1) ∧ m_X7_mostLike C = some (r, zrp C 3 f) ∧ m_X9_findUnit M = some (r, zrp M 25 g) := by
  obtain ⟨p1, p2, p3, p4⟩ := hP
  obtain ⟨t1, t2, t3, t4, t5⟩ := id hT
  have hC : ∀ u f, 0 ≤ u → u < C.1 1 → ∃ f', m_X7_likeness (zrp C 3 f) u = some (qL (M.2 0) (fun k => M.2 1 (12 * u + k)) (C.1 0).toNat (C.2 2 u).toNat, zrp C 3 f') := fun u f u1 u2 => by
    have t6 := t4 u u1 u2
    refine q_likC (C := C) (u := u) rfl ⟨p1, p2⟩ ⟨by omega, t6.2.1⟩ (fun f => p_szC (C := zrp C 3 f) (M := M) hT ⟨u1, u2⟩) (fun f k k1 k2 => p_waC (C := zrp C 3 f) (M := M) hT ⟨u1, u2⟩ k k1 k2) (fun f i i1 i2 => ?_) f
    rw [p4 i i1 i2]
    exact p_X4_wordAt (zrp C 3 f) i ⟨i1, i2⟩ p2
  have hM : ∀ u g, 0 ≤ u → u < C.1 1 → ∃ g', m_X9_likeness (zrp M 25 g) u = some (qL (M.2 0) (fun k => M.2 1 (12 * u + k)) (C.1 0).toNat (C.2 2 u).toNat, zrp M 25 g') := fun u g u1 u2 => by
    have t6 := t4 u u1 u2
    exact q_likM (M := M) (u := u) p3 ⟨p1, p2⟩ ⟨by omega, t6.2.1⟩ ⟨u1, by omega⟩ t6.2.2 g
  have key := zw33 (F := b_X7_mostLike_7 (fun (v1 : Int) (S1 : zSt) => some (v1, S1) : Int → zSt → Option zRes)) (G := b_X9_findUnit_6 (fun (v1 : Int) (S1 : zSt) => some (v1, S1) : Int → zSt → Option zRes))
    (fun d b x u S b' x' u' S' => b = b' ∧ x = x' ∧ u = u' ∧ 0 ≤ u ∧ u + d = C.1 1 ∧ -1 ≤ b ∧ b < u ∧ 0 ≤ x ∧ x ≤ 12 ∧ (∃ f, S = zrp C 3 f) ∧ ∃ g, S' = zrp M 25 g)
    (fun p q => ∃ r f g, (-1 ≤ r ∧ r < C.1 1) ∧ p = some (r, zrp C 3 f) ∧ q = some (r, zrp M 25 g)) (by
      rintro rec rec2 d b x u S b' x' u' S' ⟨rfl, rfl, rfl, h1, h2, h3, h4, h5, h6, ⟨f, rfl⟩, g, rfl⟩
      have e1 : (zrp C 3 f).1 1 = C.1 1 := rfl
      have e2 : (zrp M 25 g).1 2 = C.1 1 := t3
      by_cases c : C.1 1 ≤ u
      · refine Or.inl ⟨b, f, g, ⟨h3, by omega⟩, ?_, ?_⟩
        · simp (disch := omega) only [b_X7_mostLike_7, e1, zlt, zbd_s, zbx_l, zbx_r, zj0, zj1, zj2, zj3, zset_2, zput_1, if_true, if_false, zar_p, zld_p, zst_p, zdv_p, zrm_p, zc01_p, zb_p, zb_n, if_pos, if_neg]
        · simp (disch := omega) only [b_X9_findUnit_6, e2, zlt, zbd_s, zbx_l, zbx_r, zj0, zj1, zj2, zj3, zset_2, zput_1, if_true, if_false, zar_p, zld_p, zst_p, zdv_p, zrm_p, zc01_p, zb_p, zb_n, if_pos, if_neg]
      · obtain ⟨f', g1⟩ := hC u f h1 (by omega)
        obtain ⟨g', g2⟩ := hM u g h1 (by omega)
        have b1 := qL_b (M.2 0) (fun k => M.2 1 (12 * u + k)) (C.1 0).toNat (C.2 2 u).toNat
        generalize qL (M.2 0) (fun k => M.2 1 (12 * u + k)) (C.1 0).toNat (C.2 2 u).toNat = v at *
        by_cases c2 : v ≤ x
        · refine Or.inr ⟨d - 1, b, x, u + 1, zrp C 3 f', b, x, u + 1, zrp M 25 g', by omega, ⟨rfl, rfl, rfl, by omega, by omega, by omega, by omega, by omega, by omega, ⟨f', rfl⟩, g', rfl⟩, ?_, ?_⟩
          · simp (disch := omega) only [b_X7_mostLike_7, e1, g1, zlt, zbd_s, zbx_l, zbx_r, zj0, zj1, zj2, zj3, zset_2, zput_1, if_true, if_false, zar_p, zld_p, zst_p, zdv_p, zrm_p, zc01_p, zb_p, zb_n, if_pos, if_neg]
          · simp (disch := omega) only [b_X9_findUnit_6, e2, g2, zlt, zbd_s, zbx_l, zbx_r, zj0, zj1, zj2, zj3, zset_2, zput_1, if_true, if_false, zar_p, zld_p, zst_p, zdv_p, zrm_p, zc01_p, zb_p, zb_n, if_pos, if_neg]
        · refine Or.inr ⟨d - 1, u, v, u + 1, zrp C 3 f', u, v, u + 1, zrp M 25 g', by omega, ⟨rfl, rfl, rfl, by omega, by omega, by omega, by omega, by omega, by omega, ⟨f', rfl⟩, g', rfl⟩, ?_, ?_⟩
          · simp (disch := omega) only [b_X7_mostLike_7, e1, g1, zlt, zbd_s, zbx_l, zbx_r, zj0, zj1, zj2, zj3, zset_2, zput_1, if_true, if_false, zar_p, zld_p, zst_p, zdv_p, zrm_p, zc01_p, zb_p, zb_n, if_pos, if_neg]
          · simp (disch := omega) only [b_X9_findUnit_6, e2, g2, zlt, zbd_s, zbx_l, zbx_r, zj0, zj1, zj2, zj3, zset_2, zput_1, if_true, if_false, zar_p, zld_p, zst_p, zdv_p, zrm_p, zc01_p, zb_p, zb_n, if_pos, if_neg])
    1000 1000 (C.1 1).toNat (-1) 0 0 C (-1) 0 0 M ⟨rfl, rfl, rfl, by omega, by omega, by omega, by omega, by omega, by omega, ⟨C.2 3, (zrp_self C 3).symm⟩, M.2 25, (zrp_self M 25).symm⟩ (by omega) (by omega)
  obtain ⟨r, f, g, e1, e2, e3⟩ := key
  exact ⟨r, f, g, e1, e2, e3⟩
theorem s_found {C M : zSt} (hJ : J C M) : SimN (m_X9_found M) (m_X8_found C) := by
  obtain ⟨hRG, hP, hT, hA, hC, hR, hF, hE⟩ := id hJ
  obtain ⟨r, f, g, e1, e2, e3⟩ := q_find2 (C := C) (M := zset M 0 0) hP hT
  refine ⟨r, zrp C 3 f, zrp (zset M 0 0) 25 g, ?_, ?_, ⟨hP, hT, hA, hC, hR, hF, hE⟩⟩
  · clear hJ hRG; simp (disch := omega) only [m_X9_found, e3, zlt, zbd_s, zbx_l, zbx_r, zj0, zj1, zj2, zj3, zset_2, zput_1, if_true, if_false, zar_p, zld_p, zst_p, zdv_p, zrm_p, zc01_p, zb_p, zb_n, if_pos, if_neg]
  · clear hJ hRG; simp (disch := omega) only [m_X8_found, e2, zlt, zbd_s, zbx_l, zbx_r, zj0, zj1, zj2, zj3, zset_2, zput_1, if_true, if_false, zar_p, zld_p, zst_p, zdv_p, zrm_p, zc01_p, zb_p, zb_n, if_pos, if_neg]
theorem s_exact {C M : zSt} (hJ : J C M) : SimN (m_X9_exact M) (m_X8_exact C) := by
  obtain ⟨hRG, hP, hT, hA, hC, hR, hF, hE⟩ := id hJ
  obtain ⟨r, f, g, e1, e2, e3⟩ := q_find2 (C := C) (M := zset M 0 0) hP hT
  obtain ⟨p1, p2, p3, p4⟩ := id hP
  obtain ⟨t1, t2, t3, t4, t5⟩ := id hT
  by_cases c : r = -1
  · refine ⟨0, zrp C 3 f, zrp (zset M 0 0) 25 g, ?_, ?_, ⟨hP, hT, hA, hC, hR, hF, hE⟩⟩
    · clear hJ hRG; simp (disch := omega) only [m_X9_exact, e3, zlt, zbd_s, zbx_l, zbx_r, zj0, zj1, zj2, zj3, zset_2, zput_1, if_true, if_false, zar_p, zld_p, zst_p, zdv_p, zrm_p, zc01_p, zb_p, zb_n, if_pos, if_neg]
    · have z : m_X7_sizeOf (zrp C 3 f) r = some (0, zrp C 3 f) := by
        rw [p_X7_sizeOf (zrp C 3 f) r t2, if_neg (show ¬ (0 ≤ r ∧ r < (zrp C 3 f).1 1) from fun q => by omega)]
      clear hJ hRG; simp (disch := omega) only [m_X8_exact, m_X4_size, e2, z, zrp_1, zlt, zbd_s, zbx_l, zbx_r, zj0, zj1, zj2, zj3, zset_2, zput_1, if_true, if_false, zar_p, zld_p, zst_p, zdv_p, zrm_p, zc01_p, zb_p, zb_n, if_pos, if_neg]
  · have t6 := t4 r (by omega) e1.2
    obtain ⟨f', g1⟩ := q_likC (C := C) (a := M.2 0) (b := fun k => M.2 1 (12 * r + k)) (u := r) rfl ⟨p1, p2⟩ ⟨by omega, t6.2.1⟩ (fun f => p_szC (C := zrp C 3 f) (M := M) hT ⟨by omega, e1.2⟩) (fun f k k1 k2 => p_waC (C := zrp C 3 f) (M := M) hT ⟨by omega, e1.2⟩ k k1 k2) (fun f i i1 i2 => by
      rw [p4 i i1 i2]
      exact p_X4_wordAt (zrp C 3 f) i ⟨i1, i2⟩ p2) f
    obtain ⟨g', g2⟩ := q_likM (M := zset M 0 0) (u := r) p3 ⟨p1, p2⟩ ⟨by omega, t6.2.1⟩ ⟨by omega, by omega⟩ t6.2.2 g
    have g2 : m_X9_likeness (zrp (zset M 0 0) 25 g) r = some (qL (M.2 0) (fun k => M.2 1 (12 * r + k)) (C.1 0).toNat (C.2 2 r).toNat, zrp (zset M 0 0) 25 g') := g2
    have b1 := qL_b (M.2 0) (fun k => M.2 1 (12 * r + k)) (C.1 0).toNat (C.2 2 r).toNat
    have b2 : (((C.1 0).toNat : Nat) : Int) ≤ 12 := by omega
    have z := p_szC (C := zrp C 3 f) (M := M) hT ⟨by omega, e1.2⟩
    have z : m_X7_sizeOf (zrp C 3 f) r = some (C.2 2 r, zrp C 3 f) := z
    generalize qL (M.2 0) (fun k => M.2 1 (12 * r + k)) (C.1 0).toNat (C.2 2 r).toNat = v at *
    have e4 : (zrp (zset M 0 0) 25 g').1 1 = C.1 0 := p3
    have e5 : (zrp (zset M 0 0) 25 g').2 2 r = C.2 2 r := t6.2.2
    refine ⟨2 * v * 100 / (C.1 0 + C.2 2 r), zrp C 3 f', zrp (zset M 0 0) 25 g', ?_, ?_, ⟨hP, hT, hA, hC, hR, hF, hE⟩⟩
    · clear hJ hRG hP hT hA hC hR hF hE t4 t5 p4; simp (disch := omega) only [m_X9_exact, e3, g2, e4, e5, zlt, zbd_s, zbx_l, zbx_r, zj0, zj1, zj2, zj3, zset_2, zput_1, if_true, if_false, zar_p, zld_p, zst_p, zdv_p, zrm_p, zc01_p, zb_p, zb_n, if_pos, if_neg]
    · clear hJ hRG hP hT hA hC hR hF hE t4 t5 p4; simp (disch := omega) only [m_X8_exact, m_X4_size, e2, z, g1, zrp_1, zlt, zbd_s, zbx_l, zbx_r, zj0, zj1, zj2, zj3, zset_2, zput_1, if_true, if_false, zar_p, zld_p, zst_p, zdv_p, zrm_p, zc01_p, zb_p, zb_n, if_pos, if_neg]

