/-! standing: weigh, layStands; told, standsAnew, isHard, solved -/
noncomputable def rs (f : Int → Int) (a : Int) (d : Nat) : Int := qsum (fun k => f (a + k)) d
theorem rs_back (f : Int → Int) (a : Int) (d : Nat) : rs f a (d + 1) = rs f a d + f (a + d) := rfl
theorem rs_front (f : Int → Int) (a : Int) : ∀ d : Nat, rs f a (d + 1) = f a + rs f (a + 1) d := by
  intro d
  induction d with
  | zero => show (0 : Int) + f (a + 0) = f a + 0; rw [Int.add_zero, Int.add_zero, Int.zero_add]
  | succ d ih => rw [rs_back, ih, rs_back, show a + ((d + 1 : Nat) : Int) = a + 1 + d by omega]; omega
theorem rs_c {f g : Int → Int} {a : Int} {d : Nat} (h : ∀ j, a ≤ j → j < a + d → f j = g j) : rs f a d = rs g a d := qsum_c fun k hk => h _ (by omega) (by omega)
theorem rs_b {f : Int → Int} {a : Int} {d : Nat} (h : ∀ j, -1 ≤ f j ∧ f j ≤ 1) : -(d : Int) ≤ rs f a d ∧ rs f a d ≤ d := qsum_b fun _ _ => h _
theorem rs_skip {f : Int → Int} : ∀ (k : Nat) (a : Int) (d : Nat), (∀ j, a ≤ j → j < a + k → f j = 0) → rs f a (k + d) = rs f (a + k) d := by
  intro k
  induction k with
  | zero => intro a d _; rw [Nat.zero_add, show a + ((0 : Nat) : Int) = a by omega]
  | succ k ih =>
    intro a d h
    rw [show k + 1 + d = (k + d) + 1 by omega, rs_front, h a (by omega) (by omega), ih (a + 1) d (fun j h1 h2 => h j (by omega) (by omega)), show a + 1 + (k : Int) = a + ((k + 1 : Nat) : Int) by omega]
    omega
def bd (k : Int) : Int := if k = 1 ∨ k = 3 then 1 else if k = 2 then -1 else 0
theorem p_burdenOf (S : zSt) (k : Int) : m_X1_burdenOf S k = some (bd k, S) := by
  have hv : bd k = if k = 1 ∨ k = 3 then 1 else if k = 2 then -1 else 0 := rfl
  rw [hv]
  by_cases h1 : k = 1
  · simp (disch := omega) only [m_X1_burdenOf, zlt, zbd_s, zbx_l, zbx_r, zj0, zj1, zj2, zj3, zset_2, zput_1, if_true, if_false, zar_p, zld_p, zst_p, zdv_p, zrm_p, zc01_p, zb_p, zb_n, if_pos, if_neg]
  · by_cases h3 : k = 3
    · simp (disch := omega) only [m_X1_burdenOf, zlt, zbd_s, zbx_l, zbx_r, zj0, zj1, zj2, zj3, zset_2, zput_1, if_true, if_false, zar_p, zld_p, zst_p, zdv_p, zrm_p, zc01_p, zb_p, zb_n, if_pos, if_neg]
    · by_cases h2 : k = 2
      · simp (disch := omega) only [m_X1_burdenOf, zlt, zbd_s, zbx_l, zbx_r, zj0, zj1, zj2, zj3, zset_2, zput_1, if_true, if_false, zar_p, zld_p, zst_p, zdv_p, zrm_p, zc01_p, zb_p, zb_n, if_pos, if_neg]
      · simp (disch := omega) only [m_X1_burdenOf, zlt, zbd_s, zbx_l, zbx_r, zj0, zj1, zj2, zj3, zset_2, zput_1, if_true, if_false, zar_p, zld_p, zst_p, zdv_p, zrm_p, zc01_p, zb_p, zb_n, if_pos, if_neg]
def zE (C : zSt) (f : Int → Int) (p j : Int) : Int := if C.2 11 j = p ∧ f j < 1 then bd (C.2 8 j) else 0
theorem zE_b (C : zSt) (f : Int → Int) (p j : Int) : -1 ≤ zE C f p j ∧ zE C f p j ≤ 1 := by
  unfold zE bd
  split
  · split
    · omega
    · split <;> omega
  · omega
theorem p_weigh {C : zSt} {n : Int} (hn : C.1 3 = n) (hn2 : 0 ≤ n ∧ n ≤ 60) (hp : ∀ j, 0 ≤ j → j < n → -1 ≤ C.2 11 j ∧ C.2 11 j < j) : ∃ f, m_X1_weigh C = some (0, zrp C 17 f) ∧ ∀ p, 0 ≤ p → p < n → f p = rs (zE C f p) 0 n.toNat := by
  have key := zw1 (F := b_X1_weigh_15)
    (fun d i T => -1 ≤ i ∧ i < n ∧ (d : Int) = i + 1 ∧ ∃ f, T = zrp C 17 f ∧ ∀ p, 0 ≤ p → p < n → f p = rs (zE C f p) (i + 1) (n - 1 - i).toNat)
    (fun x => ∃ f, x = some (0, zrp C 17 f) ∧ ∀ p, 0 ≤ p → p < n → f p = rs (zE C f p) 0 n.toNat) (by
      rintro rec d i T ⟨h1, h2, h3, f, rfl, h4⟩
      by_cases c : i < 0
      · refine Or.inl ⟨f, ?_, fun p p1 p2 => ?_⟩
        · simp (disch := omega) only [b_X1_weigh_15, if_true, if_false, zar_p, zld_p, zst_p, zdv_p, zrm_p, zc01_p, zb_p, zb_n, if_pos, if_neg]
        · rw [h4 p p1 p2, show i + 1 = 0 by omega, show (n - 1 - i).toNat = n.toNat by omega]
      · obtain ⟨q1, q2⟩ := hp i (by omega) h2
        have ex : (n - 1 - (i - 1)).toNat = (n - 1 - i).toNat + 1 := by omega
        have e1 : (zrp C 17 f).2 17 = f := rfl
        have e2 : (zrp C 17 f).2 11 = C.2 11 := rfl
        have e3 : (zrp C 17 f).2 8 = C.2 8 := rfl
        have e4 : (zrp C 17 f).1 3 = n := hn
        by_cases c2 : 0 ≤ C.2 11 i ∧ f i < 1
        · have b1 := h4 (C.2 11 i) c2.1 (by omega)
          have b2 := rs_b (a := i + 1) (d := (n - 1 - i).toNat) (zE_b C f (C.2 11 i))
          rw [← b1] at b2
          have b3 : -1 ≤ bd (C.2 8 i) ∧ bd (C.2 8 i) ≤ 1 := by
            unfold bd; split
            · omega
            · split <;> omega
          refine Or.inr ⟨d - 1, i - 1, _, by omega, ⟨by omega, by omega, by omega, zfu f (C.2 11 i) (f (C.2 11 i) + bd (C.2 8 i)), rfl, fun p p1 p2 => ?_⟩, ?_⟩
          · rw [ex, show i - 1 + 1 = i by omega, rs_front]
            have e5 : rs (zE C (zfu f (C.2 11 i) (f (C.2 11 i) + bd (C.2 8 i))) p) (i + 1) (n - 1 - i).toNat = f p := by
              rw [h4 p p1 p2]
              refine rs_c fun j j1 j2 => ?_
              unfold zE; rw [zfu_n _ _ (by omega)]
            rw [e5]
            unfold zE
            rw [zfu_n (t := i) _ _ (by omega)]
            by_cases e : p = C.2 11 i
            · rw [e, zfu_e, if_pos ⟨rfl, c2.2⟩]; omega
            · rw [zfu_n _ _ e, if_neg fun q => e q.1.symm]; omega
          · have b0 : m_X1_burdenOf (zrp C 17 f) (C.2 8 i) = some (bd (C.2 8 i), zrp C 17 f) := p_burdenOf _ _
            have b4 : m_X1_isLight (zrp C 17 f) i = some (1, zrp C 17 f) := by simp (disch := omega) only [m_X1_isLight, p_at, zat_p, e1, zlt, zbd_s, zbx_l, zbx_r, zj0, zj1, zj2, zj3, zset_2, zput_1, if_true, if_false, zar_p, zld_p, zst_p, zdv_p, zrm_p, zc01_p, zb_p, zb_n, if_pos, if_neg]
            generalize bd (C.2 8 i) = w at *
            simp (disch := omega) only [b_X1_weigh_15, e1, e2, e3, e4, p_X1_has, b0, b4, zput_rp, zlt, zbd_s, zbx_l, zbx_r, zj0, zj1, zj2, zj3, zset_2, zput_1, if_true, if_false, zar_p, zld_p, zst_p, zdv_p, zrm_p, zc01_p, zb_p, zb_n, if_pos, if_neg]
            rfl
        · refine Or.inr ⟨d - 1, i - 1, _, by omega, ⟨by omega, by omega, by omega, f, rfl, fun p p1 p2 => ?_⟩, ?_⟩
          · rw [ex, show i - 1 + 1 = i by omega, rs_front, ← h4 p p1 p2]
            unfold zE
            rw [if_neg fun q => c2 ⟨by omega, q.2⟩]; omega
          · by_cases c3 : 0 ≤ C.2 11 i
            · have b4 : m_X1_isLight (zrp C 17 f) i = some (0, zrp C 17 f) := by simp (disch := omega) only [m_X1_isLight, p_at, zat_p, e1, zlt, zbd_s, zbx_l, zbx_r, zj0, zj1, zj2, zj3, zset_2, zput_1, if_true, if_false, zar_p, zld_p, zst_p, zdv_p, zrm_p, zc01_p, zb_p, zb_n, if_pos, if_neg]
              simp (disch := omega) only [b_X1_weigh_15, e2, e4, p_X1_has, b4, zlt, zbd_s, zbx_l, zbx_r, zj0, zj1, zj2, zj3, zset_2, zput_1, if_true, if_false, zar_p, zld_p, zst_p, zdv_p, zrm_p, zc01_p, zb_p, zb_n, if_pos, if_neg]
              rfl
            · simp (disch := omega) only [b_X1_weigh_15, e2, e4, p_X1_has, zlt, zbd_s, zbx_l, zbx_r, zj0, zj1, zj2, zj3, zset_2, zput_1, if_true, if_false, zar_p, zld_p, zst_p, zdv_p, zrm_p, zc01_p, zb_p, zb_n, if_pos, if_neg]
              rfl)
    1000 n.toNat (n - 1) (zfl C 17 60 0) ⟨by omega, by omega, by omega, fun t => if 0 ≤ t ∧ t < 60 then 0 else C.2 17 t, rfl, fun p p1 p2 => by
      show (if 0 ≤ p ∧ p < 60 then (0 : Int) else C.2 17 p) = _
      rw [if_pos (by omega), show (n - 1 - (n - 1)).toNat = 0 by omega]; rfl⟩ (by omega)
  obtain ⟨f, e1, e2⟩ := key
  refine ⟨f, ?_, e2⟩
  have e4 : (zfl C 17 60 0).1 3 = n := hn
  simp (disch := omega) only [m_X1_weigh, e4, e1, zlt, zbd_s, zbx_l, zbx_r, zj0, zj1, zj2, zj3, zset_2, zput_1, if_true, if_false, zar_p, zld_p, zst_p, zdv_p, zrm_p, zc01_p, zb_p, zb_n, if_pos, if_neg]
theorem q_lay {C T : zSt} {f : Int → Int} {n c : Int} {j2 : Int → Int → zSt → Option zRes} (hn : T.1 4 = n) (hn2 : 0 ≤ n ∧ n ≤ 60) (hc : 0 ≤ c ∧ c < n) (ho : ∀ j, 0 ≤ j → j < n → T.2 8 j = C.2 11 j ∧ T.2 7 j = C.2 8 j) (hs : ∀ j, c < j → j < n → T.2 16 j = zb (f j < 1)) : ∃ a p, zl3 1000 (b_X9_layStands_20 j2 c) 0 0 (c + 1) T = j2 a p T ∧ a - p = rs (zE C f c) (c + 1) (n - 1 - c).toNat ∧ 0 ≤ a ∧ a ≤ 60 ∧ 0 ≤ p ∧ p ≤ 60 := by
  refine zw3 (F := b_X9_layStands_20 j2 c) (fun d a p i S => S = T ∧ c + 1 ≤ i ∧ i + d = n ∧ a - p = rs (zE C f c) (c + 1) (i - c - 1).toNat ∧ 0 ≤ a ∧ a ≤ i ∧ 0 ≤ p ∧ p ≤ i) (fun x => ∃ a p, x = j2 a p T ∧ a - p = rs (zE C f c) (c + 1) (n - 1 - c).toNat ∧ 0 ≤ a ∧ a ≤ 60 ∧ 0 ≤ p ∧ p ≤ 60) ?_ 1000 (n - c - 1).toNat 0 0 (c + 1) T ⟨rfl, by omega, by omega, by rw [show (c + 1 - c - 1).toNat = 0 by omega]; rfl, by omega, by omega, by omega, by omega⟩ (by omega)
  rintro rec d a p i S ⟨rfl, h1, h2, h3, h4, h5, h6, h7⟩
  by_cases k : n ≤ i
  · refine Or.inl ⟨a, p, ?_, ?_, by omega, by omega, by omega, by omega⟩
    · simp (disch := omega) only [b_X9_layStands_20, hn, zlt, zbd_s, zbx_l, zbx_r, zj0, zj1, zj2, zj3, zset_2, zput_1, if_true, if_false, zar_p, zld_p, zst_p, zdv_p, zrm_p, zc01_p, zb_p, zb_n, if_pos, if_neg]
    · rw [h3, show i - c - 1 = n - 1 - c by omega]
  · obtain ⟨o1, o2⟩ := ho i (by omega) (by omega)
    have s1 := hs i (by omega) (by omega)
    have e : rs (zE C f c) (c + 1) (i + 1 - c - 1).toNat = a - p + zE C f c i := by
      rw [show (i + 1 - c - 1).toNat = (i - c - 1).toNat + 1 by omega, rs_back, ← h3, show c + 1 + (((i - c - 1).toNat : Nat) : Int) = i by omega]
    unfold zE bd at e
    have hE : (fun j => if C.2 11 j = c ∧ f j < 1 then (if C.2 8 j = 1 ∨ C.2 8 j = 3 then (1 : Int) else if C.2 8 j = 2 then -1 else 0) else 0) = zE C f c := rfl
    rw [hE] at e
    by_cases k1 : C.2 11 i = c
    · by_cases k2 : f i < 1
      · rw [zb_p k2] at s1
        rw [if_pos ⟨k1, k2⟩] at e
        by_cases k3 : C.2 8 i = 1
        · rw [if_pos (Or.inl k3)] at e
          refine Or.inr ⟨d - 1, a + 1, p, i + 1, S, by omega, ⟨rfl, by omega, by omega, by omega, by omega, by omega, by omega, by omega⟩, ?_⟩
          simp (disch := omega) only [b_X9_layStands_20, hn, o1, o2, s1, Int.add_zero, zlt, zbd_s, zbx_l, zbx_r, zj0, zj1, zj2, zj3, zset_2, zput_1, if_true, if_false, zar_p, zld_p, zst_p, zdv_p, zrm_p, zc01_p, zb_p, zb_n, if_pos, if_neg]
        · by_cases k4 : C.2 8 i = 3
          · rw [if_pos (Or.inr k4)] at e
            refine Or.inr ⟨d - 1, a + 1, p, i + 1, S, by omega, ⟨rfl, by omega, by omega, by omega, by omega, by omega, by omega, by omega⟩, ?_⟩
            simp (disch := omega) only [b_X9_layStands_20, hn, o1, o2, s1, Int.add_zero, zlt, zbd_s, zbx_l, zbx_r, zj0, zj1, zj2, zj3, zset_2, zput_1, if_true, if_false, zar_p, zld_p, zst_p, zdv_p, zrm_p, zc01_p, zb_p, zb_n, if_pos, if_neg]
          · rw [if_neg (by omega)] at e
            by_cases k5 : C.2 8 i = 2
            · rw [if_pos k5] at e
              refine Or.inr ⟨d - 1, a, p + 1, i + 1, S, by omega, ⟨rfl, by omega, by omega, by omega, by omega, by omega, by omega, by omega⟩, ?_⟩
              simp (disch := omega) only [b_X9_layStands_20, hn, o1, o2, s1, Int.add_zero, zlt, zbd_s, zbx_l, zbx_r, zj0, zj1, zj2, zj3, zset_2, zput_1, if_true, if_false, zar_p, zld_p, zst_p, zdv_p, zrm_p, zc01_p, zb_p, zb_n, if_pos, if_neg]
            · rw [if_neg k5] at e
              refine Or.inr ⟨d - 1, a, p, i + 1, S, by omega, ⟨rfl, by omega, by omega, by omega, by omega, by omega, by omega, by omega⟩, ?_⟩
              simp (disch := omega) only [b_X9_layStands_20, hn, o1, o2, s1, Int.add_zero, zlt, zbd_s, zbx_l, zbx_r, zj0, zj1, zj2, zj3, zset_2, zput_1, if_true, if_false, zar_p, zld_p, zst_p, zdv_p, zrm_p, zc01_p, zb_p, zb_n, if_pos, if_neg]
      · rw [zb_n k2] at s1
        rw [if_neg fun q => k2 q.2] at e
        refine Or.inr ⟨d - 1, a, p, i + 1, S, by omega, ⟨rfl, by omega, by omega, by omega, by omega, by omega, by omega, by omega⟩, ?_⟩
        simp (disch := omega) only [b_X9_layStands_20, hn, o1, o2, s1, zlt, zbd_s, zbx_l, zbx_r, zj0, zj1, zj2, zj3, zset_2, zput_1, if_true, if_false, zar_p, zld_p, zst_p, zdv_p, zrm_p, zc01_p, zb_p, zb_n, if_pos, if_neg]
    · rw [if_neg fun q => k1 q.1] at e
      refine Or.inr ⟨d - 1, a, p, i + 1, S, by omega, ⟨rfl, by omega, by omega, by omega, by omega, by omega, by omega, by omega⟩, ?_⟩
      simp (disch := omega) only [b_X9_layStands_20, hn, o1, zlt, zbd_s, zbx_l, zbx_r, zj0, zj1, zj2, zj3, zset_2, zput_1, if_true, if_false, zar_p, zld_p, zst_p, zdv_p, zrm_p, zc01_p, zb_p, zb_n, if_pos, if_neg]
theorem p_lay {C M : zSt} {f : Int → Int} {n : Int} (hn : M.1 4 = n) (hn2 : 0 ≤ n ∧ n ≤ 60) (hp : ∀ j, 0 ≤ j → j < n → -1 ≤ C.2 11 j ∧ C.2 11 j < j) (ho : ∀ j, 0 ≤ j → j < n → M.2 8 j = C.2 11 j ∧ M.2 7 j = C.2 8 j) (hf : ∀ p, 0 ≤ p → p < n → f p = rs (zE C f p) 0 n.toNat) : ∃ s, m_X9_layStands M = some (0, zrp M 16 s) ∧ ∀ j, 0 ≤ j → j < n → s j = zb (f j < 1) := by
  have key := zw1 (F := b_X9_layStands_7)
    (fun d i T => -1 ≤ i ∧ i < n ∧ (d : Int) = i + 1 ∧ ∃ s, T = zrp M 16 s ∧ ∀ j, i < j → j < n → s j = zb (f j < 1))
    (fun x => ∃ s, x = some (0, zrp M 16 s) ∧ ∀ j, 0 ≤ j → j < n → s j = zb (f j < 1)) (by
      rintro rec d i T ⟨h1, h2, h3, s, rfl, h4⟩
      by_cases c : i < 0
      · refine Or.inl ⟨s, ?_, fun j j1 j2 => h4 j (by omega) j2⟩
        simp (disch := omega) only [b_X9_layStands_7, if_true, if_false, zar_p, zld_p, zst_p, zdv_p, zrm_p, zc01_p, zb_p, zb_n, if_pos, if_neg]
      · have hq := fun j2 : Int → Int → zSt → Option zRes => q_lay (C := C) (T := zrp M 16 s) (f := f) (c := i) (j2 := j2) hn hn2 ⟨by omega, h2⟩ ho h4
        have e : rs (zE C f i) (i + 1) (n - 1 - i).toNat = f i := by
          rw [hf i (by omega) h2]
          have e1 := rs_skip (f := zE C f i) (i + 1).toNat 0 (n - 1 - i).toNat (fun j j1 j2 => by
            unfold zE
            by_cases c2 : j < n
            · exact if_neg fun q => by have := hp j j1 c2; omega
            · omega)
          rw [show (i + 1).toNat + (n - 1 - i).toNat = n.toNat by omega, show (0 : Int) + (((i + 1).toNat : Nat) : Int) = i + 1 by omega] at e1
          exact e1.symm
        refine Or.inr ⟨d - 1, i - 1, zput (zrp M 16 s) 16 i (zb (f i < 1)), by omega, ⟨by omega, by omega, by omega, zfu s i (zb (f i < 1)), zput_rp _ _ _ _ _, fun j j1 j2 => ?_⟩, ?_⟩
        · by_cases e : j = i
          · rw [e, zfu_e]
          · rw [zfu_n _ _ e]; exact h4 j (by omega) j2
        · have hin : inR (i + 1) := by omega
          unfold b_X9_layStands_7
          rw [if_neg c, zar_p hin]
          unfold zj2
          obtain ⟨a, p, x1, x2, x3, x4, x5, x6⟩ := hq (fun (v2 : Int) (v3 : Int) (S2 : zSt) => zar (1 + v3) fun x4 => zj1 (fun (v4 : Int) (S3 : zSt) => zc01 v4 <| zst S3 16 60 i v4 fun S4 => zar (i + (-1)) fun x5 => rec x5 S4) fun j1 => if x4 ≤ v2 then (j1 0 S2) else (j1 1 S2))
          refine x1.trans ?_
          rw [e] at x2
          by_cases k : f i < 1
          · rw [zb_p k]
            simp (disch := omega) only [zlt, zbd_s, zbx_l, zbx_r, zj0, zj1, zj2, zj3, zset_2, zput_1, if_true, if_false, zar_p, zld_p, zst_p, zdv_p, zrm_p, zc01_p, zb_p, zb_n, if_pos, if_neg]
            rfl
          · rw [zb_n k]
            simp (disch := omega) only [zlt, zbd_s, zbx_l, zbx_r, zj0, zj1, zj2, zj3, zset_2, zput_1, if_true, if_false, zar_p, zld_p, zst_p, zdv_p, zrm_p, zc01_p, zb_p, zb_n, if_pos, if_neg]
            rfl)
    1000 n.toNat (n - 1) M ⟨by omega, by omega, by omega, M.2 16, (zrp_self M 16).symm, fun j j1 j2 => absurd j1 (by omega)⟩ (by omega)
  obtain ⟨s, e1, e2⟩ := key
  refine ⟨s, ?_, e2⟩
  simp (disch := omega) only [m_X9_layStands, hn, e1, zlt, zbd_s, zbx_l, zbx_r, zj0, zj1, zj2, zj3, zset_2, zput_1, if_true, if_false, zar_p, zld_p, zst_p, zdv_p, zrm_p, zc01_p, zb_p, zb_n, if_pos, if_neg]
theorem q_stand {C M : zSt} (hC : jCom C M) : ∃ f s, m_X1_weigh C = some (0, zrp C 17 f) ∧ m_X9_layStands M = some (0, zrp M 16 s) ∧ ∀ j, 0 ≤ j → j < C.1 3 → s j = zb (f j < 1) := by
  obtain ⟨c1, c2, c3, c4, c5⟩ := hC
  obtain ⟨f, f1, f2⟩ := p_weigh (C := C) rfl ⟨c1, c2⟩ (fun j j1 j2 => (c4 j j1 j2).2.2.2.2.1.2)
  obtain ⟨s, s1, s2⟩ := p_lay (M := M) c3 ⟨c1, c2⟩ (fun j j1 j2 => (c4 j j1 j2).2.2.2.2.1.2) (fun j j1 j2 => ⟨(c4 j j1 j2).2.2.2.2.1.1, (c4 j j1 j2).2.1.1⟩) f2
  exact ⟨f, s, f1, s1, s2⟩

