/-! p28, the pure side: the joint state; the class's answers to what the law asks -/
theorem zdq_p {R : Type} {a b : Int} {K : Int → Option R} (h : 0 < b) : zdq a b K = K (zI a / zI b).toInt := if_pos h
theorem zce_p {R : Type} {cel : Int → Int} {k : Int} {K : Int → Option R} (h : 0 ≤ k ∧ k < 200) : zce cel k K = K (cel k) := if_pos h
theorem p_up (S : zSt) (a : Int) {n : Int} (h : 0 < n) : m_L_up S a n = some (upv a n, S) := if_pos h
theorem zby_s {R : Type} (x : Int) (P S : zSt) (K : Int → zSt → Option R) : zby (some (.inl (x, P))) S K = K x (zjn P (zpM S)) := rfl
theorem zbw_l {R : Type} (hs : List String) {b : Int} (x : Int) (P S : zSt) (K : Int → zSt → Option R) (h : 0 ≤ b) : zbw hs b (some (.inl (x, P))) S K = K x (zjn P (zpM S)) := if_pos ⟨h, rfl⟩
theorem zbw_I {R : Type} (hs : List String) {b : Int} (P S : zSt) (K : Int → zSt → Option R) (h : 0 ≤ b) (hm : "java/lang/IllegalStateException" ∈ hs) : zbw hs b (some (.inr ("java/lang/IllegalStateException", P))) S K = K (-1003) (zjn P (zpM S)) := by
  show (if 0 ≤ b ∧ decide ("java/lang/IllegalStateException" ∈ hs) = true then K (zcd (.inr ("java/lang/IllegalStateException", P))) (zjn P (zpM S)) else none) = _
  rw [if_pos ⟨h, decide_eq_true hm⟩, zcd_I]
theorem zbw_O {R : Type} (hs : List String) {b : Int} (P S : zSt) (K : Int → zSt → Option R) (h : 0 ≤ b) (hm : "java/lang/IndexOutOfBoundsException" ∈ hs) : zbw hs b (some (.inr ("java/lang/IndexOutOfBoundsException", P))) S K = K (-1001) (zjn P (zpM S)) := by
  show (if 0 ≤ b ∧ decide ("java/lang/IndexOutOfBoundsException" ∈ hs) = true then K (zcd (.inr ("java/lang/IndexOutOfBoundsException", P))) (zjn P (zpM S)) else none) = _
  rw [if_pos ⟨h, decide_eq_true hm⟩, zcd_O]
theorem zjn_self (S : zSt) : zjn (zpC S) (zpM S) = S := by
  refine Prod.ext (funext fun q => ?_) (funext fun q => ?_)
  · show (if q % 2 = 0 then S.1 (2 * (q / 2)) else S.1 (2 * (q / 2) + 1)) = S.1 q
    by_cases e : q % 2 = 0
    · rw [if_pos e, show 2 * (q / 2) = q by omega]
    · rw [if_neg e, show 2 * (q / 2) + 1 = q by omega]
  · show (if q % 2 = 0 then S.2 (2 * (q / 2)) else S.2 (2 * (q / 2) + 1)) = S.2 q
    by_cases e : q % 2 = 0
    · rw [if_pos e, show 2 * (q / 2) = q by omega]
    · rw [if_neg e, show 2 * (q / 2) + 1 = q by omega]
def zLm (r w p l : Int → Int) : zSt := (fun _ => 0, fun q => if q = 0 then r else if q = 1 then w else if q = 2 then p else if q = 3 then l else fun _ => 0)
/-- the class's state, and the law's rows -/
def zLw (C : zSt) (r w p l : Int → Int) : zSt := zjn C (zLm r w p l)
theorem zLw_C (C : zSt) (r w p l : Int → Int) : zpC (zLw C r w p l) = C := zpC_j _ _
theorem zLw_J (P C : zSt) (r w p l : Int → Int) : zjn P (zpM (zLw C r w p l)) = zLw P r w p l := by unfold zLw; rw [zpM_j]
theorem zLw_1 (C : zSt) (r w p l : Int → Int) : (zLw C r w p l).2 1 = r := rfl
theorem zLw_3 (C : zSt) (r w p l : Int → Int) : (zLw C r w p l).2 3 = w := rfl
theorem zLw_5 (C : zSt) (r w p l : Int → Int) : (zLw C r w p l).2 5 = p := rfl
theorem zLw_7 (C : zSt) (r w p l : Int → Int) : (zLw C r w p l).2 7 = l := rfl
theorem zLw_p1 (C : zSt) (r w p l : Int → Int) (i v : Int) : zput (zLw C r w p l) 1 i v = zLw C (zfu r i v) w p l := by
  refine Prod.ext rfl (funext fun q => ?_)
  show (if q = 1 then (fun t => if t = i then v else r t) else (if q % 2 = 0 then C.2 (q / 2) else if q / 2 = 0 then r else if q / 2 = 1 then w else if q / 2 = 2 then p else if q / 2 = 3 then l else fun _ => 0)) = (if q % 2 = 0 then C.2 (q / 2) else if q / 2 = 0 then zfu r i v else if q / 2 = 1 then w else if q / 2 = 2 then p else if q / 2 = 3 then l else fun _ => 0)
  by_cases e : q = 1
  · subst e; rfl
  · rw [if_neg e]
    repeat' split
    all_goals first | rfl | (exfalso; omega)
theorem zLw_p3 (C : zSt) (r w p l : Int → Int) (i v : Int) : zput (zLw C r w p l) 3 i v = zLw C r (zfu w i v) p l := by
  refine Prod.ext rfl (funext fun q => ?_)
  show (if q = 3 then (fun t => if t = i then v else w t) else (if q % 2 = 0 then C.2 (q / 2) else if q / 2 = 0 then r else if q / 2 = 1 then w else if q / 2 = 2 then p else if q / 2 = 3 then l else fun _ => 0)) = (if q % 2 = 0 then C.2 (q / 2) else if q / 2 = 0 then r else if q / 2 = 1 then zfu w i v else if q / 2 = 2 then p else if q / 2 = 3 then l else fun _ => 0)
  by_cases e : q = 3
  · subst e; rfl
  · rw [if_neg e]
    repeat' split
    all_goals first | rfl | (exfalso; omega)
theorem zLw_p5 (C : zSt) (r w p l : Int → Int) (i v : Int) : zput (zLw C r w p l) 5 i v = zLw C r w (zfu p i v) l := by
  refine Prod.ext rfl (funext fun q => ?_)
  show (if q = 5 then (fun t => if t = i then v else p t) else (if q % 2 = 0 then C.2 (q / 2) else if q / 2 = 0 then r else if q / 2 = 1 then w else if q / 2 = 2 then p else if q / 2 = 3 then l else fun _ => 0)) = (if q % 2 = 0 then C.2 (q / 2) else if q / 2 = 0 then r else if q / 2 = 1 then w else if q / 2 = 2 then zfu p i v else if q / 2 = 3 then l else fun _ => 0)
  by_cases e : q = 5
  · subst e; rfl
  · rw [if_neg e]
    repeat' split
    all_goals first | rfl | (exfalso; omega)
theorem zLw_p7 (C : zSt) (r w p l : Int → Int) (i v : Int) : zput (zLw C r w p l) 7 i v = zLw C r w p (zfu l i v) := by
  refine Prod.ext rfl (funext fun q => ?_)
  show (if q = 7 then (fun t => if t = i then v else l t) else (if q % 2 = 0 then C.2 (q / 2) else if q / 2 = 0 then r else if q / 2 = 1 then w else if q / 2 = 2 then p else if q / 2 = 3 then l else fun _ => 0)) = (if q % 2 = 0 then C.2 (q / 2) else if q / 2 = 0 then r else if q / 2 = 1 then w else if q / 2 = 2 then p else if q / 2 = 3 then zfu l i v else fun _ => 0)
  by_cases e : q = 7
  · subst e; rfl
  · rw [if_neg e]
    repeat' split
    all_goals first | rfl | (exfalso; omega)
/-- the class holds one unit of n words, the law's row r; k hooks, the law's words, places, lost -/
def I28 (C : zSt) (r w p l : Int → Int) (n k : Int) : Prop := (C.1 1 = 1 ∧ C.2 2 0 = n ∧ (1 ≤ n ∧ n ≤ 12) ∧ C.1 2 = 1) ∧ (C.1 3 = k ∧ 0 ≤ k) ∧ (∀ j, 0 ≤ j → j < n → C.2 1 j = r j ∧ 0 ≤ r j ∧ r j ≤ 3) ∧ (∀ j, 0 ≤ j → j < k → C.2 11 j = -1 ∧ C.2 12 j = j ∧ C.2 13 j = 0 ∧ C.2 14 j = p j ∧ C.2 15 j = w j ∧ C.2 16 j = l j ∧ (0 ≤ p j ∧ p j < n) ∧ (l j = 0 ∨ l j = 1) ∧ 0 ≤ w j ∧ w j ≤ 3) ∧ (∀ j, k ≤ j → C.2 16 j = 0)
theorem p_sz {C : zSt} {n : Int} (h1 : C.1 1 = 1) (h2 : C.2 2 0 = n) : m_X7_sizeOf C 0 = some (n, C) := by
  rw [p_X7_sizeOf C 0 (by omega), if_pos (by omega), h2]
theorem p_ss {C : zSt} {n : Int} (h1 : C.1 1 = 1) (h2 : C.2 2 0 = n) (h3 : n ≤ 12) : ∀ u, 0 ≤ u → u < C.1 1 → C.2 2 u ≤ 12 := fun u a b => by
  have e : u = 0 := by omega
  rw [e, h2]; exact h3
theorem p_wa {C : zSt} {n : Int} (h1 : C.1 1 = 1) (h2 : C.2 2 0 = n) (h3 : n ≤ 12) (k : Int) (h4 : 0 ≤ k) : m_X7_wordAt C 0 k = some (if k < n then C.2 1 k else -1, C) := by
  rw [p_X7_wordAt C 0 k (by omega) (p_ss h1 h2 h3)]
  by_cases c : k < n
  · rw [if_pos (by rw [h2]; omega), if_pos c, show 0 * 12 + k = k by omega]
  · rw [if_neg (by rw [h2]; omega), if_neg c]
theorem p_tx {C : zSt} {n : Int} (h1 : C.1 1 = 1) (h2 : C.2 2 0 = n) (h3 : n ≤ 12) (k : Int) (h4 : 0 ≤ k) : m_X8_textOf C 0 k = some (.inl (if k < n then C.2 1 k else -1, C)) := by
  have hw := p_wa h1 h2 h3 k h4
  simp (disch := omega) only [m_X8_textOf, p_X8_needUnit, hw, zlt, zbd_s, zbx_l, zbx_r, zj0, zj1, zj2, zj3, zset_2, zput_1, if_true, if_false, zar_p, zld_p, zst_p, zdv_p, zrm_p, zc01_p, zb_p, zb_n, if_pos, if_neg]
theorem p_t1 {C : zSt} {k j : Int} (h1 : C.1 3 = k) (hk : k ≤ 60) (hj : 0 ≤ j ∧ j < k) (hr : C.2 12 j = j) : m_X8_told C j 1 = some (.inl (C.2 13 j, C)) := by
  simp (disch := omega) only [m_X8_told, p_X8_needComment, p_X8_needArgument, m_X1_unitOf, p_at, zat_p, hr, zlt, zbd_s, zbx_l, zbx_r, zj0, zj1, zj2, zj3, zset_2, zput_1, if_true, if_false, zar_p, zld_p, zst_p, zdv_p, zrm_p, zc01_p, zb_p, zb_n, if_pos, if_neg]
theorem p_t2 {C : zSt} {k j : Int} (h1 : C.1 3 = k) (hk : k ≤ 60) (hj : 0 ≤ j ∧ j < k) (hr : C.2 12 j = j) : m_X8_told C j 2 = some (.inl (C.2 14 j, C)) := by
  simp (disch := omega) only [m_X8_told, p_X8_needComment, p_X8_needArgument, m_X1_placeOf, p_at, zat_p, hr, zlt, zbd_s, zbx_l, zbx_r, zj0, zj1, zj2, zj3, zset_2, zput_1, if_true, if_false, zar_p, zld_p, zst_p, zdv_p, zrm_p, zc01_p, zb_p, zb_n, if_pos, if_neg]
theorem p_t3 {C : zSt} {k j : Int} (h1 : C.1 3 = k) (hk : k ≤ 60) (hj : 0 ≤ j ∧ j < k) (hr : C.2 12 j = j) (hl : C.2 16 j = 0 ∨ C.2 16 j = 1) : m_X8_told C j 3 = some (.inl (C.2 16 j, C)) := by
  rcases hl with e | e
  · simp (disch := omega) only [m_X8_told, p_X8_needComment, p_X8_needArgument, m_X1_isLost, p_X1_has, p_at, zat_p, hr, e, zlt, zbd_s, zbx_l, zbx_r, zj0, zj1, zj2, zj3, zset_2, zput_1, if_true, if_false, zar_p, zld_p, zst_p, zdv_p, zrm_p, zc01_p, zb_p, zb_n, if_pos, if_neg]
  · simp (disch := omega) only [m_X8_told, p_X8_needComment, p_X8_needArgument, m_X1_isLost, p_X1_has, p_at, zat_p, hr, e, zlt, zbd_s, zbx_l, zbx_r, zj0, zj1, zj2, zj3, zset_2, zput_1, if_true, if_false, zar_p, zld_p, zst_p, zdv_p, zrm_p, zc01_p, zb_p, zb_n, if_pos, if_neg]
/-! the law's checks -/
theorem q_578 {S : zSt} {k : Int} {j5 : Int → zSt → Option zL5} (hk : 0 ≤ k ∧ k ≤ 60) (h2 : ∀ j, 0 ≤ j → j < k → m_X8_told (zpC S) j 2 = some (.inl (S.2 5 j, zpC S))) (h3 : ∀ j, 0 ≤ j → j < k → m_X8_told (zpC S) j 3 = some (.inl (S.2 7 j, zpC S))) (h1 : ∀ j, 0 ≤ j → j < k → m_X8_told (zpC S) j 1 = some (.inl (0, zpC S))) : zl2 1000 (b_L_law_578 j5 k) 1 0 S = j5 1 S := by
  refine zw2 (F := b_L_law_578 j5 k) (fun d v i T => T = S ∧ v = 1 ∧ 0 ≤ i ∧ i + d = k) (fun x => x = j5 1 S) ?_ 1000 k.toNat 1 0 S ⟨rfl, rfl, by omega, by omega⟩ (by omega)
  rintro rec d v i T ⟨rfl, rfl, a1, a2⟩
  by_cases c : k ≤ i
  · refine Or.inl ?_
    clear h1 h2 h3
    simp (disch := omega) only [b_L_law_578, ↓if_pos]
  · have e1 := h1 i a1 (by omega)
    have e2 := h2 i a1 (by omega)
    have e3 := h3 i a1 (by omega)
    clear h1 h2 h3
    refine Or.inr ⟨d - 1, 1, i + 1, T, by omega, ⟨rfl, rfl, by omega, by omega⟩, ?_⟩
    simp (disch := omega) only [b_L_law_578, e1, e2, e3, zby_s, zjn_self, ↓zj0, ↓zj1, ↓zj2, ↓zj3, ↓zbd_s, ↓zar_p, ↓zld_p, ↓zst_p, ↓if_pos, ↓if_neg, if_true, if_false]
theorem q_646 {S : zSt} {n : Int} {j1 : Int → zSt → Option zL5} (hn : n ≤ 12) (h : ∀ j, 0 ≤ j → m_X8_textOf (zpC S) 0 j = some (.inl (if j < n then S.2 1 j else -1, zpC S))) : zl2 1000 (b_L_law_646 j1 n) 1 0 S = j1 1 S := by
  refine zw2 (F := b_L_law_646 j1 n) (fun d v i T => T = S ∧ v = 1 ∧ 0 ≤ i ∧ i + d = 13) (fun x => x = j1 1 S) ?_ 1000 13 1 0 S ⟨rfl, rfl, by omega, by omega⟩ (by omega)
  rintro rec d v i T ⟨rfl, rfl, a1, a2⟩
  by_cases c : 13 ≤ i
  · refine Or.inl ?_
    clear h
    simp (disch := omega) only [b_L_law_646, ↓if_pos]
  · have e1 := h i a1
    clear h
    refine Or.inr ⟨d - 1, 1, i + 1, T, by omega, ⟨rfl, rfl, by omega, by omega⟩, ?_⟩
    by_cases c2 : i < n
    · rw [if_pos c2] at e1
      simp (disch := omega) only [b_L_law_646, e1, zby_s, zjn_self, ↓zj0, ↓zj1, ↓zj2, ↓zj3, ↓zbd_s, ↓zar_p, ↓zld_p, ↓zst_p, ↓if_pos, ↓if_neg, if_true, if_false]
    · rw [if_neg c2] at e1
      simp (disch := omega) only [b_L_law_646, e1, zby_s, zjn_self, ↓zj0, ↓zj1, ↓zj2, ↓zj3, ↓zbd_s, ↓zar_p, ↓zld_p, ↓zst_p, ↓if_pos, ↓if_neg, if_true, if_false]
/-! the n-th one of a word -/
theorem q_nthd {S : zSt} {n wd v : Int} (hn : n ≤ 12) (g d : Nat) (y : Int) (hy : 0 ≤ y) (hd : y + d = n) (hg : d < g) : zl3 g (b_L_nth_9 n wd (fun (v1 : Int) (S1 : zSt) => some (v1, S1) : Int → zSt → Option zRes)) v 0 y S = some (v, S) := by
  refine zw3 (F := b_L_nth_9 n wd (fun (v1 : Int) (S1 : zSt) => some (v1, S1) : Int → zSt → Option zRes)) (fun d x c y T => T = S ∧ x = v ∧ c ≤ 0 ∧ -100 ≤ c - d ∧ 0 ≤ y ∧ y + d = n) (fun x => x = some (v, S)) ?_ g d v 0 y S ⟨rfl, rfl, by omega, by omega, hy, hd⟩ hg
  rintro rec d x c y T ⟨rfl, rfl, a1, a2, a3, a4⟩
  by_cases c1 : n ≤ y
  · refine Or.inl ?_
    simp (disch := omega) only [b_L_nth_9, ↓zj1, ↓if_pos]
  · refine Or.inr ?_
    by_cases c2 : T.2 1 y = wd
    · refine ⟨d - 1, x, c - 1, y + 1, T, by omega, ⟨rfl, rfl, by omega, by omega, by omega, by omega⟩, ?_⟩
      simp (disch := omega) only [b_L_nth_9, c2, ↓zj0, ↓zj1, ↓zj2, ↓zj3, ↓zbd_s, ↓zar_p, ↓zld_p, ↓zst_p, ↓if_pos, ↓if_neg, if_true, if_false]
    · refine ⟨d - 1, x, c, y + 1, T, by omega, ⟨rfl, rfl, by omega, by omega, by omega, by omega⟩, ?_⟩
      simp (disch := omega) only [b_L_nth_9, Int.sub_zero, ↓zj0, ↓zj1, ↓zj2, ↓zj3, ↓zbd_s, ↓zar_p, ↓zld_p, ↓zst_p, ↓if_pos, ↓if_neg, if_true, if_false]
theorem q_nthl {Ca S : zSt} {n wd m : Int} (hn : n ≤ 12) (hz : m_X7_sizeOf Ca 0 = some (n, Ca)) (hw : ∀ k, 0 ≤ k → k < n → m_X7_wordAt Ca 0 k = some (S.2 1 k, Ca)) (hm : m ≤ 12) : ∀ (d g g2 : Nat) (s y : Int), 0 ≤ y → y + d = n → 0 ≤ s → s < m → s ≤ y → d < g → d < g2 → ∃ v, (-1 ≤ v ∧ v < n) ∧ zl2 g (b_X7_placeOf_6 0 wd m (fun (S1 : zSt) => some ((-1), S1) : zSt → Option zRes)) s y Ca = some (v, Ca) ∧ zl3 g2 (b_L_nth_9 n wd (fun (v1 : Int) (S1 : zSt) => some (v1, S1) : Int → zSt → Option zRes)) (-1) (m - s) y S = some (v, S) := by
  intro d
  induction d with
  | zero =>
    intro g g2 s y h1 h2 h3 h4 h5 h6 h7
    obtain ⟨g, rfl⟩ : ∃ k, g = k + 1 := ⟨g - 1, by omega⟩
    obtain ⟨g2, rfl⟩ : ∃ k, g2 = k + 1 := ⟨g2 - 1, by omega⟩
    refine ⟨-1, by omega, ?_, ?_⟩
    · simp (disch := omega) only [zl2_s, b_X7_placeOf_6, hz, ↓zj0, ↓zj1, ↓zj2, ↓zj3, ↓zbd_s, ↓zar_p, ↓zld_p, ↓zst_p, ↓if_pos, ↓if_neg, if_true, if_false]
    · simp (disch := omega) only [zl3_s, b_L_nth_9, ↓zj0, ↓zj1, ↓zj2, ↓zj3, ↓zbd_s, ↓zar_p, ↓zld_p, ↓zst_p, ↓if_pos, ↓if_neg, if_true, if_false]
  | succ d ih =>
    intro g g2 s y h1 h2 h3 h4 h5 h6 h7
    obtain ⟨g, rfl⟩ : ∃ k, g = k + 1 := ⟨g - 1, by omega⟩
    obtain ⟨g2, rfl⟩ : ∃ k, g2 = k + 1 := ⟨g2 - 1, by omega⟩
    have w1 := hw y h1 (by omega)
    by_cases c : S.2 1 y = wd
    · by_cases c2 : s + 1 = m
      · have e := q_nthd (S := S) (wd := wd) (v := y) hn g2 d (y + 1) (by omega) (by omega) (by omega)
        clear ih hw
        refine ⟨y, by omega, ?_, ?_⟩
        · simp (disch := omega) only [zl2_s, b_X7_placeOf_6, hz, w1, ↓zj0, ↓zj1, ↓zj2, ↓zj3, ↓zbd_s, ↓zar_p, ↓zld_p, ↓zst_p, ↓if_pos, ↓if_neg, if_true, if_false]
        · rw [← e, show (0 : Int) = m - s - 1 by omega]
          simp (disch := omega) only [zl3_s, b_L_nth_9, c, ↓zj0, ↓zj1, ↓zj2, ↓zj3, ↓zbd_s, ↓zar_p, ↓zld_p, ↓zst_p, ↓if_pos, ↓if_neg, if_true, if_false]
      · obtain ⟨v, i1, i2, i3⟩ := ih g g2 (s + 1) (y + 1) (by omega) (by omega) (by omega) (by omega) (by omega) (by omega) (by omega)
        clear ih hw
        rw [show m - (s + 1) = m - s - 1 by omega] at i3
        refine ⟨v, i1, ?_, ?_⟩
        · rw [← i2]
          simp (disch := omega) only [zl2_s, b_X7_placeOf_6, hz, w1, ↓zj0, ↓zj1, ↓zj2, ↓zj3, ↓zbd_s, ↓zar_p, ↓zld_p, ↓zst_p, ↓if_pos, ↓if_neg, if_true, if_false]
        · rw [← i3]
          simp (disch := omega) only [zl3_s, b_L_nth_9, c, ↓zj0, ↓zj1, ↓zj2, ↓zj3, ↓zbd_s, ↓zar_p, ↓zld_p, ↓zst_p, ↓if_pos, ↓if_neg, if_true, if_false]
    · obtain ⟨v, i1, i2, i3⟩ := ih g g2 s (y + 1) (by omega) (by omega) (by omega) (by omega) (by omega) (by omega) (by omega)
      clear ih hw
      refine ⟨v, i1, ?_, ?_⟩
      · rw [← i2]
        simp (disch := omega) only [zl2_s, b_X7_placeOf_6, hz, w1, ↓zj0, ↓zj1, ↓zj2, ↓zj3, ↓zbd_s, ↓zar_p, ↓zld_p, ↓zst_p, ↓if_pos, ↓if_neg, if_true, if_false]
      · rw [← i3]
        simp (disch := omega) only [zl3_s, b_L_nth_9, Int.sub_zero, ↓zj0, ↓zj1, ↓zj2, ↓zj3, ↓zbd_s, ↓zar_p, ↓zld_p, ↓zst_p, ↓if_pos, ↓if_neg, if_true, if_false]
theorem q_nth {Ca S : zSt} {n wd m : Int} (hn : 1 ≤ n ∧ n ≤ 12) (hz : m_X7_sizeOf Ca 0 = some (n, Ca)) (hw : ∀ k, 0 ≤ k → k < n → m_X7_wordAt Ca 0 k = some (S.2 1 k, Ca)) (hm : 1 ≤ m ∧ m ≤ 12) : ∃ v, (-1 ≤ v ∧ v < n) ∧ m_X7_placeOf Ca 0 wd m = some (v, Ca) ∧ m_L_nth S n wd m = some (v, S) := by
  obtain ⟨v, h1, h2, h3⟩ := q_nthl (wd := wd) hn.2 hz hw hm.2 n.toNat 1000 1000 0 0 (by omega) (by omega) (by omega) (by omega) (by omega) (by omega) (by omega)
  rw [Int.sub_zero] at h3
  exact ⟨v, h1, h2, h3⟩
/-! the nearest place -/
def zds (a b : Int) : Int := if a ≤ b then b - a else a - b
def zNp (f : Int → Int) (w s b y : Int) : Prop := (b = -1 ∧ ∀ k, 0 ≤ k → k < y → f k ≠ w) ∨ ((0 ≤ b ∧ b < y) ∧ f b = w ∧ ∀ k, 0 ≤ k → k < y → f k = w → zds b s ≤ zds k s ∧ (zds b s = zds k s → b ≤ k))
theorem zNp_skip {f : Int → Int} {w s b y : Int} (h : zNp f w s b y) (hy : f y ≠ w) : zNp f w s b (y + 1) := by
  rcases h with ⟨h1, h2⟩ | ⟨h1, h2, h3⟩
  · refine Or.inl ⟨h1, fun k k1 k2 => ?_⟩
    by_cases e : k = y
    · rw [e]; exact hy
    · exact h2 k k1 (by omega)
  · refine Or.inr ⟨⟨h1.1, by omega⟩, h2, fun k k1 k2 k3 => ?_⟩
    by_cases e : k = y
    · rw [e] at k3; exact absurd k3 hy
    · exact h3 k k1 (by omega) k3
theorem zNp_new {f : Int → Int} {w s b y : Int} (h : zNp f w s b y) (h0 : 0 ≤ y) (hy : f y = w) (hc : b = -1 ∨ zds y s < zds b s) : zNp f w s y (y + 1) := by
  refine Or.inr ⟨⟨h0, by omega⟩, hy, fun k k1 k2 k3 => ?_⟩
  by_cases e : k = y
  · rw [e]; exact ⟨Int.le_refl _, fun _ => Int.le_refl _⟩
  · rcases h with ⟨h1, h2⟩ | ⟨h1, h2, h3⟩
    · exact absurd k3 (h2 k k1 (by omega))
    · have := (h3 k k1 (by omega) k3).1
      have hc : zds y s < zds b s := by omega
      exact ⟨by omega, fun q => by omega⟩
theorem zNp_old {f : Int → Int} {w s b y : Int} (h : zNp f w s b y) (hb : b ≠ -1) (hc : zds b s ≤ zds y s) : zNp f w s b (y + 1) := by
  rcases h with ⟨h1, h2⟩ | ⟨h1, h2, h3⟩
  · exact absurd h1 hb
  · refine Or.inr ⟨⟨h1.1, by omega⟩, h2, fun k k1 k2 k3 => ?_⟩
    by_cases e : k = y
    · rw [e]; exact ⟨hc, fun _ => by omega⟩
    · exact h3 k k1 (by omega) k3
theorem zNp_uniq {f : Int → Int} {w s b c y : Int} (h : zNp f w s b y) (g : zNp f w s c y) : b = c := by
  rcases h with ⟨h1, h2⟩ | ⟨h1, h2, h3⟩
  · rcases g with ⟨g1, g2⟩ | ⟨g1, g2, g3⟩
    · omega
    · exact absurd g2 (h2 c g1.1 g1.2)
  · rcases g with ⟨g1, g2⟩ | ⟨g1, g2, g3⟩
    · exact absurd h2 (g2 b h1.1 h1.2)
    · have a := h3 c g1.1 g1.2 g2
      have d := g3 b h1.1 h1.2 h2
      have e : zds b s = zds c s := by omega
      have := a.2 e
      have := d.2 e.symm
      omega
theorem zds_a {a b : Int} (h : a ≤ b) : zds a b = b - a := if_pos h
theorem zds_b {a b : Int} (h : b ≤ a) : zds a b = a - b := by
  unfold zds
  split
  · omega
  · rfl
theorem q_n1 {Ca : zSt} {f : Int → Int} {n wd s : Int} (hn : 1 ≤ n ∧ n ≤ 12) (hz : m_X7_sizeOf Ca 0 = some (n, Ca)) (hw : ∀ k, 0 ≤ k → k < n → m_X7_wordAt Ca 0 k = some (f k, Ca)) (hs : 0 ≤ s ∧ s ≤ 12) : ∃ v, zNp f wd s v n ∧ m_X7_nearest Ca 0 wd s = some (v, Ca) := by
  refine zw2 (F := b_X7_nearest_6 0 wd s (fun (v1 : Int) (S1 : zSt) => some (v1, S1) : Int → zSt → Option zRes)) (fun d b y T => T = Ca ∧ (0 ≤ y ∧ y + d = n) ∧ (-1 ≤ b ∧ b < y) ∧ zNp f wd s b y) (fun x => ∃ v, zNp f wd s v n ∧ x = some (v, Ca)) ?_ 1000 n.toNat (-1) 0 Ca ⟨rfl, by omega, by omega, Or.inl ⟨rfl, fun k k1 k2 => by omega⟩⟩ (by omega)
  rintro rec d b y T ⟨rfl, ⟨a1, a2⟩, a3, hN⟩
  by_cases c : n ≤ y
  · refine Or.inl ⟨b, by rw [show n = y by omega]; exact hN, ?_⟩
    clear hN hw
    simp (disch := omega) only [b_X7_nearest_6, hz, ↓zj0, ↓zj1, ↓zj2, ↓zj3, ↓zbd_s, ↓zar_p, ↓zld_p, ↓zst_p, ↓if_pos, ↓if_neg, if_true, if_false]
  · have w1 := hw y a1 (by omega)
    clear hw
    refine Or.inr ?_
    by_cases c1 : f y = wd
    · by_cases c2 : b = -1
      · refine ⟨d - 1, y, y + 1, T, by omega, ⟨rfl, by omega, by omega, zNp_new hN a1 c1 (Or.inl c2)⟩, ?_⟩
        clear hN
        simp (disch := omega) only [b_X7_nearest_6, hz, w1, c1, c2, ↓zj0, ↓zj1, ↓zj2, ↓zj3, ↓zbd_s, ↓zar_p, ↓zld_p, ↓zst_p, ↓if_pos, ↓if_neg, if_true, if_false]
      · by_cases c3 : zds y s < zds b s
        · refine ⟨d - 1, y, y + 1, T, by omega, ⟨rfl, by omega, by omega, zNp_new hN a1 c1 (Or.inr c3)⟩, ?_⟩
          clear hN
          by_cases e1 : y ≤ s
          · rw [zds_a e1] at c3
            by_cases e2 : b ≤ s
            · rw [zds_a e2] at c3
              first | (exfalso; omega) | simp (disch := omega) only [b_X7_nearest_6, hz, w1, c1, ↓zj0, ↓zj1, ↓zj2, ↓zj3, ↓zbd_s, ↓zar_p, ↓zld_p, ↓zst_p, ↓if_pos, ↓if_neg, if_true, if_false]
            · rw [zds_b (by omega)] at c3
              first | (exfalso; omega) | simp (disch := omega) only [b_X7_nearest_6, hz, w1, c1, ↓zj0, ↓zj1, ↓zj2, ↓zj3, ↓zbd_s, ↓zar_p, ↓zld_p, ↓zst_p, ↓if_pos, ↓if_neg, if_true, if_false]
          · rw [zds_b (by omega)] at c3
            by_cases e2 : b ≤ s
            · rw [zds_a e2] at c3
              first | (exfalso; omega) | simp (disch := omega) only [b_X7_nearest_6, hz, w1, c1, ↓zj0, ↓zj1, ↓zj2, ↓zj3, ↓zbd_s, ↓zar_p, ↓zld_p, ↓zst_p, ↓if_pos, ↓if_neg, if_true, if_false]
            · rw [zds_b (by omega)] at c3
              first | (exfalso; omega) | simp (disch := omega) only [b_X7_nearest_6, hz, w1, c1, ↓zj0, ↓zj1, ↓zj2, ↓zj3, ↓zbd_s, ↓zar_p, ↓zld_p, ↓zst_p, ↓if_pos, ↓if_neg, if_true, if_false]
        · refine ⟨d - 1, b, y + 1, T, by omega, ⟨rfl, by omega, by omega, zNp_old hN c2 (by omega)⟩, ?_⟩
          clear hN
          by_cases e1 : y ≤ s
          · rw [zds_a e1] at c3
            by_cases e2 : b ≤ s
            · rw [zds_a e2] at c3
              first | (exfalso; omega) | simp (disch := omega) only [b_X7_nearest_6, hz, w1, c1, ↓zj0, ↓zj1, ↓zj2, ↓zj3, ↓zbd_s, ↓zar_p, ↓zld_p, ↓zst_p, ↓if_pos, ↓if_neg, if_true, if_false]
            · rw [zds_b (by omega)] at c3
              first | (exfalso; omega) | simp (disch := omega) only [b_X7_nearest_6, hz, w1, c1, ↓zj0, ↓zj1, ↓zj2, ↓zj3, ↓zbd_s, ↓zar_p, ↓zld_p, ↓zst_p, ↓if_pos, ↓if_neg, if_true, if_false]
          · rw [zds_b (by omega)] at c3
            by_cases e2 : b ≤ s
            · rw [zds_a e2] at c3
              first | (exfalso; omega) | simp (disch := omega) only [b_X7_nearest_6, hz, w1, c1, ↓zj0, ↓zj1, ↓zj2, ↓zj3, ↓zbd_s, ↓zar_p, ↓zld_p, ↓zst_p, ↓if_pos, ↓if_neg, if_true, if_false]
            · rw [zds_b (by omega)] at c3
              first | (exfalso; omega) | simp (disch := omega) only [b_X7_nearest_6, hz, w1, c1, ↓zj0, ↓zj1, ↓zj2, ↓zj3, ↓zbd_s, ↓zar_p, ↓zld_p, ↓zst_p, ↓if_pos, ↓if_neg, if_true, if_false]
    · refine ⟨d - 1, b, y + 1, T, by omega, ⟨rfl, by omega, by omega, zNp_skip hN c1⟩, ?_⟩
      clear hN
      simp (disch := omega) only [b_X7_nearest_6, hz, w1, ↓zj0, ↓zj1, ↓zj2, ↓zj3, ↓zbd_s, ↓zar_p, ↓zld_p, ↓zst_p, ↓if_pos, ↓if_neg, if_true, if_false]
theorem q_n2 {S : zSt} {n wd s : Int} (hn : 1 ≤ n ∧ n ≤ 12) (hs : 0 ≤ s ∧ s < n) : ∃ v, zNp (S.2 1) wd s v n ∧ m_L_near S n wd s = some (v, S) := by
  refine zw1 (F := b_L_near_3 n wd s (fun (S1 : zSt) => some ((-1), S1) : zSt → Option zRes)) (fun d a T => T = S ∧ (0 ≤ a ∧ a + d = 12) ∧ ∀ k, 0 ≤ k → k < n → S.2 1 k = wd → a ≤ zds k s) (fun x => ∃ v, zNp (S.2 1) wd s v n ∧ x = some (v, S)) ?_ 1000 12 0 S ⟨rfl, by omega, fun k k1 k2 k3 => by unfold zds; split <;> omega⟩ (by omega)
  rintro rec d a T ⟨rfl, ⟨a1, a2⟩, hN⟩
  by_cases c : 12 ≤ a
  · refine Or.inl ⟨-1, Or.inl ⟨rfl, fun k k1 k2 k3 => ?_⟩, ?_⟩
    · have h := hN k k1 k2 k3
      unfold zds at h
      split at h <;> omega
    · clear hN
      simp (disch := omega) only [b_L_near_3, ↓zj0, ↓zj1, ↓zj2, ↓zj3, ↓zbd_s, ↓zar_p, ↓zld_p, ↓zst_p, ↓if_pos, ↓if_neg, if_true, if_false]
  · by_cases c1 : 0 ≤ s - a ∧ T.2 1 (s - a) = wd
    · refine Or.inl ⟨s - a, Or.inr ⟨by omega, c1.2, fun k k1 k2 k3 => ?_⟩, ?_⟩
      · have h := hN k k1 k2 k3
        rw [zds_a (show s - a ≤ s by omega)]
        refine ⟨by omega, fun q => ?_⟩
        unfold zds at q
        split at q <;> omega
      · have c2 := c1.2
        have c3 := c1.1
        clear hN c1
        simp (disch := omega) only [b_L_near_3, c2, ↓zj0, ↓zj1, ↓zj2, ↓zj3, ↓zbd_s, ↓zar_p, ↓zld_p, ↓zst_p, ↓if_pos, ↓if_neg, if_true, if_false]
    · by_cases c2 : s + a < n ∧ T.2 1 (s + a) = wd
      · refine Or.inl ⟨s + a, Or.inr ⟨by omega, c2.2, fun k k1 k2 k3 => ?_⟩, ?_⟩
        · have h := hN k k1 k2 k3
          rw [zds_b (show s ≤ s + a by omega)]
          refine ⟨by omega, fun q => ?_⟩
          by_cases e : k = s - a
          · rw [e] at k1 k3
            exact absurd ⟨k1, k3⟩ c1
          · unfold zds at q
            split at q <;> omega
        · have c3 := c2.2
          have c4 := c2.1
          clear hN c2
          by_cases e : 0 ≤ s - a
          · have c5 : T.2 1 (s - a) ≠ wd := fun q => c1 ⟨e, q⟩
            clear c1
            simp (disch := omega) only [b_L_near_3, c3, ↓zj0, ↓zj1, ↓zj2, ↓zj3, ↓zbd_s, ↓zar_p, ↓zld_p, ↓zst_p, ↓if_pos, ↓if_neg, if_true, if_false]
          · clear c1
            simp (disch := omega) only [b_L_near_3, c3, ↓zj0, ↓zj1, ↓zj2, ↓zj3, ↓zbd_s, ↓zar_p, ↓zld_p, ↓zst_p, ↓if_pos, ↓if_neg, if_true, if_false]
      · refine Or.inr ⟨d - 1, a + 1, T, by omega, ⟨rfl, by omega, fun k k1 k2 k3 => ?_⟩, ?_⟩
        · have h := hN k k1 k2 k3
          by_cases e : k = s - a
          · rw [e] at k1 k3
            exact absurd ⟨k1, k3⟩ c1
          · by_cases e2 : k = s + a
            · rw [e2] at k2 k3
              exact absurd ⟨k2, k3⟩ c2
            · unfold zds at h ⊢
              split at h <;> split <;> omega
        · clear hN
          by_cases e : 0 ≤ s - a
          · have c5 : T.2 1 (s - a) ≠ wd := fun q => c1 ⟨e, q⟩
            clear c1
            by_cases e2 : s + a < n
            · have c6 : T.2 1 (s + a) ≠ wd := fun q => c2 ⟨e2, q⟩
              clear c2
              simp (disch := omega) only [b_L_near_3, ↓zj0, ↓zj1, ↓zj2, ↓zj3, ↓zbd_s, ↓zar_p, ↓zld_p, ↓zst_p, ↓if_pos, ↓if_neg, if_true, if_false]
            · clear c2
              simp (disch := omega) only [b_L_near_3, ↓zj0, ↓zj1, ↓zj2, ↓zj3, ↓zbd_s, ↓zar_p, ↓zld_p, ↓zst_p, ↓if_pos, ↓if_neg, if_true, if_false]
          · clear c1
            by_cases e2 : s + a < n
            · have c6 : T.2 1 (s + a) ≠ wd := fun q => c2 ⟨e2, q⟩
              clear c2
              simp (disch := omega) only [b_L_near_3, ↓zj0, ↓zj1, ↓zj2, ↓zj3, ↓zbd_s, ↓zar_p, ↓zld_p, ↓zst_p, ↓if_pos, ↓if_neg, if_true, if_false]
            · clear c2
              simp (disch := omega) only [b_L_near_3, ↓zj0, ↓zj1, ↓zj2, ↓zj3, ↓zbd_s, ↓zar_p, ↓zld_p, ↓zst_p, ↓if_pos, ↓if_neg, if_true, if_false]
theorem q_nr {Ca S : zSt} {n wd s : Int} (hn : 1 ≤ n ∧ n ≤ 12) (hz : m_X7_sizeOf Ca 0 = some (n, Ca)) (hw : ∀ k, 0 ≤ k → k < n → m_X7_wordAt Ca 0 k = some (S.2 1 k, Ca)) (hs : 0 ≤ s ∧ s < n) : ∃ v, (-1 ≤ v ∧ v < n) ∧ m_X7_nearest Ca 0 wd s = some (v, Ca) ∧ m_L_near S n wd s = some (v, S) := by
  obtain ⟨v, h1, h2⟩ := q_n1 (f := S.2 1) (wd := wd) (s := s) hn hz hw ⟨hs.1, by omega⟩
  obtain ⟨v2, h3, h4⟩ := q_n2 (S := S) (wd := wd) hn hs
  have e := zNp_uniq h1 h3
  rw [← e] at h4
  refine ⟨v, ?_, h2, h4⟩
  rcases h1 with ⟨h1, -⟩ | ⟨h1, -, -⟩ <;> omega
