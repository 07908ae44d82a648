/-! emend: closeGap as a whole -/
theorem q_cg {S : zSt} {u a l n : Int} (hn : S.1 3 = n) (hn2 : 0 ≤ n ∧ n ≤ 60) (hp : ∀ j, 0 ≤ j → j < n → S.2 11 j = -1 → 0 ≤ S.2 14 j ∧ S.2 14 j ≤ 12) : ∃ g, m_X1_closeGap S u a l = some (0, zrp S 14 g) ∧ ∀ j, ((0 ≤ j ∧ j < n) ∧ S.2 11 j = -1 ∧ S.2 13 j = u → g j = (if l < (if a < S.2 14 j then S.2 14 j - 1 else S.2 14 j) then l else if a < S.2 14 j then S.2 14 j - 1 else S.2 14 j)) ∧ (¬ ((0 ≤ j ∧ j < n) ∧ S.2 11 j = -1 ∧ S.2 13 j = u) → g j = S.2 14 j) := by
  refine zw1 (F := b_X1_closeGap_3 u a l) (fun d i T => 0 ≤ i ∧ i + d = n ∧ ∃ g, T = zrp S 14 g ∧ ∀ j, ((0 ≤ j ∧ j < i) ∧ S.2 11 j = -1 ∧ S.2 13 j = u → g j = (if l < (if a < S.2 14 j then S.2 14 j - 1 else S.2 14 j) then l else if a < S.2 14 j then S.2 14 j - 1 else S.2 14 j)) ∧ (¬ ((0 ≤ j ∧ j < i) ∧ S.2 11 j = -1 ∧ S.2 13 j = u) → g j = S.2 14 j)) (fun x => ∃ g, x = some (0, zrp S 14 g) ∧ ∀ j, ((0 ≤ j ∧ j < n) ∧ S.2 11 j = -1 ∧ S.2 13 j = u → g j = (if l < (if a < S.2 14 j then S.2 14 j - 1 else S.2 14 j) then l else if a < S.2 14 j then S.2 14 j - 1 else S.2 14 j)) ∧ (¬ ((0 ≤ j ∧ j < n) ∧ S.2 11 j = -1 ∧ S.2 13 j = u) → g j = S.2 14 j)) ?_ 1000 n.toNat 0 S ⟨by omega, by omega, S.2 14, (zrp_self S 14).symm, fun j => ⟨fun q => absurd q.1 (by omega), fun _ => rfl⟩⟩ (by omega)
  rintro rec d i T ⟨h1, h2, g, rfl, h3⟩
  have e1 : (zrp S 14 g).1 3 = n := hn
  by_cases c : n ≤ i
  · refine Or.inl ⟨g, ?_, ?_⟩
    · clear h3; simp (disch := omega) only [b_X1_closeGap_3, e1, zlt, zbd_s, zbx_l, zbx_r, zj0, zj1, zj2, zj3, zset_2, zput_1, if_true, if_false, zar_p, zld_p, zst_p, zdv_p, zrm_p, zc01_p, zb_p, zb_n, if_pos, if_neg]
    · rw [show n = i by omega]; exact h3
  · have hg : g i = S.2 14 i := (h3 i).2 fun q => by have := q.1; omega
    by_cases c1 : S.2 11 i = -1 ∧ S.2 13 i = u
    · have hp1 := hp i h1 (by omega) c1.1
      have st := q_cg1 (S := zrp S 14 g) (u := u) (a := a) (l := l) (rec := rec) e1 hn2.2 ⟨h1, by omega⟩ c1.1 c1.2 (by rw [zrp_e, hg]; exact hp1)
      rw [zrp_e, hg] at st
      refine Or.inr ⟨d - 1, i + 1, _, by omega, ⟨by omega, by omega, _, zput_rp _ _ _ _ _, fun j => ?_⟩, st⟩
      by_cases e : j = i
      · subst e
        rw [zfu_e]
        exact ⟨fun _ => rfl, fun q => absurd ⟨⟨h1, by omega⟩, c1⟩ q⟩
      · rw [zfu_n _ _ e]
        exact ⟨fun q => (h3 j).1 ⟨⟨q.1.1, by have := q.1.2; omega⟩, q.2⟩, fun q => (h3 j).2 fun z => q ⟨⟨z.1.1, by have := z.1.2; omega⟩, z.2⟩⟩
    · refine Or.inr ⟨d - 1, i + 1, zrp S 14 g, by omega, ⟨by omega, by omega, g, rfl, fun j => ?_⟩, q_cg2 (S := zrp S 14 g) e1 hn2.2 ⟨h1, by omega⟩ c1⟩
      by_cases e : j = i
      · subst e
        exact ⟨fun q => absurd q.2 c1, fun _ => hg⟩
      · exact ⟨fun q => (h3 j).1 ⟨⟨q.1.1, by have := q.1.2; omega⟩, q.2⟩, fun q => (h3 j).2 fun z => q ⟨⟨z.1.1, by have := z.1.2; omega⟩, z.2⟩⟩

