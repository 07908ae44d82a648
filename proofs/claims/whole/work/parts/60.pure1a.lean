/-! setting: the class's loop over places -/
theorem p_fol {T : zSt} {w q : Int} (hw : T.1 7 = w) (hw2 : 1 ≤ w ∧ w ≤ 12) (hq : 0 ≤ q ∧ q < 12) : m_X6_firstOfLine T q = some (q - q % w, T) := by
  have b1 := Int.emod_nonneg q (show w ≠ 0 by omega)
  have b2 := em_le hq.1 hw2.1
  generalize he : q % w = e at *
  simp (disch := omega) only [m_X6_firstOfLine, hw, he, zlt, zbd_s, zbx_l, zbx_r, zj0, zj1, zj2, zj3, zset_2, zput_1, if_true, if_false, zar_p, zld_p, zst_p, zdv_p, zrm_p, zc01_p, zb_p, zb_n, if_pos, if_neg]
theorem q_skip {T : zSt} {u w m : Int} {j1 : zSt → Option zRes} {g : Nat} (hz : m_X7_sizeOf T u = some (m, T)) (hw : T.1 7 = w) (hw2 : 1 ≤ w ∧ w ≤ 12) (hm : m ≤ 12) : ∀ (k : Nat) (q : Int), 0 ≤ q → (∀ t, q ≤ t → t < q + k → t < m ∧ t % w ≠ 0) → zl1 (g + k) (b_X6_set_44 j1 u) q T = zl1 g (b_X6_set_44 j1 u) (q + k) T := by
  intro k
  induction k with
  | zero => intro q _ _; rw [show q + ((0 : Nat) : Int) = q by omega]; rfl
  | succ k ih =>
    intro q h0 h
    have hq := h q (by omega) (by omega)
    have hf := p_fol hw hw2 ⟨h0, show q < 12 by omega⟩
    have e := ih (q + 1) (by omega) (fun t t1 t2 => h t (by omega) (by omega))
    rw [show q + 1 + (k : Int) = q + ((k + 1 : Nat) : Int) by omega] at e
    rw [← e, ← Nat.add_assoc, zl1_s]
    clear e ih h
    generalize zl1 (g + k) (b_X6_set_44 j1 u) = rec
    have hne : ¬ (q - q % w = q) := by omega
    generalize q - q % w = v at *
    simp (disch := omega) only [b_X6_set_44, hz, hf, zlt, zbd_s, zbx_l, zbx_r, zj0, zj1, zj2, zj3, zset_2, zput_1, if_true, if_false, zar_p, zld_p, zst_p, zdv_p, zrm_p, zc01_p, zb_p, zb_n, if_pos, if_neg]

