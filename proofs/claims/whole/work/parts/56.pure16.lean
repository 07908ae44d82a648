/-! setting: the reference's step, the class's step -/
noncomputable def zne (C : zSt) (w l x y : Int) (g : Int → Int) (i : Int) : Int → Int := fun c => if (0 ≤ c ∧ c < i) ∧ zin C w l c then (if C.2 10 c = 0 then x + rs (zH C w 0 l) 0 c.toNat else y + rs (zH C w 1 l) 0 c.toNat) else g c
theorem zne_y (C : zSt) (w l x y : Int) (g : Int → Int) (i : Int) (h : 0 ≤ i) (hz : zin C w l i) : zfu (zne C w l x y g i) i (if C.2 10 i = 0 then x + rs (zH C w 0 l) 0 i.toNat else y + rs (zH C w 1 l) 0 i.toNat) = zne C w l x y g (i + 1) := by
  funext c
  by_cases e : c = i
  · rw [e, zfu_e]; unfold zne
    have q : (0 ≤ i ∧ i < i + 1) ∧ zin C w l i := ⟨⟨h, by omega⟩, hz⟩
    exact (if_pos q).symm
  · rw [zfu_n _ _ e]; unfold zne
    by_cases q : (0 ≤ c ∧ c < i) ∧ zin C w l c
    · have q2 : (0 ≤ c ∧ c < i + 1) ∧ zin C w l c := ⟨⟨q.1.1, by have := q.1.2; omega⟩, q.2⟩
      exact (if_pos q).trans (if_pos q2).symm
    · rw [if_neg q, if_neg fun z => q ⟨⟨z.1.1, by have := z.1.2; omega⟩, z.2⟩]
theorem zne_n (C : zSt) (w l x y : Int) (g : Int → Int) (i : Int) (hz : ¬ zin C w l i) : zne C w l x y g i = zne C w l x y g (i + 1) := by
  funext c
  unfold zne
  by_cases q : (0 ≤ c ∧ c < i) ∧ zin C w l c
  · have q2 : (0 ≤ c ∧ c < i + 1) ∧ zin C w l c := ⟨⟨q.1.1, by have := q.1.2; omega⟩, q.2⟩
    exact (if_pos q).trans (if_pos q2).symm
  · rw [if_neg q, if_neg fun z => q ⟨⟨z.1.1, by
      have h1 := z.1.2
      have h2 : c ≠ i := fun e => hz (e ▸ z.2)
      omega⟩, z.2⟩]
theorem zne_0 (C : zSt) (w l x y : Int) (g : Int → Int) : zne C w l x y g 0 = g := by
  funext c
  unfold zne
  exact if_neg fun z => by have := z.1; omega
theorem q_nts {C M : zSt} {n w u p a x0 y0 : Int} {ur nr : Int → Int} {j : Int → Int → zSt → Option zRes} (hS : M.1 4 = n) (hn : 0 ≤ n ∧ n ≤ 60) (hk : zok C n) (hr : zrel C M n) (hw : 1 ≤ w ∧ w ≤ 12) (hp : 0 ≤ p ∧ p < 12 ∧ p % w = 0) (hx : 0 ≤ x0 ∧ x0 ≤ 1000000) (hy : 0 ≤ y0 ∧ y0 ≤ 1000000) : zl3 1000 (b_X9_set_227 j p u (p + w - 1)) x0 y0 0 (zm M a ur nr) = j (x0 + rs (zH C w 0 (12 * u + p)) 0 n.toNat) (y0 + rs (zH C w 1 (12 * u + p)) 0 n.toNat) (zm M a ur (zne C w (12 * u + p) x0 y0 nr n)) := by
  refine zw3 (F := b_X9_set_227 j p u (p + w - 1)) (fun d x y i T => T = zm M a ur (zne C w (12 * u + p) x0 y0 nr i) ∧ 0 ≤ i ∧ i + d = n ∧ x = x0 + rs (zH C w 0 (12 * u + p)) 0 i.toNat ∧ y = y0 + rs (zH C w 1 (12 * u + p)) 0 i.toNat) (fun q => q = j (x0 + rs (zH C w 0 (12 * u + p)) 0 n.toNat) (y0 + rs (zH C w 1 (12 * u + p)) 0 n.toNat) (zm M a ur (zne C w (12 * u + p) x0 y0 nr n))) ?_ 1000 n.toNat x0 y0 0 (zm M a ur nr) ⟨by rw [zne_0], by omega, by omega, (Int.add_zero _).symm, (Int.add_zero _).symm⟩ (by omega)
  rintro rec d x y i T ⟨rfl, h1, h2, h3, h4⟩
  have hS : ∀ g, (zm M a ur g).1 4 = n := fun _ => hS
  by_cases c : n ≤ i
  · refine Or.inl ?_
    rw [show n = i by omega, ← h3, ← h4]
    have hi := hS (zne C w (12 * u + p) x0 y0 nr i)
    simp (disch := omega) only [b_X9_set_227, hi, zlt, zbd_s, zbx_l, zbx_r, zj0, zj1, zj2, zj3, zset_2, zput_1, if_true, if_false, zar_p, zld_p, zst_p, zdv_p, zrm_p, zc01_p, zb_p, zb_n, if_pos, if_neg]
  · obtain ⟨k1, k2, k3, k4, k5, k6⟩ := hk i h1 (by omega)
    have r5 := (hr i h1 (by omega)).2.2.2.2.1
    have r6 := (hr i h1 (by omega)).2.2.2.2.2
    have hin := fun g => p_isIn (S := zm M a ur g) (u := u) hk hr ⟨h1, show i < n by omega⟩ hn.2 hw hp
    have s0 := zHs_b hk w 0 (12 * u + p) i.toNat (by omega)
    have s1 := zHs_b hk w 1 (12 * u + p) i.toNat (by omega)
    have e0 := rs_i (f := zH C w 0 (12 * u + p)) h1
    have e1 := rs_i (f := zH C w 1 (12 * u + p)) h1
    have nn : ∀ m, (zH C w m (12 * u + p) i = if zin C w (12 * u + p) i ∧ C.2 10 i = m then C.2 9 i else 0) := fun _ => rfl
    have hq := zne_y C w (12 * u + p) x0 y0 nr i h1
    have hq2 := zne_n C w (12 * u + p) x0 y0 nr i
    have m5 : ∀ g, (zm M a ur g).2 15 i = C.2 10 i := fun _ => r5
    have m6 : ∀ g, (zm M a ur g).2 14 i = C.2 9 i := fun _ => r6
    rw [nn] at e0 e1
    refine Or.inr ⟨d - 1, x0 + rs (zH C w 0 (12 * u + p)) 0 (i + 1).toNat, y0 + rs (zH C w 1 (12 * u + p)) 0 (i + 1).toNat, i + 1, zm M a ur (zne C w (12 * u + p) x0 y0 nr (i + 1)), by omega, ⟨rfl, by omega, by omega, rfl, rfl⟩, ?_⟩
    rw [e0, e1, ← Int.add_assoc, ← Int.add_assoc, ← h3, ← h4]
    rw [← h3, ← h4] at hq
    have b3 : 0 ≤ x ∧ x ≤ 2000000 := by omega
    have b4 : 0 ≤ y ∧ y ≤ 2000000 := by omega
    clear e0 e1 nn s0 s1 h3 h4 k1 k2 k3 k4 r5 r6
    by_cases c1 : zin C w (12 * u + p) i
    · have hq := hq c1
      by_cases c2 : C.2 10 i = 0
      · rw [if_pos ⟨c1, c2⟩, if_neg (fun q => by have := q.2; omega), Int.add_zero, ← hq, if_pos c2]
        simp only [zb_p c1] at hin
        clear hk hr hq hq2 c1
        simp (disch := omega) only [b_X9_set_227, hS, hin, m5, m6, c2, zm_24, Int.add_zero, zlt, zbd_s, zbx_l, zbx_r, zj0, zj1, zj2, zj3, zset_2, zput_1, if_true, if_false, zar_p, zld_p, zst_p, zdv_p, zrm_p, zc01_p, zb_p, zb_n, if_pos, if_neg]
      · have c3 : C.2 10 i = 1 := by omega
        rw [if_neg (fun q => c2 q.2), if_pos ⟨c1, c3⟩, Int.add_zero, ← hq, if_neg c2]
        simp only [zb_p c1] at hin
        clear hk hr hq hq2 c1
        simp (disch := omega) only [b_X9_set_227, hS, hin, m5, m6, c3, zm_24, Int.add_zero, zlt, zbd_s, zbx_l, zbx_r, zj0, zj1, zj2, zj3, zset_2, zput_1, if_true, if_false, zar_p, zld_p, zst_p, zdv_p, zrm_p, zc01_p, zb_p, zb_n, if_pos, if_neg]
    · rw [if_neg (fun q => c1 q.1), if_neg (fun q => c1 q.1), Int.add_zero, Int.add_zero, ← hq2 c1]
      simp only [zb_n c1] at hin
      clear hk hr hq hq2 c1
      simp (disch := omega) only [b_X9_set_227, hS, hin, zlt, zbd_s, zbx_l, zbx_r, zj0, zj1, zj2, zj3, zset_2, zput_1, if_true, if_false, zar_p, zld_p, zst_p, zdv_p, zrm_p, zc01_p, zb_p, zb_n, if_pos, if_neg]

