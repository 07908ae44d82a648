/-! setting: what holds where the line at place p of unit u is next -/
theorem rs_ge {g : Int → Int} : ∀ (k : Nat) (i : Int), (∀ j : Int, 0 ≤ j → j < k → 0 ≤ g j) → 0 ≤ i → i < k → g i ≤ rs g 0 k ∧ 0 ≤ rs g 0 k := by
  intro k
  induction k with
  | zero => intro i _ h1 h2; omega
  | succ k ih =>
    intro i h h1 h2
    have e := rs_back g 0 k
    rw [Int.zero_add] at e
    have hk := h k (by omega) (by omega)
    have r0 : 0 ≤ rs g 0 k := by
      by_cases z : k = 0
      · subst z; exact Int.le_refl _
      · exact (ih 0 (fun j j1 j2 => h j j1 (by omega)) (by omega) (by omega)).2
    by_cases c : i = k
    · subst c; omega
    · have := (ih i (fun j j1 j2 => h j j1 (by omega)) h1 (by omega)).1
      omega
def zIv (C : zSt) (w n u p a b c : Int) (f ur nr : Int → Int) (last : Int) : Prop :=
  ((0 ≤ a ∧ a ≤ 600 * (12 * u + p) ∧ a ≤ 600 * (12 * u + 12)) ∧ (0 ≤ b ∧ b ≤ 600 * (12 * u + p) ∧ b ≤ 600 * (12 * u + 12)) ∧ (0 ≤ c ∧ c ≤ 600 * (12 * u + p) ∧ c ≤ 600 * (12 * u + 12)) ∧ (last = a - 1 ∨ (a = 0 ∧ last = 0)) ∧ (0 < 12 * u + p → 1 ≤ a)) ∧ (∀ x, 0 ≤ x → (x < u ∨ (x = u ∧ 0 < p)) → ur x = f (12 * x) ∧ 0 ≤ f (12 * x) ∧ f (12 * x) ≤ 200000) ∧ ∀ i, 0 ≤ i → i < n → C.2 16 (C.2 12 i) = 0 → (C.2 13 (C.2 12 i) < u ∨ (C.2 13 (C.2 12 i) = u ∧ C.2 14 (C.2 12 i) < p)) → nr i = f (zln C w i) + rs (zH C w (C.2 10 i) (zln C w i)) 0 i.toNat ∧ 0 ≤ f (zln C w i) ∧ f (zln C w i) ≤ 200000
theorem zIv_step {C : zSt} {w n u p a b c last : Int} {f ur nr : Int → Int} (hn : 0 ≤ n ∧ n ≤ 60) (hk : zok C n) (hp : 0 ≤ p ∧ p < 12) (hpw : p % w = 0) (hu : 0 ≤ u ∧ u < 20) (hw : 1 ≤ w ∧ w ≤ 12) (hI : zIv C w n u p a b c f ur nr last) : ∀ h0 h1 r : Int, h0 = rs (zH C w 0 (12 * u + p)) 0 n.toNat → h1 = rs (zH C w 1 (12 * u + p)) 0 n.toNat → r = zr1 h1 (zr1 h0 a b) c → zIv C w n u (p + w) (r + 1) (zf1 h0 r b) (zf1 h1 r c) (zfu f (12 * u + p) r) (zfu ur u (if p = 0 then r else ur u)) (zne C w (12 * u + p) (zi1 h0 r b) (zi1 h1 r c) nr n) r := by
  intro h0 h1 r e0 e1 er
  obtain ⟨⟨b1, b2, b3, b4, b5⟩, i1, i2⟩ := hI
  have s0 := zHs_b hk w 0 (12 * u + p) n.toNat (by omega)
  have s1 := zHs_b hk w 1 (12 * u + p) n.toNat (by omega)
  rw [← e0] at s0
  rw [← e1] at s1
  have g1 := zr1_b h0 a b
  have g2 := zr1_b h1 (zr1 h0 a b) c
  rw [← er] at g2
  have f0 : zf1 h0 r b = b ∨ zf1 h0 r b = r + h0 := by unfold zf1; split <;> omega
  have f1 : zf1 h1 r c = c ∨ zf1 h1 r c = r + h1 := by unfold zf1; split <;> omega
  have hr : 0 ≤ r ∧ r ≤ 200000 := by omega
  refine ⟨⟨?_, ?_, ?_, ?_, ?_⟩, fun x x1 x2 => ?_, fun i j1 j2 j3 j4 => ?_⟩
  · clear i1 i2 e0 e1; omega
  · clear i1 i2 e0 e1; omega
  · clear i1 i2 e0 e1; omega
  · exact Or.inl (by omega)
  · clear i1 i2 e0 e1; omega
  · by_cases e : x = u
    · subst e
      by_cases k : p = 0
      · subst k
        rw [zfu_e, if_pos rfl, Int.add_zero, zfu_e]; omega
      · have t := i1 x x1 (Or.inr ⟨rfl, by omega⟩)
        rw [zfu_e, if_neg k, zfu_n _ _ (show 12 * x ≠ 12 * x + p by omega)]; exact t
    · have t := i1 x x1 (Or.inl (by omega))
      rw [zfu_n _ _ e, zfu_n _ _ (show 12 * x ≠ 12 * u + p by omega)]; exact t
  · obtain ⟨k1, k2, k3, k4, k5, k6⟩ := hk i j1 j2
    have d1 := Int.emod_nonneg (C.2 14 (C.2 12 i)) (show w ≠ 0 by omega)
    have d2 := em_le k3.1 hw.1
    have hd := q_div hw.1 hp.1 k3.1 hpw
    have zl : zln C w i = 12 * C.2 13 (C.2 12 i) + (C.2 14 (C.2 12 i) - C.2 14 (C.2 12 i) % w) := rfl
    by_cases q : C.2 13 (C.2 12 i) = u ∧ p ≤ C.2 14 (C.2 12 i)
    · have e : zln C w i = 12 * u + p := by
        have := hd.2 ⟨q.2, by omega⟩
        omega
      have hz : zin C w (12 * u + p) i := ⟨j3, e⟩
      have nn : ∀ m, zH C w m (12 * u + p) i = if zin C w (12 * u + p) i ∧ C.2 10 i = m then C.2 9 i else 0 := fun _ => rfl
      have hz2 : (0 ≤ i ∧ i < n) ∧ zin C w (12 * u + p) i := ⟨⟨j1, j2⟩, hz⟩
      rw [e, zfu_e]
      refine ⟨?_, hr.1, hr.2⟩
      have v : zne C w (12 * u + p) (zi1 h0 r b) (zi1 h1 r c) nr n i = if C.2 10 i = 0 then zi1 h0 r b + rs (zH C w 0 (12 * u + p)) 0 i.toNat else zi1 h1 r c + rs (zH C w 1 (12 * u + p)) 0 i.toNat := if_pos hz2
      rw [v]
      by_cases m0 : C.2 10 i = 0
      · have ge := (rs_ge (g := zH C w 0 (12 * u + p)) n.toNat i (fun j t1 t2 => (zH_b hk w 0 (12 * u + p) t1 (by omega)).1) j1 (by omega)).1
        rw [nn 0, if_pos ⟨hz, m0⟩, ← e0] at ge
        rw [if_pos m0, m0, zi1_n (by omega)]
      · have m1 : C.2 10 i = 1 := by omega
        have ge := (rs_ge (g := zH C w 1 (12 * u + p)) n.toNat i (fun j t1 t2 => (zH_b hk w 1 (12 * u + p) t1 (by omega)).1) j1 (by omega)).1
        rw [nn 1, if_pos ⟨hz, m1⟩, ← e1] at ge
        rw [if_neg m0, m1, zi1_n (by omega)]
    · have ne : zln C w i ≠ 12 * u + p := by omega
      have t := i2 i j1 j2 j3 (by omega)
      have v : zne C w (12 * u + p) (zi1 h0 r b) (zi1 h1 r c) nr n i = nr i := if_neg fun z => ne z.2.2
      rw [v, zfu_n _ _ ne]; exact t
theorem zIv_next {C : zSt} {w n u p m a b c last : Int} {f ur nr : Int → Int} (hk : zok C n) (hm : C.2 2 u = m) (hm1 : 1 ≤ m) (hp : m ≤ p) (hI : zIv C w n u p a b c f ur nr last) : zIv C w n (u + 1) 0 a b c f ur nr last := by
  obtain ⟨⟨b1, b2, b3, b4, b5⟩, i1, i2⟩ := hI
  refine ⟨⟨?_, ?_, ?_, b4, ?_⟩, fun x x1 x2 => i1 x x1 (by omega), fun i j1 j2 j3 j4 => i2 i j1 j2 j3 ?_⟩
  · omega
  · omega
  · omega
  · intro _; clear i1 i2; exact b5 (by omega)
  · obtain ⟨k1, k2, k3, k4, k5, k6⟩ := hk i j1 j2
    by_cases e : C.2 13 (C.2 12 i) = u
    · rw [e, hm] at k3
      exact Or.inr ⟨e, by omega⟩
    · exact Or.inl (by omega)

