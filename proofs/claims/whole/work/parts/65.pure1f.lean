/-! setting: the loops over places and units, both sides -/
noncomputable def bS32 (z : ((Int → zSt → Option zRes) → Int → zSt → Option zRes) → Int → zSt → Option zRes) (rec1 : Int → zSt → Option zRes) (v1 : Int) (S6 : zSt) : Option zRes := zbd (m_X7_count S6) fun x4 S7 => if x4 ≤ v1 then (some (0, S7)) else (zj0 (fun (S8 : zSt) => zar (v1 + 1) fun x5 => rec1 x5 S8) fun j1 => z (b_X6_set_44 j1 v1) 0 S7)
theorem bS32_e (rec1 : Int → zSt → Option zRes) (v1 : Int) (S : zSt) : b_X6_set_32 rec1 v1 S = bS32 (zl1 1000) rec1 v1 S := rfl
noncomputable def bS15 (z : ((Int → Int → Int → Int → zSt → Option zRes) → Int → Int → Int → Int → zSt → Option zRes) → Int → Int → Int → Int → zSt → Option zRes) (a1 : Int) (j3 : Int → Int → zSt → Option zRes) (rec1 : Int → Int → Int → Int → zSt → Option zRes) (v5 : Int) (v6 : Int) (v7 : Int) (v8 : Int) (S7 : zSt) : Option zRes := zlt (S7.1 2) fun x9 => if x9 ≤ v8 then (j3 v6 v7 S7) else (zj3 (fun (v9 : Int) (v10 : Int) (v11 : Int) (S8 : zSt) => zar (v8 + 1) fun x10 => rec1 v9 v10 v11 x10 S8) fun j4 => z (b_X9_set_27 a1 j4 v8) v5 v6 v7 0 S7)
theorem bS15_e (a1 : Int) (j3 : Int → Int → zSt → Option zRes) (rec1 : Int → Int → Int → Int → zSt → Option zRes) (v5 v6 v7 v8 : Int) (S : zSt) : b_X9_set_15 a1 j3 rec1 v5 v6 v7 v8 S = bS15 (zl4 1000) a1 j3 rec1 v5 v6 v7 v8 S := rfl
theorem q_cls {D : zSt} {u w p m h0 h1 a b c : Int} {f : Int → Int} {j1 : zSt → Option zRes} {rec : Int → zSt → Option zRes} (hz : ∀ a b c f, m_X7_sizeOf (zq D a b c f) u = some (m, zq D a b c f)) (hw7 : D.1 7 = w) (hw : 1 ≤ w ∧ w ≤ 12) (hu : 0 ≤ u ∧ u < 20) (hp : 0 ≤ p ∧ p < m) (hm : m ≤ 12) (hpw : p % w = 0) (hh : D.2 22 (12 * u + p) = h0) (hk : D.2 23 (12 * u + p) = h1) (h2 : 0 ≤ h0 ∧ h0 ≤ 1000) (h3 : 0 ≤ h1 ∧ h1 ≤ 1000) (b1 : 0 ≤ a ∧ a ≤ 500000) (b2 : 0 ≤ b ∧ b ≤ 500000) (b3 : 0 ≤ c ∧ c ≤ 500000) : b_X6_set_44 j1 u rec p (zq D a b c f) = rec (p + 1) (zq D (zr1 h1 (zr1 h0 a b) c + 1) (zf1 h0 (zr1 h1 (zr1 h0 a b) c) b) (zf1 h1 (zr1 h1 (zr1 h0 a b) c) c) (zfu f (12 * u + p) (zr1 h1 (zr1 h0 a b) c))) := by
  have e : u * 12 + p = 12 * u + p := by omega
  have hl := q_line (D := D) (l := 12 * u + p) (a := a) (b := b) (c := c) (f := f) hh hk (by omega) h2 h3 (by omega) (by omega) (by omega)
  have hf := p_fol (T := zq D a b c f) (q := p) hw7 hw ⟨hp.1, by omega⟩
  rw [hpw, Int.sub_zero] at hf
  have hz := hz a b c f
  generalize zq D (zr1 h1 (zr1 h0 a b) c + 1) (zf1 h0 (zr1 h1 (zr1 h0 a b) c) b) (zf1 h1 (zr1 h1 (zr1 h0 a b) c) c) (zfu f (12 * u + p) (zr1 h1 (zr1 h0 a b) c)) = T2 at *
  generalize zq D a b c f = T at *
  clear hh hk h2 h3 b1 b2 b3
  simp (disch := omega) only [b_X6_set_44, hz, hf, e, hl, zlt, zbd_s, zbx_l, zbx_r, zj0, zj1, zj2, zj3, zset_2, zput_1, if_true, if_false, zar_p, zld_p, zst_p, zdv_p, zrm_p, zc01_p, zb_p, zb_n, if_pos, if_neg]
theorem q_end1 {T : zSt} {u m q : Int} {g : Nat} {j1 : zSt → Option zRes} (hz : m_X7_sizeOf T u = some (m, T)) (hq : m ≤ q) (hg : 0 < g) : zl1 g (b_X6_set_44 j1 u) q T = j1 T := by
  obtain ⟨k, rfl⟩ : ∃ k, g = k + 1 := ⟨g - 1, by omega⟩
  rw [zl1_s]
  generalize zl1 k (b_X6_set_44 j1 u) = rec
  simp (disch := omega) only [b_X6_set_44, hz, zlt, zbd_s, zbx_l, zbx_r, zj0, zj1, zj2, zj3, zset_2, zput_1, if_true, if_false, zar_p, zld_p, zst_p, zdv_p, zrm_p, zc01_p, zb_p, zb_n, if_pos, if_neg]
theorem q_end2 {T : zSt} {u m w x a b p : Int} {g : Nat} {j4 : Int → Int → Int → zSt → Option zRes} (hs : T.2 2 u = m) (hu : 0 ≤ u ∧ u < 20) (hp : m ≤ p) (hg : 0 < g) : zl4 g (b_X9_set_27 w j4 u) x a b p T = j4 x a b T := by
  obtain ⟨k, rfl⟩ : ∃ k, g = k + 1 := ⟨g - 1, by omega⟩
  rw [zl4_s, bS27_e]
  generalize zl4 k (b_X9_set_27 w j4 u) = rec
  generalize zl3 (R := zRes) 1000 = zz
  simp (disch := first | omega | (simp only [hs]; omega)) only [bS27, ↓zlt, ↓zld_p, ↓if_pos, hs]
theorem q_inn {D M : zSt} {n w u m : Int} (hS : M.1 4 = n) (hn : 0 ≤ n ∧ n ≤ 60) (hk : zok D n) (hr : zrel D M n) (hs : M.2 2 u = m) (hD : D.2 2 u = m) (hz : ∀ a b c f, m_X7_sizeOf (zq D a b c f) u = some (m, zq D a b c f)) (hw7 : D.1 7 = w) (hm : 1 ≤ m ∧ m ≤ 12) (hu : 0 ≤ u ∧ u < 20) (hw : 1 ≤ w ∧ w ≤ 12) (h22 : ∀ l, 0 ≤ l → l < 240 → D.2 22 l = rs (zH D w 0 l) 0 n.toNat ∧ D.2 23 l = rs (zH D w 1 l) 0 n.toNat) : ∀ (d : Nat) (p q a b c last : Int) (f ur nr : Int → Int) (g1 g2 : Nat), 0 ≤ p → p % w = 0 → m - p ≤ d → ((q = p ∧ p ≤ m) ∨ (q = m ∧ m ≤ p)) → m - q < g1 → d < g2 → zIv D w n u p a b c f ur nr last → ∃ (a' b' c' last' : Int) (f' ur' nr' : Int → Int), (∀ j1, zl1 g1 (b_X6_set_44 j1 u) q (zq D a b c f) = j1 (zq D a' b' c' f')) ∧ (∀ j4, zl4 g2 (b_X9_set_27 w j4 u) (a - 1) b c p (zm M last ur nr) = j4 (a' - 1) b' c' (zm M last' ur' nr')) ∧ zIv D w n (u + 1) 0 a' b' c' f' ur' nr' last' := by
  intro d
  induction d with
  | zero =>
    intro p q a b c last f ur nr g1 g2 hp hpw hd hq hg1 hg2 hI
    have hd : m ≤ p := by omega
    exact ⟨a, b, c, last, f, ur, nr, fun j1 => q_end1 (hz a b c f) (by omega) (by omega), fun j4 => q_end2 (T := zm M last ur nr) hs hu hd (by omega), zIv_next hk hD hm.1 hd hI⟩
  | succ d ih =>
    intro p q a b c last f ur nr g1 g2 hp hpw hd hq hg1 hg2 hI
    by_cases hc : m ≤ p
    · exact ⟨a, b, c, last, f, ur, nr, fun j1 => q_end1 (hz a b c f) (by omega) (by omega), fun j4 => q_end2 (T := zm M last ur nr) hs hu hc (by omega), zIv_next hk hD hm.1 hc hI⟩
    · have hq : q = p := by omega
      subst hq
      obtain ⟨q', hq'⟩ : ∃ q', (q' = q + w ∧ q + w ≤ m) ∨ (q' = m ∧ m ≤ q + w) := by
        by_cases h : q + w ≤ m
        · exact ⟨_, Or.inl ⟨rfl, h⟩⟩
        · exact ⟨_, Or.inr ⟨rfl, by omega⟩⟩
      obtain ⟨k, hk2⟩ : ∃ k : Nat, q' = q + 1 + (k : Int) := ⟨(q' - (q + 1)).toNat, by omega⟩
      obtain ⟨gg, rfl⟩ : ∃ gg, g1 = gg + k + 1 := ⟨g1 - k - 1, by omega⟩
      obtain ⟨gg2, rfl⟩ : ∃ x, g2 = x + 1 := ⟨g2 - 1, by omega⟩
      have hpw2 : (q + w) % w = 0 := by rw [Int.add_emod, hpw, Int.emod_self, Int.add_zero, Int.zero_emod]
      have st := zIv_step hn hk ⟨hp, show q < 12 by omega⟩ hpw hu hw hI _ _ _ rfl rfl rfl
      obtain ⟨a', b', c', last', f', ur', nr', H1, H2, H3⟩ := ih (q + w) q' _ _ _ _ _ _ _ gg gg2 (by omega) hpw2 (by omega) hq' (by omega) (by omega) st
      have hl := h22 (12 * u + q) (by omega) (by omega)
      have s0 := zHs_b hk w 0 (12 * u + q) n.toNat (by omega)
      have s1 := zHs_b hk w 1 (12 * u + q) n.toNat (by omega)
      obtain ⟨⟨b1, b2, b3, b4, b5⟩, i1, i2⟩ := hI
      refine ⟨a', b', c', last', f', ur', nr', fun j1 => ?_, fun j4 => ?_, H3⟩
      · rw [zl1_s, q_cls hz hw7 hw hu ⟨hp, by omega⟩ hm.2 hpw hl.1 hl.2 (by omega) (by omega) (by omega) (by omega) (by omega)]
        rw [q_skip (hz _ _ _ _) hw7 hw hm.2 k (q + 1) (by omega) (fun t t1 t2 => ⟨by omega, fun t3 => by
          have := (q_div (x := t) hw.1 hp (by omega) hpw).2 ⟨by omega, by omega⟩
          omega⟩), ← hk2]
        exact H1 j1
      · rw [zl4_s, q_step hS hn hk hr hs ⟨hp, by omega⟩ hpw hm.2 hu hw (by omega) (by omega) (by omega) (by omega) _ _ rfl rfl]
        have t := H2 j4
        rw [Int.add_sub_cancel] at t
        exact t
theorem q_out {D M : zSt} {n w U : Int} (hS : M.1 4 = n) (hn : 0 ≤ n ∧ n ≤ 60) (hk : zok D n) (hr : zrel D M n) (hU : D.1 1 = U) (hMU : M.1 2 = U) (hU2 : 0 ≤ U ∧ U ≤ 20) (hT : ∀ u, 0 ≤ u → u < U → 1 ≤ D.2 2 u ∧ D.2 2 u ≤ 12 ∧ M.2 2 u = D.2 2 u) (hw7 : D.1 7 = w) (hw : 1 ≤ w ∧ w ≤ 12) (h22 : ∀ l, 0 ≤ l → l < 240 → D.2 22 l = rs (zH D w 0 l) 0 n.toNat ∧ D.2 23 l = rs (zH D w 1 l) 0 n.toNat) : ∀ (d : Nat) (u a b c last : Int) (f ur nr : Int → Int) (g1 g2 : Nat), 0 ≤ u → u + d = U → d < g1 → d < g2 → zIv D w n u 0 a b c f ur nr last → ∃ (a' b' c' last' : Int) (f' ur' nr' : Int → Int), zl1 g1 b_X6_set_32 u (zq D a b c f) = some (0, zq D a' b' c' f') ∧ (∀ j3, zl4 g2 (b_X9_set_15 w j3) (a - 1) b c u (zm M last ur nr) = j3 b' c' (zm M last' ur' nr')) ∧ zIv D w n U 0 a' b' c' f' ur' nr' last' := by
  intro d
  induction d with
  | zero =>
    intro u a b c last f ur nr g1 g2 h1 h2 hg1 hg2 hI
    have e : u = U := by omega
    subst e
    refine ⟨a, b, c, last, f, ur, nr, ?_, fun j3 => ?_, hI⟩
    · obtain ⟨k, rfl⟩ : ∃ k, g1 = k + 1 := ⟨g1 - 1, by omega⟩
      rw [zl1_s, bS32_e]
      have hU : (zq D a b c f).1 1 = u := hU
      generalize zl1 k b_X6_set_32 = rec
      generalize zl1 (R := zRes) 1000 = zz
      generalize zq D a b c f = T at *
      clear hI h22 hk hr hT
      simp (disch := omega) only [bS32, m_X7_count, ↓zlt, ↓zbd_s, hU, ↓if_pos]
    · obtain ⟨k, rfl⟩ : ∃ k, g2 = k + 1 := ⟨g2 - 1, by omega⟩
      rw [zl4_s, bS15_e]
      have hU : (zm M last ur nr).1 2 = u := hMU
      generalize zl4 k (b_X9_set_15 w j3) = rec
      generalize zl4 (R := zRes) 1000 = zz
      generalize zm M last ur nr = T at *
      clear hI h22 hk hr hT
      simp (disch := omega) only [bS15, ↓zlt, hU, ↓if_pos]
  | succ d ih =>
    intro u a b c last f ur nr g1 g2 h1 h2 hg1 hg2 hI
    obtain ⟨k1, rfl⟩ : ∃ k, g1 = k + 1 := ⟨g1 - 1, by omega⟩
    obtain ⟨k2, rfl⟩ : ∃ k, g2 = k + 1 := ⟨g2 - 1, by omega⟩
    obtain ⟨t1, t2, t3⟩ := hT u h1 (by omega)
    have hz : ∀ a b c f, m_X7_sizeOf (zq D a b c f) u = some (D.2 2 u, zq D a b c f) := fun a b c f => by
      have e1 : (zq D a b c f).1 1 = U := hU
      have e2 : (zq D a b c f).2 2 = D.2 2 := rfl
      rw [p_X7_sizeOf _ _ (by omega), e1, e2, if_pos ⟨h1, by omega⟩]
    obtain ⟨a1, b1, c1, last1, f1, ur1, nr1, H1, H2, H3⟩ := q_inn hS hn hk hr t3 rfl hz hw7 ⟨t1, t2⟩ ⟨h1, by omega⟩ hw h22 12 0 0 a b c last f ur nr 1000 1000 (Int.le_refl _) (Int.zero_emod _) (by omega) (Or.inl ⟨rfl, by omega⟩) (by omega) (by omega) hI
    obtain ⟨a', b', c', last', f', ur', nr', I1, I2, I3⟩ := ih (u + 1) a1 b1 c1 last1 f1 ur1 nr1 k1 k2 (by omega) (by omega) (by omega) (by omega) H3
    refine ⟨a', b', c', last', f', ur', nr', ?_, fun j3 => ?_, I3⟩
    · rw [zl1_s, bS32_e, ← I1]
      have hU : (zq D a b c f).1 1 = U := hU
      generalize zl1 k1 b_X6_set_32 = rec
      generalize zl1 (R := zRes) 1000 = zz at *
      generalize zq D a b c f = T at *
      generalize zq D a1 b1 c1 f1 = T1 at *
      clear hI h22 hk hr hT ih H2 H3 I1 I2 I3 hz
      simp (disch := omega) only [bS32, m_X7_count, ↓zlt, ↓zbd_s, hU, ↓if_neg, ↓zj0, H1, ↓zar_p]
    · rw [zl4_s, bS15_e, ← I2 j3]
      have hU : (zm M last ur nr).1 2 = U := hMU
      generalize zl4 k2 (b_X9_set_15 w j3) = rec
      generalize zl4 (R := zRes) 1000 = zz at *
      generalize zm M last ur nr = T at *
      generalize zm M last1 ur1 nr1 = T1 at *
      clear hI h22 hk hr hT ih H1 H3 I1 I2 I3 hz
      simp (disch := omega) only [bS15, ↓zlt, hU, ↓if_neg, ↓zj3, H2, ↓zar_p]

