/-! emend -/
theorem q_emJ {C M D N : zSt} {u a w s : Int} (hC : jCom C M) (hT : jTxt D N) (hs : D.2 2 u = s) (hu : 0 ≤ u ∧ u < C.1 1) (ha : 0 ≤ a) (hpl : ∀ i, 0 ≤ i → i < C.1 3 → C.2 11 i = -1 → C.2 14 i ≤ 12) (i1 : D.1 1 = C.1 1) (i2 : D.1 2 = C.1 2) (i3 : D.1 3 = C.1 3) (i4 : N.1 4 = M.1 4) (d7 : D.2 7 = C.2 7) (d8 : D.2 8 = C.2 8) (d9 : D.2 9 = C.2 9) (d10 : D.2 10 = C.2 10) (d11 : D.2 11 = C.2 11) (d12 : D.2 12 = C.2 12) (d13 : D.2 13 = C.2 13) (d15 : D.2 15 = C.2 15) (d16 : D.2 16 = C.2 16) (n6 : N.2 6 = M.2 6) (n7 : N.2 7 = M.2 7) (n8 : N.2 8 = M.2 8) (n9 : N.2 9 = M.2 9) (n10 : N.2 10 = M.2 10) (n11 : N.2 11 = M.2 11) (n12 : N.2 12 = M.2 12) (n13 : N.2 13 = M.2 13) (n14 : N.2 14 = M.2 14) (n15 : N.2 15 = M.2 15) (hx : ∀ x, x ≠ u → D.2 2 x = C.2 2 x) (g1 : ∀ j, ¬ zhk C (C.1 3) u j → D.2 14 j = C.2 14 j) (g2 : ∀ j, zhk C (C.1 3) u j → D.2 14 j = zfr s a w (C.2 14 j)) : ∃ x f l f' l', m_X1_hookAnew D u = some (x, zrp (zrp D 14 f) 16 l) ∧ zl2 1000 (b_X9_emend_161 u a w (fun (v2 : Int) (S5 : zSt) => some (v2, S5) : Int → zSt → Option zRes)) 0 0 N = some (x, zrp (zrp N 13 l') 12 f') ∧ jCom (zrp (zrp D 14 f) 16 l) (zrp (zrp N 13 l') 12 f') := by
  obtain ⟨c1, c2, c3, c4, c5⟩ := hC
  obtain ⟨t1, t2, t3, t4, t5⟩ := hT
  have tu := t4 u hu.1 (by omega)
  have hsb : 1 ≤ s ∧ s ≤ 12 := ⟨by omega, by omega⟩
  have hh : ∀ i, 0 ≤ i → i < C.1 3 → C.2 11 i = -1 → C.2 12 i = i := fun i j1 j2 q => (c4 i j1 j2).2.2.2.2.2.1.2.2.2.2 q
  have hook : ∀ j, zhk D (C.1 3) u j ↔ zhk C (C.1 3) u j := fun j => by
    show ((0 ≤ j ∧ j < C.1 3) ∧ D.2 11 j = -1 ∧ D.2 13 j = u) ↔ _
    rw [d11, d13]
  have m12 : ∀ i, 0 ≤ i → i < C.1 3 → C.2 11 i = -1 → M.2 12 i = C.2 14 i := fun i j1 j2 q => ((c4 i j1 j2).2.2.2.2.2.2.2 q).2.2.2.1
  obtain ⟨x, f, l, f', l', H1, H2, H3⟩ := q_hka (C := D) (M := N) (u := u) (a := a) (w := w) (n := C.1 3) (s := s) i3 (i4.trans c3) ⟨c1, c2⟩ ⟨hu.1, by omega⟩ (by omega) (fun x x1 x2 => (t4 x x1 x2).2.1) hs (by omega) hsb (fun k k1 k2 => t5 u k hu.1 (by omega) k1 (by omega)) ha (fun i j1 j2 => by
      obtain ⟨a1, a2, a3, a4, a5, a6, a7, a8⟩ := c4 i j1 j2
      rw [n8, n10, n11, n12, d11, d13, d15]
      refine ⟨a5.1, fun q => ?_⟩
      obtain ⟨z1, z2, z3, z4, z5, z6⟩ := a8 q
      have z7 := hpl i j1 j2 q
      rw [a7, hh i j1 j2 q]
      exact ⟨rfl, z3, by omega, by omega⟩)
    (fun i hk => by
      have hk := (hook i).1 hk
      rw [g2 i hk, n12, m12 i hk.1.1 hk.1.2 hk.2.1])
    (fun i => by rw [n13, d16]; exact ⟨(c5 i).1, (c5 i).2.1⟩)
  refine ⟨x, f, l, f', l', H1, H2, ?_⟩
  have k7 : (zrp (zrp D 14 f) 16 l).2 7 = C.2 7 := d7
  have k8 : (zrp (zrp D 14 f) 16 l).2 8 = C.2 8 := d8
  have k9 : (zrp (zrp D 14 f) 16 l).2 9 = C.2 9 := d9
  have k10 : (zrp (zrp D 14 f) 16 l).2 10 = C.2 10 := d10
  have k11 : (zrp (zrp D 14 f) 16 l).2 11 = C.2 11 := d11
  have k12 : (zrp (zrp D 14 f) 16 l).2 12 = C.2 12 := d12
  have k13 : (zrp (zrp D 14 f) 16 l).2 13 = C.2 13 := d13
  have k15 : (zrp (zrp D 14 f) 16 l).2 15 = C.2 15 := d15
  have m6 : (zrp (zrp N 13 l') 12 f').2 6 = M.2 6 := n6
  have m7 : (zrp (zrp N 13 l') 12 f').2 7 = M.2 7 := n7
  have m8 : (zrp (zrp N 13 l') 12 f').2 8 = M.2 8 := n8
  have m9 : (zrp (zrp N 13 l') 12 f').2 9 = M.2 9 := n9
  have m10 : (zrp (zrp N 13 l') 12 f').2 10 = M.2 10 := n10
  have m11 : (zrp (zrp N 13 l') 12 f').2 11 = M.2 11 := n11
  have m14 : (zrp (zrp N 13 l') 12 f').2 14 = M.2 14 := n14
  have m15 : (zrp (zrp N 13 l') 12 f').2 15 = M.2 15 := n15
  have k14 : (zrp (zrp D 14 f) 16 l).2 14 = f := rfl
  have k2 : (zrp (zrp D 14 f) 16 l).2 2 = D.2 2 := rfl
  have m12' : (zrp (zrp N 13 l') 12 f').2 12 = f' := rfl
  have j1' : (zrp (zrp D 14 f) 16 l).1 1 = C.1 1 := i1
  have j2' : (zrp (zrp D 14 f) 16 l).1 2 = C.1 2 := i2
  refine ⟨by show 0 ≤ D.1 3; omega, by show D.1 3 ≤ 60; omega, by show N.1 4 = D.1 3; omega, fun i j1 j2 => ?_, fun i => ?_⟩
  · have j2 : i < C.1 3 := by
      have j2 : i < D.1 3 := j2
      omega
    obtain ⟨a1, a2, a3, a4, a5, a6, a7, a8⟩ := c4 i j1 j2
    unfold jCo
    rw [k7, k8, k9, k10, k11, k12, k13, k15, m6, m7, m8, m9, m10, m11, m14, m15, k14, k2, m12', j1', j2']
    refine ⟨a1, a2, a3, a4, a5, a6, a7, fun q => ?_⟩
    obtain ⟨z1, z2, z3, z4, z5, z6⟩ := a8 q
    obtain ⟨-, y2, y3⟩ := H3 i
    by_cases e : C.2 13 i = u
    · obtain ⟨w1, w2, w3⟩ := y2 ⟨j2, (hook i).2 ⟨⟨j1, j2⟩, q, e⟩⟩
      exact ⟨z1, z2, z3, w1, w2, by rw [e, hs]; exact w3⟩
    · obtain ⟨w1, w2, w3⟩ := y3 (fun z => e ((hook i).1 z.2).2.2)
      have w4 := g1 i (fun z => e z.2.2)
      rw [w1, w2, w4, n12, hx _ e]
      exact ⟨z1, z2, z3, z4, z5, z6⟩
  · obtain ⟨y1, y2, y3⟩ := H3 i
    refine ⟨y1.1, y1.2, fun q => ?_⟩
    have q : ¬ (0 ≤ i ∧ i < D.1 3 ∧ D.2 11 i = -1) := q
    rw [i3, d11] at q
    have e : l i = 0 := by
      rw [(y3 (fun z => q ⟨z.2.1.1, z.2.1.2, ((hook i).1 z.2).2.1⟩)).2.2, d16]
      exact (c5 i).2.2 q
    exact e
theorem q_etx1 {C M : zSt} {u a s : Int} (hT : jTxt C M) (hu : 0 ≤ u ∧ u < C.1 1) (hs : C.2 2 u = s) (hs2 : 2 ≤ s) (ha : 0 ≤ a ∧ a < s) : jTxt (zput (zrp C 1 (zsh (C.2 1) (12 * u + a) (12 * u + s - 1))) 2 u (s - 1)) (zput (zrp (zset M 0 0) 1 (zsh (M.2 1) (12 * u + a) (12 * u + s - 1))) 2 u (s - 1)) := by
  obtain ⟨t1, t2, t3, t4, t5⟩ := hT
  have tu := t4 u hu.1 hu.2
  refine ⟨t1, t2, t3, fun x x1 x2 => ?_, fun x k x1 x2 k1 k2 => ?_⟩
  · have tx := t4 x x1 x2
    show 1 ≤ (if x = u then s - 1 else C.2 2 x) ∧ (if x = u then s - 1 else C.2 2 x) ≤ 12 ∧ (if x = u then s - 1 else M.2 2 x) = (if x = u then s - 1 else C.2 2 x)
    by_cases e : x = u
    · subst e; rw [if_pos rfl, if_pos rfl]; exact ⟨by omega, by omega, rfl⟩
    · rw [if_neg e, if_neg e]; exact tx
  · have tx := t4 x x1 x2
    have k2 : k < (if x = u then s - 1 else C.2 2 x) := k2
    show zsh (M.2 1) (12 * u + a) (12 * u + s - 1) (12 * x + k) = zsh (C.2 1) (12 * u + a) (12 * u + s - 1) (12 * x + k)
    by_cases e : x = u
    · subst e
      rw [if_pos rfl] at k2
      by_cases q : a ≤ k
      · rw [zsh_in _ ⟨by omega, by omega⟩, zsh_in _ ⟨by omega, by omega⟩, Int.add_assoc]
        exact t5 x (k + 1) x1 x2 (by omega) (by omega)
      · rw [zsh_at _ (by omega), zsh_at _ (by omega)]
        exact t5 x k x1 x2 k1 (by omega)
    · rw [if_neg e] at k2
      rw [zsh_at _ (by omega), zsh_at _ (by omega)]
      exact t5 x k x1 x2 k1 k2
theorem q_etx2 {C M : zSt} {i w : Int} (hT : jTxt C M) : jTxt (zput C 1 i w) (zput (zset M 0 0) 1 i w) := by
  obtain ⟨t1, t2, t3, t4, t5⟩ := hT
  refine ⟨t1, t2, t3, fun x x1 x2 => t4 x x1 x2, fun x k x1 x2 k1 k2 => ?_⟩
  show (if 12 * x + k = i then w else M.2 1 (12 * x + k)) = (if 12 * x + k = i then w else C.2 1 (12 * x + k))
  by_cases e : 12 * x + k = i
  · rw [if_pos e, if_pos e]
  · rw [if_neg e, if_neg e]; exact t5 x k x1 x2 k1 k2
theorem q_emr {C M : zSt} {u a : Int} (hT : jTxt C M) (hC : jCom C M) (hu : 0 ≤ u ∧ u < C.1 1) (ha : 0 ≤ a ∧ a < C.2 2 u) (h5 : ¬ C.2 2 u = 1) (hpl : ∀ i, 0 ≤ i → i < C.1 3 → C.2 11 i = -1 → 0 ≤ C.2 14 i ∧ C.2 14 i ≤ 12) {D1 N1 : zSt} (hD1 : D1 = zput (zrp C 1 (zsh (C.2 1) (12 * u + a) (12 * u + C.2 2 u - 1))) 2 u (C.2 2 u - 1)) (hN1 : N1 = zput (zrp (zset M 0 0) 1 (zsh (M.2 1) (12 * u + a) (12 * u + C.2 2 u - 1))) 2 u (C.2 2 u - 1)) : ∃ g x f l f' l', m_X1_closeGap D1 u a (C.2 2 u - 1 - 1) = some (0, zrp D1 14 g) ∧ m_X1_hookAnew (zrp D1 14 g) u = some (x, zrp (zrp (zrp D1 14 g) 14 f) 16 l) ∧ zl2 1000 (b_X9_emend_161 u a (-1) (fun (v2 : Int) (S5 : zSt) => some (v2, S5) : Int → zSt → Option zRes)) 0 0 N1 = some (x, zrp (zrp N1 13 l') 12 f') ∧ jCom (zrp (zrp (zrp D1 14 g) 14 f) 16 l) (zrp (zrp N1 13 l') 12 f') := by
  subst hD1
  subst hN1
  obtain ⟨c1, c2, c3, c4, c5⟩ := id hC
  have hT1 := q_etx1 hT hu rfl (by have := hT.2.2.2.1 u hu.1 hu.2; omega) ha
  obtain ⟨g, G1, G2⟩ := q_cg (S := zput (zrp C 1 (zsh (C.2 1) (12 * u + a) (12 * u + C.2 2 u - 1))) 2 u (C.2 2 u - 1)) (u := u) (a := a) (l := C.2 2 u - 1 - 1) (n := C.1 3) rfl ⟨c1, c2⟩ (fun j j1 j2 q => hpl j j1 j2 q)
  obtain ⟨x, f, l, f', l', H1, H2, H3⟩ := q_emJ (C := C) (M := M) (D := zrp (zput (zrp C 1 (zsh (C.2 1) (12 * u + a) (12 * u + C.2 2 u - 1))) 2 u (C.2 2 u - 1)) 14 g) (N := zput (zrp (zset M 0 0) 1 (zsh (M.2 1) (12 * u + a) (12 * u + C.2 2 u - 1))) 2 u (C.2 2 u - 1)) (u := u) (a := a) (w := -1) (s := C.2 2 u - 1) hC hT1 (if_pos rfl) hu ha.1 (fun i j1 j2 q => (hpl i j1 j2 q).2) rfl rfl rfl rfl rfl rfl rfl rfl rfl rfl rfl rfl rfl rfl rfl rfl rfl rfl rfl rfl rfl rfl rfl (fun x e => if_neg e) (fun j q => (G2 j).2 q) (fun j q => ((G2 j).1 q).trans (by
      show (if C.2 2 u - 1 - 1 < (if a < C.2 14 j then C.2 14 j - 1 else C.2 14 j) then C.2 2 u - 1 - 1 else if a < C.2 14 j then C.2 14 j - 1 else C.2 14 j) = zfr (C.2 2 u - 1) a (-1) (C.2 14 j)
      unfold zfr
      by_cases e : a < C.2 14 j
      · rw [if_pos e, if_pos (⟨rfl, e⟩ : (-1 : Int) = -1 ∧ a < C.2 14 j)]
      · rw [if_neg e, if_neg (fun z : (-1 : Int) = -1 ∧ a < C.2 14 j => e z.2)]))
  exact ⟨g, x, f, l, f', l', G1, H1, H2, H3⟩
theorem q_emp {C M : zSt} {u a w : Int} (hT : jTxt C M) (hC : jCom C M) (hu : 0 ≤ u ∧ u < C.1 1) (ha : 0 ≤ a ∧ a < C.2 2 u) (h4 : ¬ w = -1) (hpl : ∀ i, 0 ≤ i → i < C.1 3 → C.2 11 i = -1 → 0 ≤ C.2 14 i ∧ C.2 14 i ≤ 12) {D1 N1 : zSt} (hD1 : D1 = zput C 1 (12 * u + a) w) (hN1 : N1 = zput (zset M 0 0) 1 (12 * u + a) w) : ∃ x f l f' l', m_X1_hookAnew D1 u = some (x, zrp (zrp D1 14 f) 16 l) ∧ zl2 1000 (b_X9_emend_161 u a w (fun (v2 : Int) (S5 : zSt) => some (v2, S5) : Int → zSt → Option zRes)) 0 0 N1 = some (x, zrp (zrp N1 13 l') 12 f') ∧ jCom (zrp (zrp D1 14 f) 16 l) (zrp (zrp N1 13 l') 12 f') := by
  subst hD1
  subst hN1
  obtain ⟨c1, c2, c3, c4, c5⟩ := id hC
  have hT1 := q_etx2 (i := 12 * u + a) (w := w) hT
  exact q_emJ (C := C) (M := M) (D := zput C 1 (12 * u + a) w) (N := zput (zset M 0 0) 1 (12 * u + a) w) (u := u) (a := a) (w := w) (s := C.2 2 u) hC hT1 rfl hu ha.1 (fun i j1 j2 q => (hpl i j1 j2 q).2) rfl rfl rfl rfl rfl rfl rfl rfl rfl rfl rfl rfl rfl rfl rfl rfl rfl rfl rfl rfl rfl rfl rfl (fun x e => rfl) (fun j q => rfl) (fun j q => by
      obtain ⟨z1, z2, -, -, z5, z6⟩ := (c4 j q.1.1 q.1.2).2.2.2.2.2.2.2 q.2.1
      rw [q.2.2] at z6
      show C.2 14 j = zfr (C.2 2 u) a w (C.2 14 j)
      unfold zfr
      rw [if_neg (fun z : w = -1 ∧ a < C.2 14 j => h4 z.1), if_neg (by omega)])
theorem Sim.mk2 {hs : List String} {pm : Option zRes} {px : Option zRx} {b : Int} {C' M' : zSt} (h1 : pm = some (b, M')) (h2 : px = some (.inl (b, C'))) (h3 : M'.1 0 = 0) (a1 : jPad C' M') (a2 : jTxt C' M') (a3 : jAut C' M') (a4 : jCom C' M') (a5 : jRul C' M') (a6 : jFol C' M') (a7 : jEdi C' M') : Sim hs pm px := Sim.ok h1 h2 h3 ⟨a1, a2, a3, a4, a5, a6, a7⟩
theorem s_emr {C M : zSt} {u a : Int} (hJ : J C M) (hu : 0 ≤ u ∧ u < C.1 1) (ha : 0 ≤ a ∧ a < C.2 2 u) (h5 : ¬ C.2 2 u = 1) (hpl : ∀ i, 0 ≤ i → i < C.1 3 → C.2 11 i = -1 → 0 ≤ C.2 14 i ∧ C.2 14 i ≤ 12) (hp : m_X7_hasPlace C u a = some (1, C)) (hz : m_X7_sizeOf C u = some (C.2 2 u, C)) : Sim ["java/lang/IndexOutOfBoundsException", "java/lang/IllegalArgumentException", "java/lang/IllegalStateException"] (m_X9_emend M u a (-1)) (m_X8_emend C u a (-1)) := by
  obtain ⟨hRG, hP, hT, hA, hC, hR, hF, hE⟩ := id hJ
  obtain ⟨t1, t2, t3, t4, t5⟩ := id hT
  obtain ⟨s1, s2, s3⟩ := t4 u hu.1 hu.2
  have k1 := q_tk hu t2 (fun x x1 x2 => (t4 x x1 x2).2.1) rfl ⟨s1, s2⟩ ha
  have hT1 := q_etx1 hT hu rfl (by omega) ha
  have r1 := fun j11 : zSt → Option zRes => q_tk2 (M := zset M 0 0) (u := u) (a := a) (s := C.2 2 u) (j1 := j11) ⟨hu.1, by omega⟩ s3 ⟨s1, s2⟩ ha
  obtain ⟨D1, hD1⟩ : ∃ D1, D1 = zput (zrp C 1 (zsh (C.2 1) (12 * u + a) (12 * u + C.2 2 u - 1))) 2 u (C.2 2 u - 1) := ⟨_, rfl⟩
  obtain ⟨N1, hN1⟩ : ∃ N1, N1 = zput (zrp (zset M 0 0) 1 (zsh (M.2 1) (12 * u + a) (12 * u + C.2 2 u - 1))) 2 u (C.2 2 u - 1) := ⟨_, rfl⟩
  obtain ⟨g, x, f, l, f', l', G1, H1, H2, H3⟩ := q_emr hT hC hu ha h5 hpl hD1 hN1
  have k2 : m_X7_sizeOf D1 u = some (C.2 2 u - 1, D1) := by
    have e2 : D1.2 2 u = C.2 2 u - 1 := by rw [hD1]; exact if_pos rfl
    have e1 : D1.1 1 = C.1 1 := by rw [hD1]; rfl
    rw [p_X7_sizeOf D1 u (by omega), e1, if_pos hu, e2]
  rw [← hD1] at k1
  have a2 := q_em8a hp hz ⟨by omega, s2⟩ k1 k2 G1 H1
  have a1 : m_X9_emend M u a (-1) = some (x, zrp (zrp N1 13 l') 12 f') := by
    rw [mE3_e]
    rw [hN1] at H2 ⊢
    exact q_em9a (T1 := zrp (zset M 0 0) 1 (zsh (M.2 1) (12 * u + a) (12 * u + C.2 2 u - 1))) t3 t2 hu s3 ⟨by omega, s2⟩ ha r1 s3 H2
  rw [← hD1, ← hN1] at hT1
  refine Sim.mk2 a1 a2 ?_ ?_ hT1 ?_ H3 ?_ ?_ ?_
  · rw [hN1]; rfl
  · rw [hD1, hN1]; exact hP
  · rw [hD1, hN1]; exact hA
  · rw [hD1, hN1]; exact hR
  · rw [hD1, hN1]; exact hF
  · rw [hD1, hN1]; exact hE
theorem s_emq {C M : zSt} {u a w : Int} (hJ : J C M) (hu : 0 ≤ u ∧ u < C.1 1) (ha : 0 ≤ a ∧ a < C.2 2 u) (h3 : -1 ≤ w ∧ w ≤ 59) (h4 : ¬ w = -1) (hpl : ∀ i, 0 ≤ i → i < C.1 3 → C.2 11 i = -1 → 0 ≤ C.2 14 i ∧ C.2 14 i ≤ 12) (hp : m_X7_hasPlace C u a = some (1, C)) : Sim ["java/lang/IndexOutOfBoundsException", "java/lang/IllegalArgumentException", "java/lang/IllegalStateException"] (m_X9_emend M u a w) (m_X8_emend C u a w) := by
  obtain ⟨hRG, hP, hT, hA, hC, hR, hF, hE⟩ := id hJ
  obtain ⟨t1, t2, t3, t4, t5⟩ := id hT
  obtain ⟨s1, s2, s3⟩ := t4 u hu.1 hu.2
  have hT1 := q_etx2 (i := 12 * u + a) (w := w) hT
  have k1 := p_X7_put C u a w hu ha t2 s2
  obtain ⟨D1, hD1⟩ : ∃ D1, D1 = zput C 1 (12 * u + a) w := ⟨_, rfl⟩
  obtain ⟨N1, hN1⟩ : ∃ N1, N1 = zput (zset M 0 0) 1 (12 * u + a) w := ⟨_, rfl⟩
  obtain ⟨x, f, l, f', l', H1, H2, H3⟩ := q_emp hT hC hu ha h4 hpl hD1 hN1
  rw [← hD1] at k1
  have a2 := q_em8b hp ⟨by omega, h3.2⟩ k1 H1
  have a1 : m_X9_emend M u a w = some (x, zrp (zrp N1 13 l') 12 f') := by
    rw [mE3_e]
    rw [hN1] at H2 ⊢
    exact q_em9b t3 t2 hu s3 ⟨s1, s2⟩ ha ⟨by omega, h3.2⟩ H2
  rw [← hD1, ← hN1] at hT1
  refine Sim.mk2 a1 a2 ?_ ?_ hT1 ?_ H3 ?_ ?_ ?_
  · rw [hN1]; rfl
  · rw [hD1, hN1]; exact hP
  · rw [hD1, hN1]; exact hA
  · rw [hD1, hN1]; exact hR
  · rw [hD1, hN1]; exact hF
  · rw [hD1, hN1]; exact hE
theorem q_ex9a {M : zSt} {u a w s : Int} {z1 : ((Int → zSt → Option zRes) → Int → zSt → Option zRes) → Int → zSt → Option zRes} {z2 : ((Int → Int → zSt → Option zRes) → Int → Int → zSt → Option zRes) → Int → Int → zSt → Option zRes} (hU9 : m_X9_isUnit M u = some (1, M)) (s3 : M.2 2 u = s) (hs : 1 ≤ s ∧ s ≤ 12) (hu : 0 ≤ u ∧ u < 20) (h : ¬ (0 ≤ a ∧ a < s)) : mE3 z1 z2 M u a w = some (0, zset M 0 1) := by
  simp (disch := first | omega | (simp only [zset_e]; omega)) only [mE3, hU9, p_X9_between, ↓zbd_s, ↓zb_p, ↓zb_n, ↓zj1, ↓zj0, ↓if_neg, ↓if_pos, ↓zlt, ↓zld_p, ↓zar_p, s3, zset_e, if_true, if_false]
theorem q_ex9b {M : zSt} {u a w s : Int} {z1 : ((Int → zSt → Option zRes) → Int → zSt → Option zRes) → Int → zSt → Option zRes} {z2 : ((Int → Int → zSt → Option zRes) → Int → Int → zSt → Option zRes) → Int → Int → zSt → Option zRes} (hU9 : m_X9_isUnit M u = some (1, M)) (s3 : M.2 2 u = s) (hs : 1 ≤ s ∧ s ≤ 12) (hu : 0 ≤ u ∧ u < 20) (h : 0 ≤ a ∧ a < s) (h2 : ¬ (-1 ≤ w ∧ w ≤ 59)) : mE3 z1 z2 M u a w = some (0, zset M 0 2) := by
  simp (disch := first | omega | (simp only [zset_e]; omega)) only [mE3, hU9, p_X9_between, ↓zbd_s, ↓zb_p, ↓zb_n, ↓zj1, ↓zj0, ↓if_neg, ↓if_pos, ↓zlt, ↓zld_p, ↓zar_p, s3, zset_e, if_true, if_false]
theorem q_ex9c {M : zSt} {u a s : Int} {z1 : ((Int → zSt → Option zRes) → Int → zSt → Option zRes) → Int → zSt → Option zRes} {z2 : ((Int → Int → zSt → Option zRes) → Int → Int → zSt → Option zRes) → Int → Int → zSt → Option zRes} (hU9 : m_X9_isUnit M u = some (1, M)) (s3 : M.2 2 u = s) (hs : s = 1) (hu : 0 ≤ u ∧ u < 20) (h : 0 ≤ a ∧ a < s) : mE3 z1 z2 M u a (-1) = some (0, zset M 0 3) := by
  simp (disch := first | omega | (simp only [zset_e]; omega)) only [mE3, hU9, p_X9_between, ↓zbd_s, ↓zb_p, ↓zb_n, ↓zj1, ↓zj0, ↓if_neg, ↓if_pos, ↓zlt, ↓zld_p, ↓zar_p, s3, zset_e, if_true, if_false]
theorem q_ex9d {M : zSt} {u a w : Int} {z1 : ((Int → zSt → Option zRes) → Int → zSt → Option zRes) → Int → zSt → Option zRes} {z2 : ((Int → Int → zSt → Option zRes) → Int → Int → zSt → Option zRes) → Int → Int → zSt → Option zRes} (hU9 : m_X9_isUnit M u = some (0, M)) : mE3 z1 z2 M u a w = some (0, zset M 0 1) := by
  simp (disch := first | omega | (simp only [zset_e]; omega)) only [mE3, hU9, ↓zbd_s, ↓zj1, ↓zj0, ↓if_neg, ↓if_pos, ↓zlt, zset_e]
theorem s_emx {C M : zSt} {u a w : Int} (hJ : J C M) (hu : 0 ≤ u ∧ u < C.1 1) (hz : m_X7_sizeOf C u = some (C.2 2 u, C)) (hp : m_X7_hasPlace C u a = some (zb (0 ≤ a ∧ a < C.2 2 u), C)) (h : ¬ (0 ≤ a ∧ a < C.2 2 u) ∨ ¬ (-1 ≤ w ∧ w ≤ 59) ∨ (w = -1 ∧ C.2 2 u = 1)) : Sim ["java/lang/IndexOutOfBoundsException", "java/lang/IllegalArgumentException", "java/lang/IllegalStateException"] (m_X9_emend M u a w) (m_X8_emend C u a w) := by
  obtain ⟨hRG, hP, hT, hA, hC, hR, hF, hE⟩ := id hJ
  obtain ⟨t1, t2, t3, t4, t5⟩ := id hT
  obtain ⟨s1, s2, s3⟩ := t4 u hu.1 hu.2
  have hU9 : m_X9_isUnit M u = some (1, M) := by rw [p_X9_isUnit _ _ (by omega), zb_p (by omega)]
  have th := hJ.thr
  clear hJ hRG hP hT hA hC hR hF hE t4 t5
  by_cases ha : 0 ≤ a ∧ a < C.2 2 u
  · rw [zb_p ha] at hp
    by_cases h3 : -1 ≤ w ∧ w ≤ 59
    · have h4 : w = -1 := by omega
      have h5 : C.2 2 u = 1 := by omega
      subst h4
      have a1 : m_X9_emend M u a (-1) = some (0, zset M 0 3) := by
        rw [mE3_e]
        exact q_ex9c hU9 s3 h5 ⟨hu.1, by omega⟩ ha
      have a2 : m_X8_emend C u a (-1) = some (.inr ("java/lang/IllegalStateException", C)) := by
        clear th
        simp (disch := omega) only [m_X8_emend, hp, p_X8_needArgument, hz, zlt, zbd_s, zbx_l, zbx_r, zj0, zj1, zj2, zj3, zset_2, zput_1, if_true, if_false, zar_p, zld_p, zst_p, zdv_p, zrm_p, zc01_p, zb_p, zb_n, if_pos, if_neg]
      exact Sim.no a1 a2 (by decide) rfl (th 3)
    · have a1 : m_X9_emend M u a w = some (0, zset M 0 2) := by
        rw [mE3_e]
        exact q_ex9b hU9 s3 ⟨s1, s2⟩ ⟨hu.1, by omega⟩ ha h3
      have a2 : m_X8_emend C u a w = some (.inr ("java/lang/IllegalArgumentException", C)) := by
        clear th
        simp (disch := omega) only [m_X8_emend, hp, p_X8_needArgument, hz, zlt, zbd_s, zbx_l, zbx_r, zj0, zj1, zj2, zj3, zset_2, zput_1, if_true, if_false, zar_p, zld_p, zst_p, zdv_p, zrm_p, zc01_p, zb_p, zb_n, if_pos, if_neg]
      exact Sim.no a1 a2 (by decide) rfl (th 2)
  · have a1 : m_X9_emend M u a w = some (0, zset M 0 1) := by
      rw [mE3_e]
      exact q_ex9a hU9 s3 ⟨s1, s2⟩ ⟨hu.1, by omega⟩ ha
    have a2 : m_X8_emend C u a w = some (.inr ("java/lang/IndexOutOfBoundsException", C)) := by
      rw [zb_n ha] at hp
      clear th
      simp (disch := omega) only [m_X8_emend, hp, p_X8_needArgument, hz, zlt, zbd_s, zbx_l, zbx_r, zj0, zj1, zj2, zj3, zset_2, zput_1, if_true, if_false, zar_p, zld_p, zst_p, zdv_p, zrm_p, zc01_p, zb_p, zb_n, if_pos, if_neg]
    exact Sim.no a1 a2 (by decide) rfl (th 1)
theorem s_emend {C M : zSt} {u a w : Int} (hJ : J C M) : Sim ["java/lang/IndexOutOfBoundsException", "java/lang/IllegalArgumentException", "java/lang/IllegalStateException"] (m_X9_emend M u a w) (m_X8_emend C u a w) := by
  obtain ⟨hRG, hP, hT, hA, hC, hR, hF, hE⟩ := id hJ
  obtain ⟨t1, t2, t3, t4, t5⟩ := id hT
  obtain ⟨c1, c2, c3, c4, c5⟩ := id hC
  by_cases hu : 0 ≤ u ∧ u < C.1 1
  · have hp : m_X7_hasPlace C u a = some (zb (0 ≤ a ∧ a < C.2 2 u), C) := by rw [p_X7_hasPlace _ _ _ t2, if_pos hu]
    have hz : m_X7_sizeOf C u = some (C.2 2 u, C) := by rw [p_X7_sizeOf _ _ t2, if_pos hu]
    have hpl : ∀ i, 0 ≤ i → i < C.1 3 → C.2 11 i = -1 → 0 ≤ C.2 14 i ∧ C.2 14 i ≤ 12 := fun i j1 j2 q => by
      obtain ⟨z1, z2, -, -, z5, z6⟩ := (c4 i j1 j2).2.2.2.2.2.2.2 q
      have := t4 _ z1 z2
      omega
    by_cases h : ¬ (0 ≤ a ∧ a < C.2 2 u) ∨ ¬ (-1 ≤ w ∧ w ≤ 59) ∨ (w = -1 ∧ C.2 2 u = 1)
    · exact s_emx hJ hu hz hp h
    · have ha : 0 ≤ a ∧ a < C.2 2 u := by omega
      rw [zb_p ha] at hp
      by_cases h4 : w = -1
      · have h5 : ¬ C.2 2 u = 1 := by omega
        subst h4
        exact s_emr hJ hu ha h5 hpl hp hz
      · exact s_emq hJ hu ha (by omega) h4 hpl hp
  · have hU9 : m_X9_isUnit M u = some (0, M) := by rw [p_X9_isUnit _ _ (by omega), zb_n (by omega)]
    have hp : m_X7_hasPlace C u a = some (0, C) := by rw [p_X7_hasPlace _ _ _ t2, if_neg hu, zb_n (by omega)]
    have a1 : m_X9_emend M u a w = some (0, zset M 0 1) := by
      rw [mE3_e]
      exact q_ex9d hU9
    have a2 : m_X8_emend C u a w = some (.inr ("java/lang/IndexOutOfBoundsException", C)) := by
      clear hJ hRG hP hT hA hC hR hF hE t4 t5 c4 c5
      simp (disch := omega) only [m_X8_emend, hp, zlt, zbd_s, zbx_l, zbx_r, zj0, zj1, zj2, zj3, zset_2, zput_1, if_true, if_false, zar_p, zld_p, zst_p, zdv_p, zrm_p, zc01_p, zb_p, zb_n, if_pos, if_neg]
    exact Sim.no a1 a2 (by decide) rfl (hJ.thr 1)

