/-! setting as a whole -/
def zB (C : zSt) (w : Int) : zSt := (fun q => if q = 6 then 0 else if q = 5 then 0 else if q = 8 then 0 else if q = 7 then w else C.1 q, C.2)
noncomputable def zD (C : zSt) (w : Int) (f g : Int → Int) : zSt := zrp (zrp (zB C w) 22 f) 23 g
theorem zD_self (C : zSt) (w : Int) (f g : Int → Int) : zq (zD C w f g) 0 0 0 (C.2 24) = zD C w f g := by
  refine Prod.ext (funext fun q => ?_) (funext fun q => ?_)
  · show (if q = 8 then (0 : Int) else if q = 5 then 0 else if q = 6 then 0 else if q = 6 then 0 else if q = 5 then 0 else if q = 8 then 0 else if q = 7 then w else C.1 q) = (if q = 6 then 0 else if q = 5 then 0 else if q = 8 then 0 else if q = 7 then w else C.1 q)
    by_cases e8 : q = 8
    · subst e8; rfl
    · by_cases e5 : q = 5
      · subst e5; rfl
      · by_cases e6 : q = 6
        · subst e6; rfl
        · rw [if_neg e8, if_neg e5, if_neg e6]
  · show (if q = 24 then C.2 24 else (zD C w f g).2 q) = (zD C w f g).2 q
    by_cases e : q = 24
    · subst e; rfl
    · rw [if_neg e]
theorem zm_self (M : zSt) : zset M 7 0 = zm M 0 (M.2 23) (M.2 24) := by
  refine Prod.ext rfl (funext fun q => ?_)
  show M.2 q = (if q = 23 then M.2 23 else if q = 24 then M.2 24 else M.2 q)
  by_cases e : q = 23
  · subst e; rfl
  · by_cases e2 : q = 24
    · subst e2; rfl
    · rw [if_neg e, if_neg e2]
def zhg (a b c : Int) : Int := if a < (if b < c then c else b) then (if b < c then c else b) else a
noncomputable def mS6 (z : ((Int → zSt → Option zRes) → Int → zSt → Option zRes) → Int → zSt → Option zRes) (S : zSt) (a1 : Int) : Option zRes := zlt (zset S 7 a1) fun S1 => zlt (zset S1 8 0) fun S2 => zbd (m_X3i_clear S2) fun x1 S3 => zbd (m_X3o_clear S3) fun x2 S4 => zbd (m_X6_gatherNotes S4) fun x3 S5 => z b_X6_set_32 0 S5
theorem mS6_e (S : zSt) (a1 : Int) : m_X6_set S a1 = mS6 (zl1 1000) S a1 := rfl
noncomputable def mS9 (z : ((Int → Int → Int → Int → zSt → Option zRes) → Int → Int → Int → Int → zSt → Option zRes) → Int → Int → Int → Int → zSt → Option zRes) (S : zSt) (a1 : Int) : Option zRes := zlt (zset S 7 0) fun S1 => zj2 (fun (v1 : Int) (v2 : Int) (S2 : zSt) => zar (v1 - 1) fun x1 => zlt (S2.1 7) fun x2 => zj1 (fun (v3 : Int) (S3 : zSt) => zlt (zset S3 7 v3) fun S4 => zar (v2 - 1) fun x3 => zlt (S4.1 7) fun x4 => zj1 (fun (v4 : Int) (S5 : zSt) => zlt (zset S5 7 v4) fun S6 => some (0, S6)) fun j1 => if x3 ≤ x4 then (zlt (S4.1 7) fun x5 => j1 x5 S4) else (zar (v2 - 1) fun x6 => j1 x6 S4)) fun j2 => if x1 ≤ x2 then (zlt (S2.1 7) fun x7 => j2 x7 S2) else (zar (v1 - 1) fun x8 => j2 x8 S2)) fun j3 => z (b_X9_set_15 a1 j3) (-1) 0 0 0 S1
theorem mS9_e (S : zSt) (a1 : Int) : m_X9_set S a1 = mS9 (zl4 1000) S a1 := rfl
theorem q_fin {M : zSt} {last b c : Int} {ur nr : Int → Int} {z : ((Int → Int → Int → Int → zSt → Option zRes) → Int → Int → Int → Int → zSt → Option zRes) → Int → Int → Int → Int → zSt → Option zRes} {w : Int} (h0 : 0 ≤ last ∧ last ≤ 200000) (h1 : 0 ≤ b ∧ b ≤ 200000) (h2 : 0 ≤ c ∧ c ≤ 200000) (h : ∀ j3 : Int → Int → zSt → Option zRes, z (b_X9_set_15 w j3) (-1) 0 0 0 (zset M 7 0) = j3 b c (zm M last ur nr)) : mS9 z M w = some (0, zm M (zhg (last + 1) b c - 1) ur nr) := by
  have q2 : ∀ a f g, (zm M a f g).1 7 = a := fun _ _ _ => rfl
  have e : zhg (last + 1) b c = (if last + 1 < b then (if b < c then c else b) else if last + 1 < c then c else last + 1) := by
    unfold zhg
    repeat' split
    all_goals omega
  by_cases c1 : last + 1 < b
  · rw [if_pos c1] at e
    by_cases c2 : b < c
    · rw [if_pos c2] at e
      rw [e]
      simp (disch := omega) only [mS9, ↓h, ↓zlt, ↓zj1, ↓zj2, ↓zar_p, ↓if_neg, zm_7, q2]
    · rw [if_neg c2] at e
      rw [e]
      by_cases c3 : b - 1 = c - 1
      · simp (disch := omega) only [mS9, ↓h, ↓zlt, ↓zj1, ↓zj2, ↓zar_p, ↓if_neg, ↓if_pos, zm_7, q2]
      · simp (disch := omega) only [mS9, ↓h, ↓zlt, ↓zj1, ↓zj2, ↓zar_p, ↓if_neg, ↓if_pos, zm_7, q2]
  · rw [if_neg c1] at e
    by_cases c2 : last + 1 < c
    · rw [if_pos c2] at e
      rw [e]
      simp (disch := omega) only [mS9, ↓h, ↓zlt, ↓zj1, ↓zj2, ↓zar_p, ↓if_neg, ↓if_pos, zm_7, q2]
    · rw [if_neg c2] at e
      rw [e, Int.add_sub_cancel]
      simp (disch := omega) only [mS9, ↓h, ↓zlt, ↓zj1, ↓zj2, ↓zar_p, ↓if_pos, zm_7, q2]
/-- the setting on both sides -/
theorem q_set {C M : zSt} {w : Int} (hT : jTxt C M) (hC : jCom C M) (hw : 1 ≤ w ∧ w ≤ 12) (h0 : 0 < C.1 1) : ∃ (f1 g1 : Int → Int) (a b c : Int) (f ur nr : Int → Int), m_X6_set C w = some (0, zq (zD C w f1 g1) a b c f) ∧ m_X9_set M w = some (0, zm M (zhg a b c - 1) ur nr) ∧ (1 ≤ a ∧ a ≤ 200000) ∧ (0 ≤ b ∧ b ≤ 200000) ∧ (0 ≤ c ∧ c ≤ 200000) ∧ (∀ x, 0 ≤ x → x < C.1 1 → ur x = f (12 * x) ∧ 0 ≤ f (12 * x) ∧ f (12 * x) ≤ 200000) ∧ ∀ i, 0 ≤ i → i < C.1 3 → C.2 16 (C.2 12 i) = 0 → nr i = f (zln C w i) + rs (zH C w (C.2 10 i) (zln C w i)) 0 i.toNat ∧ 0 ≤ f (zln C w i) ∧ f (zln C w i) ≤ 200000 := by
  have hk := zok_of hT hC
  have hr := zrel_of hC
  obtain ⟨c1, c2, c3, -⟩ := hC
  obtain ⟨t1, t2, t3, t4, t5⟩ := hT
  obtain ⟨f1, g1, H1, H2⟩ := q_gat (B := zB C w) (w := w) (n := C.1 3) rfl ⟨c1, c2⟩ t2 rfl hw hk (fun t => if 0 ≤ t ∧ t < 240 then 0 else C.2 22 t) (fun t => if 0 ≤ t ∧ t < 240 then 0 else C.2 23 t) (fun l l1 l2 => ⟨if_pos ⟨l1, l2⟩, if_pos ⟨l1, l2⟩⟩)
  have I0 : zIv (zD C w f1 g1) w (C.1 3) 0 0 0 0 0 (C.2 24) (M.2 23) (M.2 24) 0 := by
    refine ⟨by omega, fun x x1 x2 => by omega, fun i j1 j2 j3 j4 => ?_⟩
    have k := hk i j1 j2
    have j4 : C.2 13 (C.2 12 i) < 0 ∨ (C.2 13 (C.2 12 i) = 0 ∧ C.2 14 (C.2 12 i) < 0) := j4
    omega
  obtain ⟨a, b, c, last, f, ur, nr, J1, J2, J3⟩ := q_out (D := zD C w f1 g1) (M := M) (n := C.1 3) (w := w) (U := C.1 1) c3 ⟨c1, c2⟩ hk hr rfl t3 ⟨t1, t2⟩ (fun u u1 u2 => t4 u u1 u2) rfl hw H2 (C.1 1).toNat 0 0 0 0 0 (C.2 24) (M.2 23) (M.2 24) 1000 1000 (by omega) (by omega) (by omega) (by omega) I0
  obtain ⟨⟨b1, b2, b3, b4, b5⟩, i1, i2⟩ := J3
  rw [zD_self] at J1
  have b5 := b5 (by omega)
  refine ⟨f1, g1, a, b, c, f, ur, nr, ?_, ?_, by omega, by omega, by omega, fun x x1 x2 => i1 x x1 (Or.inl x2), fun i j1 j2 j3 => i2 i j1 j2 j3 (Or.inl (hk i j1 j2).2.1.2)⟩
  · rw [mS6_e]
    have e4 : zset (zfl (zset (zfl (zset (zset C 7 w) 8 0) 22 240 0) 5 0) 23 240 0) 6 0 = zrp (zrp (zB C w) 22 (fun t => if 0 ≤ t ∧ t < 240 then 0 else C.2 22 t)) 23 (fun t => if 0 ≤ t ∧ t < 240 then 0 else C.2 23 t) := rfl
    have J1 : zl1 1000 b_X6_set_32 0 (zrp (zrp (zB C w) 22 f1) 23 g1) = some (0, zq (zD C w f1 g1) a b c f) := J1
    clear J2 i1 i2 H2 I0 hk hr
    generalize zl1 (R := zRes) 1000 = zz at *
    simp only [mS6, m_X3i_clear, m_X3o_clear, zlt, zbd_s, e4, H1, J1]
  · rw [mS9_e]
    have J2 : ∀ j3 : Int → Int → zSt → Option zRes, zl4 1000 (b_X9_set_15 w j3) (-1) 0 0 0 (zset M 7 0) = j3 b c (zm M last ur nr) := fun j3 => by
      have t := J2 j3
      rw [show (0 : Int) - 1 = -1 from rfl] at t
      rw [zm_self]; exact t
    have t := q_fin (by omega) (by omega) (by omega) J2
    rw [show last + 1 = a by omega] at t
    exact t

