/-! setting: one line on both sides -/
def zi1 (h r b : Int) : Int := if h ≤ 0 then b else r
theorem zr1_n1 {h a b : Int} (c : 0 < h) (d : b ≤ a) : zr1 h a b = a := by rw [zr1_n c, if_neg (by omega)]
theorem zr1_n2 {h a b : Int} (c : 0 < h) (d : a < b) : zr1 h a b = b := by rw [zr1_n c, if_pos d]
theorem zf1_p {h r b : Int} (c : h = 0) : zf1 h r b = b + h := by
  subst c; show (if (0 : Int) ≤ 0 then b else r + 0) = b + 0
  rw [if_pos (Int.le_refl _)]; omega
theorem zf1_n {h r b : Int} (c : 0 < h) : zf1 h r b = r + h := if_neg (by omega)
theorem zi1_p {h r b : Int} (c : h = 0) : zi1 h r b = b := if_pos (by omega)
theorem zi1_n {h r b : Int} (c : 0 < h) : zi1 h r b = r := if_neg (by omega)
theorem q_step {C M : zSt} {n w u p m a b c last : Int} {ur nr : Int → Int} {j4 : Int → Int → Int → zSt → Option zRes} {rec : Int → Int → Int → Int → zSt → Option zRes} (hS : M.1 4 = n) (hn : 0 ≤ n ∧ n ≤ 60) (hk : zok C n) (hr : zrel C M n) (hs : M.2 2 u = m) (hp : 0 ≤ p ∧ p < m) (hpw : p % w = 0) (hm : m ≤ 12) (hu : 0 ≤ u ∧ u < 20) (hw : 1 ≤ w ∧ w ≤ 12) (b1 : 0 ≤ a ∧ a ≤ 500000) (b2 : 0 ≤ b ∧ b ≤ 500000) (b3 : 0 ≤ c ∧ c ≤ 500000) (hl : last ≤ a) : ∀ h0 h1 : Int, h0 = rs (zH C w 0 (12 * u + p)) 0 n.toNat → h1 = rs (zH C w 1 (12 * u + p)) 0 n.toNat → b_X9_set_27 w j4 u rec (a - 1) b c p (zm M last ur nr) = rec (zr1 h1 (zr1 h0 a b) c) (zf1 h0 (zr1 h1 (zr1 h0 a b) c) b) (zf1 h1 (zr1 h1 (zr1 h0 a b) c) c) (p + w) (zm M (zr1 h1 (zr1 h0 a b) c) (zfu ur u (if p = 0 then (zr1 h1 (zr1 h0 a b) c) else ur u)) (zne C w (12 * u + p) (zi1 h0 (zr1 h1 (zr1 h0 a b) c) b) (zi1 h1 (zr1 h1 (zr1 h0 a b) c) c) nr n)) := by
  intro h0 h1 e0 e1
  have s0 := zHs_b hk w 0 (12 * u + p) n.toNat (by omega)
  have s1 := zHs_b hk w 1 (12 * u + p) n.toNat (by omega)
  have hh := fun j : Int → Int → zSt → Option zRes => q_has (j := j) (S := zm M last ur nr) (u := u) hS hn hk hr hw ⟨hp.1, show p < 12 by omega, hpw⟩
  have hn2 := fun (j : Int → Int → zSt → Option zRes) (x y : Int) (f : Int → Int) (hx : 0 ≤ x ∧ x ≤ 1000000) (hy : 0 ≤ y ∧ y ≤ 1000000) => q_nts (j := j) (a := last) (ur := f) (nr := nr) (u := u) hS hn hk hr hw ⟨hp.1, show p < 12 by omega, hpw⟩ hx hy
  simp only [← e0, ← e1] at hh hn2 s0 s1
  rw [bS27_e]
  by_cases c1 : h0 = 0
  · by_cases c3 : h1 = 0
    · have er : zr1 h1 (zr1 h0 a b) c = a := by rw [show zr1 h0 a b = a from zr1_p (by omega)]; exact zr1_p (by omega)
      rw [er, zf1_p (h := h0) (by omega), zf1_p (h := h1) (by omega), zi1_p (h := h0) (by omega), zi1_p (h := h1) (by omega)]
      exact q_st00 (Z := fun x y => zne C w (12 * u + p) x y nr n) (by omega) (by omega) hs hp hm hu hw (by omega) (by omega) (by omega) (by omega) (by omega) hl (fun j => by rw [hh j, zb_n (c := 0 < h0) (by omega), zb_n (c := 0 < h1) (by omega)]) hn2
    · by_cases c4 : c ≤ a
      · have er : zr1 h1 (zr1 h0 a b) c = a := by rw [show zr1 h0 a b = a from zr1_p (by omega)]; exact zr1_n1 (by omega) (by omega)
        rw [er, zf1_p (h := h0) (by omega), zf1_n (h := h1) (by omega), zi1_p (h := h0) (by omega), zi1_n (h := h1) (by omega)]
        exact q_st01 (Z := fun x y => zne C w (12 * u + p) x y nr n) (by omega) ⟨by omega, by omega⟩ hs hp hm hu hw (by omega) (by omega) (by omega) (by omega) (by omega) hl (fun j => by rw [hh j, zb_n (c := 0 < h0) (by omega), zb_p (c := 0 < h1) (by omega)]) hn2
      · have er : zr1 h1 (zr1 h0 a b) c = c := by rw [show zr1 h0 a b = a from zr1_p (by omega)]; exact zr1_n2 (by omega) (by omega)
        rw [er, zf1_p (h := h0) (by omega), zf1_n (h := h1) (by omega), zi1_p (h := h0) (by omega), zi1_n (h := h1) (by omega)]
        exact q_st02 (Z := fun x y => zne C w (12 * u + p) x y nr n) (by omega) ⟨by omega, by omega⟩ hs hp hm hu hw (by omega) (by omega) (by omega) (by omega) (by omega) hl (fun j => by rw [hh j, zb_n (c := 0 < h0) (by omega), zb_p (c := 0 < h1) (by omega)]) hn2
  · by_cases c2 : b ≤ a
    · by_cases c3 : h1 = 0
      · have er : zr1 h1 (zr1 h0 a b) c = a := by rw [show zr1 h0 a b = a from zr1_n1 (by omega) (by omega)]; exact zr1_p (by omega)
        rw [er, zf1_n (h := h0) (by omega), zf1_p (h := h1) (by omega), zi1_n (h := h0) (by omega), zi1_p (h := h1) (by omega)]
        exact q_st10 (Z := fun x y => zne C w (12 * u + p) x y nr n) ⟨by omega, by omega⟩ (by omega) hs hp hm hu hw (by omega) (by omega) (by omega) (by omega) (by omega) hl (fun j => by rw [hh j, zb_p (c := 0 < h0) (by omega), zb_n (c := 0 < h1) (by omega)]) hn2
      · by_cases c4 : c ≤ a
        · have er : zr1 h1 (zr1 h0 a b) c = a := by rw [show zr1 h0 a b = a from zr1_n1 (by omega) (by omega)]; exact zr1_n1 (by omega) (by omega)
          rw [er, zf1_n (h := h0) (by omega), zf1_n (h := h1) (by omega), zi1_n (h := h0) (by omega), zi1_n (h := h1) (by omega)]
          exact q_st11 (Z := fun x y => zne C w (12 * u + p) x y nr n) ⟨by omega, by omega⟩ ⟨by omega, by omega⟩ hs hp hm hu hw (by omega) (by omega) (by omega) (by omega) (by omega) hl (fun j => by rw [hh j, zb_p (c := 0 < h0) (by omega), zb_p (c := 0 < h1) (by omega)]) hn2
        · have er : zr1 h1 (zr1 h0 a b) c = c := by rw [show zr1 h0 a b = a from zr1_n1 (by omega) (by omega)]; exact zr1_n2 (by omega) (by omega)
          rw [er, zf1_n (h := h0) (by omega), zf1_n (h := h1) (by omega), zi1_n (h := h0) (by omega), zi1_n (h := h1) (by omega)]
          exact q_st12 (Z := fun x y => zne C w (12 * u + p) x y nr n) ⟨by omega, by omega⟩ ⟨by omega, by omega⟩ hs hp hm hu hw (by omega) (by omega) (by omega) (by omega) (by omega) hl (fun j => by rw [hh j, zb_p (c := 0 < h0) (by omega), zb_p (c := 0 < h1) (by omega)]) hn2
    · by_cases c3 : h1 = 0
      · have er : zr1 h1 (zr1 h0 a b) c = b := by rw [show zr1 h0 a b = b from zr1_n2 (by omega) (by omega)]; exact zr1_p (by omega)
        rw [er, zf1_n (h := h0) (by omega), zf1_p (h := h1) (by omega), zi1_n (h := h0) (by omega), zi1_p (h := h1) (by omega)]
        exact q_st20 (Z := fun x y => zne C w (12 * u + p) x y nr n) ⟨by omega, by omega⟩ (by omega) hs hp hm hu hw (by omega) (by omega) (by omega) (by omega) (by omega) hl (fun j => by rw [hh j, zb_p (c := 0 < h0) (by omega), zb_n (c := 0 < h1) (by omega)]) hn2
      · by_cases c4 : c ≤ b
        · have er : zr1 h1 (zr1 h0 a b) c = b := by rw [show zr1 h0 a b = b from zr1_n2 (by omega) (by omega)]; exact zr1_n1 (by omega) (by omega)
          rw [er, zf1_n (h := h0) (by omega), zf1_n (h := h1) (by omega), zi1_n (h := h0) (by omega), zi1_n (h := h1) (by omega)]
          exact q_st21 (Z := fun x y => zne C w (12 * u + p) x y nr n) ⟨by omega, by omega⟩ ⟨by omega, by omega⟩ hs hp hm hu hw (by omega) (by omega) (by omega) (by omega) (by omega) hl (fun j => by rw [hh j, zb_p (c := 0 < h0) (by omega), zb_p (c := 0 < h1) (by omega)]) hn2
        · have er : zr1 h1 (zr1 h0 a b) c = c := by rw [show zr1 h0 a b = b from zr1_n2 (by omega) (by omega)]; exact zr1_n2 (by omega) (by omega)
          rw [er, zf1_n (h := h0) (by omega), zf1_n (h := h1) (by omega), zi1_n (h := h0) (by omega), zi1_n (h := h1) (by omega)]
          exact q_st22 (Z := fun x y => zne C w (12 * u + p) x y nr n) ⟨by omega, by omega⟩ ⟨by omega, by omega⟩ hs hp hm hu hw (by omega) (by omega) (by omega) (by omega) (by omega) hl (fun j => by rw [hh j, zb_p (c := 0 < h0) (by omega), zb_p (c := 0 < h1) (by omega)]) hn2
