/-! setting: the reference's step, nine cases -/
theorem zm_st {R : Type} {M : zSt} {a i v : Int} {f g : Int → Int} {k : zSt → Option R} (h : 0 ≤ i ∧ i < 20) : zst (zm M a f g) 23 20 i v k = k (zm M a (zfu f i v) g) := by
  rw [zst_p h, zm_23]
noncomputable def bS27 (z : ((Int → Int → Int → zSt → Option zRes) → Int → Int → Int → zSt → Option zRes) → Int → Int → Int → zSt → Option zRes) (a1 : Int) (j4 : Int → Int → Int → zSt → Option zRes) (v8 : Int) (rec2 : Int → Int → Int → Int → zSt → Option zRes) (v12 : Int) (v13 : Int) (v14 : Int) (v15 : Int) (S9 : zSt) : Option zRes := zld (S9.2 2) 20 v8 fun x11 => if x11 ≤ v15 then (j4 v12 v13 v14 S9) else (zar (v15 + a1) fun x12 => zar (x12 - 1) fun x13 => zj2 (fun (v16 : Int) (v17 : Int) (S10 : zSt) => zar (v12 + 1) fun x14 => zj1 (fun (v18 : Int) (S11 : zSt) => zj1 (fun (v19 : Int) (S12 : zSt) => zj1 (fun (v20 : Int) (S13 : zSt) => zst S13 23 20 v8 v20 fun S14 => zj1 (fun (v21 : Int) (S15 : zSt) => zj1 (fun (v22 : Int) (S16 : zSt) => zj2 (fun (v23 : Int) (v24 : Int) (S17 : zSt) => zlt (S17.1 7) fun x15 => zj1 (fun (v25 : Int) (S18 : zSt) => zlt (zset S18 7 v25) fun S19 => zar (v15 + a1) fun x16 => rec2 v19 v23 v24 x16 S19) fun j5 => if v19 ≤ x15 then (zlt (S17.1 7) fun x17 => j5 x17 S17) else (j5 v19 S17)) fun j6 => z (b_X9_set_227 j6 v15 v8 x13) v21 v22 0 S16) fun j11 => if v17 = 0 then (j11 v14 S15) else (j11 v19 S15)) fun j12 => if v16 = 0 then (j12 v13 S14) else (j12 v19 S14)) fun j13 => if v15 = 0 then (j13 v19 S12) else (zld (S12.2 23) 20 v8 fun x28 => j13 x28 S12)) fun j14 => zj0 (fun (S27 : zSt) => j14 v18 S27) fun j15 => if v17 = 0 then (j15 S11) else (if v14 ≤ v18 then (j15 S11) else (j14 v14 S11))) fun j16 => zj0 (fun (S28 : zSt) => j16 x14 S28) fun j17 => if v16 = 0 then (j17 S10) else (if v13 ≤ x14 then (j17 S10) else (j16 v13 S10))) fun j18 => z (b_X9_set_56 j18 v15 v8 x13) 0 0 0 S9)
theorem bS27_e (a1 : Int) (j4 : Int → Int → Int → zSt → Option zRes) (v8 : Int) (rec2 : Int → Int → Int → Int → zSt → Option zRes) (v12 v13 v14 v15 : Int) (S9 : zSt) : b_X9_set_27 a1 j4 v8 rec2 v12 v13 v14 v15 S9 = bS27 (zl3 1000) a1 j4 v8 rec2 v12 v13 v14 v15 S9 := rfl
theorem q_st00 {M : zSt} {w u p m nx inn out last h0 h1 : Int} {z : ((Int → Int → Int → zSt → Option zRes) → Int → Int → Int → zSt → Option zRes) → Int → Int → Int → zSt → Option zRes} {ur nr : Int → Int} {Z : Int → Int → Int → Int} {j4 : Int → Int → Int → zSt → Option zRes} {rec : Int → Int → Int → Int → zSt → Option zRes} (hA : h0 = 0) (hB : h1 = 0) (hs : M.2 2 u = m) (hp : 0 ≤ p ∧ p < m) (hm : m ≤ 12) (hu : 0 ≤ u ∧ u < 20) (hw : 1 ≤ w ∧ w ≤ 12) (b1 : 0 ≤ nx ∧ nx ≤ 1000000) (b2 : 0 ≤ inn ∧ inn ≤ 1000000) (b3 : 0 ≤ out ∧ out ≤ 1000000) (b4 : 0 ≤ h0 ∧ h0 ≤ 1000) (b5 : 0 ≤ h1 ∧ h1 ≤ 1000) (hl : last ≤ nx) (hh : ∀ j : Int → Int → zSt → Option zRes, z (b_X9_set_56 j p u (p + w - 1)) 0 0 0 (zm M last ur nr) = j 0 0 (zm M last ur nr)) (hn : ∀ (j : Int → Int → zSt → Option zRes) (x y : Int) (f : Int → Int), 0 ≤ x ∧ x ≤ 1000000 → 0 ≤ y ∧ y ≤ 1000000 → z (b_X9_set_227 j p u (p + w - 1)) x y 0 (zm M last f nr) = j (x + h0) (y + h1) (zm M last f (fun c => Z x y c))) : bS27 z w j4 u rec (nx - 1) inn out p (zm M last ur nr) = rec nx (inn + h0) (out + h1) (p + w) (zm M nx (zfu ur u (if p = 0 then nx else ur u)) (fun c => Z inn out c)) := by
  have q1 : ∀ a f g, (zm M a f g).2 2 u = m := fun _ _ _ => hs
  have q2 : ∀ a f g, (zm M a f g).1 7 = a := fun _ _ _ => rfl
  have q3 : ∀ a f g, (zm M a f g).2 23 = f := fun _ _ _ => rfl
  by_cases c1 : p = 0
  · rw [if_pos c1]
    by_cases c2 : nx ≤ last
    · first
        | (exfalso; omega)
        | (have q4 : last = nx := by omega
           simp (disch := first | omega | (simp only [q1, q2, q3]; omega)) only [bS27, ↓zlt, ↓zj0, ↓zj1, ↓zj2, ↓zar_p, ↓zld_p, ↓zm_st, ↓if_pos, ↓if_neg, ↓hh, ↓hn, zm_7, q1, q2, q3, Int.sub_add_cancel]
           rw [q4])
    · simp (disch := first | omega | (simp only [q1, q2, q3]; omega)) only [bS27, ↓zlt, ↓zj0, ↓zj1, ↓zj2, ↓zar_p, ↓zld_p, ↓zm_st, ↓if_pos, ↓if_neg, ↓hh, ↓hn, zm_7, q1, q2, q3, Int.sub_add_cancel]
  · rw [if_neg c1]
    by_cases c2 : nx ≤ last
    · first
        | (exfalso; omega)
        | (have q4 : last = nx := by omega
           simp (disch := first | omega | (simp only [q1, q2, q3]; omega)) only [bS27, ↓zlt, ↓zj0, ↓zj1, ↓zj2, ↓zar_p, ↓zld_p, ↓zm_st, ↓if_pos, ↓if_neg, ↓hh, ↓hn, zm_7, q1, q2, q3, Int.sub_add_cancel]
           rw [q4])
    · simp (disch := first | omega | (simp only [q1, q2, q3]; omega)) only [bS27, ↓zlt, ↓zj0, ↓zj1, ↓zj2, ↓zar_p, ↓zld_p, ↓zm_st, ↓if_pos, ↓if_neg, ↓hh, ↓hn, zm_7, q1, q2, q3, Int.sub_add_cancel]
theorem q_st01 {M : zSt} {w u p m nx inn out last h0 h1 : Int} {z : ((Int → Int → Int → zSt → Option zRes) → Int → Int → Int → zSt → Option zRes) → Int → Int → Int → zSt → Option zRes} {ur nr : Int → Int} {Z : Int → Int → Int → Int} {j4 : Int → Int → Int → zSt → Option zRes} {rec : Int → Int → Int → Int → zSt → Option zRes} (hA : h0 = 0) (hB : 0 < h1 ∧ out ≤ nx) (hs : M.2 2 u = m) (hp : 0 ≤ p ∧ p < m) (hm : m ≤ 12) (hu : 0 ≤ u ∧ u < 20) (hw : 1 ≤ w ∧ w ≤ 12) (b1 : 0 ≤ nx ∧ nx ≤ 1000000) (b2 : 0 ≤ inn ∧ inn ≤ 1000000) (b3 : 0 ≤ out ∧ out ≤ 1000000) (b4 : 0 ≤ h0 ∧ h0 ≤ 1000) (b5 : 0 ≤ h1 ∧ h1 ≤ 1000) (hl : last ≤ nx) (hh : ∀ j : Int → Int → zSt → Option zRes, z (b_X9_set_56 j p u (p + w - 1)) 0 0 0 (zm M last ur nr) = j 0 1 (zm M last ur nr)) (hn : ∀ (j : Int → Int → zSt → Option zRes) (x y : Int) (f : Int → Int), 0 ≤ x ∧ x ≤ 1000000 → 0 ≤ y ∧ y ≤ 1000000 → z (b_X9_set_227 j p u (p + w - 1)) x y 0 (zm M last f nr) = j (x + h0) (y + h1) (zm M last f (fun c => Z x y c))) : bS27 z w j4 u rec (nx - 1) inn out p (zm M last ur nr) = rec nx (inn + h0) (nx + h1) (p + w) (zm M nx (zfu ur u (if p = 0 then nx else ur u)) (fun c => Z inn nx c)) := by
  have q1 : ∀ a f g, (zm M a f g).2 2 u = m := fun _ _ _ => hs
  have q2 : ∀ a f g, (zm M a f g).1 7 = a := fun _ _ _ => rfl
  have q3 : ∀ a f g, (zm M a f g).2 23 = f := fun _ _ _ => rfl
  by_cases c1 : p = 0
  · rw [if_pos c1]
    by_cases c2 : nx ≤ last
    · first
        | (exfalso; omega)
        | (have q4 : last = nx := by omega
           simp (disch := first | omega | (simp only [q1, q2, q3]; omega)) only [bS27, ↓zlt, ↓zj0, ↓zj1, ↓zj2, ↓zar_p, ↓zld_p, ↓zm_st, ↓if_pos, ↓if_neg, ↓hh, ↓hn, zm_7, q1, q2, q3, Int.sub_add_cancel]
           rw [q4])
    · simp (disch := first | omega | (simp only [q1, q2, q3]; omega)) only [bS27, ↓zlt, ↓zj0, ↓zj1, ↓zj2, ↓zar_p, ↓zld_p, ↓zm_st, ↓if_pos, ↓if_neg, ↓hh, ↓hn, zm_7, q1, q2, q3, Int.sub_add_cancel]
  · rw [if_neg c1]
    by_cases c2 : nx ≤ last
    · first
        | (exfalso; omega)
        | (have q4 : last = nx := by omega
           simp (disch := first | omega | (simp only [q1, q2, q3]; omega)) only [bS27, ↓zlt, ↓zj0, ↓zj1, ↓zj2, ↓zar_p, ↓zld_p, ↓zm_st, ↓if_pos, ↓if_neg, ↓hh, ↓hn, zm_7, q1, q2, q3, Int.sub_add_cancel]
           rw [q4])
    · simp (disch := first | omega | (simp only [q1, q2, q3]; omega)) only [bS27, ↓zlt, ↓zj0, ↓zj1, ↓zj2, ↓zar_p, ↓zld_p, ↓zm_st, ↓if_pos, ↓if_neg, ↓hh, ↓hn, zm_7, q1, q2, q3, Int.sub_add_cancel]
theorem q_st02 {M : zSt} {w u p m nx inn out last h0 h1 : Int} {z : ((Int → Int → Int → zSt → Option zRes) → Int → Int → Int → zSt → Option zRes) → Int → Int → Int → zSt → Option zRes} {ur nr : Int → Int} {Z : Int → Int → Int → Int} {j4 : Int → Int → Int → zSt → Option zRes} {rec : Int → Int → Int → Int → zSt → Option zRes} (hA : h0 = 0) (hB : 0 < h1 ∧ nx < out) (hs : M.2 2 u = m) (hp : 0 ≤ p ∧ p < m) (hm : m ≤ 12) (hu : 0 ≤ u ∧ u < 20) (hw : 1 ≤ w ∧ w ≤ 12) (b1 : 0 ≤ nx ∧ nx ≤ 1000000) (b2 : 0 ≤ inn ∧ inn ≤ 1000000) (b3 : 0 ≤ out ∧ out ≤ 1000000) (b4 : 0 ≤ h0 ∧ h0 ≤ 1000) (b5 : 0 ≤ h1 ∧ h1 ≤ 1000) (hl : last ≤ nx) (hh : ∀ j : Int → Int → zSt → Option zRes, z (b_X9_set_56 j p u (p + w - 1)) 0 0 0 (zm M last ur nr) = j 0 1 (zm M last ur nr)) (hn : ∀ (j : Int → Int → zSt → Option zRes) (x y : Int) (f : Int → Int), 0 ≤ x ∧ x ≤ 1000000 → 0 ≤ y ∧ y ≤ 1000000 → z (b_X9_set_227 j p u (p + w - 1)) x y 0 (zm M last f nr) = j (x + h0) (y + h1) (zm M last f (fun c => Z x y c))) : bS27 z w j4 u rec (nx - 1) inn out p (zm M last ur nr) = rec out (inn + h0) (out + h1) (p + w) (zm M out (zfu ur u (if p = 0 then out else ur u)) (fun c => Z inn out c)) := by
  have q1 : ∀ a f g, (zm M a f g).2 2 u = m := fun _ _ _ => hs
  have q2 : ∀ a f g, (zm M a f g).1 7 = a := fun _ _ _ => rfl
  have q3 : ∀ a f g, (zm M a f g).2 23 = f := fun _ _ _ => rfl
  by_cases c1 : p = 0
  · rw [if_pos c1]
    by_cases c2 : out ≤ last
    · first
        | (exfalso; omega)
        | (have q4 : last = out := by omega
           simp (disch := first | omega | (simp only [q1, q2, q3]; omega)) only [bS27, ↓zlt, ↓zj0, ↓zj1, ↓zj2, ↓zar_p, ↓zld_p, ↓zm_st, ↓if_pos, ↓if_neg, ↓hh, ↓hn, zm_7, q1, q2, q3, Int.sub_add_cancel]
           rw [q4])
    · simp (disch := first | omega | (simp only [q1, q2, q3]; omega)) only [bS27, ↓zlt, ↓zj0, ↓zj1, ↓zj2, ↓zar_p, ↓zld_p, ↓zm_st, ↓if_pos, ↓if_neg, ↓hh, ↓hn, zm_7, q1, q2, q3, Int.sub_add_cancel]
  · rw [if_neg c1]
    by_cases c2 : out ≤ last
    · first
        | (exfalso; omega)
        | (have q4 : last = out := by omega
           simp (disch := first | omega | (simp only [q1, q2, q3]; omega)) only [bS27, ↓zlt, ↓zj0, ↓zj1, ↓zj2, ↓zar_p, ↓zld_p, ↓zm_st, ↓if_pos, ↓if_neg, ↓hh, ↓hn, zm_7, q1, q2, q3, Int.sub_add_cancel]
           rw [q4])
    · simp (disch := first | omega | (simp only [q1, q2, q3]; omega)) only [bS27, ↓zlt, ↓zj0, ↓zj1, ↓zj2, ↓zar_p, ↓zld_p, ↓zm_st, ↓if_pos, ↓if_neg, ↓hh, ↓hn, zm_7, q1, q2, q3, Int.sub_add_cancel]
theorem q_st10 {M : zSt} {w u p m nx inn out last h0 h1 : Int} {z : ((Int → Int → Int → zSt → Option zRes) → Int → Int → Int → zSt → Option zRes) → Int → Int → Int → zSt → Option zRes} {ur nr : Int → Int} {Z : Int → Int → Int → Int} {j4 : Int → Int → Int → zSt → Option zRes} {rec : Int → Int → Int → Int → zSt → Option zRes} (hA : 0 < h0 ∧ inn ≤ nx) (hB : h1 = 0) (hs : M.2 2 u = m) (hp : 0 ≤ p ∧ p < m) (hm : m ≤ 12) (hu : 0 ≤ u ∧ u < 20) (hw : 1 ≤ w ∧ w ≤ 12) (b1 : 0 ≤ nx ∧ nx ≤ 1000000) (b2 : 0 ≤ inn ∧ inn ≤ 1000000) (b3 : 0 ≤ out ∧ out ≤ 1000000) (b4 : 0 ≤ h0 ∧ h0 ≤ 1000) (b5 : 0 ≤ h1 ∧ h1 ≤ 1000) (hl : last ≤ nx) (hh : ∀ j : Int → Int → zSt → Option zRes, z (b_X9_set_56 j p u (p + w - 1)) 0 0 0 (zm M last ur nr) = j 1 0 (zm M last ur nr)) (hn : ∀ (j : Int → Int → zSt → Option zRes) (x y : Int) (f : Int → Int), 0 ≤ x ∧ x ≤ 1000000 → 0 ≤ y ∧ y ≤ 1000000 → z (b_X9_set_227 j p u (p + w - 1)) x y 0 (zm M last f nr) = j (x + h0) (y + h1) (zm M last f (fun c => Z x y c))) : bS27 z w j4 u rec (nx - 1) inn out p (zm M last ur nr) = rec nx (nx + h0) (out + h1) (p + w) (zm M nx (zfu ur u (if p = 0 then nx else ur u)) (fun c => Z nx out c)) := by
  have q1 : ∀ a f g, (zm M a f g).2 2 u = m := fun _ _ _ => hs
  have q2 : ∀ a f g, (zm M a f g).1 7 = a := fun _ _ _ => rfl
  have q3 : ∀ a f g, (zm M a f g).2 23 = f := fun _ _ _ => rfl
  by_cases c1 : p = 0
  · rw [if_pos c1]
    by_cases c2 : nx ≤ last
    · first
        | (exfalso; omega)
        | (have q4 : last = nx := by omega
           simp (disch := first | omega | (simp only [q1, q2, q3]; omega)) only [bS27, ↓zlt, ↓zj0, ↓zj1, ↓zj2, ↓zar_p, ↓zld_p, ↓zm_st, ↓if_pos, ↓if_neg, ↓hh, ↓hn, zm_7, q1, q2, q3, Int.sub_add_cancel]
           rw [q4])
    · simp (disch := first | omega | (simp only [q1, q2, q3]; omega)) only [bS27, ↓zlt, ↓zj0, ↓zj1, ↓zj2, ↓zar_p, ↓zld_p, ↓zm_st, ↓if_pos, ↓if_neg, ↓hh, ↓hn, zm_7, q1, q2, q3, Int.sub_add_cancel]
  · rw [if_neg c1]
    by_cases c2 : nx ≤ last
    · first
        | (exfalso; omega)
        | (have q4 : last = nx := by omega
           simp (disch := first | omega | (simp only [q1, q2, q3]; omega)) only [bS27, ↓zlt, ↓zj0, ↓zj1, ↓zj2, ↓zar_p, ↓zld_p, ↓zm_st, ↓if_pos, ↓if_neg, ↓hh, ↓hn, zm_7, q1, q2, q3, Int.sub_add_cancel]
           rw [q4])
    · simp (disch := first | omega | (simp only [q1, q2, q3]; omega)) only [bS27, ↓zlt, ↓zj0, ↓zj1, ↓zj2, ↓zar_p, ↓zld_p, ↓zm_st, ↓if_pos, ↓if_neg, ↓hh, ↓hn, zm_7, q1, q2, q3, Int.sub_add_cancel]
theorem q_st11 {M : zSt} {w u p m nx inn out last h0 h1 : Int} {z : ((Int → Int → Int → zSt → Option zRes) → Int → Int → Int → zSt → Option zRes) → Int → Int → Int → zSt → Option zRes} {ur nr : Int → Int} {Z : Int → Int → Int → Int} {j4 : Int → Int → Int → zSt → Option zRes} {rec : Int → Int → Int → Int → zSt → Option zRes} (hA : 0 < h0 ∧ inn ≤ nx) (hB : 0 < h1 ∧ out ≤ nx) (hs : M.2 2 u = m) (hp : 0 ≤ p ∧ p < m) (hm : m ≤ 12) (hu : 0 ≤ u ∧ u < 20) (hw : 1 ≤ w ∧ w ≤ 12) (b1 : 0 ≤ nx ∧ nx ≤ 1000000) (b2 : 0 ≤ inn ∧ inn ≤ 1000000) (b3 : 0 ≤ out ∧ out ≤ 1000000) (b4 : 0 ≤ h0 ∧ h0 ≤ 1000) (b5 : 0 ≤ h1 ∧ h1 ≤ 1000) (hl : last ≤ nx) (hh : ∀ j : Int → Int → zSt → Option zRes, z (b_X9_set_56 j p u (p + w - 1)) 0 0 0 (zm M last ur nr) = j 1 1 (zm M last ur nr)) (hn : ∀ (j : Int → Int → zSt → Option zRes) (x y : Int) (f : Int → Int), 0 ≤ x ∧ x ≤ 1000000 → 0 ≤ y ∧ y ≤ 1000000 → z (b_X9_set_227 j p u (p + w - 1)) x y 0 (zm M last f nr) = j (x + h0) (y + h1) (zm M last f (fun c => Z x y c))) : bS27 z w j4 u rec (nx - 1) inn out p (zm M last ur nr) = rec nx (nx + h0) (nx + h1) (p + w) (zm M nx (zfu ur u (if p = 0 then nx else ur u)) (fun c => Z nx nx c)) := by
  have q1 : ∀ a f g, (zm M a f g).2 2 u = m := fun _ _ _ => hs
  have q2 : ∀ a f g, (zm M a f g).1 7 = a := fun _ _ _ => rfl
  have q3 : ∀ a f g, (zm M a f g).2 23 = f := fun _ _ _ => rfl
  by_cases c1 : p = 0
  · rw [if_pos c1]
    by_cases c2 : nx ≤ last
    · first
        | (exfalso; omega)
        | (have q4 : last = nx := by omega
           simp (disch := first | omega | (simp only [q1, q2, q3]; omega)) only [bS27, ↓zlt, ↓zj0, ↓zj1, ↓zj2, ↓zar_p, ↓zld_p, ↓zm_st, ↓if_pos, ↓if_neg, ↓hh, ↓hn, zm_7, q1, q2, q3, Int.sub_add_cancel]
           rw [q4])
    · simp (disch := first | omega | (simp only [q1, q2, q3]; omega)) only [bS27, ↓zlt, ↓zj0, ↓zj1, ↓zj2, ↓zar_p, ↓zld_p, ↓zm_st, ↓if_pos, ↓if_neg, ↓hh, ↓hn, zm_7, q1, q2, q3, Int.sub_add_cancel]
  · rw [if_neg c1]
    by_cases c2 : nx ≤ last
    · first
        | (exfalso; omega)
        | (have q4 : last = nx := by omega
           simp (disch := first | omega | (simp only [q1, q2, q3]; omega)) only [bS27, ↓zlt, ↓zj0, ↓zj1, ↓zj2, ↓zar_p, ↓zld_p, ↓zm_st, ↓if_pos, ↓if_neg, ↓hh, ↓hn, zm_7, q1, q2, q3, Int.sub_add_cancel]
           rw [q4])
    · simp (disch := first | omega | (simp only [q1, q2, q3]; omega)) only [bS27, ↓zlt, ↓zj0, ↓zj1, ↓zj2, ↓zar_p, ↓zld_p, ↓zm_st, ↓if_pos, ↓if_neg, ↓hh, ↓hn, zm_7, q1, q2, q3, Int.sub_add_cancel]
theorem q_st12 {M : zSt} {w u p m nx inn out last h0 h1 : Int} {z : ((Int → Int → Int → zSt → Option zRes) → Int → Int → Int → zSt → Option zRes) → Int → Int → Int → zSt → Option zRes} {ur nr : Int → Int} {Z : Int → Int → Int → Int} {j4 : Int → Int → Int → zSt → Option zRes} {rec : Int → Int → Int → Int → zSt → Option zRes} (hA : 0 < h0 ∧ inn ≤ nx) (hB : 0 < h1 ∧ nx < out) (hs : M.2 2 u = m) (hp : 0 ≤ p ∧ p < m) (hm : m ≤ 12) (hu : 0 ≤ u ∧ u < 20) (hw : 1 ≤ w ∧ w ≤ 12) (b1 : 0 ≤ nx ∧ nx ≤ 1000000) (b2 : 0 ≤ inn ∧ inn ≤ 1000000) (b3 : 0 ≤ out ∧ out ≤ 1000000) (b4 : 0 ≤ h0 ∧ h0 ≤ 1000) (b5 : 0 ≤ h1 ∧ h1 ≤ 1000) (hl : last ≤ nx) (hh : ∀ j : Int → Int → zSt → Option zRes, z (b_X9_set_56 j p u (p + w - 1)) 0 0 0 (zm M last ur nr) = j 1 1 (zm M last ur nr)) (hn : ∀ (j : Int → Int → zSt → Option zRes) (x y : Int) (f : Int → Int), 0 ≤ x ∧ x ≤ 1000000 → 0 ≤ y ∧ y ≤ 1000000 → z (b_X9_set_227 j p u (p + w - 1)) x y 0 (zm M last f nr) = j (x + h0) (y + h1) (zm M last f (fun c => Z x y c))) : bS27 z w j4 u rec (nx - 1) inn out p (zm M last ur nr) = rec out (out + h0) (out + h1) (p + w) (zm M out (zfu ur u (if p = 0 then out else ur u)) (fun c => Z out out c)) := by
  have q1 : ∀ a f g, (zm M a f g).2 2 u = m := fun _ _ _ => hs
  have q2 : ∀ a f g, (zm M a f g).1 7 = a := fun _ _ _ => rfl
  have q3 : ∀ a f g, (zm M a f g).2 23 = f := fun _ _ _ => rfl
  by_cases c1 : p = 0
  · rw [if_pos c1]
    by_cases c2 : out ≤ last
    · first
        | (exfalso; omega)
        | (have q4 : last = out := by omega
           simp (disch := first | omega | (simp only [q1, q2, q3]; omega)) only [bS27, ↓zlt, ↓zj0, ↓zj1, ↓zj2, ↓zar_p, ↓zld_p, ↓zm_st, ↓if_pos, ↓if_neg, ↓hh, ↓hn, zm_7, q1, q2, q3, Int.sub_add_cancel]
           rw [q4])
    · simp (disch := first | omega | (simp only [q1, q2, q3]; omega)) only [bS27, ↓zlt, ↓zj0, ↓zj1, ↓zj2, ↓zar_p, ↓zld_p, ↓zm_st, ↓if_pos, ↓if_neg, ↓hh, ↓hn, zm_7, q1, q2, q3, Int.sub_add_cancel]
  · rw [if_neg c1]
    by_cases c2 : out ≤ last
    · first
        | (exfalso; omega)
        | (have q4 : last = out := by omega
           simp (disch := first | omega | (simp only [q1, q2, q3]; omega)) only [bS27, ↓zlt, ↓zj0, ↓zj1, ↓zj2, ↓zar_p, ↓zld_p, ↓zm_st, ↓if_pos, ↓if_neg, ↓hh, ↓hn, zm_7, q1, q2, q3, Int.sub_add_cancel]
           rw [q4])
    · simp (disch := first | omega | (simp only [q1, q2, q3]; omega)) only [bS27, ↓zlt, ↓zj0, ↓zj1, ↓zj2, ↓zar_p, ↓zld_p, ↓zm_st, ↓if_pos, ↓if_neg, ↓hh, ↓hn, zm_7, q1, q2, q3, Int.sub_add_cancel]
theorem q_st20 {M : zSt} {w u p m nx inn out last h0 h1 : Int} {z : ((Int → Int → Int → zSt → Option zRes) → Int → Int → Int → zSt → Option zRes) → Int → Int → Int → zSt → Option zRes} {ur nr : Int → Int} {Z : Int → Int → Int → Int} {j4 : Int → Int → Int → zSt → Option zRes} {rec : Int → Int → Int → Int → zSt → Option zRes} (hA : 0 < h0 ∧ nx < inn) (hB : h1 = 0) (hs : M.2 2 u = m) (hp : 0 ≤ p ∧ p < m) (hm : m ≤ 12) (hu : 0 ≤ u ∧ u < 20) (hw : 1 ≤ w ∧ w ≤ 12) (b1 : 0 ≤ nx ∧ nx ≤ 1000000) (b2 : 0 ≤ inn ∧ inn ≤ 1000000) (b3 : 0 ≤ out ∧ out ≤ 1000000) (b4 : 0 ≤ h0 ∧ h0 ≤ 1000) (b5 : 0 ≤ h1 ∧ h1 ≤ 1000) (hl : last ≤ nx) (hh : ∀ j : Int → Int → zSt → Option zRes, z (b_X9_set_56 j p u (p + w - 1)) 0 0 0 (zm M last ur nr) = j 1 0 (zm M last ur nr)) (hn : ∀ (j : Int → Int → zSt → Option zRes) (x y : Int) (f : Int → Int), 0 ≤ x ∧ x ≤ 1000000 → 0 ≤ y ∧ y ≤ 1000000 → z (b_X9_set_227 j p u (p + w - 1)) x y 0 (zm M last f nr) = j (x + h0) (y + h1) (zm M last f (fun c => Z x y c))) : bS27 z w j4 u rec (nx - 1) inn out p (zm M last ur nr) = rec inn (inn + h0) (out + h1) (p + w) (zm M inn (zfu ur u (if p = 0 then inn else ur u)) (fun c => Z inn out c)) := by
  have q1 : ∀ a f g, (zm M a f g).2 2 u = m := fun _ _ _ => hs
  have q2 : ∀ a f g, (zm M a f g).1 7 = a := fun _ _ _ => rfl
  have q3 : ∀ a f g, (zm M a f g).2 23 = f := fun _ _ _ => rfl
  by_cases c1 : p = 0
  · rw [if_pos c1]
    by_cases c2 : inn ≤ last
    · first
        | (exfalso; omega)
        | (have q4 : last = inn := by omega
           simp (disch := first | omega | (simp only [q1, q2, q3]; omega)) only [bS27, ↓zlt, ↓zj0, ↓zj1, ↓zj2, ↓zar_p, ↓zld_p, ↓zm_st, ↓if_pos, ↓if_neg, ↓hh, ↓hn, zm_7, q1, q2, q3, Int.sub_add_cancel]
           rw [q4])
    · simp (disch := first | omega | (simp only [q1, q2, q3]; omega)) only [bS27, ↓zlt, ↓zj0, ↓zj1, ↓zj2, ↓zar_p, ↓zld_p, ↓zm_st, ↓if_pos, ↓if_neg, ↓hh, ↓hn, zm_7, q1, q2, q3, Int.sub_add_cancel]
  · rw [if_neg c1]
    by_cases c2 : inn ≤ last
    · first
        | (exfalso; omega)
        | (have q4 : last = inn := by omega
           simp (disch := first | omega | (simp only [q1, q2, q3]; omega)) only [bS27, ↓zlt, ↓zj0, ↓zj1, ↓zj2, ↓zar_p, ↓zld_p, ↓zm_st, ↓if_pos, ↓if_neg, ↓hh, ↓hn, zm_7, q1, q2, q3, Int.sub_add_cancel]
           rw [q4])
    · simp (disch := first | omega | (simp only [q1, q2, q3]; omega)) only [bS27, ↓zlt, ↓zj0, ↓zj1, ↓zj2, ↓zar_p, ↓zld_p, ↓zm_st, ↓if_pos, ↓if_neg, ↓hh, ↓hn, zm_7, q1, q2, q3, Int.sub_add_cancel]
theorem q_st21 {M : zSt} {w u p m nx inn out last h0 h1 : Int} {z : ((Int → Int → Int → zSt → Option zRes) → Int → Int → Int → zSt → Option zRes) → Int → Int → Int → zSt → Option zRes} {ur nr : Int → Int} {Z : Int → Int → Int → Int} {j4 : Int → Int → Int → zSt → Option zRes} {rec : Int → Int → Int → Int → zSt → Option zRes} (hA : 0 < h0 ∧ nx < inn) (hB : 0 < h1 ∧ out ≤ inn) (hs : M.2 2 u = m) (hp : 0 ≤ p ∧ p < m) (hm : m ≤ 12) (hu : 0 ≤ u ∧ u < 20) (hw : 1 ≤ w ∧ w ≤ 12) (b1 : 0 ≤ nx ∧ nx ≤ 1000000) (b2 : 0 ≤ inn ∧ inn ≤ 1000000) (b3 : 0 ≤ out ∧ out ≤ 1000000) (b4 : 0 ≤ h0 ∧ h0 ≤ 1000) (b5 : 0 ≤ h1 ∧ h1 ≤ 1000) (hl : last ≤ nx) (hh : ∀ j : Int → Int → zSt → Option zRes, z (b_X9_set_56 j p u (p + w - 1)) 0 0 0 (zm M last ur nr) = j 1 1 (zm M last ur nr)) (hn : ∀ (j : Int → Int → zSt → Option zRes) (x y : Int) (f : Int → Int), 0 ≤ x ∧ x ≤ 1000000 → 0 ≤ y ∧ y ≤ 1000000 → z (b_X9_set_227 j p u (p + w - 1)) x y 0 (zm M last f nr) = j (x + h0) (y + h1) (zm M last f (fun c => Z x y c))) : bS27 z w j4 u rec (nx - 1) inn out p (zm M last ur nr) = rec inn (inn + h0) (inn + h1) (p + w) (zm M inn (zfu ur u (if p = 0 then inn else ur u)) (fun c => Z inn inn c)) := by
  have q1 : ∀ a f g, (zm M a f g).2 2 u = m := fun _ _ _ => hs
  have q2 : ∀ a f g, (zm M a f g).1 7 = a := fun _ _ _ => rfl
  have q3 : ∀ a f g, (zm M a f g).2 23 = f := fun _ _ _ => rfl
  by_cases c1 : p = 0
  · rw [if_pos c1]
    by_cases c2 : inn ≤ last
    · first
        | (exfalso; omega)
        | (have q4 : last = inn := by omega
           simp (disch := first | omega | (simp only [q1, q2, q3]; omega)) only [bS27, ↓zlt, ↓zj0, ↓zj1, ↓zj2, ↓zar_p, ↓zld_p, ↓zm_st, ↓if_pos, ↓if_neg, ↓hh, ↓hn, zm_7, q1, q2, q3, Int.sub_add_cancel]
           rw [q4])
    · simp (disch := first | omega | (simp only [q1, q2, q3]; omega)) only [bS27, ↓zlt, ↓zj0, ↓zj1, ↓zj2, ↓zar_p, ↓zld_p, ↓zm_st, ↓if_pos, ↓if_neg, ↓hh, ↓hn, zm_7, q1, q2, q3, Int.sub_add_cancel]
  · rw [if_neg c1]
    by_cases c2 : inn ≤ last
    · first
        | (exfalso; omega)
        | (have q4 : last = inn := by omega
           simp (disch := first | omega | (simp only [q1, q2, q3]; omega)) only [bS27, ↓zlt, ↓zj0, ↓zj1, ↓zj2, ↓zar_p, ↓zld_p, ↓zm_st, ↓if_pos, ↓if_neg, ↓hh, ↓hn, zm_7, q1, q2, q3, Int.sub_add_cancel]
           rw [q4])
    · simp (disch := first | omega | (simp only [q1, q2, q3]; omega)) only [bS27, ↓zlt, ↓zj0, ↓zj1, ↓zj2, ↓zar_p, ↓zld_p, ↓zm_st, ↓if_pos, ↓if_neg, ↓hh, ↓hn, zm_7, q1, q2, q3, Int.sub_add_cancel]
theorem q_st22 {M : zSt} {w u p m nx inn out last h0 h1 : Int} {z : ((Int → Int → Int → zSt → Option zRes) → Int → Int → Int → zSt → Option zRes) → Int → Int → Int → zSt → Option zRes} {ur nr : Int → Int} {Z : Int → Int → Int → Int} {j4 : Int → Int → Int → zSt → Option zRes} {rec : Int → Int → Int → Int → zSt → Option zRes} (hA : 0 < h0 ∧ nx < inn) (hB : 0 < h1 ∧ inn < out) (hs : M.2 2 u = m) (hp : 0 ≤ p ∧ p < m) (hm : m ≤ 12) (hu : 0 ≤ u ∧ u < 20) (hw : 1 ≤ w ∧ w ≤ 12) (b1 : 0 ≤ nx ∧ nx ≤ 1000000) (b2 : 0 ≤ inn ∧ inn ≤ 1000000) (b3 : 0 ≤ out ∧ out ≤ 1000000) (b4 : 0 ≤ h0 ∧ h0 ≤ 1000) (b5 : 0 ≤ h1 ∧ h1 ≤ 1000) (hl : last ≤ nx) (hh : ∀ j : Int → Int → zSt → Option zRes, z (b_X9_set_56 j p u (p + w - 1)) 0 0 0 (zm M last ur nr) = j 1 1 (zm M last ur nr)) (hn : ∀ (j : Int → Int → zSt → Option zRes) (x y : Int) (f : Int → Int), 0 ≤ x ∧ x ≤ 1000000 → 0 ≤ y ∧ y ≤ 1000000 → z (b_X9_set_227 j p u (p + w - 1)) x y 0 (zm M last f nr) = j (x + h0) (y + h1) (zm M last f (fun c => Z x y c))) : bS27 z w j4 u rec (nx - 1) inn out p (zm M last ur nr) = rec out (out + h0) (out + h1) (p + w) (zm M out (zfu ur u (if p = 0 then out else ur u)) (fun c => Z out out c)) := by
  have q1 : ∀ a f g, (zm M a f g).2 2 u = m := fun _ _ _ => hs
  have q2 : ∀ a f g, (zm M a f g).1 7 = a := fun _ _ _ => rfl
  have q3 : ∀ a f g, (zm M a f g).2 23 = f := fun _ _ _ => rfl
  by_cases c1 : p = 0
  · rw [if_pos c1]
    by_cases c2 : out ≤ last
    · first
        | (exfalso; omega)
        | (have q4 : last = out := by omega
           simp (disch := first | omega | (simp only [q1, q2, q3]; omega)) only [bS27, ↓zlt, ↓zj0, ↓zj1, ↓zj2, ↓zar_p, ↓zld_p, ↓zm_st, ↓if_pos, ↓if_neg, ↓hh, ↓hn, zm_7, q1, q2, q3, Int.sub_add_cancel]
           rw [q4])
    · simp (disch := first | omega | (simp only [q1, q2, q3]; omega)) only [bS27, ↓zlt, ↓zj0, ↓zj1, ↓zj2, ↓zar_p, ↓zld_p, ↓zm_st, ↓if_pos, ↓if_neg, ↓hh, ↓hn, zm_7, q1, q2, q3, Int.sub_add_cancel]
  · rw [if_neg c1]
    by_cases c2 : out ≤ last
    · first
        | (exfalso; omega)
        | (have q4 : last = out := by omega
           simp (disch := first | omega | (simp only [q1, q2, q3]; omega)) only [bS27, ↓zlt, ↓zj0, ↓zj1, ↓zj2, ↓zar_p, ↓zld_p, ↓zm_st, ↓if_pos, ↓if_neg, ↓hh, ↓hn, zm_7, q1, q2, q3, Int.sub_add_cancel]
           rw [q4])
    · simp (disch := first | omega | (simp only [q1, q2, q3]; omega)) only [bS27, ↓zlt, ↓zj0, ↓zj1, ↓zj2, ↓zar_p, ↓zld_p, ↓zm_st, ↓if_pos, ↓if_neg, ↓hh, ↓hn, zm_7, q1, q2, q3, Int.sub_add_cancel]
