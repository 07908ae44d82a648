set_option maxRecDepth 100000 in
theorem c_L_word {l : Launch} {D : va_G} {A : Nat → Prop} {cI cZ cJ : ClassId} {ad ads : Nat → Nat} {o : Nat} (hst : l.stackTraces = false) (hD : ∀ S, va_D A (wW cI cZ cJ ad o S)) {C : zSt} (hGC : RG bsC C) {a1 : Int} (ra1 : inR a1) {v : Int} {r : zRx} (h : m_X8_word C a1 = some r) (hE : ∀ E C', r = .inr (E, C') → E ∈ (["java/lang/IllegalArgumentException", "java/lang/IllegalStateException"] : List String)) : zMw l yL_word cL_word 4 [(0, 9, 12, 13), (0, 9, 15, 15)] 8 133 D cI cZ cJ ads A (wW cI cZ cJ ad o) [.ref (ad 0), .int (zI a1), .ref o] (zmx C v) r (zcode ["java/lang/IllegalArgumentException", "java/lang/IllegalStateException"] r) (zst9 r v) (RG bsC (zrs r)) := by
  refine k_startW (by decide +kernel) hst hD (Nat.le_of_ble_eq_true rfl) (fun Γ F X hkn hQ => ?_)
  have F : zF Γ (wW cI cZ cJ ad o) cI cZ cL_word (zroom 8 133 r) 4 RL := F
  refine k_sub [0, 1, 2] (lv' := [(0, .ref (ad 0)), (1, .int (zI a1)), (2, .ref o)]) rfl ?_
  refine k_aload_n F dL_word_0 rfl 2 rfl ?_
  refine k_iconst F dL_word_1 ?_
  refine k_aload_n F dL_word_2 rfl 0 rfl ?_
  refine k_iload_n F dL_word_3 rfl 1 rfl ?_
  refine k_callW F X hkn cal_X8_word wm_642 hGC (fun l D A hst hD => c_X8_word hst hD hGC ra1 h) ⟨Nat.le_of_ble_eq_true rfl, Nat.le_of_ble_eq_true rfl⟩ rfl rfl (Nat.le_of_ble_eq_true rfl) dL_word_4 (fun x C' e rx hG' b => ?_) (fun E C' e hG' => ?_)
  · subst e
    refine k_i2l F rx dL_word_7 ?_
    refine k_lastW F X dL_word_8 ?_
    refine k_goto F (tgt := 18) dL_word_9 (by decide) ?_
    refine k_iconst F dL_word_18 ?_
    exact k_iretW F hQ hG' hkn rfl rfl dL_word_19
  · have hm := hE E C' e
    subst e
    rcases List.mem_cons.mp hm with rfl | hm
    · refine ⟨[], ⟨0, 9, 12, 13⟩, [⟨0, 9, 15, 15⟩], rfl, (fun z hz => by cases hz), by decide, by decide, wm_640, by decide, fun q9 => ?_⟩
      have F2 := F.up (k := 1) (n := 6) (Nat.le_refl 1) (Nat.le_refl 6)
      refine k_at (pc' := 12) rfl ?_
      refine k_astore_n F2 dL_word_12 rfl (by decide) (lv' := [(3, .ref q9), (0, .ref (ad 0)), (1, .int (zI a1)), (2, .ref o)]) rfl ?_
      refine k_iconst F2 dL_word_13 ?_
      exact k_iretW F2 (zQw_up hQ 1 6) hG' (zKN_up Γ 1 6) (by show (1 : Int) = (((["java/lang/IllegalArgumentException", "java/lang/IllegalStateException"] : List String).idxOf "java/lang/IllegalArgumentException" : Nat) : Int) + 1; decide) rfl dL_word_14
    rcases List.mem_cons.mp hm with rfl | hm
    · refine ⟨[⟨0, 9, 12, 13⟩], ⟨0, 9, 15, 15⟩, [], rfl, (fun z hz => by
        simp only [List.mem_cons, List.not_mem_nil, or_false] at hz
        subst hz
        exact ⟨by decide, _, wm_640, by decide⟩), by decide, by decide, wm_641, by decide, fun q9 => ?_⟩
      have F2 := F.up (k := 1) (n := 6) (Nat.le_refl 1) (Nat.le_refl 6)
      refine k_at (pc' := 15) rfl ?_
      refine k_astore_n F2 dL_word_15 rfl (by decide) (lv' := [(3, .ref q9), (0, .ref (ad 0)), (1, .int (zI a1)), (2, .ref o)]) rfl ?_
      refine k_iconst F2 dL_word_16 ?_
      exact k_iretW F2 (zQw_up hQ 1 6) hG' (zKN_up Γ 1 6) (by show (2 : Int) = (((["java/lang/IllegalArgumentException", "java/lang/IllegalStateException"] : List String).idxOf "java/lang/IllegalStateException" : Nat) : Int) + 1; decide) rfl dL_word_17
    exact absurd hm List.not_mem_nil
set_option maxRecDepth 100000 in
theorem c_L_unit {l : Launch} {D : va_G} {A : Nat → Prop} {cI cZ cJ : ClassId} {ad ads : Nat → Nat} {o : Nat} (hst : l.stackTraces = false) (hD : ∀ S, va_D A (wW cI cZ cJ ad o S)) {C : zSt} (hGC : RG bsC C) {v : Int} {r : zRx} (h : m_X8_unit C  = some r) (hE : ∀ E C', r = .inr (E, C') → E ∈ (["java/lang/IllegalStateException"] : List String)) : zMw l yL_unit cL_unit 3 [(0, 8, 11, 15)] 7 130 D cI cZ cJ ads A (wW cI cZ cJ ad o) [.ref (ad 0), .ref o] (zmx C v) r (zcode ["java/lang/IllegalStateException"] r) (zst9 r v) (RG bsC (zrs r)) := by
  refine k_startW (by decide +kernel) hst hD (Nat.le_of_ble_eq_true rfl) (fun Γ F X hkn hQ => ?_)
  have F : zF Γ (wW cI cZ cJ ad o) cI cZ cL_unit (zroom 7 130 r) 3 RL := F
  refine k_sub [0, 1] (lv' := [(0, .ref (ad 0)), (1, .ref o)]) rfl ?_
  refine k_aload_n F dL_unit_0 rfl 1 rfl ?_
  refine k_iconst F dL_unit_1 ?_
  refine k_aload_n F dL_unit_2 rfl 0 rfl ?_
  refine k_callW F X hkn cal_X8_unit wm_646 hGC (fun l D A hst hD => c_X8_unit hst hD hGC h) ⟨Nat.le_of_ble_eq_true rfl, Nat.le_of_ble_eq_true rfl⟩ rfl rfl (Nat.le_of_ble_eq_true rfl) dL_unit_3 (fun x C' e rx hG' b => ?_) (fun E C' e hG' => ?_)
  · subst e
    refine k_i2l F rx dL_unit_6 ?_
    refine k_lastW F X dL_unit_7 ?_
    refine k_goto F (tgt := 14) dL_unit_8 (by decide) ?_
    refine k_iconst F dL_unit_14 ?_
    exact k_iretW F hQ hG' hkn rfl rfl dL_unit_15
  · have hm := hE E C' e
    subst e
    rcases List.mem_cons.mp hm with rfl | hm
    · refine ⟨[], ⟨0, 8, 11, 15⟩, [], rfl, (fun z hz => by cases hz), by decide, by decide, wm_641, by decide, fun q9 => ?_⟩
      have F2 := F.up (k := 1) (n := 6) (Nat.le_refl 1) (Nat.le_refl 6)
      refine k_at (pc' := 11) rfl ?_
      refine k_astore_n F2 dL_unit_11 rfl (by decide) (lv' := [(2, .ref q9), (0, .ref (ad 0)), (1, .ref o)]) rfl ?_
      refine k_iconst F2 dL_unit_12 ?_
      exact k_iretW F2 (zQw_up hQ 1 6) hG' (zKN_up Γ 1 6) (by show (1 : Int) = (((["java/lang/IllegalStateException"] : List String).idxOf "java/lang/IllegalStateException" : Nat) : Int) + 1; decide) rfl dL_unit_13
    exact absurd hm List.not_mem_nil
set_option maxRecDepth 100000 in
theorem c_L_emend {l : Launch} {D : va_G} {A : Nat → Prop} {cI cZ cJ : ClassId} {ad ads : Nat → Nat} {o : Nat} (hst : l.stackTraces = false) (hD : ∀ S, va_D A (wW cI cZ cJ ad o S)) {C : zSt} (hGC : RG bsC C) {a1 : Int} (ra1 : inR a1) {a2 : Int} (ra2 : inR a2) {a3 : Int} (ra3 : inR a3) {v : Int} {r : zRx} (h : m_X8_emend C a1 a2 a3 = some r) (hE : ∀ E C', r = .inr (E, C') → E ∈ (["java/lang/IndexOutOfBoundsException", "java/lang/IllegalArgumentException", "java/lang/IllegalStateException"] : List String)) : zMw l yL_emend cL_emend 6 [(0, 12, 15, 25), (0, 12, 19, 13), (0, 12, 23, 15)] 8 160 D cI cZ cJ ads A (wW cI cZ cJ ad o) [.ref (ad 0), .int (zI a1), .int (zI a2), .int (zI a3), .ref o] (zmx C v) r (zcode ["java/lang/IndexOutOfBoundsException", "java/lang/IllegalArgumentException", "java/lang/IllegalStateException"] r) (zst9 r v) (RG bsC (zrs r)) := by
  refine k_startW (by decide +kernel) hst hD (Nat.le_of_ble_eq_true rfl) (fun Γ F X hkn hQ => ?_)
  have F : zF Γ (wW cI cZ cJ ad o) cI cZ cL_emend (zroom 8 160 r) 6 RL := F
  refine k_sub [0, 1, 2, 3, 4] (lv' := [(0, .ref (ad 0)), (1, .int (zI a1)), (2, .int (zI a2)), (3, .int (zI a3)), (4, .ref o)]) rfl ?_
  refine k_aload F dL_emend_0 4 rfl ?_
  refine k_iconst F dL_emend_2 ?_
  refine k_aload_n F dL_emend_3 rfl 0 rfl ?_
  refine k_iload_n F dL_emend_4 rfl 1 rfl ?_
  refine k_iload_n F dL_emend_5 rfl 2 rfl ?_
  refine k_iload_n F dL_emend_6 rfl 3 rfl ?_
  refine k_callW F X hkn cal_X8_emend wm_651 hGC (fun l D A hst hD => c_X8_emend hst hD hGC ra1 ra2 ra3 h) ⟨Nat.le_of_ble_eq_true rfl, Nat.le_of_ble_eq_true rfl⟩ rfl rfl (Nat.le_of_ble_eq_true rfl) dL_emend_7 (fun x C' e rx hG' b => ?_) (fun E C' e hG' => ?_)
  · subst e
    refine k_i2l F rx dL_emend_10 ?_
    refine k_lastW F X dL_emend_11 ?_
    refine k_goto F (tgt := 27) dL_emend_12 (by decide) ?_
    refine k_iconst F dL_emend_27 ?_
    exact k_iretW F hQ hG' hkn rfl rfl dL_emend_28
  · have hm := hE E C' e
    subst e
    rcases List.mem_cons.mp hm with rfl | hm
    · refine ⟨[], ⟨0, 12, 15, 25⟩, [⟨0, 12, 19, 13⟩, ⟨0, 12, 23, 15⟩], rfl, (fun z hz => by cases hz), by decide, by decide, wm_650, by decide, fun q9 => ?_⟩
      have F2 := F.up (k := 1) (n := 6) (Nat.le_refl 1) (Nat.le_refl 6)
      refine k_at (pc' := 15) rfl ?_
      refine k_astore F2 dL_emend_15 (by decide) (lv' := [(5, .ref q9), (0, .ref (ad 0)), (1, .int (zI a1)), (2, .int (zI a2)), (3, .int (zI a3)), (4, .ref o)]) rfl ?_
      refine k_iconst F2 dL_emend_17 ?_
      exact k_iretW F2 (zQw_up hQ 1 6) hG' (zKN_up Γ 1 6) (by show (1 : Int) = (((["java/lang/IndexOutOfBoundsException", "java/lang/IllegalArgumentException", "java/lang/IllegalStateException"] : List String).idxOf "java/lang/IndexOutOfBoundsException" : Nat) : Int) + 1; decide) rfl dL_emend_18
    rcases List.mem_cons.mp hm with rfl | hm
    · refine ⟨[⟨0, 12, 15, 25⟩], ⟨0, 12, 19, 13⟩, [⟨0, 12, 23, 15⟩], rfl, (fun z hz => by
        simp only [List.mem_cons, List.not_mem_nil, or_false] at hz
        subst hz
        exact ⟨by decide, _, wm_650, by decide⟩), by decide, by decide, wm_640, by decide, fun q9 => ?_⟩
      have F2 := F.up (k := 1) (n := 6) (Nat.le_refl 1) (Nat.le_refl 6)
      refine k_at (pc' := 19) rfl ?_
      refine k_astore F2 dL_emend_19 (by decide) (lv' := [(5, .ref q9), (0, .ref (ad 0)), (1, .int (zI a1)), (2, .int (zI a2)), (3, .int (zI a3)), (4, .ref o)]) rfl ?_
      refine k_iconst F2 dL_emend_21 ?_
      exact k_iretW F2 (zQw_up hQ 1 6) hG' (zKN_up Γ 1 6) (by show (2 : Int) = (((["java/lang/IndexOutOfBoundsException", "java/lang/IllegalArgumentException", "java/lang/IllegalStateException"] : List String).idxOf "java/lang/IllegalArgumentException" : Nat) : Int) + 1; decide) rfl dL_emend_22
    rcases List.mem_cons.mp hm with rfl | hm
    · refine ⟨[⟨0, 12, 15, 25⟩, ⟨0, 12, 19, 13⟩], ⟨0, 12, 23, 15⟩, [], rfl, (fun z hz => by
        simp only [List.mem_cons, List.not_mem_nil, or_false] at hz
        rcases hz with rfl | rfl
        · exact ⟨by decide, _, wm_650, by decide⟩
        · exact ⟨by decide, _, wm_640, by decide⟩), by decide, by decide, wm_641, by decide, fun q9 => ?_⟩
      have F2 := F.up (k := 1) (n := 6) (Nat.le_refl 1) (Nat.le_refl 6)
      refine k_at (pc' := 23) rfl ?_
      refine k_astore F2 dL_emend_23 (by decide) (lv' := [(5, .ref q9), (0, .ref (ad 0)), (1, .int (zI a1)), (2, .int (zI a2)), (3, .int (zI a3)), (4, .ref o)]) rfl ?_
      refine k_iconst F2 dL_emend_25 ?_
      exact k_iretW F2 (zQw_up hQ 1 6) hG' (zKN_up Γ 1 6) (by show (3 : Int) = (((["java/lang/IndexOutOfBoundsException", "java/lang/IllegalArgumentException", "java/lang/IllegalStateException"] : List String).idxOf "java/lang/IllegalStateException" : Nat) : Int) + 1; decide) rfl dL_emend_26
    exact absurd hm List.not_mem_nil
set_option maxRecDepth 100000 in
theorem c_L_textOf {l : Launch} {D : va_G} {A : Nat → Prop} {cI cZ cJ : ClassId} {ad ads : Nat → Nat} {o : Nat} (hst : l.stackTraces = false) (hD : ∀ S, va_D A (wW cI cZ cJ ad o S)) {C : zSt} (hGC : RG bsC C) {a1 : Int} (ra1 : inR a1) {a2 : Int} (ra2 : inR a2) {v : Int} {r : zRx} (h : m_X8_textOf C a1 a2 = some r) (hE : ∀ E C', r = .inr (E, C') → E ∈ (["java/lang/IndexOutOfBoundsException"] : List String)) : zMw l yL_textOf cL_textOf 5 [(0, 10, 13, 25)] 8 133 D cI cZ cJ ads A (wW cI cZ cJ ad o) [.ref (ad 0), .int (zI a1), .int (zI a2), .ref o] (zmx C v) r (zcode ["java/lang/IndexOutOfBoundsException"] r) (zst9 r v) (RG bsC (zrs r)) := by
  refine k_startW (by decide +kernel) hst hD (Nat.le_of_ble_eq_true rfl) (fun Γ F X hkn hQ => ?_)
  have F : zF Γ (wW cI cZ cJ ad o) cI cZ cL_textOf (zroom 8 133 r) 5 RL := F
  refine k_sub [0, 1, 2, 3] (lv' := [(0, .ref (ad 0)), (1, .int (zI a1)), (2, .int (zI a2)), (3, .ref o)]) rfl ?_
  refine k_aload_n F dL_textOf_0 rfl 3 rfl ?_
  refine k_iconst F dL_textOf_1 ?_
  refine k_aload_n F dL_textOf_2 rfl 0 rfl ?_
  refine k_iload_n F dL_textOf_3 rfl 1 rfl ?_
  refine k_iload_n F dL_textOf_4 rfl 2 rfl ?_
  refine k_callW F X hkn cal_X8_textOf wm_655 hGC (fun l D A hst hD => c_X8_textOf hst hD hGC ra1 ra2 h) ⟨Nat.le_of_ble_eq_true rfl, Nat.le_of_ble_eq_true rfl⟩ rfl rfl (Nat.le_of_ble_eq_true rfl) dL_textOf_5 (fun x C' e rx hG' b => ?_) (fun E C' e hG' => ?_)
  · subst e
    refine k_i2l F rx dL_textOf_8 ?_
    refine k_lastW F X dL_textOf_9 ?_
    refine k_goto F (tgt := 17) dL_textOf_10 (by decide) ?_
    refine k_iconst F dL_textOf_17 ?_
    exact k_iretW F hQ hG' hkn rfl rfl dL_textOf_18
  · have hm := hE E C' e
    subst e
    rcases List.mem_cons.mp hm with rfl | hm
    · refine ⟨[], ⟨0, 10, 13, 25⟩, [], rfl, (fun z hz => by cases hz), by decide, by decide, wm_650, by decide, fun q9 => ?_⟩
      have F2 := F.up (k := 1) (n := 6) (Nat.le_refl 1) (Nat.le_refl 6)
      refine k_at (pc' := 13) rfl ?_
      refine k_astore F2 dL_textOf_13 (by decide) (lv' := [(4, .ref q9), (0, .ref (ad 0)), (1, .int (zI a1)), (2, .int (zI a2)), (3, .ref o)]) rfl ?_
      refine k_iconst F2 dL_textOf_15 ?_
      exact k_iretW F2 (zQw_up hQ 1 6) hG' (zKN_up Γ 1 6) (by show (1 : Int) = (((["java/lang/IndexOutOfBoundsException"] : List String).idxOf "java/lang/IndexOutOfBoundsException" : Nat) : Int) + 1; decide) rfl dL_textOf_16
    exact absurd hm List.not_mem_nil
set_option maxRecDepth 100000 in
theorem c_L_author {l : Launch} {D : va_G} {A : Nat → Prop} {cI cZ cJ : ClassId} {ad ads : Nat → Nat} {o : Nat} (hst : l.stackTraces = false) (hD : ∀ S, va_D A (wW cI cZ cJ ad o S)) {C : zSt} (hGC : RG bsC C) {a1 : Int} (ra1 : inR a1) {a2 : Int} (ra2 : inR a2) {a3 : Int} (ra3 : inR a3) {v : Int} {r : zRx} (h : m_X8_author C a1 a2 a3 = some r) (hE : ∀ E C', r = .inr (E, C') → E ∈ (["java/lang/IllegalArgumentException", "java/lang/IllegalStateException"] : List String)) : zMw l yL_author cL_author 6 [(0, 12, 15, 13), (0, 12, 19, 15)] 8 135 D cI cZ cJ ads A (wW cI cZ cJ ad o) [.ref (ad 0), .int (zI a1), .int (zI a2), .int (zI a3), .ref o] (zmx C v) r (zcode ["java/lang/IllegalArgumentException", "java/lang/IllegalStateException"] r) (zst9 r v) (RG bsC (zrs r)) := by
  refine k_startW (by decide +kernel) hst hD (Nat.le_of_ble_eq_true rfl) (fun Γ F X hkn hQ => ?_)
  have F : zF Γ (wW cI cZ cJ ad o) cI cZ cL_author (zroom 8 135 r) 6 RL := F
  refine k_sub [0, 1, 2, 3, 4] (lv' := [(0, .ref (ad 0)), (1, .int (zI a1)), (2, .int (zI a2)), (3, .int (zI a3)), (4, .ref o)]) rfl ?_
  refine k_aload F dL_author_0 4 rfl ?_
  refine k_iconst F dL_author_2 ?_
  refine k_aload_n F dL_author_3 rfl 0 rfl ?_
  refine k_iload_n F dL_author_4 rfl 1 rfl ?_
  refine k_iload_n F dL_author_5 rfl 2 rfl ?_
  refine k_iload_n F dL_author_6 rfl 3 rfl ?_
  refine k_callW F X hkn cal_X8_author wm_659 hGC (fun l D A hst hD => c_X8_author hst hD hGC ra1 ra2 ra3 h) ⟨Nat.le_of_ble_eq_true rfl, Nat.le_of_ble_eq_true rfl⟩ rfl rfl (Nat.le_of_ble_eq_true rfl) dL_author_7 (fun x C' e rx hG' b => ?_) (fun E C' e hG' => ?_)
  · subst e
    refine k_i2l F rx dL_author_10 ?_
    refine k_lastW F X dL_author_11 ?_
    refine k_goto F (tgt := 23) dL_author_12 (by decide) ?_
    refine k_iconst F dL_author_23 ?_
    exact k_iretW F hQ hG' hkn rfl rfl dL_author_24
  · have hm := hE E C' e
    subst e
    rcases List.mem_cons.mp hm with rfl | hm
    · refine ⟨[], ⟨0, 12, 15, 13⟩, [⟨0, 12, 19, 15⟩], rfl, (fun z hz => by cases hz), by decide, by decide, wm_640, by decide, fun q9 => ?_⟩
      have F2 := F.up (k := 1) (n := 6) (Nat.le_refl 1) (Nat.le_refl 6)
      refine k_at (pc' := 15) rfl ?_
      refine k_astore F2 dL_author_15 (by decide) (lv' := [(5, .ref q9), (0, .ref (ad 0)), (1, .int (zI a1)), (2, .int (zI a2)), (3, .int (zI a3)), (4, .ref o)]) rfl ?_
      refine k_iconst F2 dL_author_17 ?_
      exact k_iretW F2 (zQw_up hQ 1 6) hG' (zKN_up Γ 1 6) (by show (1 : Int) = (((["java/lang/IllegalArgumentException", "java/lang/IllegalStateException"] : List String).idxOf "java/lang/IllegalArgumentException" : Nat) : Int) + 1; decide) rfl dL_author_18
    rcases List.mem_cons.mp hm with rfl | hm
    · refine ⟨[⟨0, 12, 15, 13⟩], ⟨0, 12, 19, 15⟩, [], rfl, (fun z hz => by
        simp only [List.mem_cons, List.not_mem_nil, or_false] at hz
        subst hz
        exact ⟨by decide, _, wm_640, by decide⟩), by decide, by decide, wm_641, by decide, fun q9 => ?_⟩
      have F2 := F.up (k := 1) (n := 6) (Nat.le_refl 1) (Nat.le_refl 6)
      refine k_at (pc' := 19) rfl ?_
      refine k_astore F2 dL_author_19 (by decide) (lv' := [(5, .ref q9), (0, .ref (ad 0)), (1, .int (zI a1)), (2, .int (zI a2)), (3, .int (zI a3)), (4, .ref o)]) rfl ?_
      refine k_iconst F2 dL_author_21 ?_
      exact k_iretW F2 (zQw_up hQ 1 6) hG' (zKN_up Γ 1 6) (by show (2 : Int) = (((["java/lang/IllegalArgumentException", "java/lang/IllegalStateException"] : List String).idxOf "java/lang/IllegalStateException" : Nat) : Int) + 1; decide) rfl dL_author_22
    exact absurd hm List.not_mem_nil
set_option maxRecDepth 100000 in
theorem c_L_meant {l : Launch} {D : va_G} {A : Nat → Prop} {cI cZ cJ : ClassId} {ad ads : Nat → Nat} {o : Nat} (hst : l.stackTraces = false) (hD : ∀ S, va_D A (wW cI cZ cJ ad o S)) {C : zSt} (hGC : RG bsC C) {a1 : Int} (ra1 : inR a1) {a2 : Int} (ra2 : inR a2) {v : Int} {r : zRx} (h : m_X8_meant C a1 a2 = some r) (hE : ∀ E C', r = .inr (E, C') → E ∈ (["java/lang/IllegalArgumentException"] : List String)) : zMw l yL_meant cL_meant 5 [(0, 10, 13, 13)] 8 134 D cI cZ cJ ads A (wW cI cZ cJ ad o) [.ref (ad 0), .int (zI a1), .int (zI a2), .ref o] (zmx C v) r (zcode ["java/lang/IllegalArgumentException"] r) (zst9 r v) (RG bsC (zrs r)) := by
  refine k_startW (by decide +kernel) hst hD (Nat.le_of_ble_eq_true rfl) (fun Γ F X hkn hQ => ?_)
  have F : zF Γ (wW cI cZ cJ ad o) cI cZ cL_meant (zroom 8 134 r) 5 RL := F
  refine k_sub [0, 1, 2, 3] (lv' := [(0, .ref (ad 0)), (1, .int (zI a1)), (2, .int (zI a2)), (3, .ref o)]) rfl ?_
  refine k_aload_n F dL_meant_0 rfl 3 rfl ?_
  refine k_iconst F dL_meant_1 ?_
  refine k_aload_n F dL_meant_2 rfl 0 rfl ?_
  refine k_iload_n F dL_meant_3 rfl 1 rfl ?_
  refine k_iload_n F dL_meant_4 rfl 2 rfl ?_
  refine k_callW F X hkn cal_X8_meant wm_663 hGC (fun l D A hst hD => c_X8_meant hst hD hGC ra1 ra2 h) ⟨Nat.le_of_ble_eq_true rfl, Nat.le_of_ble_eq_true rfl⟩ rfl rfl (Nat.le_of_ble_eq_true rfl) dL_meant_5 (fun x C' e rx hG' b => ?_) (fun E C' e hG' => ?_)
  · subst e
    refine k_i2l F rx dL_meant_8 ?_
    refine k_lastW F X dL_meant_9 ?_
    refine k_goto F (tgt := 17) dL_meant_10 (by decide) ?_
    refine k_iconst F dL_meant_17 ?_
    exact k_iretW F hQ hG' hkn rfl rfl dL_meant_18
  · have hm := hE E C' e
    subst e
    rcases List.mem_cons.mp hm with rfl | hm
    · refine ⟨[], ⟨0, 10, 13, 13⟩, [], rfl, (fun z hz => by cases hz), by decide, by decide, wm_640, by decide, fun q9 => ?_⟩
      have F2 := F.up (k := 1) (n := 6) (Nat.le_refl 1) (Nat.le_refl 6)
      refine k_at (pc' := 13) rfl ?_
      refine k_astore F2 dL_meant_13 (by decide) (lv' := [(4, .ref q9), (0, .ref (ad 0)), (1, .int (zI a1)), (2, .int (zI a2)), (3, .ref o)]) rfl ?_
      refine k_iconst F2 dL_meant_15 ?_
      exact k_iretW F2 (zQw_up hQ 1 6) hG' (zKN_up Γ 1 6) (by show (1 : Int) = (((["java/lang/IllegalArgumentException"] : List String).idxOf "java/lang/IllegalArgumentException" : Nat) : Int) + 1; decide) rfl dL_meant_16
    exact absurd hm List.not_mem_nil
set_option maxRecDepth 100000 in
theorem c_L_comment {l : Launch} {D : va_G} {A : Nat → Prop} {cI cZ cJ : ClassId} {ad ads : Nat → Nat} {o : Nat} (hst : l.stackTraces = false) (hD : ∀ S, va_D A (wW cI cZ cJ ad o S)) {C : zSt} (hGC : RG bsC C) {a1 : Int} (ra1 : inR a1) {a2 : Int} (ra2 : inR a2) {a3 : Int} (ra3 : inR a3) {a4 : Int} (ra4 : inR a4) {a5 : Int} (ra5 : inR a5) {a6 : Int} (ra6 : inR a6) {a7 : Int} (ra7 : inR a7) {v : Int} {r : zRx} (h : m_X8_comment C a1 a2 a3 a4 a5 a6 a7 = some r) (hE : ∀ E C', r = .inr (E, C') → E ∈ (["java/lang/IndexOutOfBoundsException", "java/lang/IllegalArgumentException", "java/lang/IllegalStateException"] : List String)) : zMw l yL_comment cL_comment 10 [(0, 20, 23, 25), (0, 20, 27, 13), (0, 20, 31, 15)] 8 141 D cI cZ cJ ads A (wW cI cZ cJ ad o) [.ref (ad 0), .int (zI a1), .int (zI a2), .int (zI a3), .int (zI a4), .int (zI a5), .int (zI a6), .int (zI a7), .ref o] (zmx C v) r (zcode ["java/lang/IndexOutOfBoundsException", "java/lang/IllegalArgumentException", "java/lang/IllegalStateException"] r) (zst9 r v) (RG bsC (zrs r)) := by
  refine k_startW (by decide +kernel) hst hD (Nat.le_of_ble_eq_true rfl) (fun Γ F X hkn hQ => ?_)
  have F : zF Γ (wW cI cZ cJ ad o) cI cZ cL_comment (zroom 8 141 r) 10 RL := F
  refine k_sub [0, 1, 2, 3, 4, 5, 6, 7, 8] (lv' := [(0, .ref (ad 0)), (1, .int (zI a1)), (2, .int (zI a2)), (3, .int (zI a3)), (4, .int (zI a4)), (5, .int (zI a5)), (6, .int (zI a6)), (7, .int (zI a7)), (8, .ref o)]) rfl ?_
  refine k_aload F dL_comment_0 8 rfl ?_
  refine k_iconst F dL_comment_2 ?_
  refine k_aload_n F dL_comment_3 rfl 0 rfl ?_
  refine k_iload_n F dL_comment_4 rfl 1 rfl ?_
  refine k_iload_n F dL_comment_5 rfl 2 rfl ?_
  refine k_iload_n F dL_comment_6 rfl 3 rfl ?_
  refine k_iload F dL_comment_7 4 rfl ?_
  refine k_iload F dL_comment_9 5 rfl ?_
  refine k_iload F dL_comment_11 6 rfl ?_
  refine k_iload F dL_comment_13 7 rfl ?_
  refine k_callW F X hkn cal_X8_comment wm_667 hGC (fun l D A hst hD => c_X8_comment hst hD hGC ra1 ra2 ra3 ra4 ra5 ra6 ra7 h) ⟨Nat.le_of_ble_eq_true rfl, Nat.le_of_ble_eq_true rfl⟩ rfl rfl (Nat.le_of_ble_eq_true rfl) dL_comment_15 (fun x C' e rx hG' b => ?_) (fun E C' e hG' => ?_)
  · subst e
    refine k_i2l F rx dL_comment_18 ?_
    refine k_lastW F X dL_comment_19 ?_
    refine k_goto F (tgt := 35) dL_comment_20 (by decide) ?_
    refine k_iconst F dL_comment_35 ?_
    exact k_iretW F hQ hG' hkn rfl rfl dL_comment_36
  · have hm := hE E C' e
    subst e
    rcases List.mem_cons.mp hm with rfl | hm
    · refine ⟨[], ⟨0, 20, 23, 25⟩, [⟨0, 20, 27, 13⟩, ⟨0, 20, 31, 15⟩], rfl, (fun z hz => by cases hz), by decide, by decide, wm_650, by decide, fun q9 => ?_⟩
      have F2 := F.up (k := 1) (n := 6) (Nat.le_refl 1) (Nat.le_refl 6)
      refine k_at (pc' := 23) rfl ?_
      refine k_astore F2 dL_comment_23 (by decide) (lv' := [(9, .ref q9), (0, .ref (ad 0)), (1, .int (zI a1)), (2, .int (zI a2)), (3, .int (zI a3)), (4, .int (zI a4)), (5, .int (zI a5)), (6, .int (zI a6)), (7, .int (zI a7)), (8, .ref o)]) rfl ?_
      refine k_iconst F2 dL_comment_25 ?_
      exact k_iretW F2 (zQw_up hQ 1 6) hG' (zKN_up Γ 1 6) (by show (1 : Int) = (((["java/lang/IndexOutOfBoundsException", "java/lang/IllegalArgumentException", "java/lang/IllegalStateException"] : List String).idxOf "java/lang/IndexOutOfBoundsException" : Nat) : Int) + 1; decide) rfl dL_comment_26
    rcases List.mem_cons.mp hm with rfl | hm
    · refine ⟨[⟨0, 20, 23, 25⟩], ⟨0, 20, 27, 13⟩, [⟨0, 20, 31, 15⟩], rfl, (fun z hz => by
        simp only [List.mem_cons, List.not_mem_nil, or_false] at hz
        subst hz
        exact ⟨by decide, _, wm_650, by decide⟩), by decide, by decide, wm_640, by decide, fun q9 => ?_⟩
      have F2 := F.up (k := 1) (n := 6) (Nat.le_refl 1) (Nat.le_refl 6)
      refine k_at (pc' := 27) rfl ?_
      refine k_astore F2 dL_comment_27 (by decide) (lv' := [(9, .ref q9), (0, .ref (ad 0)), (1, .int (zI a1)), (2, .int (zI a2)), (3, .int (zI a3)), (4, .int (zI a4)), (5, .int (zI a5)), (6, .int (zI a6)), (7, .int (zI a7)), (8, .ref o)]) rfl ?_
      refine k_iconst F2 dL_comment_29 ?_
      exact k_iretW F2 (zQw_up hQ 1 6) hG' (zKN_up Γ 1 6) (by show (2 : Int) = (((["java/lang/IndexOutOfBoundsException", "java/lang/IllegalArgumentException", "java/lang/IllegalStateException"] : List String).idxOf "java/lang/IllegalArgumentException" : Nat) : Int) + 1; decide) rfl dL_comment_30
    rcases List.mem_cons.mp hm with rfl | hm
    · refine ⟨[⟨0, 20, 23, 25⟩, ⟨0, 20, 27, 13⟩], ⟨0, 20, 31, 15⟩, [], rfl, (fun z hz => by
        simp only [List.mem_cons, List.not_mem_nil, or_false] at hz
        rcases hz with rfl | rfl
        · exact ⟨by decide, _, wm_650, by decide⟩
        · exact ⟨by decide, _, wm_640, by decide⟩), by decide, by decide, wm_641, by decide, fun q9 => ?_⟩
      have F2 := F.up (k := 1) (n := 6) (Nat.le_refl 1) (Nat.le_refl 6)
      refine k_at (pc' := 31) rfl ?_
      refine k_astore F2 dL_comment_31 (by decide) (lv' := [(9, .ref q9), (0, .ref (ad 0)), (1, .int (zI a1)), (2, .int (zI a2)), (3, .int (zI a3)), (4, .int (zI a4)), (5, .int (zI a5)), (6, .int (zI a6)), (7, .int (zI a7)), (8, .ref o)]) rfl ?_
      refine k_iconst F2 dL_comment_33 ?_
      exact k_iretW F2 (zQw_up hQ 1 6) hG' (zKN_up Γ 1 6) (by show (3 : Int) = (((["java/lang/IndexOutOfBoundsException", "java/lang/IllegalArgumentException", "java/lang/IllegalStateException"] : List String).idxOf "java/lang/IllegalStateException" : Nat) : Int) + 1; decide) rfl dL_comment_34
    exact absurd hm List.not_mem_nil
set_option maxRecDepth 100000 in
theorem c_L_gloss {l : Launch} {D : va_G} {A : Nat → Prop} {cI cZ cJ : ClassId} {ad ads : Nat → Nat} {o : Nat} (hst : l.stackTraces = false) (hD : ∀ S, va_D A (wW cI cZ cJ ad o S)) {C : zSt} (hGC : RG bsC C) {a1 : Int} (ra1 : inR a1) {a2 : Int} (ra2 : inR a2) {a3 : Int} (ra3 : inR a3) {a4 : Int} (ra4 : inR a4) {a5 : Int} (ra5 : inR a5) {v : Int} {r : zRx} (h : m_X8_gloss C a1 a2 a3 a4 a5 = some r) (hE : ∀ E C', r = .inr (E, C') → E ∈ (["java/lang/IndexOutOfBoundsException", "java/lang/IllegalArgumentException", "java/lang/IllegalStateException"] : List String)) : zMw l yL_gloss cL_gloss 8 [(0, 16, 19, 25), (0, 16, 23, 13), (0, 16, 27, 15)] 8 138 D cI cZ cJ ads A (wW cI cZ cJ ad o) [.ref (ad 0), .int (zI a1), .int (zI a2), .int (zI a3), .int (zI a4), .int (zI a5), .ref o] (zmx C v) r (zcode ["java/lang/IndexOutOfBoundsException", "java/lang/IllegalArgumentException", "java/lang/IllegalStateException"] r) (zst9 r v) (RG bsC (zrs r)) := by
  refine k_startW (by decide +kernel) hst hD (Nat.le_of_ble_eq_true rfl) (fun Γ F X hkn hQ => ?_)
  have F : zF Γ (wW cI cZ cJ ad o) cI cZ cL_gloss (zroom 8 138 r) 8 RL := F
  refine k_sub [0, 1, 2, 3, 4, 5, 6] (lv' := [(0, .ref (ad 0)), (1, .int (zI a1)), (2, .int (zI a2)), (3, .int (zI a3)), (4, .int (zI a4)), (5, .int (zI a5)), (6, .ref o)]) rfl ?_
  refine k_aload F dL_gloss_0 6 rfl ?_
  refine k_iconst F dL_gloss_2 ?_
  refine k_aload_n F dL_gloss_3 rfl 0 rfl ?_
  refine k_iload_n F dL_gloss_4 rfl 1 rfl ?_
  refine k_iload_n F dL_gloss_5 rfl 2 rfl ?_
  refine k_iload_n F dL_gloss_6 rfl 3 rfl ?_
  refine k_iload F dL_gloss_7 4 rfl ?_
  refine k_iload F dL_gloss_9 5 rfl ?_
  refine k_callW F X hkn cal_X8_gloss wm_671 hGC (fun l D A hst hD => c_X8_gloss hst hD hGC ra1 ra2 ra3 ra4 ra5 h) ⟨Nat.le_of_ble_eq_true rfl, Nat.le_of_ble_eq_true rfl⟩ rfl rfl (Nat.le_of_ble_eq_true rfl) dL_gloss_11 (fun x C' e rx hG' b => ?_) (fun E C' e hG' => ?_)
  · subst e
    refine k_i2l F rx dL_gloss_14 ?_
    refine k_lastW F X dL_gloss_15 ?_
    refine k_goto F (tgt := 31) dL_gloss_16 (by decide) ?_
    refine k_iconst F dL_gloss_31 ?_
    exact k_iretW F hQ hG' hkn rfl rfl dL_gloss_32
  · have hm := hE E C' e
    subst e
    rcases List.mem_cons.mp hm with rfl | hm
    · refine ⟨[], ⟨0, 16, 19, 25⟩, [⟨0, 16, 23, 13⟩, ⟨0, 16, 27, 15⟩], rfl, (fun z hz => by cases hz), by decide, by decide, wm_650, by decide, fun q9 => ?_⟩
      have F2 := F.up (k := 1) (n := 6) (Nat.le_refl 1) (Nat.le_refl 6)
      refine k_at (pc' := 19) rfl ?_
      refine k_astore F2 dL_gloss_19 (by decide) (lv' := [(7, .ref q9), (0, .ref (ad 0)), (1, .int (zI a1)), (2, .int (zI a2)), (3, .int (zI a3)), (4, .int (zI a4)), (5, .int (zI a5)), (6, .ref o)]) rfl ?_
      refine k_iconst F2 dL_gloss_21 ?_
      exact k_iretW F2 (zQw_up hQ 1 6) hG' (zKN_up Γ 1 6) (by show (1 : Int) = (((["java/lang/IndexOutOfBoundsException", "java/lang/IllegalArgumentException", "java/lang/IllegalStateException"] : List String).idxOf "java/lang/IndexOutOfBoundsException" : Nat) : Int) + 1; decide) rfl dL_gloss_22
    rcases List.mem_cons.mp hm with rfl | hm
    · refine ⟨[⟨0, 16, 19, 25⟩], ⟨0, 16, 23, 13⟩, [⟨0, 16, 27, 15⟩], rfl, (fun z hz => by
        simp only [List.mem_cons, List.not_mem_nil, or_false] at hz
        subst hz
        exact ⟨by decide, _, wm_650, by decide⟩), by decide, by decide, wm_640, by decide, fun q9 => ?_⟩
      have F2 := F.up (k := 1) (n := 6) (Nat.le_refl 1) (Nat.le_refl 6)
      refine k_at (pc' := 23) rfl ?_
      refine k_astore F2 dL_gloss_23 (by decide) (lv' := [(7, .ref q9), (0, .ref (ad 0)), (1, .int (zI a1)), (2, .int (zI a2)), (3, .int (zI a3)), (4, .int (zI a4)), (5, .int (zI a5)), (6, .ref o)]) rfl ?_
      refine k_iconst F2 dL_gloss_25 ?_
      exact k_iretW F2 (zQw_up hQ 1 6) hG' (zKN_up Γ 1 6) (by show (2 : Int) = (((["java/lang/IndexOutOfBoundsException", "java/lang/IllegalArgumentException", "java/lang/IllegalStateException"] : List String).idxOf "java/lang/IllegalArgumentException" : Nat) : Int) + 1; decide) rfl dL_gloss_26
    rcases List.mem_cons.mp hm with rfl | hm
    · refine ⟨[⟨0, 16, 19, 25⟩, ⟨0, 16, 23, 13⟩], ⟨0, 16, 27, 15⟩, [], rfl, (fun z hz => by
        simp only [List.mem_cons, List.not_mem_nil, or_false] at hz
        rcases hz with rfl | rfl
        · exact ⟨by decide, _, wm_650, by decide⟩
        · exact ⟨by decide, _, wm_640, by decide⟩), by decide, by decide, wm_641, by decide, fun q9 => ?_⟩
      have F2 := F.up (k := 1) (n := 6) (Nat.le_refl 1) (Nat.le_refl 6)
      refine k_at (pc' := 27) rfl ?_
      refine k_astore F2 dL_gloss_27 (by decide) (lv' := [(7, .ref q9), (0, .ref (ad 0)), (1, .int (zI a1)), (2, .int (zI a2)), (3, .int (zI a3)), (4, .int (zI a4)), (5, .int (zI a5)), (6, .ref o)]) rfl ?_
      refine k_iconst F2 dL_gloss_29 ?_
      exact k_iretW F2 (zQw_up hQ 1 6) hG' (zKN_up Γ 1 6) (by show (3 : Int) = (((["java/lang/IndexOutOfBoundsException", "java/lang/IllegalArgumentException", "java/lang/IllegalStateException"] : List String).idxOf "java/lang/IllegalStateException" : Nat) : Int) + 1; decide) rfl dL_gloss_30
    exact absurd hm List.not_mem_nil
set_option maxRecDepth 100000 in
theorem c_L_told {l : Launch} {D : va_G} {A : Nat → Prop} {cI cZ cJ : ClassId} {ad ads : Nat → Nat} {o : Nat} (hst : l.stackTraces = false) (hD : ∀ S, va_D A (wW cI cZ cJ ad o S)) {C : zSt} (hGC : RG bsC C) {a1 : Int} (ra1 : inR a1) {a2 : Int} (ra2 : inR a2) {v : Int} {r : zRx} (h : m_X8_told C a1 a2 = some r) (hE : ∀ E C', r = .inr (E, C') → E ∈ (["java/lang/IndexOutOfBoundsException", "java/lang/IllegalArgumentException"] : List String)) : zMw l yL_told cL_told 5 [(0, 10, 13, 25), (0, 10, 17, 13)] 8 134 D cI cZ cJ ads A (wW cI cZ cJ ad o) [.ref (ad 0), .int (zI a1), .int (zI a2), .ref o] (zmx C v) r (zcode ["java/lang/IndexOutOfBoundsException", "java/lang/IllegalArgumentException"] r) (zst9 r v) (RG bsC (zrs r)) := by
  refine k_startW (by decide +kernel) hst hD (Nat.le_of_ble_eq_true rfl) (fun Γ F X hkn hQ => ?_)
  have F : zF Γ (wW cI cZ cJ ad o) cI cZ cL_told (zroom 8 134 r) 5 RL := F
  refine k_sub [0, 1, 2, 3] (lv' := [(0, .ref (ad 0)), (1, .int (zI a1)), (2, .int (zI a2)), (3, .ref o)]) rfl ?_
  refine k_aload_n F dL_told_0 rfl 3 rfl ?_
  refine k_iconst F dL_told_1 ?_
  refine k_aload_n F dL_told_2 rfl 0 rfl ?_
  refine k_iload_n F dL_told_3 rfl 1 rfl ?_
  refine k_iload_n F dL_told_4 rfl 2 rfl ?_
  refine k_callW F X hkn cal_X8_told wm_675 hGC (fun l D A hst hD => c_X8_told hst hD hGC ra1 ra2 h) ⟨Nat.le_of_ble_eq_true rfl, Nat.le_of_ble_eq_true rfl⟩ rfl rfl (Nat.le_of_ble_eq_true rfl) dL_told_5 (fun x C' e rx hG' b => ?_) (fun E C' e hG' => ?_)
  · subst e
    refine k_i2l F rx dL_told_8 ?_
    refine k_lastW F X dL_told_9 ?_
    refine k_goto F (tgt := 21) dL_told_10 (by decide) ?_
    refine k_iconst F dL_told_21 ?_
    exact k_iretW F hQ hG' hkn rfl rfl dL_told_22
  · have hm := hE E C' e
    subst e
    rcases List.mem_cons.mp hm with rfl | hm
    · refine ⟨[], ⟨0, 10, 13, 25⟩, [⟨0, 10, 17, 13⟩], rfl, (fun z hz => by cases hz), by decide, by decide, wm_650, by decide, fun q9 => ?_⟩
      have F2 := F.up (k := 1) (n := 6) (Nat.le_refl 1) (Nat.le_refl 6)
      refine k_at (pc' := 13) rfl ?_
      refine k_astore F2 dL_told_13 (by decide) (lv' := [(4, .ref q9), (0, .ref (ad 0)), (1, .int (zI a1)), (2, .int (zI a2)), (3, .ref o)]) rfl ?_
      refine k_iconst F2 dL_told_15 ?_
      exact k_iretW F2 (zQw_up hQ 1 6) hG' (zKN_up Γ 1 6) (by show (1 : Int) = (((["java/lang/IndexOutOfBoundsException", "java/lang/IllegalArgumentException"] : List String).idxOf "java/lang/IndexOutOfBoundsException" : Nat) : Int) + 1; decide) rfl dL_told_16
    rcases List.mem_cons.mp hm with rfl | hm
    · refine ⟨[⟨0, 10, 13, 25⟩], ⟨0, 10, 17, 13⟩, [], rfl, (fun z hz => by
        simp only [List.mem_cons, List.not_mem_nil, or_false] at hz
        subst hz
        exact ⟨by decide, _, wm_650, by decide⟩), by decide, by decide, wm_640, by decide, fun q9 => ?_⟩
      have F2 := F.up (k := 1) (n := 6) (Nat.le_refl 1) (Nat.le_refl 6)
      refine k_at (pc' := 17) rfl ?_
      refine k_astore F2 dL_told_17 (by decide) (lv' := [(4, .ref q9), (0, .ref (ad 0)), (1, .int (zI a1)), (2, .int (zI a2)), (3, .ref o)]) rfl ?_
      refine k_iconst F2 dL_told_19 ?_
      exact k_iretW F2 (zQw_up hQ 1 6) hG' (zKN_up Γ 1 6) (by show (2 : Int) = (((["java/lang/IndexOutOfBoundsException", "java/lang/IllegalArgumentException"] : List String).idxOf "java/lang/IllegalArgumentException" : Nat) : Int) + 1; decide) rfl dL_told_20
    exact absurd hm List.not_mem_nil
set_option maxRecDepth 100000 in
theorem c_L_standsAnew {l : Launch} {D : va_G} {A : Nat → Prop} {cI cZ cJ : ClassId} {ad ads : Nat → Nat} {o : Nat} (hst : l.stackTraces = false) (hD : ∀ S, va_D A (wW cI cZ cJ ad o S)) {C : zSt} (hGC : RG bsC C) {a1 : Int} (ra1 : inR a1) {v : Int} {r : zRx} (h : m_X8_standsAnew C a1 = some r) (hE : ∀ E C', r = .inr (E, C') → E ∈ (["java/lang/IndexOutOfBoundsException"] : List String)) : zMw l yL_standsAnew cL_standsAnew 4 [(0, 16, 19, 25)] 8 132 D cI cZ cJ ads A (wW cI cZ cJ ad o) [.ref (ad 0), .int (zI a1), .ref o] (zmx C v) r (zcode ["java/lang/IndexOutOfBoundsException"] r) (zst9 r v) (RG bsC (zrs r)) := by
  refine k_startW (by decide +kernel) hst hD (Nat.le_of_ble_eq_true rfl) (fun Γ F X hkn hQ => ?_)
  have F : zF Γ (wW cI cZ cJ ad o) cI cZ cL_standsAnew (zroom 8 132 r) 4 RL := F
  refine k_sub [0, 1, 2] (lv' := [(0, .ref (ad 0)), (1, .int (zI a1)), (2, .ref o)]) rfl ?_
  refine k_aload_n F dL_standsAnew_0 rfl 2 rfl ?_
  refine k_iconst F dL_standsAnew_1 ?_
  refine k_aload_n F dL_standsAnew_2 rfl 0 rfl ?_
  refine k_iload_n F dL_standsAnew_3 rfl 1 rfl ?_
  refine k_callW F X hkn cal_X8_standsAnew wm_679 hGC (fun l D A hst hD => c_X8_standsAnew hst hD hGC ra1 h) ⟨Nat.le_of_ble_eq_true rfl, Nat.le_of_ble_eq_true rfl⟩ rfl rfl (Nat.le_of_ble_eq_true rfl) dL_standsAnew_4 (fun x C' e rx hG' b => ?_) (fun E C' e hG' => ?_)
  · subst e
    rcases b rfl with e0 | e0
    · subst e0
      refine k_if_eq (R := Unit) (r := ()) (A := some ()) (B := none) F (by decide) (tgt := 14) dL_standsAnew_7 (by decide) (if_pos rfl) (fun _ => ?_) (fun z => by cases z)
      refine k_lconst F (x := 0) dL_standsAnew_14 (by decide) ?_
      refine k_lastW F X dL_standsAnew_15 ?_
      refine k_goto F (tgt := 22) dL_standsAnew_16 (by decide) ?_
      refine k_iconst F dL_standsAnew_22 ?_
      exact k_iretW F hQ hG' hkn rfl rfl dL_standsAnew_23
    · subst e0
      refine k_if_eq (R := Unit) (r := ()) (A := none) (B := some ()) F (by decide) (tgt := 14) dL_standsAnew_7 (by decide) (if_neg (by decide)) (fun z => by cases z) (fun _ => ?_)
      refine k_lconst F (x := 1) dL_standsAnew_10 (by decide) ?_
      refine k_goto F (tgt := 15) dL_standsAnew_11 (by decide) ?_
      refine k_lastW F X dL_standsAnew_15 ?_
      refine k_goto F (tgt := 22) dL_standsAnew_16 (by decide) ?_
      refine k_iconst F dL_standsAnew_22 ?_
      exact k_iretW F hQ hG' hkn rfl rfl dL_standsAnew_23
  · have hm := hE E C' e
    subst e
    rcases List.mem_cons.mp hm with rfl | hm
    · refine ⟨[], ⟨0, 16, 19, 25⟩, [], rfl, (fun z hz => by cases hz), by decide, by decide, wm_650, by decide, fun q9 => ?_⟩
      have F2 := F.up (k := 1) (n := 6) (Nat.le_refl 1) (Nat.le_refl 6)
      refine k_at (pc' := 19) rfl ?_
      refine k_astore_n F2 dL_standsAnew_19 rfl (by decide) (lv' := [(3, .ref q9), (0, .ref (ad 0)), (1, .int (zI a1)), (2, .ref o)]) rfl ?_
      refine k_iconst F2 dL_standsAnew_20 ?_
      exact k_iretW F2 (zQw_up hQ 1 6) hG' (zKN_up Γ 1 6) (by show (1 : Int) = (((["java/lang/IndexOutOfBoundsException"] : List String).idxOf "java/lang/IndexOutOfBoundsException" : Nat) : Int) + 1; decide) rfl dL_standsAnew_21
    exact absurd hm List.not_mem_nil
set_option maxRecDepth 100000 in
theorem c_L_isHard {l : Launch} {D : va_G} {A : Nat → Prop} {cI cZ cJ : ClassId} {ad ads : Nat → Nat} {o : Nat} (hst : l.stackTraces = false) (hD : ∀ S, va_D A (wW cI cZ cJ ad o S)) {C : zSt} (hGC : RG bsC C) {a1 : Int} (ra1 : inR a1) {v : Int} {r : zRx} (h : m_X8_isHard C a1 = some r) (hE : ∀ E C', r = .inr (E, C') → E ∈ (["java/lang/IndexOutOfBoundsException"] : List String)) : zMw l yL_isHard cL_isHard 4 [(0, 16, 19, 25)] 8 132 D cI cZ cJ ads A (wW cI cZ cJ ad o) [.ref (ad 0), .int (zI a1), .ref o] (zmx C v) r (zcode ["java/lang/IndexOutOfBoundsException"] r) (zst9 r v) (RG bsC (zrs r)) := by
  refine k_startW (by decide +kernel) hst hD (Nat.le_of_ble_eq_true rfl) (fun Γ F X hkn hQ => ?_)
  have F : zF Γ (wW cI cZ cJ ad o) cI cZ cL_isHard (zroom 8 132 r) 4 RL := F
  refine k_sub [0, 1, 2] (lv' := [(0, .ref (ad 0)), (1, .int (zI a1)), (2, .ref o)]) rfl ?_
  refine k_aload_n F dL_isHard_0 rfl 2 rfl ?_
  refine k_iconst F dL_isHard_1 ?_
  refine k_aload_n F dL_isHard_2 rfl 0 rfl ?_
  refine k_iload_n F dL_isHard_3 rfl 1 rfl ?_
  refine k_callW F X hkn cal_X8_isHard wm_683 hGC (fun l D A hst hD => c_X8_isHard hst hD hGC ra1 h) ⟨Nat.le_of_ble_eq_true rfl, Nat.le_of_ble_eq_true rfl⟩ rfl rfl (Nat.le_of_ble_eq_true rfl) dL_isHard_4 (fun x C' e rx hG' b => ?_) (fun E C' e hG' => ?_)
  · subst e
    rcases b rfl with e0 | e0
    · subst e0
      refine k_if_eq (R := Unit) (r := ()) (A := some ()) (B := none) F (by decide) (tgt := 14) dL_isHard_7 (by decide) (if_pos rfl) (fun _ => ?_) (fun z => by cases z)
      refine k_lconst F (x := 0) dL_isHard_14 (by decide) ?_
      refine k_lastW F X dL_isHard_15 ?_
      refine k_goto F (tgt := 22) dL_isHard_16 (by decide) ?_
      refine k_iconst F dL_isHard_22 ?_
      exact k_iretW F hQ hG' hkn rfl rfl dL_isHard_23
    · subst e0
      refine k_if_eq (R := Unit) (r := ()) (A := none) (B := some ()) F (by decide) (tgt := 14) dL_isHard_7 (by decide) (if_neg (by decide)) (fun z => by cases z) (fun _ => ?_)
      refine k_lconst F (x := 1) dL_isHard_10 (by decide) ?_
      refine k_goto F (tgt := 15) dL_isHard_11 (by decide) ?_
      refine k_lastW F X dL_isHard_15 ?_
      refine k_goto F (tgt := 22) dL_isHard_16 (by decide) ?_
      refine k_iconst F dL_isHard_22 ?_
      exact k_iretW F hQ hG' hkn rfl rfl dL_isHard_23
  · have hm := hE E C' e
    subst e
    rcases List.mem_cons.mp hm with rfl | hm
    · refine ⟨[], ⟨0, 16, 19, 25⟩, [], rfl, (fun z hz => by cases hz), by decide, by decide, wm_650, by decide, fun q9 => ?_⟩
      have F2 := F.up (k := 1) (n := 6) (Nat.le_refl 1) (Nat.le_refl 6)
      refine k_at (pc' := 19) rfl ?_
      refine k_astore_n F2 dL_isHard_19 rfl (by decide) (lv' := [(3, .ref q9), (0, .ref (ad 0)), (1, .int (zI a1)), (2, .ref o)]) rfl ?_
      refine k_iconst F2 dL_isHard_20 ?_
      exact k_iretW F2 (zQw_up hQ 1 6) hG' (zKN_up Γ 1 6) (by show (1 : Int) = (((["java/lang/IndexOutOfBoundsException"] : List String).idxOf "java/lang/IndexOutOfBoundsException" : Nat) : Int) + 1; decide) rfl dL_isHard_21
    exact absurd hm List.not_mem_nil
set_option maxRecDepth 100000 in
theorem c_L_solved {l : Launch} {D : va_G} {A : Nat → Prop} {cI cZ cJ : ClassId} {ad ads : Nat → Nat} {o : Nat} (hst : l.stackTraces = false) (hD : ∀ S, va_D A (wW cI cZ cJ ad o S)) {C : zSt} (hGC : RG bsC C) {a1 : Int} (ra1 : inR a1) {v : Int} {r : zRx} (h : m_X8_solved C a1 = some r) (hE : ∀ E C', r = .inr (E, C') → E ∈ (["java/lang/IllegalArgumentException"] : List String)) : zMw l yL_solved cL_solved 4 [(0, 9, 12, 13)] 8 133 D cI cZ cJ ads A (wW cI cZ cJ ad o) [.ref (ad 0), .int (zI a1), .ref o] (zmx C v) r (zcode ["java/lang/IllegalArgumentException"] r) (zst9 r v) (RG bsC (zrs r)) := by
  refine k_startW (by decide +kernel) hst hD (Nat.le_of_ble_eq_true rfl) (fun Γ F X hkn hQ => ?_)
  have F : zF Γ (wW cI cZ cJ ad o) cI cZ cL_solved (zroom 8 133 r) 4 RL := F
  refine k_sub [0, 1, 2] (lv' := [(0, .ref (ad 0)), (1, .int (zI a1)), (2, .ref o)]) rfl ?_
  refine k_aload_n F dL_solved_0 rfl 2 rfl ?_
  refine k_iconst F dL_solved_1 ?_
  refine k_aload_n F dL_solved_2 rfl 0 rfl ?_
  refine k_iload_n F dL_solved_3 rfl 1 rfl ?_
  refine k_callW F X hkn cal_X8_solved wm_687 hGC (fun l D A hst hD => c_X8_solved hst hD hGC ra1 h) ⟨Nat.le_of_ble_eq_true rfl, Nat.le_of_ble_eq_true rfl⟩ rfl rfl (Nat.le_of_ble_eq_true rfl) dL_solved_4 (fun x C' e rx hG' b => ?_) (fun E C' e hG' => ?_)
  · subst e
    refine k_i2l F rx dL_solved_7 ?_
    refine k_lastW F X dL_solved_8 ?_
    refine k_goto F (tgt := 15) dL_solved_9 (by decide) ?_
    refine k_iconst F dL_solved_15 ?_
    exact k_iretW F hQ hG' hkn rfl rfl dL_solved_16
  · have hm := hE E C' e
    subst e
    rcases List.mem_cons.mp hm with rfl | hm
    · refine ⟨[], ⟨0, 9, 12, 13⟩, [], rfl, (fun z hz => by cases hz), by decide, by decide, wm_640, by decide, fun q9 => ?_⟩
      have F2 := F.up (k := 1) (n := 6) (Nat.le_refl 1) (Nat.le_refl 6)
      refine k_at (pc' := 12) rfl ?_
      refine k_astore_n F2 dL_solved_12 rfl (by decide) (lv' := [(3, .ref q9), (0, .ref (ad 0)), (1, .int (zI a1)), (2, .ref o)]) rfl ?_
      refine k_iconst F2 dL_solved_13 ?_
      exact k_iretW F2 (zQw_up hQ 1 6) hG' (zKN_up Γ 1 6) (by show (1 : Int) = (((["java/lang/IllegalArgumentException"] : List String).idxOf "java/lang/IllegalArgumentException" : Nat) : Int) + 1; decide) rfl dL_solved_14
    exact absurd hm List.not_mem_nil
set_option maxRecDepth 100000 in
theorem c_L_ruling {l : Launch} {D : va_G} {A : Nat → Prop} {cI cZ cJ : ClassId} {ad ads : Nat → Nat} {o : Nat} (hst : l.stackTraces = false) (hD : ∀ S, va_D A (wW cI cZ cJ ad o S)) {C : zSt} (hGC : RG bsC C) {a1 : Int} (ra1 : inR a1) {a2 : Int} (ra2 : inR a2) {a3 : Int} (ra3 : inR a3) {v : Int} {r : zRx} (h : m_X8_ruling C a1 a2 a3 = some r) (hE : ∀ E C', r = .inr (E, C') → E ∈ (["java/lang/IndexOutOfBoundsException", "java/lang/IllegalStateException"] : List String)) : zMw l yL_ruling cL_ruling 6 [(0, 12, 15, 25), (0, 12, 19, 15)] 8 134 D cI cZ cJ ads A (wW cI cZ cJ ad o) [.ref (ad 0), .int (zI a1), .int (zI a2), .int (zI a3), .ref o] (zmx C v) r (zcode ["java/lang/IndexOutOfBoundsException", "java/lang/IllegalStateException"] r) (zst9 r v) (RG bsC (zrs r)) := by
  refine k_startW (by decide +kernel) hst hD (Nat.le_of_ble_eq_true rfl) (fun Γ F X hkn hQ => ?_)
  have F : zF Γ (wW cI cZ cJ ad o) cI cZ cL_ruling (zroom 8 134 r) 6 RL := F
  refine k_sub [0, 1, 2, 3, 4] (lv' := [(0, .ref (ad 0)), (1, .int (zI a1)), (2, .int (zI a2)), (3, .int (zI a3)), (4, .ref o)]) rfl ?_
  refine k_aload F dL_ruling_0 4 rfl ?_
  refine k_iconst F dL_ruling_2 ?_
  refine k_aload_n F dL_ruling_3 rfl 0 rfl ?_
  refine k_iload_n F dL_ruling_4 rfl 1 rfl ?_
  refine k_iload_n F dL_ruling_5 rfl 2 rfl ?_
  refine k_iload_n F dL_ruling_6 rfl 3 rfl ?_
  refine k_callW F X hkn cal_X8_ruling wm_691 hGC (fun l D A hst hD => c_X8_ruling hst hD hGC ra1 ra2 ra3 h) ⟨Nat.le_of_ble_eq_true rfl, Nat.le_of_ble_eq_true rfl⟩ rfl rfl (Nat.le_of_ble_eq_true rfl) dL_ruling_7 (fun x C' e rx hG' b => ?_) (fun E C' e hG' => ?_)
  · subst e
    refine k_i2l F rx dL_ruling_10 ?_
    refine k_lastW F X dL_ruling_11 ?_
    refine k_goto F (tgt := 23) dL_ruling_12 (by decide) ?_
    refine k_iconst F dL_ruling_23 ?_
    exact k_iretW F hQ hG' hkn rfl rfl dL_ruling_24
  · have hm := hE E C' e
    subst e
    rcases List.mem_cons.mp hm with rfl | hm
    · refine ⟨[], ⟨0, 12, 15, 25⟩, [⟨0, 12, 19, 15⟩], rfl, (fun z hz => by cases hz), by decide, by decide, wm_650, by decide, fun q9 => ?_⟩
      have F2 := F.up (k := 1) (n := 6) (Nat.le_refl 1) (Nat.le_refl 6)
      refine k_at (pc' := 15) rfl ?_
      refine k_astore F2 dL_ruling_15 (by decide) (lv' := [(5, .ref q9), (0, .ref (ad 0)), (1, .int (zI a1)), (2, .int (zI a2)), (3, .int (zI a3)), (4, .ref o)]) rfl ?_
      refine k_iconst F2 dL_ruling_17 ?_
      exact k_iretW F2 (zQw_up hQ 1 6) hG' (zKN_up Γ 1 6) (by show (1 : Int) = (((["java/lang/IndexOutOfBoundsException", "java/lang/IllegalStateException"] : List String).idxOf "java/lang/IndexOutOfBoundsException" : Nat) : Int) + 1; decide) rfl dL_ruling_18
    rcases List.mem_cons.mp hm with rfl | hm
    · refine ⟨[⟨0, 12, 15, 25⟩], ⟨0, 12, 19, 15⟩, [], rfl, (fun z hz => by
        simp only [List.mem_cons, List.not_mem_nil, or_false] at hz
        subst hz
        exact ⟨by decide, _, wm_650, by decide⟩), by decide, by decide, wm_641, by decide, fun q9 => ?_⟩
      have F2 := F.up (k := 1) (n := 6) (Nat.le_refl 1) (Nat.le_refl 6)
      refine k_at (pc' := 19) rfl ?_
      refine k_astore F2 dL_ruling_19 (by decide) (lv' := [(5, .ref q9), (0, .ref (ad 0)), (1, .int (zI a1)), (2, .int (zI a2)), (3, .int (zI a3)), (4, .ref o)]) rfl ?_
      refine k_iconst F2 dL_ruling_21 ?_
      exact k_iretW F2 (zQw_up hQ 1 6) hG' (zKN_up Γ 1 6) (by show (2 : Int) = (((["java/lang/IndexOutOfBoundsException", "java/lang/IllegalStateException"] : List String).idxOf "java/lang/IllegalStateException" : Nat) : Int) + 1; decide) rfl dL_ruling_22
    exact absurd hm List.not_mem_nil
set_option maxRecDepth 100000 in
theorem c_L_follow {l : Launch} {D : va_G} {A : Nat → Prop} {cI cZ cJ : ClassId} {ad ads : Nat → Nat} {o : Nat} (hst : l.stackTraces = false) (hD : ∀ S, va_D A (wW cI cZ cJ ad o S)) {C : zSt} (hGC : RG bsC C) {a1 : Int} (ra1 : inR a1) {a2 : Int} (ra2 : inR a2) {v : Int} {r : zRx} (h : m_X8_follow C a1 a2 = some r) (hE : ∀ E C', r = .inr (E, C') → E ∈ (["java/lang/IllegalArgumentException", "java/lang/IllegalStateException"] : List String)) : zMw l yL_follow cL_follow 5 [(0, 10, 13, 13), (0, 10, 17, 15)] 8 134 D cI cZ cJ ads A (wW cI cZ cJ ad o) [.ref (ad 0), .int (zI a1), .int (zI a2), .ref o] (zmx C v) r (zcode ["java/lang/IllegalArgumentException", "java/lang/IllegalStateException"] r) (zst9 r v) (RG bsC (zrs r)) := by
  refine k_startW (by decide +kernel) hst hD (Nat.le_of_ble_eq_true rfl) (fun Γ F X hkn hQ => ?_)
  have F : zF Γ (wW cI cZ cJ ad o) cI cZ cL_follow (zroom 8 134 r) 5 RL := F
  refine k_sub [0, 1, 2, 3] (lv' := [(0, .ref (ad 0)), (1, .int (zI a1)), (2, .int (zI a2)), (3, .ref o)]) rfl ?_
  refine k_aload_n F dL_follow_0 rfl 3 rfl ?_
  refine k_iconst F dL_follow_1 ?_
  refine k_aload_n F dL_follow_2 rfl 0 rfl ?_
  refine k_iload_n F dL_follow_3 rfl 1 rfl ?_
  refine k_iload_n F dL_follow_4 rfl 2 rfl ?_
  refine k_callW F X hkn cal_X8_follow wm_695 hGC (fun l D A hst hD => c_X8_follow hst hD hGC ra1 ra2 h) ⟨Nat.le_of_ble_eq_true rfl, Nat.le_of_ble_eq_true rfl⟩ rfl rfl (Nat.le_of_ble_eq_true rfl) dL_follow_5 (fun x C' e rx hG' b => ?_) (fun E C' e hG' => ?_)
  · subst e
    refine k_i2l F rx dL_follow_8 ?_
    refine k_lastW F X dL_follow_9 ?_
    refine k_goto F (tgt := 21) dL_follow_10 (by decide) ?_
    refine k_iconst F dL_follow_21 ?_
    exact k_iretW F hQ hG' hkn rfl rfl dL_follow_22
  · have hm := hE E C' e
    subst e
    rcases List.mem_cons.mp hm with rfl | hm
    · refine ⟨[], ⟨0, 10, 13, 13⟩, [⟨0, 10, 17, 15⟩], rfl, (fun z hz => by cases hz), by decide, by decide, wm_640, by decide, fun q9 => ?_⟩
      have F2 := F.up (k := 1) (n := 6) (Nat.le_refl 1) (Nat.le_refl 6)
      refine k_at (pc' := 13) rfl ?_
      refine k_astore F2 dL_follow_13 (by decide) (lv' := [(4, .ref q9), (0, .ref (ad 0)), (1, .int (zI a1)), (2, .int (zI a2)), (3, .ref o)]) rfl ?_
      refine k_iconst F2 dL_follow_15 ?_
      exact k_iretW F2 (zQw_up hQ 1 6) hG' (zKN_up Γ 1 6) (by show (1 : Int) = (((["java/lang/IllegalArgumentException", "java/lang/IllegalStateException"] : List String).idxOf "java/lang/IllegalArgumentException" : Nat) : Int) + 1; decide) rfl dL_follow_16
    rcases List.mem_cons.mp hm with rfl | hm
    · refine ⟨[⟨0, 10, 13, 13⟩], ⟨0, 10, 17, 15⟩, [], rfl, (fun z hz => by
        simp only [List.mem_cons, List.not_mem_nil, or_false] at hz
        subst hz
        exact ⟨by decide, _, wm_640, by decide⟩), by decide, by decide, wm_641, by decide, fun q9 => ?_⟩
      have F2 := F.up (k := 1) (n := 6) (Nat.le_refl 1) (Nat.le_refl 6)
      refine k_at (pc' := 17) rfl ?_
      refine k_astore F2 dL_follow_17 (by decide) (lv' := [(4, .ref q9), (0, .ref (ad 0)), (1, .int (zI a1)), (2, .int (zI a2)), (3, .ref o)]) rfl ?_
      refine k_iconst F2 dL_follow_19 ?_
      exact k_iretW F2 (zQw_up hQ 1 6) hG' (zKN_up Γ 1 6) (by show (2 : Int) = (((["java/lang/IllegalArgumentException", "java/lang/IllegalStateException"] : List String).idxOf "java/lang/IllegalStateException" : Nat) : Int) + 1; decide) rfl dL_follow_20
    exact absurd hm List.not_mem_nil
set_option maxRecDepth 100000 in
theorem c_L_unfollow {l : Launch} {D : va_G} {A : Nat → Prop} {cI cZ cJ : ClassId} {ad ads : Nat → Nat} {o : Nat} (hst : l.stackTraces = false) (hD : ∀ S, va_D A (wW cI cZ cJ ad o S)) {C : zSt} (hGC : RG bsC C) {a1 : Int} (ra1 : inR a1) {v : Int} {r : zRx} (h : m_X8_unfollow C a1 = some r) (hE : ∀ E C', r = .inr (E, C') → E ∈ (["java/lang/IndexOutOfBoundsException"] : List String)) : zMw l yL_unfollow cL_unfollow 4 [(0, 9, 12, 25)] 7 112 D cI cZ cJ ads A (wW cI cZ cJ ad o) [.ref (ad 0), .int (zI a1), .ref o] (zmx C v) r (zcode ["java/lang/IndexOutOfBoundsException"] r) (zst9 r v) (RG bsC (zrs r)) := by
  refine k_startW (by decide +kernel) hst hD (Nat.le_of_ble_eq_true rfl) (fun Γ F X hkn hQ => ?_)
  have F : zF Γ (wW cI cZ cJ ad o) cI cZ cL_unfollow (zroom 7 112 r) 4 RL := F
  refine k_sub [0, 1, 2] (lv' := [(0, .ref (ad 0)), (1, .int (zI a1)), (2, .ref o)]) rfl ?_
  refine k_aload_n F dL_unfollow_0 rfl 2 rfl ?_
  refine k_iconst F dL_unfollow_1 ?_
  refine k_aload_n F dL_unfollow_2 rfl 0 rfl ?_
  refine k_iload_n F dL_unfollow_3 rfl 1 rfl ?_
  refine k_callW F X hkn cal_X8_unfollow wm_699 hGC (fun l D A hst hD => c_X8_unfollow hst hD hGC ra1 h) ⟨Nat.le_of_ble_eq_true rfl, Nat.le_of_ble_eq_true rfl⟩ rfl rfl (Nat.le_of_ble_eq_true rfl) dL_unfollow_4 (fun x C' e rx hG' b => ?_) (fun E C' e hG' => ?_)
  · subst e
    refine k_i2l F rx dL_unfollow_7 ?_
    refine k_lastW F X dL_unfollow_8 ?_
    refine k_goto F (tgt := 15) dL_unfollow_9 (by decide) ?_
    refine k_iconst F dL_unfollow_15 ?_
    exact k_iretW F hQ hG' hkn rfl rfl dL_unfollow_16
  · have hm := hE E C' e
    subst e
    rcases List.mem_cons.mp hm with rfl | hm
    · refine ⟨[], ⟨0, 9, 12, 25⟩, [], rfl, (fun z hz => by cases hz), by decide, by decide, wm_650, by decide, fun q9 => ?_⟩
      have F2 := F.up (k := 1) (n := 6) (Nat.le_refl 1) (Nat.le_refl 6)
      refine k_at (pc' := 12) rfl ?_
      refine k_astore_n F2 dL_unfollow_12 rfl (by decide) (lv' := [(3, .ref q9), (0, .ref (ad 0)), (1, .int (zI a1)), (2, .ref o)]) rfl ?_
      refine k_iconst F2 dL_unfollow_13 ?_
      exact k_iretW F2 (zQw_up hQ 1 6) hG' (zKN_up Γ 1 6) (by show (1 : Int) = (((["java/lang/IndexOutOfBoundsException"] : List String).idxOf "java/lang/IndexOutOfBoundsException" : Nat) : Int) + 1; decide) rfl dL_unfollow_14
    exact absurd hm List.not_mem_nil
set_option maxRecDepth 100000 in
theorem c_L_decided {l : Launch} {D : va_G} {A : Nat → Prop} {cI cZ cJ : ClassId} {ad ads : Nat → Nat} {o : Nat} (hst : l.stackTraces = false) (hD : ∀ S, va_D A (wW cI cZ cJ ad o S)) {C : zSt} (hGC : RG bsC C) {a1 : Int} (ra1 : inR a1) {v : Int} {r : zRx} (h : m_X8_decided C a1 = some r) (hE : ∀ E C', r = .inr (E, C') → E ∈ (["java/lang/IndexOutOfBoundsException"] : List String)) : zMw l yL_decided cL_decided 4 [(0, 9, 12, 25)] 8 157 D cI cZ cJ ads A (wW cI cZ cJ ad o) [.ref (ad 0), .int (zI a1), .ref o] (zmx C v) r (zcode ["java/lang/IndexOutOfBoundsException"] r) (zst9 r v) (RG bsC (zrs r)) := by
  refine k_startW (by decide +kernel) hst hD (Nat.le_of_ble_eq_true rfl) (fun Γ F X hkn hQ => ?_)
  have F : zF Γ (wW cI cZ cJ ad o) cI cZ cL_decided (zroom 8 157 r) 4 RL := F
  refine k_sub [0, 1, 2] (lv' := [(0, .ref (ad 0)), (1, .int (zI a1)), (2, .ref o)]) rfl ?_
  refine k_aload_n F dL_decided_0 rfl 2 rfl ?_
  refine k_iconst F dL_decided_1 ?_
  refine k_aload_n F dL_decided_2 rfl 0 rfl ?_
  refine k_iload_n F dL_decided_3 rfl 1 rfl ?_
  refine k_callW F X hkn cal_X8_decided wm_703 hGC (fun l D A hst hD => c_X8_decided hst hD hGC ra1 h) ⟨Nat.le_of_ble_eq_true rfl, Nat.le_of_ble_eq_true rfl⟩ rfl rfl (Nat.le_of_ble_eq_true rfl) dL_decided_4 (fun x C' e rx hG' b => ?_) (fun E C' e hG' => ?_)
  · subst e
    refine k_i2l F rx dL_decided_7 ?_
    refine k_lastW F X dL_decided_8 ?_
    refine k_goto F (tgt := 15) dL_decided_9 (by decide) ?_
    refine k_iconst F dL_decided_15 ?_
    exact k_iretW F hQ hG' hkn rfl rfl dL_decided_16
  · have hm := hE E C' e
    subst e
    rcases List.mem_cons.mp hm with rfl | hm
    · refine ⟨[], ⟨0, 9, 12, 25⟩, [], rfl, (fun z hz => by cases hz), by decide, by decide, wm_650, by decide, fun q9 => ?_⟩
      have F2 := F.up (k := 1) (n := 6) (Nat.le_refl 1) (Nat.le_refl 6)
      refine k_at (pc' := 12) rfl ?_
      refine k_astore_n F2 dL_decided_12 rfl (by decide) (lv' := [(3, .ref q9), (0, .ref (ad 0)), (1, .int (zI a1)), (2, .ref o)]) rfl ?_
      refine k_iconst F2 dL_decided_13 ?_
      exact k_iretW F2 (zQw_up hQ 1 6) hG' (zKN_up Γ 1 6) (by show (1 : Int) = (((["java/lang/IndexOutOfBoundsException"] : List String).idxOf "java/lang/IndexOutOfBoundsException" : Nat) : Int) + 1; decide) rfl dL_decided_14
    exact absurd hm List.not_mem_nil
set_option maxRecDepth 100000 in
theorem c_L_edition {l : Launch} {D : va_G} {A : Nat → Prop} {cI cZ cJ : ClassId} {ad ads : Nat → Nat} {o : Nat} (hst : l.stackTraces = false) (hD : ∀ S, va_D A (wW cI cZ cJ ad o S)) {C : zSt} (hGC : RG bsC C) {a1 : Int} (ra1 : inR a1) {a2 : Int} (ra2 : inR a2) {v : Int} {r : zRx} (h : m_X8_edition C a1 a2 = some r) (hE : ∀ E C', r = .inr (E, C') → E ∈ (["java/lang/IllegalArgumentException", "java/lang/IllegalStateException"] : List String)) : zMw l yL_edition cL_edition 5 [(0, 10, 13, 13), (0, 10, 17, 15)] 8 134 D cI cZ cJ ads A (wW cI cZ cJ ad o) [.ref (ad 0), .int (zI a1), .int (zI a2), .ref o] (zmx C v) r (zcode ["java/lang/IllegalArgumentException", "java/lang/IllegalStateException"] r) (zst9 r v) (RG bsC (zrs r)) := by
  refine k_startW (by decide +kernel) hst hD (Nat.le_of_ble_eq_true rfl) (fun Γ F X hkn hQ => ?_)
  have F : zF Γ (wW cI cZ cJ ad o) cI cZ cL_edition (zroom 8 134 r) 5 RL := F
  refine k_sub [0, 1, 2, 3] (lv' := [(0, .ref (ad 0)), (1, .int (zI a1)), (2, .int (zI a2)), (3, .ref o)]) rfl ?_
  refine k_aload_n F dL_edition_0 rfl 3 rfl ?_
  refine k_iconst F dL_edition_1 ?_
  refine k_aload_n F dL_edition_2 rfl 0 rfl ?_
  refine k_iload_n F dL_edition_3 rfl 1 rfl ?_
  refine k_iload_n F dL_edition_4 rfl 2 rfl ?_
  refine k_callW F X hkn cal_X8_edition wm_707 hGC (fun l D A hst hD => c_X8_edition hst hD hGC ra1 ra2 h) ⟨Nat.le_of_ble_eq_true rfl, Nat.le_of_ble_eq_true rfl⟩ rfl rfl (Nat.le_of_ble_eq_true rfl) dL_edition_5 (fun x C' e rx hG' b => ?_) (fun E C' e hG' => ?_)
  · subst e
    refine k_i2l F rx dL_edition_8 ?_
    refine k_lastW F X dL_edition_9 ?_
    refine k_goto F (tgt := 21) dL_edition_10 (by decide) ?_
    refine k_iconst F dL_edition_21 ?_
    exact k_iretW F hQ hG' hkn rfl rfl dL_edition_22
  · have hm := hE E C' e
    subst e
    rcases List.mem_cons.mp hm with rfl | hm
    · refine ⟨[], ⟨0, 10, 13, 13⟩, [⟨0, 10, 17, 15⟩], rfl, (fun z hz => by cases hz), by decide, by decide, wm_640, by decide, fun q9 => ?_⟩
      have F2 := F.up (k := 1) (n := 6) (Nat.le_refl 1) (Nat.le_refl 6)
      refine k_at (pc' := 13) rfl ?_
      refine k_astore F2 dL_edition_13 (by decide) (lv' := [(4, .ref q9), (0, .ref (ad 0)), (1, .int (zI a1)), (2, .int (zI a2)), (3, .ref o)]) rfl ?_
      refine k_iconst F2 dL_edition_15 ?_
      exact k_iretW F2 (zQw_up hQ 1 6) hG' (zKN_up Γ 1 6) (by show (1 : Int) = (((["java/lang/IllegalArgumentException", "java/lang/IllegalStateException"] : List String).idxOf "java/lang/IllegalArgumentException" : Nat) : Int) + 1; decide) rfl dL_edition_16
    rcases List.mem_cons.mp hm with rfl | hm
    · refine ⟨[⟨0, 10, 13, 13⟩], ⟨0, 10, 17, 15⟩, [], rfl, (fun z hz => by
        simp only [List.mem_cons, List.not_mem_nil, or_false] at hz
        subst hz
        exact ⟨by decide, _, wm_640, by decide⟩), by decide, by decide, wm_641, by decide, fun q9 => ?_⟩
      have F2 := F.up (k := 1) (n := 6) (Nat.le_refl 1) (Nat.le_refl 6)
      refine k_at (pc' := 17) rfl ?_
      refine k_astore F2 dL_edition_17 (by decide) (lv' := [(4, .ref q9), (0, .ref (ad 0)), (1, .int (zI a1)), (2, .int (zI a2)), (3, .ref o)]) rfl ?_
      refine k_iconst F2 dL_edition_19 ?_
      exact k_iretW F2 (zQw_up hQ 1 6) hG' (zKN_up Γ 1 6) (by show (2 : Int) = (((["java/lang/IllegalArgumentException", "java/lang/IllegalStateException"] : List String).idxOf "java/lang/IllegalStateException" : Nat) : Int) + 1; decide) rfl dL_edition_20
    exact absurd hm List.not_mem_nil
set_option maxRecDepth 100000 in
theorem c_L_address {l : Launch} {D : va_G} {A : Nat → Prop} {cI cZ cJ : ClassId} {ad ads : Nat → Nat} {o : Nat} (hst : l.stackTraces = false) (hD : ∀ S, va_D A (wW cI cZ cJ ad o S)) {C : zSt} (hGC : RG bsC C) {a1 : Int} (ra1 : inR a1) {a2 : Int} (ra2 : inR a2) {v : Int} {r : zRx} (h : m_X8_address C a1 a2 = some r) (hE : ∀ E C', r = .inr (E, C') → E ∈ (["java/lang/IndexOutOfBoundsException"] : List String)) : zMw l yL_address cL_address 5 [(0, 10, 13, 25)] 8 133 D cI cZ cJ ads A (wW cI cZ cJ ad o) [.ref (ad 0), .int (zI a1), .int (zI a2), .ref o] (zmx C v) r (zcode ["java/lang/IndexOutOfBoundsException"] r) (zst9 r v) (RG bsC (zrs r)) := by
  refine k_startW (by decide +kernel) hst hD (Nat.le_of_ble_eq_true rfl) (fun Γ F X hkn hQ => ?_)
  have F : zF Γ (wW cI cZ cJ ad o) cI cZ cL_address (zroom 8 133 r) 5 RL := F
  refine k_sub [0, 1, 2, 3] (lv' := [(0, .ref (ad 0)), (1, .int (zI a1)), (2, .int (zI a2)), (3, .ref o)]) rfl ?_
  refine k_aload_n F dL_address_0 rfl 3 rfl ?_
  refine k_iconst F dL_address_1 ?_
  refine k_aload_n F dL_address_2 rfl 0 rfl ?_
  refine k_iload_n F dL_address_3 rfl 1 rfl ?_
  refine k_iload_n F dL_address_4 rfl 2 rfl ?_
  refine k_callW F X hkn cal_X8_address wm_711 hGC (fun l D A hst hD => c_X8_address hst hD hGC ra1 ra2 h) ⟨Nat.le_of_ble_eq_true rfl, Nat.le_of_ble_eq_true rfl⟩ rfl rfl (Nat.le_of_ble_eq_true rfl) dL_address_5 (fun x C' e rx hG' b => ?_) (fun E C' e hG' => ?_)
  · subst e
    refine k_i2l F rx dL_address_8 ?_
    refine k_lastW F X dL_address_9 ?_
    refine k_goto F (tgt := 17) dL_address_10 (by decide) ?_
    refine k_iconst F dL_address_17 ?_
    exact k_iretW F hQ hG' hkn rfl rfl dL_address_18
  · have hm := hE E C' e
    subst e
    rcases List.mem_cons.mp hm with rfl | hm
    · refine ⟨[], ⟨0, 10, 13, 25⟩, [], rfl, (fun z hz => by cases hz), by decide, by decide, wm_650, by decide, fun q9 => ?_⟩
      have F2 := F.up (k := 1) (n := 6) (Nat.le_refl 1) (Nat.le_refl 6)
      refine k_at (pc' := 13) rfl ?_
      refine k_astore F2 dL_address_13 (by decide) (lv' := [(4, .ref q9), (0, .ref (ad 0)), (1, .int (zI a1)), (2, .int (zI a2)), (3, .ref o)]) rfl ?_
      refine k_iconst F2 dL_address_15 ?_
      exact k_iretW F2 (zQw_up hQ 1 6) hG' (zKN_up Γ 1 6) (by show (1 : Int) = (((["java/lang/IndexOutOfBoundsException"] : List String).idxOf "java/lang/IndexOutOfBoundsException" : Nat) : Int) + 1; decide) rfl dL_address_16
    exact absurd hm List.not_mem_nil
set_option maxRecDepth 100000 in
theorem c_L_pages {l : Launch} {D : va_G} {A : Nat → Prop} {cI cZ cJ : ClassId} {ad ads : Nat → Nat} {o : Nat} (hst : l.stackTraces = false) (hD : ∀ S, va_D A (wW cI cZ cJ ad o S)) {C : zSt} (hGC : RG bsC C) {a1 : Int} (ra1 : inR a1) {v : Int} {r : zRx} (h : m_X8_pages C a1 = some r) (hE : ∀ E C', r = .inr (E, C') → E ∈ (["java/lang/IndexOutOfBoundsException"] : List String)) : zMw l yL_pages cL_pages 4 [(0, 9, 12, 25)] 8 132 D cI cZ cJ ads A (wW cI cZ cJ ad o) [.ref (ad 0), .int (zI a1), .ref o] (zmx C v) r (zcode ["java/lang/IndexOutOfBoundsException"] r) (zst9 r v) (RG bsC (zrs r)) := by
  refine k_startW (by decide +kernel) hst hD (Nat.le_of_ble_eq_true rfl) (fun Γ F X hkn hQ => ?_)
  have F : zF Γ (wW cI cZ cJ ad o) cI cZ cL_pages (zroom 8 132 r) 4 RL := F
  refine k_sub [0, 1, 2] (lv' := [(0, .ref (ad 0)), (1, .int (zI a1)), (2, .ref o)]) rfl ?_
  refine k_aload_n F dL_pages_0 rfl 2 rfl ?_
  refine k_iconst F dL_pages_1 ?_
  refine k_aload_n F dL_pages_2 rfl 0 rfl ?_
  refine k_iload_n F dL_pages_3 rfl 1 rfl ?_
  refine k_callW F X hkn cal_X8_pages wm_715 hGC (fun l D A hst hD => c_X8_pages hst hD hGC ra1 h) ⟨Nat.le_of_ble_eq_true rfl, Nat.le_of_ble_eq_true rfl⟩ rfl rfl (Nat.le_of_ble_eq_true rfl) dL_pages_4 (fun x C' e rx hG' b => ?_) (fun E C' e hG' => ?_)
  · subst e
    refine k_i2l F rx dL_pages_7 ?_
    refine k_lastW F X dL_pages_8 ?_
    refine k_goto F (tgt := 15) dL_pages_9 (by decide) ?_
    refine k_iconst F dL_pages_15 ?_
    exact k_iretW F hQ hG' hkn rfl rfl dL_pages_16
  · have hm := hE E C' e
    subst e
    rcases List.mem_cons.mp hm with rfl | hm
    · refine ⟨[], ⟨0, 9, 12, 25⟩, [], rfl, (fun z hz => by cases hz), by decide, by decide, wm_650, by decide, fun q9 => ?_⟩
      have F2 := F.up (k := 1) (n := 6) (Nat.le_refl 1) (Nat.le_refl 6)
      refine k_at (pc' := 12) rfl ?_
      refine k_astore_n F2 dL_pages_12 rfl (by decide) (lv' := [(3, .ref q9), (0, .ref (ad 0)), (1, .int (zI a1)), (2, .ref o)]) rfl ?_
      refine k_iconst F2 dL_pages_13 ?_
      exact k_iretW F2 (zQw_up hQ 1 6) hG' (zKN_up Γ 1 6) (by show (1 : Int) = (((["java/lang/IndexOutOfBoundsException"] : List String).idxOf "java/lang/IndexOutOfBoundsException" : Nat) : Int) + 1; decide) rfl dL_pages_14
    exact absurd hm List.not_mem_nil
set_option maxRecDepth 100000 in
theorem c_L_row {l : Launch} {D : va_G} {A : Nat → Prop} {cI cZ cJ : ClassId} {ad ads : Nat → Nat} {o : Nat} (hst : l.stackTraces = false) (hD : ∀ S, va_D A (wW cI cZ cJ ad o S)) {C : zSt} (hGC : RG bsC C) {a1 : Int} (ra1 : inR a1) {v : Int} {r : zRx} (h : m_X8_row C a1 = some r) (hE : ∀ E C', r = .inr (E, C') → E ∈ (["java/lang/IndexOutOfBoundsException"] : List String)) : zMw l yL_row cL_row 4 [(0, 9, 12, 25)] 8 133 D cI cZ cJ ads A (wW cI cZ cJ ad o) [.ref (ad 0), .int (zI a1), .ref o] (zmx C v) r (zcode ["java/lang/IndexOutOfBoundsException"] r) (zst9 r v) (RG bsC (zrs r)) := by
  refine k_startW (by decide +kernel) hst hD (Nat.le_of_ble_eq_true rfl) (fun Γ F X hkn hQ => ?_)
  have F : zF Γ (wW cI cZ cJ ad o) cI cZ cL_row (zroom 8 133 r) 4 RL := F
  refine k_sub [0, 1, 2] (lv' := [(0, .ref (ad 0)), (1, .int (zI a1)), (2, .ref o)]) rfl ?_
  refine k_aload_n F dL_row_0 rfl 2 rfl ?_
  refine k_iconst F dL_row_1 ?_
  refine k_aload_n F dL_row_2 rfl 0 rfl ?_
  refine k_iload_n F dL_row_3 rfl 1 rfl ?_
  refine k_callW F X hkn cal_X8_row wm_719 hGC (fun l D A hst hD => c_X8_row hst hD hGC ra1 h) ⟨Nat.le_of_ble_eq_true rfl, Nat.le_of_ble_eq_true rfl⟩ rfl rfl (Nat.le_of_ble_eq_true rfl) dL_row_4 (fun x C' e rx hG' b => ?_) (fun E C' e hG' => ?_)
  · subst e
    refine k_i2l F rx dL_row_7 ?_
    refine k_lastW F X dL_row_8 ?_
    refine k_goto F (tgt := 15) dL_row_9 (by decide) ?_
    refine k_iconst F dL_row_15 ?_
    exact k_iretW F hQ hG' hkn rfl rfl dL_row_16
  · have hm := hE E C' e
    subst e
    rcases List.mem_cons.mp hm with rfl | hm
    · refine ⟨[], ⟨0, 9, 12, 25⟩, [], rfl, (fun z hz => by cases hz), by decide, by decide, wm_650, by decide, fun q9 => ?_⟩
      have F2 := F.up (k := 1) (n := 6) (Nat.le_refl 1) (Nat.le_refl 6)
      refine k_at (pc' := 12) rfl ?_
      refine k_astore_n F2 dL_row_12 rfl (by decide) (lv' := [(3, .ref q9), (0, .ref (ad 0)), (1, .int (zI a1)), (2, .ref o)]) rfl ?_
      refine k_iconst F2 dL_row_13 ?_
      exact k_iretW F2 (zQw_up hQ 1 6) hG' (zKN_up Γ 1 6) (by show (1 : Int) = (((["java/lang/IndexOutOfBoundsException"] : List String).idxOf "java/lang/IndexOutOfBoundsException" : Nat) : Int) + 1; decide) rfl dL_row_14
    exact absurd hm List.not_mem_nil
set_option maxRecDepth 100000 in
theorem c_L_holds {l : Launch} {D : va_G} {A : Nat → Prop} {cI cZ cJ : ClassId} {ad ads : Nat → Nat} {o : Nat} (hst : l.stackTraces = false) (hD : ∀ S, va_D A (wW cI cZ cJ ad o S)) {C : zSt} (hGC : RG bsC C) {a1 : Int} (ra1 : inR a1) {v : Int} {r : zRx} (h : m_X8_holds C a1 = some r) (hE : ∀ E C', r = .inr (E, C') → E ∈ (["java/lang/IndexOutOfBoundsException"] : List String)) : zMw l yL_holds cL_holds 4 [(0, 9, 12, 25)] 8 132 D cI cZ cJ ads A (wW cI cZ cJ ad o) [.ref (ad 0), .int (zI a1), .ref o] (zmx C v) r (zcode ["java/lang/IndexOutOfBoundsException"] r) (zst9 r v) (RG bsC (zrs r)) := by
  refine k_startW (by decide +kernel) hst hD (Nat.le_of_ble_eq_true rfl) (fun Γ F X hkn hQ => ?_)
  have F : zF Γ (wW cI cZ cJ ad o) cI cZ cL_holds (zroom 8 132 r) 4 RL := F
  refine k_sub [0, 1, 2] (lv' := [(0, .ref (ad 0)), (1, .int (zI a1)), (2, .ref o)]) rfl ?_
  refine k_aload_n F dL_holds_0 rfl 2 rfl ?_
  refine k_iconst F dL_holds_1 ?_
  refine k_aload_n F dL_holds_2 rfl 0 rfl ?_
  refine k_iload_n F dL_holds_3 rfl 1 rfl ?_
  refine k_callW F X hkn cal_X8_holds wm_723 hGC (fun l D A hst hD => c_X8_holds hst hD hGC ra1 h) ⟨Nat.le_of_ble_eq_true rfl, Nat.le_of_ble_eq_true rfl⟩ rfl rfl (Nat.le_of_ble_eq_true rfl) dL_holds_4 (fun x C' e rx hG' b => ?_) (fun E C' e hG' => ?_)
  · subst e
    refine k_i2l F rx dL_holds_7 ?_
    refine k_lastW F X dL_holds_8 ?_
    refine k_goto F (tgt := 15) dL_holds_9 (by decide) ?_
    refine k_iconst F dL_holds_15 ?_
    exact k_iretW F hQ hG' hkn rfl rfl dL_holds_16
  · have hm := hE E C' e
    subst e
    rcases List.mem_cons.mp hm with rfl | hm
    · refine ⟨[], ⟨0, 9, 12, 25⟩, [], rfl, (fun z hz => by cases hz), by decide, by decide, wm_650, by decide, fun q9 => ?_⟩
      have F2 := F.up (k := 1) (n := 6) (Nat.le_refl 1) (Nat.le_refl 6)
      refine k_at (pc' := 12) rfl ?_
      refine k_astore_n F2 dL_holds_12 rfl (by decide) (lv' := [(3, .ref q9), (0, .ref (ad 0)), (1, .int (zI a1)), (2, .ref o)]) rfl ?_
      refine k_iconst F2 dL_holds_13 ?_
      exact k_iretW F2 (zQw_up hQ 1 6) hG' (zKN_up Γ 1 6) (by show (1 : Int) = (((["java/lang/IndexOutOfBoundsException"] : List String).idxOf "java/lang/IndexOutOfBoundsException" : Nat) : Int) + 1; decide) rfl dL_holds_14
    exact absurd hm List.not_mem_nil
set_option maxRecDepth 100000 in
theorem c_L_daily {l : Launch} {D : va_G} {A : Nat → Prop} {cI cZ cJ : ClassId} {ad ads : Nat → Nat} {o : Nat} (hst : l.stackTraces = false) (hD : ∀ S, va_D A (wW cI cZ cJ ad o S)) {C : zSt} (hGC : RG bsC C) {a1 : Int} (ra1 : inR a1) {v : Int} {r : zRx} (h : m_X8_daily C a1 = some r) (hE : ∀ E C', r = .inr (E, C') → E ∈ (["java/lang/IllegalArgumentException"] : List String)) : zMw l yL_daily cL_daily 4 [(0, 9, 12, 13)] 8 133 D cI cZ cJ ads A (wW cI cZ cJ ad o) [.ref (ad 0), .int (zI a1), .ref o] (zmx C v) r (zcode ["java/lang/IllegalArgumentException"] r) (zst9 r v) (RG bsC (zrs r)) := by
  refine k_startW (by decide +kernel) hst hD (Nat.le_of_ble_eq_true rfl) (fun Γ F X hkn hQ => ?_)
  have F : zF Γ (wW cI cZ cJ ad o) cI cZ cL_daily (zroom 8 133 r) 4 RL := F
  refine k_sub [0, 1, 2] (lv' := [(0, .ref (ad 0)), (1, .int (zI a1)), (2, .ref o)]) rfl ?_
  refine k_aload_n F dL_daily_0 rfl 2 rfl ?_
  refine k_iconst F dL_daily_1 ?_
  refine k_aload_n F dL_daily_2 rfl 0 rfl ?_
  refine k_iload_n F dL_daily_3 rfl 1 rfl ?_
  refine k_callW F X hkn cal_X8_daily wm_727 hGC (fun l D A hst hD => c_X8_daily hst hD hGC ra1 h) ⟨Nat.le_of_ble_eq_true rfl, Nat.le_of_ble_eq_true rfl⟩ rfl rfl (Nat.le_of_ble_eq_true rfl) dL_daily_4 (fun x C' e rx hG' b => ?_) (fun E C' e hG' => ?_)
  · subst e
    refine k_i2l F rx dL_daily_7 ?_
    refine k_lastW F X dL_daily_8 ?_
    refine k_goto F (tgt := 15) dL_daily_9 (by decide) ?_
    refine k_iconst F dL_daily_15 ?_
    exact k_iretW F hQ hG' hkn rfl rfl dL_daily_16
  · have hm := hE E C' e
    subst e
    rcases List.mem_cons.mp hm with rfl | hm
    · refine ⟨[], ⟨0, 9, 12, 13⟩, [], rfl, (fun z hz => by cases hz), by decide, by decide, wm_640, by decide, fun q9 => ?_⟩
      have F2 := F.up (k := 1) (n := 6) (Nat.le_refl 1) (Nat.le_refl 6)
      refine k_at (pc' := 12) rfl ?_
      refine k_astore_n F2 dL_daily_12 rfl (by decide) (lv' := [(3, .ref q9), (0, .ref (ad 0)), (1, .int (zI a1)), (2, .ref o)]) rfl ?_
      refine k_iconst F2 dL_daily_13 ?_
      exact k_iretW F2 (zQw_up hQ 1 6) hG' (zKN_up Γ 1 6) (by show (1 : Int) = (((["java/lang/IllegalArgumentException"] : List String).idxOf "java/lang/IllegalArgumentException" : Nat) : Int) + 1; decide) rfl dL_daily_14
    exact absurd hm List.not_mem_nil
