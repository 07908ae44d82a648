set_option maxRecDepth 100000 in
theorem c_X8_needArgument {l : Launch} {D : va_G} {A : Nat → Prop} {cI cZ : ClassId} {ad ads : Nat → Nat} (hst : l.stackTraces = false) (hD : ∀ S, va_D A (wC cI cZ ad S)) {S : zSt} (hG : RG bsC S) {a1 : Int} (ra1 : inR a1) {a2 : Int} (ra2 : inR a2) {a3 : Int} (ra3 : inR a3) {r : zRx} (h : m_X8_needArgument S a1 a2 a3 = some r) : zMr l yX8_needArgument cX8_needArgument 3 none 6 90 D cI cZ ads A (wC cI cZ ad) (RG bsC) [.int (zI a1), .int (zI a2), .int (zI a3)] S r := by
  refine k_startX (by decide +kernel) hst hD hG (Nat.le_of_ble_eq_true rfl) (fun Γ F X hQ => ?_)
  have F : zF Γ (wC cI cZ ad) cI cZ cX8_needArgument (zroom 6 90 r) 3 RX8 := F
  refine k_sub [0, 1, 2] (lv' := [(0, .int (zI a1)), (1, .int (zI a2)), (2, .int (zI a3))]) rfl ?_
  refine k_iload_n F dX8_needArgument_0 rfl 0 rfl ?_
  refine k_iload_n F dX8_needArgument_1 rfl 1 rfl ?_
  refine zj0_e (PJ := (fun S1 => zk Γ (wC cI cZ ad) (RG bsC) S1 [] 10 [])) h (fun S1 h1 => ?_) (fun j1 J1 h2 => ?_)
  · exact k_throwW F X hQ (text := "an argument is out of its range") zthr_IAE (by decide) (by decide) (Nat.le_of_ble_eq_true rfl) dX8_needArgument_10 dX8_needArgument_13 dX8_needArgument_14 dX8_needArgument_17 dX8_needArgument_20 h1
  · refine k_icmp_lt F ra1 ra2 (tgt := 10) dX8_needArgument_2 (by decide) h2 (fun h3 => ?_) (fun h4 => ?_)
    · exact k_sub [] rfl (J1 S h3)
    · refine k_iload_n F dX8_needArgument_5 rfl 0 rfl ?_
      refine k_iload_n F dX8_needArgument_6 rfl 2 rfl ?_
      refine k_icmp_le F ra1 ra3 (tgt := 21) dX8_needArgument_7 (by decide) h4 (fun h5 => ?_) (fun h6 => ?_)
      · exact k_vretX F hQ dX8_needArgument_21 h5
      · exact k_sub [] rfl (J1 S h6)
set_option maxRecDepth 100000 in
theorem c_X8_needUnit {l : Launch} {D : va_G} {A : Nat → Prop} {cI cZ : ClassId} {ad ads : Nat → Nat} (hst : l.stackTraces = false) (hD : ∀ S, va_D A (wC cI cZ ad S)) {S : zSt} (hG : RG bsC S) {a1 : Int} (ra1 : inR a1) {r : zRx} (h : m_X8_needUnit S a1 = some r) : zMr l yX8_needUnit cX8_needUnit 2 none 6 90 D cI cZ ads A (wC cI cZ ad) (RG bsC) [.ref (ad 0), .int (zI a1)] S r := by
  refine k_startX (by decide +kernel) hst hD hG (Nat.le_of_ble_eq_true rfl) (fun Γ F X hQ => ?_)
  have F : zF Γ (wC cI cZ ad) cI cZ cX8_needUnit (zroom 6 90 r) 2 RX8 := F
  refine k_sub [0, 1] (lv' := [(0, .ref (ad 0)), (1, .int (zI a1))]) rfl ?_
  refine k_aload_n F dX8_needUnit_0 rfl 0 rfl ?_
  refine kgX8_text F dX8_needUnit_1 ?_
  refine k_iload_n F dX8_needUnit_4 rfl 1 rfl ?_
  refine k_callVi F cal_X7_has wm_180 (obC_3 cI cZ ad) (fun l D A hD hG x S' h => c_X7_has hD hG ra1 h) ⟨rfl, rfl, Nat.le_of_ble_eq_true rfl, Nat.le_of_ble_eq_true rfl⟩ rfl rfl (Nat.le_of_ble_eq_true rfl) dX8_needUnit_5 h (fun x1 S1 r1 b1 h1 => ?_)
  refine k_if_ne F r1 (tgt := 22) dX8_needUnit_8 (by decide) h1 (fun h2 => ?_) (fun h3 => ?_)
  · exact k_vretX F hQ dX8_needUnit_22 h2
  · exact k_throwW F X hQ (text := "no such unit") zthr_IOB (by decide) (by decide) (Nat.le_of_ble_eq_true rfl) dX8_needUnit_11 dX8_needUnit_14 dX8_needUnit_15 dX8_needUnit_18 dX8_needUnit_21 h3
set_option maxRecDepth 100000 in
theorem c_X8_needAuthor {l : Launch} {D : va_G} {A : Nat → Prop} {cI cZ : ClassId} {ad ads : Nat → Nat} (hst : l.stackTraces = false) (hD : ∀ S, va_D A (wC cI cZ ad S)) {S : zSt} (hG : RG bsC S) {a1 : Int} (ra1 : inR a1) {r : zRx} (h : m_X8_needAuthor S a1 = some r) : zMr l yX8_needAuthor cX8_needAuthor 2 none 6 90 D cI cZ ads A (wC cI cZ ad) (RG bsC) [.ref (ad 0), .int (zI a1)] S r := by
  refine k_startX (by decide +kernel) hst hD hG (Nat.le_of_ble_eq_true rfl) (fun Γ F X hQ => ?_)
  have F : zF Γ (wC cI cZ ad) cI cZ cX8_needAuthor (zroom 6 90 r) 2 RX8 := F
  refine k_sub [0, 1] (lv' := [(0, .ref (ad 0)), (1, .int (zI a1))]) rfl ?_
  refine k_aload_n F dX8_needAuthor_0 rfl 0 rfl ?_
  refine kgX8_authors F dX8_needAuthor_1 ?_
  refine k_iload_n F dX8_needAuthor_4 rfl 1 rfl ?_
  refine k_callVi F cal_X0_has wm_184 (obC_7 cI cZ ad) (fun l D A hD hG x S' h => c_X0_has hD hG ra1 h) ⟨rfl, rfl, Nat.le_of_ble_eq_true rfl, Nat.le_of_ble_eq_true rfl⟩ rfl rfl (Nat.le_of_ble_eq_true rfl) dX8_needAuthor_5 h (fun x1 S1 r1 b1 h1 => ?_)
  refine k_if_ne F r1 (tgt := 22) dX8_needAuthor_8 (by decide) h1 (fun h2 => ?_) (fun h3 => ?_)
  · exact k_vretX F hQ dX8_needAuthor_22 h2
  · exact k_throwW F X hQ (text := "no such author") zthr_IOB (by decide) (by decide) (Nat.le_of_ble_eq_true rfl) dX8_needAuthor_11 dX8_needAuthor_14 dX8_needAuthor_15 dX8_needAuthor_18 dX8_needAuthor_21 h3
set_option maxRecDepth 100000 in
theorem c_X8_needComment {l : Launch} {D : va_G} {A : Nat → Prop} {cI cZ : ClassId} {ad ads : Nat → Nat} (hst : l.stackTraces = false) (hD : ∀ S, va_D A (wC cI cZ ad S)) {S : zSt} (hG : RG bsC S) {a1 : Int} (ra1 : inR a1) {r : zRx} (h : m_X8_needComment S a1 = some r) : zMr l yX8_needComment cX8_needComment 2 none 6 90 D cI cZ ads A (wC cI cZ ad) (RG bsC) [.ref (ad 0), .int (zI a1)] S r := by
  refine k_startX (by decide +kernel) hst hD hG (Nat.le_of_ble_eq_true rfl) (fun Γ F X hQ => ?_)
  have F : zF Γ (wC cI cZ ad) cI cZ cX8_needComment (zroom 6 90 r) 2 RX8 := F
  refine k_sub [0, 1] (lv' := [(0, .ref (ad 0)), (1, .int (zI a1))]) rfl ?_
  refine k_aload_n F dX8_needComment_0 rfl 0 rfl ?_
  refine kgX8_comments F dX8_needComment_1 ?_
  refine k_iload_n F dX8_needComment_4 rfl 1 rfl ?_
  refine k_callVi F cal_X1_has wm_185 (obC_11 cI cZ ad) (fun l D A hD hG x S' h => c_X1_has hD hG ra1 h) ⟨rfl, rfl, Nat.le_of_ble_eq_true rfl, Nat.le_of_ble_eq_true rfl⟩ rfl rfl (Nat.le_of_ble_eq_true rfl) dX8_needComment_5 h (fun x1 S1 r1 b1 h1 => ?_)
  refine k_if_ne F r1 (tgt := 22) dX8_needComment_8 (by decide) h1 (fun h2 => ?_) (fun h3 => ?_)
  · exact k_vretX F hQ dX8_needComment_22 h2
  · exact k_throwW F X hQ (text := "no such comment") zthr_IOB (by decide) (by decide) (Nat.le_of_ble_eq_true rfl) dX8_needComment_11 dX8_needComment_14 dX8_needComment_15 dX8_needComment_18 dX8_needComment_21 h3
set_option maxRecDepth 100000 in
theorem c_X8_needRoomForComment {l : Launch} {D : va_G} {A : Nat → Prop} {cI cZ : ClassId} {ad ads : Nat → Nat} (hst : l.stackTraces = false) (hD : ∀ S, va_D A (wC cI cZ ad S)) {S : zSt} (hG : RG bsC S) {r : zRx} (h : m_X8_needRoomForComment S  = some r) : zMr l yX8_needRoomForComment cX8_needRoomForComment 1 none 6 90 D cI cZ ads A (wC cI cZ ad) (RG bsC) [.ref (ad 0)] S r := by
  refine k_startX (by decide +kernel) hst hD hG (Nat.le_of_ble_eq_true rfl) (fun Γ F X hQ => ?_)
  have F : zF Γ (wC cI cZ ad) cI cZ cX8_needRoomForComment (zroom 6 90 r) 1 RX8 := F
  refine k_sub [0] (lv' := [(0, .ref (ad 0))]) rfl ?_
  refine k_aload_n F dX8_needRoomForComment_0 rfl 0 rfl ?_
  refine kgX8_comments F dX8_needRoomForComment_1 ?_
  refine k_callVi F cal_X1_isFull wm_186 (obC_11 cI cZ ad) (fun l D A hD hG x S' h => c_X1_isFull hD hG h) ⟨rfl, rfl, Nat.le_of_ble_eq_true rfl, Nat.le_of_ble_eq_true rfl⟩ rfl rfl (Nat.le_of_ble_eq_true rfl) dX8_needRoomForComment_4 h (fun x1 S1 r1 b1 h1 => ?_)
  refine k_if_eq F r1 (tgt := 21) dX8_needRoomForComment_7 (by decide) h1 (fun h2 => ?_) (fun h3 => ?_)
  · exact k_vretX F hQ dX8_needRoomForComment_21 h2
  · exact k_throwW F X hQ (text := "no more comments") zthr_ISE (by decide) (by decide) (Nat.le_of_ble_eq_true rfl) dX8_needRoomForComment_10 dX8_needRoomForComment_13 dX8_needRoomForComment_14 dX8_needRoomForComment_17 dX8_needRoomForComment_20 h3
set_option maxRecDepth 100000 in
theorem c_X8_word {l : Launch} {D : va_G} {A : Nat → Prop} {cI cZ : ClassId} {ad ads : Nat → Nat} (hst : l.stackTraces = false) (hD : ∀ S, va_D A (wC cI cZ ad S)) {S : zSt} (hG : RG bsC S) {a1 : Int} (ra1 : inR a1) {r : zRx} (h : m_X8_word S a1 = some r) : zMr l yX8_word cX8_word 2 (some .int) 7 112 D cI cZ ads A (wC cI cZ ad) (RG bsC) [.ref (ad 0), .int (zI a1)] S r := by
  refine k_startX (by decide +kernel) hst hD hG (Nat.le_of_ble_eq_true rfl) (fun Γ F X hQ => ?_)
  have F : zF Γ (wC cI cZ ad) cI cZ cX8_word (zroom 7 112 r) 2 RX8 := F
  refine k_sub [0, 1] (lv' := [(0, .ref (ad 0)), (1, .int (zI a1))]) rfl ?_
  refine k_iload_n F dX8_word_0 rfl 1 rfl ?_
  refine k_iconst F dX8_word_1 ?_
  refine k_bipush F dX8_word_2 bp_59 ?_
  refine k_callXS F X hQ cal_X8_needArgument wm_189 (fun l D A hst hD hG r' h => c_X8_needArgument hst hD hG ra1 iR_0 iR_59 h) ⟨Nat.le_of_ble_eq_true rfl, Nat.le_of_ble_eq_true rfl⟩ rfl rfl (Nat.le_of_ble_eq_true rfl) dX8_word_4 h (fun x1 S1 h1 => ?_)
  refine k_aload_n F dX8_word_7 rfl 0 rfl ?_
  refine kgX8_pad F dX8_word_8 ?_
  refine k_callVi F cal_X4_isFull wm_190 (obC_1 cI cZ ad) (fun l D A hD hG x S' h => c_X4_isFull hD hG h) ⟨rfl, rfl, Nat.le_of_ble_eq_true rfl, Nat.le_of_ble_eq_true rfl⟩ rfl rfl (Nat.le_of_ble_eq_true rfl) dX8_word_11 h1 (fun x2 S2 r1 b1 h2 => ?_)
  refine k_if_eq F r1 (tgt := 27) dX8_word_14 (by decide) h2 (fun h3 => ?_) (fun h4 => ?_)
  · refine k_aload_n F dX8_word_27 rfl 0 rfl ?_
    refine kgX8_pad F dX8_word_28 ?_
    refine k_iload_n F dX8_word_31 rfl 1 rfl ?_
    refine k_callVv F cal_X4_add wm_194 (obC_1 cI cZ ad) (fun l D A hD hG x S' h => c_X4_add hD hG ra1 h) ⟨rfl, rfl, Nat.le_of_ble_eq_true rfl, Nat.le_of_ble_eq_true rfl⟩ rfl rfl (Nat.le_of_ble_eq_true rfl) dX8_word_32 h3 (fun x3 S3 h5 => ?_)
    refine k_aload_n F dX8_word_35 rfl 0 rfl ?_
    refine kgX8_pad F dX8_word_36 ?_
    refine k_callVi F cal_X4_size wm_195 (obC_1 cI cZ ad) (fun l D A hD hG x S' h => c_X4_size hD hG h) ⟨rfl, rfl, Nat.le_of_ble_eq_true rfl, Nat.le_of_ble_eq_true rfl⟩ rfl rfl (Nat.le_of_ble_eq_true rfl) dX8_word_39 h5 (fun x4 S4 r3 b3 h6 => ?_)
    exact k_iretX F hQ r3 dX8_word_42 h6
  · exact k_throwS F X hQ (text := "the pad is full") zthr_ISE (by decide) (by decide) (Nat.le_of_ble_eq_true rfl) dX8_word_17 dX8_word_20 dX8_word_21 dX8_word_23 dX8_word_26 h4
set_option maxRecDepth 100000 in
theorem c_X8_unit {l : Launch} {D : va_G} {A : Nat → Prop} {cI cZ : ClassId} {ad ads : Nat → Nat} (hst : l.stackTraces = false) (hD : ∀ S, va_D A (wC cI cZ ad S)) {S : zSt} (hG : RG bsC S) {r : zRx} (h : m_X8_unit S  = some r) : zMr l yX8_unit cX8_unit 1 (some .int) 6 110 D cI cZ ads A (wC cI cZ ad) (RG bsC) [.ref (ad 0)] S r := by
  refine k_startX (by decide +kernel) hst hD hG (Nat.le_of_ble_eq_true rfl) (fun Γ F X hQ => ?_)
  have F : zF Γ (wC cI cZ ad) cI cZ cX8_unit (zroom 6 110 r) 1 RX8 := F
  refine k_sub [0] (lv' := [(0, .ref (ad 0))]) rfl ?_
  refine k_aload_n F dX8_unit_0 rfl 0 rfl ?_
  refine kgX8_pad F dX8_unit_1 ?_
  refine k_callVi F cal_X4_size wm_195 (obC_1 cI cZ ad) (fun l D A hD hG x S' h => c_X4_size hD hG h) ⟨rfl, rfl, Nat.le_of_ble_eq_true rfl, Nat.le_of_ble_eq_true rfl⟩ rfl rfl (Nat.le_of_ble_eq_true rfl) dX8_unit_4 h (fun x1 S1 r1 b1 h1 => ?_)
  refine k_if_ne F r1 (tgt := 20) dX8_unit_7 (by decide) h1 (fun h2 => ?_) (fun h3 => ?_)
  · refine k_aload_n F dX8_unit_20 rfl 0 rfl ?_
    refine kgX8_text F dX8_unit_21 ?_
    refine k_callVi F cal_X7_isFull wm_196 (obC_3 cI cZ ad) (fun l D A hD hG x S' h => c_X7_isFull hD hG h) ⟨rfl, rfl, Nat.le_of_ble_eq_true rfl, Nat.le_of_ble_eq_true rfl⟩ rfl rfl (Nat.le_of_ble_eq_true rfl) dX8_unit_24 h2 (fun x2 S2 r2 b2 h4 => ?_)
    refine k_if_eq F r2 (tgt := 40) dX8_unit_27 (by decide) h4 (fun h5 => ?_) (fun h6 => ?_)
    · refine k_aload_n F dX8_unit_40 rfl 0 rfl ?_
      refine kgX8_text F dX8_unit_41 ?_
      refine k_aload_n F dX8_unit_44 rfl 0 rfl ?_
      refine kgX8_pad F dX8_unit_45 ?_
      refine k_callVv F cal_X7_add wm_200 (obC_3 cI cZ ad) (fun l D A hD hG x S' h => c_X7_add hD hG h) ⟨rfl, rfl, Nat.le_of_ble_eq_true rfl, Nat.le_of_ble_eq_true rfl⟩ rfl rfl (Nat.le_of_ble_eq_true rfl) dX8_unit_48 h5 (fun x3 S3 h7 => ?_)
      refine k_aload_n F dX8_unit_51 rfl 0 rfl ?_
      refine kgX8_pad F dX8_unit_52 ?_
      refine k_callVv F cal_X4_clear wm_204 (obC_1 cI cZ ad) (fun l D A hD hG x S' h => c_X4_clear hD hG h) ⟨rfl, rfl, Nat.le_of_ble_eq_true rfl, Nat.le_of_ble_eq_true rfl⟩ rfl rfl (Nat.le_of_ble_eq_true rfl) dX8_unit_55 h7 (fun x4 S4 h8 => ?_)
      refine k_aload_n F dX8_unit_58 rfl 0 rfl ?_
      refine kgX8_text F dX8_unit_59 ?_
      refine k_callVi F cal_X7_count wm_208 (obC_3 cI cZ ad) (fun l D A hD hG x S' h => c_X7_count hD hG h) ⟨rfl, rfl, Nat.le_of_ble_eq_true rfl, Nat.le_of_ble_eq_true rfl⟩ rfl rfl (Nat.le_of_ble_eq_true rfl) dX8_unit_62 h8 (fun x5 S5 r5 b5 h9 => ?_)
      refine k_iconst F dX8_unit_65 ?_
      refine k_isub F dX8_unit_66 h9 (fun x6 r6 h10 => ?_)
      exact k_iretX F hQ r6 dX8_unit_67 h10
    · exact k_throwS F X hQ (text := "no more units") zthr_ISE (by decide) (by decide) (Nat.le_of_ble_eq_true rfl) dX8_unit_30 dX8_unit_33 dX8_unit_34 dX8_unit_36 dX8_unit_39 h6
  · exact k_throwS F X hQ (text := "the pad is empty") zthr_ISE (by decide) (by decide) (Nat.le_of_ble_eq_true rfl) dX8_unit_10 dX8_unit_13 dX8_unit_14 dX8_unit_16 dX8_unit_19 h3
set_option maxRecDepth 100000 in
theorem c_X8_emend {l : Launch} {D : va_G} {A : Nat → Prop} {cI cZ : ClassId} {ad ads : Nat → Nat} (hst : l.stackTraces = false) (hD : ∀ S, va_D A (wC cI cZ ad S)) {S : zSt} (hG : RG bsC S) {a1 : Int} (ra1 : inR a1) {a2 : Int} (ra2 : inR a2) {a3 : Int} (ra3 : inR a3) {r : zRx} (h : m_X8_emend S a1 a2 a3 = some r) : zMr l yX8_emend cX8_emend 4 (some .int) 7 137 D cI cZ ads A (wC cI cZ ad) (RG bsC) [.ref (ad 0), .int (zI a1), .int (zI a2), .int (zI a3)] S r := by
  refine k_startX (by decide +kernel) hst hD hG (Nat.le_of_ble_eq_true rfl) (fun Γ F X hQ => ?_)
  have F : zF Γ (wC cI cZ ad) cI cZ cX8_emend (zroom 7 137 r) 4 RX8 := F
  refine k_sub [0, 1, 2, 3] (lv' := [(0, .ref (ad 0)), (1, .int (zI a1)), (2, .int (zI a2)), (3, .int (zI a3))]) rfl ?_
  refine k_aload_n F dX8_emend_0 rfl 0 rfl ?_
  refine kgX8_text F dX8_emend_1 ?_
  refine k_iload_n F dX8_emend_4 rfl 1 rfl ?_
  refine k_iload_n F dX8_emend_5 rfl 2 rfl ?_
  refine k_callVi F cal_X7_hasPlace wm_209 (obC_3 cI cZ ad) (fun l D A hD hG x S' h => c_X7_hasPlace hD hG ra1 ra2 h) ⟨rfl, rfl, Nat.le_of_ble_eq_true rfl, Nat.le_of_ble_eq_true rfl⟩ rfl rfl (Nat.le_of_ble_eq_true rfl) dX8_emend_6 h (fun x1 S1 r1 b1 h1 => ?_)
  refine k_if_ne F r1 (tgt := 22) dX8_emend_9 (by decide) h1 (fun h2 => ?_) (fun h3 => ?_)
  · refine k_iload_n F dX8_emend_22 rfl 3 rfl ?_
    refine k_iconst F dX8_emend_23 ?_
    refine k_bipush F dX8_emend_24 bp_59 ?_
    refine k_callXS F X hQ cal_X8_needArgument wm_189 (fun l D A hst hD hG r' h => c_X8_needArgument hst hD hG ra3 iR_m1 iR_59 h) ⟨Nat.le_of_ble_eq_true rfl, Nat.le_of_ble_eq_true rfl⟩ rfl rfl (Nat.le_of_ble_eq_true rfl) dX8_emend_26 h2 (fun x2 S2 h4 => ?_)
    refine k_iload_n F dX8_emend_29 rfl 3 rfl ?_
    refine k_iconst F dX8_emend_30 ?_
    refine k_icmp_eq F ra3 iR_m1 (tgt := 57) dX8_emend_31 (by decide) h4 (fun h5 => ?_) (fun h6 => ?_)
    · refine k_aload_n F dX8_emend_57 rfl 0 rfl ?_
      refine kgX8_text F dX8_emend_58 ?_
      refine k_iload_n F dX8_emend_61 rfl 1 rfl ?_
      refine k_callVi F cal_X7_sizeOf wm_210 (obC_3 cI cZ ad) (fun l D A hD hG x S' h => c_X7_sizeOf hD hG ra1 h) ⟨rfl, rfl, Nat.le_of_ble_eq_true rfl, Nat.le_of_ble_eq_true rfl⟩ rfl rfl (Nat.le_of_ble_eq_true rfl) dX8_emend_62 h5 (fun x3 S3 r2 b2 h7 => ?_)
      refine k_iconst F dX8_emend_65 ?_
      refine k_icmp_gt F r2 iR_1 (tgt := 79) dX8_emend_66 (by decide) h7 (fun h8 => ?_) (fun h9 => ?_)
      · refine k_aload_n F dX8_emend_79 rfl 0 rfl ?_
        refine kgX8_text F dX8_emend_80 ?_
        refine k_iload_n F dX8_emend_83 rfl 1 rfl ?_
        refine k_iload_n F dX8_emend_84 rfl 2 rfl ?_
        refine k_callVv F cal_X7_takeOut wm_214 (obC_3 cI cZ ad) (fun l D A hD hG x S' h => c_X7_takeOut hD hG ra1 ra2 h) ⟨rfl, rfl, Nat.le_of_ble_eq_true rfl, Nat.le_of_ble_eq_true rfl⟩ rfl rfl (Nat.le_of_ble_eq_true rfl) dX8_emend_85 h8 (fun x4 S4 h10 => ?_)
        refine k_aload_n F dX8_emend_88 rfl 0 rfl ?_
        refine kgX8_comments F dX8_emend_89 ?_
        refine k_iload_n F dX8_emend_92 rfl 1 rfl ?_
        refine k_iload_n F dX8_emend_93 rfl 2 rfl ?_
        refine k_aload_n F dX8_emend_94 rfl 0 rfl ?_
        refine kgX8_text F dX8_emend_95 ?_
        refine k_iload_n F dX8_emend_98 rfl 1 rfl ?_
        refine k_callVi F cal_X7_sizeOf wm_210 (obC_3 cI cZ ad) (fun l D A hD hG x S' h => c_X7_sizeOf hD hG ra1 h) ⟨rfl, rfl, Nat.le_of_ble_eq_true rfl, Nat.le_of_ble_eq_true rfl⟩ rfl rfl (Nat.le_of_ble_eq_true rfl) dX8_emend_99 h10 (fun x5 S5 r4 b4 h11 => ?_)
        refine k_iconst F dX8_emend_102 ?_
        refine k_isub F dX8_emend_103 h11 (fun x6 r5 h12 => ?_)
        refine k_callVv F cal_X1_closeGap wm_218 (obC_11 cI cZ ad) (fun l D A hD hG x S' h => c_X1_closeGap hD hG ra1 ra2 r5 h) ⟨rfl, rfl, Nat.le_of_ble_eq_true rfl, Nat.le_of_ble_eq_true rfl⟩ rfl rfl (Nat.le_of_ble_eq_true rfl) dX8_emend_104 h12 (fun x7 S6 h13 => ?_)
        refine k_aload_n F dX8_emend_107 rfl 0 rfl ?_
        refine kgX8_comments F dX8_emend_108 ?_
        refine k_iload_n F dX8_emend_111 rfl 1 rfl ?_
        refine k_aload_n F dX8_emend_112 rfl 0 rfl ?_
        refine kgX8_text F dX8_emend_113 ?_
        refine k_callVi F cal_X1_hookAnew wm_222 (obC_11 cI cZ ad) (fun l D A hD hG x S' h => c_X1_hookAnew hD hG ra1 h) ⟨rfl, rfl, Nat.le_of_ble_eq_true rfl, Nat.le_of_ble_eq_true rfl⟩ rfl rfl (Nat.le_of_ble_eq_true rfl) dX8_emend_116 h13 (fun x8 S7 r7 b6 h14 => ?_)
        exact k_iretX F hQ r7 dX8_emend_119 h14
      · exact k_throwS F X hQ (text := "the only word of the unit") zthr_ISE (by decide) (by decide) (Nat.le_of_ble_eq_true rfl) dX8_emend_69 dX8_emend_72 dX8_emend_73 dX8_emend_75 dX8_emend_78 h9
    · refine k_aload_n F dX8_emend_34 rfl 0 rfl ?_
      refine kgX8_text F dX8_emend_35 ?_
      refine k_iload_n F dX8_emend_38 rfl 1 rfl ?_
      refine k_iload_n F dX8_emend_39 rfl 2 rfl ?_
      refine k_iload_n F dX8_emend_40 rfl 3 rfl ?_
      refine k_callVv F cal_X7_put wm_223 (obC_3 cI cZ ad) (fun l D A hD hG x S' h => c_X7_put hD hG ra1 ra2 ra3 h) ⟨rfl, rfl, Nat.le_of_ble_eq_true rfl, Nat.le_of_ble_eq_true rfl⟩ rfl rfl (Nat.le_of_ble_eq_true rfl) dX8_emend_41 h6 (fun x9 S8 h15 => ?_)
      refine k_aload_n F dX8_emend_44 rfl 0 rfl ?_
      refine kgX8_comments F dX8_emend_45 ?_
      refine k_iload_n F dX8_emend_48 rfl 1 rfl ?_
      refine k_aload_n F dX8_emend_49 rfl 0 rfl ?_
      refine kgX8_text F dX8_emend_50 ?_
      refine k_callVi F cal_X1_hookAnew wm_222 (obC_11 cI cZ ad) (fun l D A hD hG x S' h => c_X1_hookAnew hD hG ra1 h) ⟨rfl, rfl, Nat.le_of_ble_eq_true rfl, Nat.le_of_ble_eq_true rfl⟩ rfl rfl (Nat.le_of_ble_eq_true rfl) dX8_emend_53 h15 (fun x10 S9 r9 b8 h16 => ?_)
      exact k_iretX F hQ r9 dX8_emend_56 h16
  · exact k_throwS F X hQ (text := "no such unit or place") zthr_IOB (by decide) (by decide) (Nat.le_of_ble_eq_true rfl) dX8_emend_12 dX8_emend_15 dX8_emend_16 dX8_emend_18 dX8_emend_21 h3
set_option maxRecDepth 100000 in
theorem c_X8_textOf {l : Launch} {D : va_G} {A : Nat → Prop} {cI cZ : ClassId} {ad ads : Nat → Nat} (hst : l.stackTraces = false) (hD : ∀ S, va_D A (wC cI cZ ad S)) {S : zSt} (hG : RG bsC S) {a1 : Int} (ra1 : inR a1) {a2 : Int} (ra2 : inR a2) {r : zRx} (h : m_X8_textOf S a1 a2 = some r) : zMr l yX8_textOf cX8_textOf 3 (some .int) 7 111 D cI cZ ads A (wC cI cZ ad) (RG bsC) [.ref (ad 0), .int (zI a1), .int (zI a2)] S r := by
  refine k_startX (by decide +kernel) hst hD hG (Nat.le_of_ble_eq_true rfl) (fun Γ F X hQ => ?_)
  have F : zF Γ (wC cI cZ ad) cI cZ cX8_textOf (zroom 7 111 r) 3 RX8 := F
  refine k_sub [0, 1, 2] (lv' := [(0, .ref (ad 0)), (1, .int (zI a1)), (2, .int (zI a2))]) rfl ?_
  refine k_aload_n F dX8_textOf_0 rfl 0 rfl ?_
  refine k_iload_n F dX8_textOf_1 rfl 1 rfl ?_
  refine k_callXV F X hQ cal_X8_needUnit wm_227 (obC_0 cI cZ ad) (fun l D A hst hD hG r' h => c_X8_needUnit hst hD hG ra1 h) ⟨Nat.le_of_ble_eq_true rfl, Nat.le_of_ble_eq_true rfl⟩ rfl rfl (Nat.le_of_ble_eq_true rfl) dX8_textOf_2 h (fun x1 S1 h1 => ?_)
  refine k_iload_n F dX8_textOf_5 rfl 2 rfl ?_
  refine k_if_ge F ra2 (tgt := 19) dX8_textOf_6 (by decide) h1 (fun h2 => ?_) (fun h3 => ?_)
  · refine k_aload_n F dX8_textOf_19 rfl 0 rfl ?_
    refine kgX8_text F dX8_textOf_20 ?_
    refine k_iload_n F dX8_textOf_23 rfl 1 rfl ?_
    refine k_iload_n F dX8_textOf_24 rfl 2 rfl ?_
    refine k_callVi F cal_X7_wordAt wm_228 (obC_3 cI cZ ad) (fun l D A hD hG x S' h => c_X7_wordAt hD hG ra1 ra2 h) ⟨rfl, rfl, Nat.le_of_ble_eq_true rfl, Nat.le_of_ble_eq_true rfl⟩ rfl rfl (Nat.le_of_ble_eq_true rfl) dX8_textOf_25 h2 (fun x2 S2 r1 b1 h4 => ?_)
    exact k_iretX F hQ r1 dX8_textOf_28 h4
  · exact k_throwS F X hQ (text := "no such place") zthr_IOB (by decide) (by decide) (Nat.le_of_ble_eq_true rfl) dX8_textOf_9 dX8_textOf_12 dX8_textOf_13 dX8_textOf_15 dX8_textOf_18 h3
set_option maxRecDepth 100000 in
theorem c_X8_author {l : Launch} {D : va_G} {A : Nat → Prop} {cI cZ : ClassId} {ad ads : Nat → Nat} (hst : l.stackTraces = false) (hD : ∀ S, va_D A (wC cI cZ ad S)) {S : zSt} (hG : RG bsC S) {a1 : Int} (ra1 : inR a1) {a2 : Int} (ra2 : inR a2) {a3 : Int} (ra3 : inR a3) {r : zRx} (h : m_X8_author S a1 a2 a3 = some r) : zMr l yX8_author cX8_author 4 (some .int) 7 112 D cI cZ ads A (wC cI cZ ad) (RG bsC) [.ref (ad 0), .int (zI a1), .int (zI a2), .int (zI a3)] S r := by
  refine k_startX (by decide +kernel) hst hD hG (Nat.le_of_ble_eq_true rfl) (fun Γ F X hQ => ?_)
  have F : zF Γ (wC cI cZ ad) cI cZ cX8_author (zroom 7 112 r) 4 RX8 := F
  refine k_sub [0, 1, 2, 3] (lv' := [(0, .ref (ad 0)), (1, .int (zI a1)), (2, .int (zI a2)), (3, .int (zI a3))]) rfl ?_
  refine k_iload_n F dX8_author_0 rfl 1 rfl ?_
  refine k_iconst F dX8_author_1 ?_
  refine k_sipush F dX8_author_2 sp_2000 ?_
  refine k_callXS F X hQ cal_X8_needArgument wm_189 (fun l D A hst hD hG r' h => c_X8_needArgument hst hD hG ra1 iR_0 iR_2000 h) ⟨Nat.le_of_ble_eq_true rfl, Nat.le_of_ble_eq_true rfl⟩ rfl rfl (Nat.le_of_ble_eq_true rfl) dX8_author_5 h (fun x1 S1 h1 => ?_)
  refine k_iload_n F dX8_author_8 rfl 2 rfl ?_
  refine k_iconst F dX8_author_9 ?_
  refine k_iconst F dX8_author_10 ?_
  refine k_callXS F X hQ cal_X8_needArgument wm_189 (fun l D A hst hD hG r' h => c_X8_needArgument hst hD hG ra2 iR_0 iR_3 h) ⟨Nat.le_of_ble_eq_true rfl, Nat.le_of_ble_eq_true rfl⟩ rfl rfl (Nat.le_of_ble_eq_true rfl) dX8_author_11 h1 (fun x2 S2 h2 => ?_)
  refine k_iload_n F dX8_author_14 rfl 3 rfl ?_
  refine k_iconst F dX8_author_15 ?_
  refine k_bipush F dX8_author_16 bp_99 ?_
  refine k_callXS F X hQ cal_X8_needArgument wm_189 (fun l D A hst hD hG r' h => c_X8_needArgument hst hD hG ra3 iR_0 iR_99 h) ⟨Nat.le_of_ble_eq_true rfl, Nat.le_of_ble_eq_true rfl⟩ rfl rfl (Nat.le_of_ble_eq_true rfl) dX8_author_18 h2 (fun x3 S3 h3 => ?_)
  refine k_aload_n F dX8_author_21 rfl 0 rfl ?_
  refine kgX8_authors F dX8_author_22 ?_
  refine k_callVi F cal_X0_isFull wm_229 (obC_7 cI cZ ad) (fun l D A hD hG x S' h => c_X0_isFull hD hG h) ⟨rfl, rfl, Nat.le_of_ble_eq_true rfl, Nat.le_of_ble_eq_true rfl⟩ rfl rfl (Nat.le_of_ble_eq_true rfl) dX8_author_25 h3 (fun x4 S4 r1 b1 h4 => ?_)
  refine k_if_eq F r1 (tgt := 41) dX8_author_28 (by decide) h4 (fun h5 => ?_) (fun h6 => ?_)
  · refine k_aload_n F dX8_author_41 rfl 0 rfl ?_
    refine kgX8_authors F dX8_author_42 ?_
    refine k_iload_n F dX8_author_45 rfl 1 rfl ?_
    refine k_iload_n F dX8_author_46 rfl 2 rfl ?_
    refine k_iload_n F dX8_author_47 rfl 3 rfl ?_
    refine k_callVv F cal_X0_add wm_233 (obC_7 cI cZ ad) (fun l D A hD hG x S' h => c_X0_add hD hG ra1 ra2 ra3 h) ⟨rfl, rfl, Nat.le_of_ble_eq_true rfl, Nat.le_of_ble_eq_true rfl⟩ rfl rfl (Nat.le_of_ble_eq_true rfl) dX8_author_48 h5 (fun x5 S5 h7 => ?_)
    refine k_aload_n F dX8_author_51 rfl 0 rfl ?_
    refine kgX8_authors F dX8_author_52 ?_
    refine k_callVi F cal_X0_count wm_237 (obC_7 cI cZ ad) (fun l D A hD hG x S' h => c_X0_count hD hG h) ⟨rfl, rfl, Nat.le_of_ble_eq_true rfl, Nat.le_of_ble_eq_true rfl⟩ rfl rfl (Nat.le_of_ble_eq_true rfl) dX8_author_55 h7 (fun x6 S6 r3 b3 h8 => ?_)
    refine k_iconst F dX8_author_58 ?_
    refine k_isub F dX8_author_59 h8 (fun x7 r4 h9 => ?_)
    exact k_iretX F hQ r4 dX8_author_60 h9
  · exact k_throwS F X hQ (text := "no more authors") zthr_ISE (by decide) (by decide) (Nat.le_of_ble_eq_true rfl) dX8_author_31 dX8_author_34 dX8_author_35 dX8_author_37 dX8_author_40 h6
set_option maxRecDepth 100000 in
theorem c_X8_comment {l : Launch} {D : va_G} {A : Nat → Prop} {cI cZ : ClassId} {ad ads : Nat → Nat} (hst : l.stackTraces = false) (hD : ∀ S, va_D A (wC cI cZ ad S)) {S : zSt} (hG : RG bsC S) {a1 : Int} (ra1 : inR a1) {a2 : Int} (ra2 : inR a2) {a3 : Int} (ra3 : inR a3) {a4 : Int} (ra4 : inR a4) {a5 : Int} (ra5 : inR a5) {a6 : Int} (ra6 : inR a6) {a7 : Int} (ra7 : inR a7) {r : zRx} (h : m_X8_comment S a1 a2 a3 a4 a5 a6 a7 = some r) : zMr l yX8_comment cX8_comment 10 (some .int) 7 112 D cI cZ ads A (wC cI cZ ad) (RG bsC) [.ref (ad 0), .int (zI a1), .int (zI a2), .int (zI a3), .int (zI a4), .int (zI a5), .int (zI a6), .int (zI a7)] S r := by
  refine k_startX (by decide +kernel) hst hD hG (Nat.le_of_ble_eq_true rfl) (fun Γ F X hQ => ?_)
  have F : zF Γ (wC cI cZ ad) cI cZ cX8_comment (zroom 7 112 r) 10 RX8 := F
  refine k_sub [0, 1, 2, 3, 4, 5, 6, 7] (lv' := [(0, .ref (ad 0)), (1, .int (zI a1)), (2, .int (zI a2)), (3, .int (zI a3)), (4, .int (zI a4)), (5, .int (zI a5)), (6, .int (zI a6)), (7, .int (zI a7))]) rfl ?_
  refine k_aload_n F dX8_comment_0 rfl 0 rfl ?_
  refine k_iload_n F dX8_comment_1 rfl 1 rfl ?_
  refine k_callXV F X hQ cal_X8_needAuthor wm_241 (obC_0 cI cZ ad) (fun l D A hst hD hG r' h => c_X8_needAuthor hst hD hG ra1 h) ⟨Nat.le_of_ble_eq_true rfl, Nat.le_of_ble_eq_true rfl⟩ rfl rfl (Nat.le_of_ble_eq_true rfl) dX8_comment_2 h (fun x1 S1 h1 => ?_)
  refine k_aload_n F dX8_comment_5 rfl 0 rfl ?_
  refine k_iload_n F dX8_comment_6 rfl 2 rfl ?_
  refine k_callXV F X hQ cal_X8_needUnit wm_227 (obC_0 cI cZ ad) (fun l D A hst hD hG r' h => c_X8_needUnit hst hD hG ra2 h) ⟨Nat.le_of_ble_eq_true rfl, Nat.le_of_ble_eq_true rfl⟩ rfl rfl (Nat.le_of_ble_eq_true rfl) dX8_comment_7 h1 (fun x2 S2 h2 => ?_)
  refine k_iload_n F dX8_comment_10 rfl 3 rfl ?_
  refine k_iconst F dX8_comment_11 ?_
  refine k_iconst F dX8_comment_12 ?_
  refine k_callXS F X hQ cal_X8_needArgument wm_189 (fun l D A hst hD hG r' h => c_X8_needArgument hst hD hG ra3 iR_0 iR_4 h) ⟨Nat.le_of_ble_eq_true rfl, Nat.le_of_ble_eq_true rfl⟩ rfl rfl (Nat.le_of_ble_eq_true rfl) dX8_comment_13 h2 (fun x3 S3 h3 => ?_)
  refine k_iload F dX8_comment_16 4 rfl ?_
  refine k_iconst F dX8_comment_18 ?_
  refine k_bipush F dX8_comment_19 bp_59 ?_
  refine k_callXS F X hQ cal_X8_needArgument wm_189 (fun l D A hst hD hG r' h => c_X8_needArgument hst hD hG ra4 iR_0 iR_59 h) ⟨Nat.le_of_ble_eq_true rfl, Nat.le_of_ble_eq_true rfl⟩ rfl rfl (Nat.le_of_ble_eq_true rfl) dX8_comment_21 h3 (fun x4 S4 h4 => ?_)
  refine k_iload F dX8_comment_24 5 rfl ?_
  refine k_iconst F dX8_comment_26 ?_
  refine k_bipush F dX8_comment_27 bp_12 ?_
  refine k_callXS F X hQ cal_X8_needArgument wm_189 (fun l D A hst hD hG r' h => c_X8_needArgument hst hD hG ra5 iR_1 iR_12 h) ⟨Nat.le_of_ble_eq_true rfl, Nat.le_of_ble_eq_true rfl⟩ rfl rfl (Nat.le_of_ble_eq_true rfl) dX8_comment_29 h4 (fun x5 S5 h5 => ?_)
  refine k_iload F dX8_comment_32 6 rfl ?_
  refine k_iconst F dX8_comment_34 ?_
  refine k_bipush F dX8_comment_35 bp_9 ?_
  refine k_callXS F X hQ cal_X8_needArgument wm_189 (fun l D A hst hD hG r' h => c_X8_needArgument hst hD hG ra6 iR_1 iR_9 h) ⟨Nat.le_of_ble_eq_true rfl, Nat.le_of_ble_eq_true rfl⟩ rfl rfl (Nat.le_of_ble_eq_true rfl) dX8_comment_37 h5 (fun x6 S6 h6 => ?_)
  refine k_iload F dX8_comment_40 7 rfl ?_
  refine k_iconst F dX8_comment_42 ?_
  refine k_iconst F dX8_comment_43 ?_
  refine k_callXS F X hQ cal_X8_needArgument wm_189 (fun l D A hst hD hG r' h => c_X8_needArgument hst hD hG ra7 iR_0 iR_1 h) ⟨Nat.le_of_ble_eq_true rfl, Nat.le_of_ble_eq_true rfl⟩ rfl rfl (Nat.le_of_ble_eq_true rfl) dX8_comment_44 h6 (fun x7 S7 h7 => ?_)
  refine k_aload_n F dX8_comment_47 rfl 0 rfl ?_
  refine k_callXV F X hQ cal_X8_needRoomForComment wm_245 (obC_0 cI cZ ad) (fun l D A hst hD hG r' h => c_X8_needRoomForComment hst hD hG h) ⟨Nat.le_of_ble_eq_true rfl, Nat.le_of_ble_eq_true rfl⟩ rfl rfl (Nat.le_of_ble_eq_true rfl) dX8_comment_48 h7 (fun x8 S8 h8 => ?_)
  refine k_aload_n F dX8_comment_51 rfl 0 rfl ?_
  refine kgX8_text F dX8_comment_52 ?_
  refine k_iload_n F dX8_comment_55 rfl 2 rfl ?_
  refine k_iload F dX8_comment_56 4 rfl ?_
  refine k_iload F dX8_comment_58 5 rfl ?_
  refine k_callVi F cal_X7_placeOf wm_249 (obC_3 cI cZ ad) (fun l D A hD hG x S' h => c_X7_placeOf hD hG ra2 ra4 ra5 h) ⟨rfl, rfl, Nat.le_of_ble_eq_true rfl, Nat.le_of_ble_eq_true rfl⟩ rfl rfl (Nat.le_of_ble_eq_true rfl) dX8_comment_60 h8 (fun x9 S9 r1 b1 h9 => ?_)
  refine k_istore F dX8_comment_63 (by decide) rfl ?_
  refine k_iload F dX8_comment_65 0 rfl ?_
  refine k_iconst F dX8_comment_67 ?_
  refine k_icmp_ne F r1 iR_m1 (tgt := 81) dX8_comment_68 (by decide) h9 (fun h10 => ?_) (fun h11 => ?_)
  · refine k_aload_n F dX8_comment_81 rfl 1 rfl ?_
    refine kgX8_comments F dX8_comment_82 ?_
    refine k_iload_n F dX8_comment_85 rfl 2 rfl ?_
    refine k_iload_n F dX8_comment_86 rfl 4 rfl ?_
    refine k_iload F dX8_comment_87 7 rfl ?_
    refine k_iload F dX8_comment_89 8 rfl ?_
    refine k_callVi F cal_X1_add wm_253 (obC_11 cI cZ ad) (fun l D A hD hG x S' h => c_X1_add hD hG ra1 ra3 ra6 ra7 h) ⟨rfl, rfl, Nat.le_of_ble_eq_true rfl, Nat.le_of_ble_eq_true rfl⟩ rfl rfl (Nat.le_of_ble_eq_true rfl) dX8_comment_91 h10 (fun x10 S10 r2 b2 h12 => ?_)
    refine k_istore F dX8_comment_94 (by decide) rfl ?_
    refine k_aload_n F dX8_comment_96 rfl 2 rfl ?_
    refine kgX8_comments F dX8_comment_97 ?_
    refine k_iload F dX8_comment_100 0 rfl ?_
    refine k_iload_n F dX8_comment_102 rfl 4 rfl ?_
    refine k_iload F dX8_comment_103 1 rfl ?_
    refine k_iload F dX8_comment_105 6 rfl ?_
    refine k_callVv F cal_X1_hookTo wm_257 (obC_11 cI cZ ad) (fun l D A hD hG x S' h => c_X1_hookTo hD hG r2 ra2 r1 ra4 h) ⟨rfl, rfl, Nat.le_of_ble_eq_true rfl, Nat.le_of_ble_eq_true rfl⟩ rfl rfl (Nat.le_of_ble_eq_true rfl) dX8_comment_107 h12 (fun x11 S11 h13 => ?_)
    refine k_iload F dX8_comment_110 0 rfl ?_
    exact k_iretX F hQ r2 dX8_comment_112 h13
  · exact k_throwS F X hQ (text := "the unit has no such word") zthr_ISE (by decide) (by decide) (Nat.le_of_ble_eq_true rfl) dX8_comment_71 dX8_comment_74 dX8_comment_75 dX8_comment_77 dX8_comment_80 h11
set_option maxRecDepth 100000 in
theorem c_X8_told {l : Launch} {D : va_G} {A : Nat → Prop} {cI cZ : ClassId} {ad ads : Nat → Nat} (hst : l.stackTraces = false) (hD : ∀ S, va_D A (wC cI cZ ad S)) {S : zSt} (hG : RG bsC S) {a1 : Int} (ra1 : inR a1) {a2 : Int} (ra2 : inR a2) {r : zRx} (h : m_X8_told S a1 a2 = some r) : zMr l yX8_told cX8_told 3 (some .int) 7 112 D cI cZ ads A (wC cI cZ ad) (RG bsC) [.ref (ad 0), .int (zI a1), .int (zI a2)] S r := by
  refine k_startX (by decide +kernel) hst hD hG (Nat.le_of_ble_eq_true rfl) (fun Γ F X hQ => ?_)
  have F : zF Γ (wC cI cZ ad) cI cZ cX8_told (zroom 7 112 r) 3 RX8 := F
  refine k_sub [0, 1, 2] (lv' := [(0, .ref (ad 0)), (1, .int (zI a1)), (2, .int (zI a2))]) rfl ?_
  refine k_aload_n F dX8_told_0 rfl 0 rfl ?_
  refine k_iload_n F dX8_told_1 rfl 1 rfl ?_
  refine k_callXV F X hQ cal_X8_needComment wm_261 (obC_0 cI cZ ad) (fun l D A hst hD hG r' h => c_X8_needComment hst hD hG ra1 h) ⟨Nat.le_of_ble_eq_true rfl, Nat.le_of_ble_eq_true rfl⟩ rfl rfl (Nat.le_of_ble_eq_true rfl) dX8_told_2 h (fun x1 S1 h1 => ?_)
  refine k_iload_n F dX8_told_5 rfl 2 rfl ?_
  refine k_iconst F dX8_told_6 ?_
  refine k_bipush F dX8_told_7 bp_6 ?_
  refine k_callXS F X hQ cal_X8_needArgument wm_189 (fun l D A hst hD hG r' h => c_X8_needArgument hst hD hG ra2 iR_0 iR_6 h) ⟨Nat.le_of_ble_eq_true rfl, Nat.le_of_ble_eq_true rfl⟩ rfl rfl (Nat.le_of_ble_eq_true rfl) dX8_told_9 h1 (fun x2 S2 h2 => ?_)
  refine k_iload_n F dX8_told_12 rfl 2 rfl ?_
  refine k_tsw6 F ra2 dX8_told_13 (t0 := 52) (t1 := 61) (t2 := 70) (t3 := 79) (t4 := 96) (t5 := 113) (td := 122) rfl rfl rfl rfl rfl rfl (by decide) (by decide) (by decide) (by decide) (by decide) (by decide) (by decide) h2 (fun h3 => ?_) (fun h4 => ?_) (fun h5 => ?_) (fun h6 => ?_) (fun h7 => ?_) (fun h8 => ?_) (fun h9 => ?_)
  · refine k_aload_n F dX8_told_52 rfl 0 rfl ?_
    refine kgX8_comments F dX8_told_53 ?_
    refine k_iload_n F dX8_told_56 rfl 1 rfl ?_
    refine k_callVi F cal_X1_authorOf wm_265 (obC_11 cI cZ ad) (fun l D A hD hG x S' h => c_X1_authorOf hD hG ra1 h) ⟨rfl, rfl, Nat.le_of_ble_eq_true rfl, Nat.le_of_ble_eq_true rfl⟩ rfl rfl (Nat.le_of_ble_eq_true rfl) dX8_told_57 h3 (fun x3 S3 r1 b1 h10 => ?_)
    exact k_iretX F hQ r1 dX8_told_60 h10
  · refine k_aload_n F dX8_told_61 rfl 0 rfl ?_
    refine kgX8_comments F dX8_told_62 ?_
    refine k_iload_n F dX8_told_65 rfl 1 rfl ?_
    refine k_callVi F cal_X1_unitOf wm_269 (obC_11 cI cZ ad) (fun l D A hD hG x S' h => c_X1_unitOf hD hG ra1 h) ⟨rfl, rfl, Nat.le_of_ble_eq_true rfl, Nat.le_of_ble_eq_true rfl⟩ rfl rfl (Nat.le_of_ble_eq_true rfl) dX8_told_66 h4 (fun x4 S4 r2 b2 h11 => ?_)
    exact k_iretX F hQ r2 dX8_told_69 h11
  · refine k_aload_n F dX8_told_70 rfl 0 rfl ?_
    refine kgX8_comments F dX8_told_71 ?_
    refine k_iload_n F dX8_told_74 rfl 1 rfl ?_
    refine k_callVi F cal_X1_placeOf wm_273 (obC_11 cI cZ ad) (fun l D A hD hG x S' h => c_X1_placeOf hD hG ra1 h) ⟨rfl, rfl, Nat.le_of_ble_eq_true rfl, Nat.le_of_ble_eq_true rfl⟩ rfl rfl (Nat.le_of_ble_eq_true rfl) dX8_told_75 h5 (fun x5 S5 r3 b3 h12 => ?_)
    exact k_iretX F hQ r3 dX8_told_78 h12
  · refine k_aload_n F dX8_told_79 rfl 0 rfl ?_
    refine kgX8_comments F dX8_told_80 ?_
    refine k_iload_n F dX8_told_83 rfl 1 rfl ?_
    refine k_callVi F cal_X1_isLost wm_277 (obC_11 cI cZ ad) (fun l D A hD hG x S' h => c_X1_isLost hD hG ra1 h) ⟨rfl, rfl, Nat.le_of_ble_eq_true rfl, Nat.le_of_ble_eq_true rfl⟩ rfl rfl (Nat.le_of_ble_eq_true rfl) dX8_told_84 h6 (fun x6 S6 r4 b4 h13 => ?_)
    refine k_if_eq F r4 (tgt := 94) dX8_told_87 (by decide) h13 (fun h14 => ?_) (fun h15 => ?_)
    · refine k_iconst F dX8_told_94 ?_
      exact k_iretX F hQ iR_0 dX8_told_95 h14
    · refine k_iconst F dX8_told_90 ?_
      refine k_goto F (tgt := 95) dX8_told_91 (by decide) ?_
      exact k_iretX F hQ iR_1 dX8_told_95 h15
  · refine k_aload_n F dX8_told_96 rfl 0 rfl ?_
    refine kgX8_comments F dX8_told_97 ?_
    refine k_iload_n F dX8_told_100 rfl 1 rfl ?_
    refine k_callVi F cal_X1_stands wm_281 (obC_11 cI cZ ad) (fun l D A hD hG x S' h => c_X1_stands hD hG ra1 h) ⟨rfl, rfl, Nat.le_of_ble_eq_true rfl, Nat.le_of_ble_eq_true rfl⟩ rfl rfl (Nat.le_of_ble_eq_true rfl) dX8_told_101 h7 (fun x7 S7 r5 b5 h16 => ?_)
    refine k_if_eq F r5 (tgt := 111) dX8_told_104 (by decide) h16 (fun h17 => ?_) (fun h18 => ?_)
    · refine k_iconst F dX8_told_111 ?_
      exact k_iretX F hQ iR_0 dX8_told_112 h17
    · refine k_iconst F dX8_told_107 ?_
      refine k_goto F (tgt := 112) dX8_told_108 (by decide) ?_
      exact k_iretX F hQ iR_1 dX8_told_112 h18
  · refine k_aload_n F dX8_told_113 rfl 0 rfl ?_
    refine kgX8_comments F dX8_told_114 ?_
    refine k_iload_n F dX8_told_117 rfl 1 rfl ?_
    refine k_callVi F cal_X1_parentOf wm_285 (obC_11 cI cZ ad) (fun l D A hD hG x S' h => c_X1_parentOf hD hG ra1 h) ⟨rfl, rfl, Nat.le_of_ble_eq_true rfl, Nat.le_of_ble_eq_true rfl⟩ rfl rfl (Nat.le_of_ble_eq_true rfl) dX8_told_118 h8 (fun x8 S8 r6 b6 h19 => ?_)
    exact k_iretX F hQ r6 dX8_told_121 h19
  · refine k_aload_n F dX8_told_122 rfl 0 rfl ?_
    refine kgX8_comments F dX8_told_123 ?_
    refine k_iload_n F dX8_told_126 rfl 1 rfl ?_
    refine k_callVi F cal_X1_kindOf wm_289 (obC_11 cI cZ ad) (fun l D A hD hG x S' h => c_X1_kindOf hD hG ra1 h) ⟨rfl, rfl, Nat.le_of_ble_eq_true rfl, Nat.le_of_ble_eq_true rfl⟩ rfl rfl (Nat.le_of_ble_eq_true rfl) dX8_told_127 h9 (fun x9 S9 r7 b7 h20 => ?_)
    exact k_iretX F hQ r7 dX8_told_130 h20
