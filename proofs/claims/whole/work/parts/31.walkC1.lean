set_option maxRecDepth 100000 in
theorem c_X1_lowestAnswerTo {l : Launch} {D : va_G} {A : Nat → Prop} {cI cZ : ClassId} {ad : Nat → Nat} (hD : ∀ S, va_D A (wC cI cZ ad S)) {S : zSt} (hG : RG bsC S) {a1 : Int} (ra1 : inR a1) {x : Int} {S' : zSt} (h : m_X1_lowestAnswerTo S a1 = some (x, S')) : zMi l yX1_lowestAnswerTo cX1_lowestAnswerTo 3 .int { frames := 2, cells := 0, slots := 0, locals := 42 } D cI cZ A (wC cI cZ ad) (RG bsC) [.ref (ad 11), .int (zI a1)] S x S' := by
  refine k_start_i (by decide +kernel) hD hG (Nat.le_of_ble_eq_true rfl) (fun Γ F hQ => ?_)
  have F : zF Γ (wC cI cZ ad) cI cZ cX1_lowestAnswerTo { frames := 2, cells := 0, slots := 0, locals := 42 } 3 RX1 := F
  refine k_sub [0, 1] (lv' := [(0, .ref (ad 11)), (1, .int (zI a1))]) rfl ?_
  refine k_iload_n F dX1_lowestAnswerTo_0 rfl 1 rfl ?_
  refine k_iconst F dX1_lowestAnswerTo_1 ?_
  refine k_iadd F dX1_lowestAnswerTo_2 h (fun x1 r1 h1 => ?_)
  refine k_istore_n F dX1_lowestAnswerTo_3 rfl (by decide) rfl ?_
  refine zj0_e (PJ := (fun S1 => zk Γ (wC cI cZ ad) (RG bsC) S1 [] 46 [])) h1 (fun S1 h2 => ?_) (fun j1 J1 h3 => ?_)
  · refine k_iconst F dX1_lowestAnswerTo_46 ?_
    exact k_iret F hQ iR_m1 dX1_lowestAnswerTo_47 h2
  · refine k_sub [1, 2, 0] rfl (zl1_e (F := (b_X1_lowestAnswerTo_4 a1 j1)) (fun v1 S2 => inR v1 → zk Γ (wC cI cZ ad) (RG bsC) S2 [(0, .ref (ad 11)), (1, .int (zI a1)), (2, .int (zI v1))] 4 []) (fun rec1 v1 S2 hrec1 h4 r2 => ?_) 1000 x1 S h3 r1)
    refine k_iload_n F dX1_lowestAnswerTo_4 rfl 2 rfl ?_
    refine k_aload_n F dX1_lowestAnswerTo_5 rfl 0 rfl ?_
    refine kgX1_count F dX1_lowestAnswerTo_6 h4 (fun x2 r3 h5 => ?_)
    refine k_icmp_ge F r2 r3 (tgt := 46) dX1_lowestAnswerTo_9 (by decide) h5 (fun h6 => ?_) (fun h7 => ?_)
    · exact k_sub [] rfl (J1 S2 h6)
    · refine k_aload_n F dX1_lowestAnswerTo_12 rfl 0 rfl ?_
      refine k_iload_n F dX1_lowestAnswerTo_13 rfl 2 rfl ?_
      refine k_callVi F cal_X1_parentOf wm_283 (obC_11 cI cZ ad) (fun l D A hD hG x S' h => c_X1_parentOf hD hG r2 h) ⟨rfl, rfl, Nat.le_of_ble_eq_true rfl, Nat.le_of_ble_eq_true rfl⟩ rfl rfl (Nat.le_of_ble_eq_true rfl) dX1_lowestAnswerTo_14 h7 (fun x3 S3 r4 b1 h8 => ?_)
      refine k_iload_n F dX1_lowestAnswerTo_17 rfl 1 rfl ?_
      refine zj0_e (PJ := (fun S4 => zk Γ (wC cI cZ ad) (RG bsC) S4 [(0, .ref (ad 11)), (1, .int (zI a1)), (2, .int (zI v1))] 40 [])) h8 (fun S4 h9 => ?_) (fun j2 J2 h11 => ?_)
      · refine k_iinc F (k := 2) (lv' := fun y => [(2, .int (zI y)), (0, .ref (ad 11)), (1, .int (zI a1))]) dX1_lowestAnswerTo_40 rfl (by decide) (fun _ => rfl) h9 (fun x4 r5 h10 => ?_)
        refine k_goto F (tgt := 4) dX1_lowestAnswerTo_43 (by decide) ?_
        exact k_sub [1, 2, 0] rfl (hrec1 x4 S4 h10 r5)
      · refine k_icmp_ne F r4 ra1 (tgt := 40) dX1_lowestAnswerTo_18 (by decide) h11 (fun h12 => ?_) (fun h13 => ?_)
        · exact k_sub [0, 1, 2] rfl (J2 S3 h12)
        · refine k_aload_n F dX1_lowestAnswerTo_21 rfl 0 rfl ?_
          refine k_iload_n F dX1_lowestAnswerTo_22 rfl 2 rfl ?_
          refine k_callVi F cal_X1_kindOf wm_279 (obC_11 cI cZ ad) (fun l D A hD hG x S' h => c_X1_kindOf hD hG r2 h) ⟨rfl, rfl, Nat.le_of_ble_eq_true rfl, Nat.le_of_ble_eq_true rfl⟩ rfl rfl (Nat.le_of_ble_eq_true rfl) dX1_lowestAnswerTo_23 h13 (fun x5 S5 r6 b2 h14 => ?_)
          refine k_iconst F dX1_lowestAnswerTo_26 ?_
          refine k_icmp_ne F r6 iR_3 (tgt := 40) dX1_lowestAnswerTo_27 (by decide) h14 (fun h15 => ?_) (fun h16 => ?_)
          · exact k_sub [0, 1, 2] rfl (J2 S5 h15)
          · refine k_aload_n F dX1_lowestAnswerTo_30 rfl 0 rfl ?_
            refine k_iload_n F dX1_lowestAnswerTo_31 rfl 2 rfl ?_
            refine k_callVi F cal_X1_isLight wm_268 (obC_11 cI cZ ad) (fun l D A hD hG x S' h => c_X1_isLight hD hG r2 h) ⟨rfl, rfl, Nat.le_of_ble_eq_true rfl, Nat.le_of_ble_eq_true rfl⟩ rfl rfl (Nat.le_of_ble_eq_true rfl) dX1_lowestAnswerTo_32 h16 (fun x6 S6 r7 b3 h17 => ?_)
            refine k_if_eq F r7 (tgt := 40) dX1_lowestAnswerTo_35 (by decide) h17 (fun h18 => ?_) (fun h19 => ?_)
            · exact k_sub [0, 1, 2] rfl (J2 S6 h18)
            · refine k_iload_n F dX1_lowestAnswerTo_38 rfl 2 rfl ?_
              exact k_iret F hQ r2 dX1_lowestAnswerTo_39 h19
set_option maxRecDepth 100000 in
theorem c_X1_solvedBy {l : Launch} {D : va_G} {A : Nat → Prop} {cI cZ : ClassId} {ad : Nat → Nat} (hD : ∀ S, va_D A (wC cI cZ ad S)) {S : zSt} (hG : RG bsC S) {a1 : Int} (ra1 : inR a1) {x : Int} {S' : zSt} (h : m_X1_solvedBy S a1 = some (x, S')) : zMi l yX1_solvedBy cX1_solvedBy 6 .int { frames := 3, cells := 0, slots := 0, locals := 64 } D cI cZ A (wC cI cZ ad) (RG bsC) [.ref (ad 11), .int (zI a1), .ref (ad 7)] S x S' := by
  refine k_start_i (by decide +kernel) hD hG (Nat.le_of_ble_eq_true rfl) (fun Γ F hQ => ?_)
  have F : zF Γ (wC cI cZ ad) cI cZ cX1_solvedBy { frames := 3, cells := 0, slots := 0, locals := 64 } 6 RX1 := F
  refine k_sub [0, 1, 2] (lv' := [(0, .ref (ad 11)), (1, .int (zI a1)), (2, .ref (ad 7))]) rfl ?_
  refine k_aload_n F dX1_solvedBy_0 rfl 0 rfl ?_
  refine k_callVv F cal_X1_weigh wm_275 (obC_11 cI cZ ad) (fun l D A hD hG x S' h => c_X1_weigh hD hG h) ⟨rfl, rfl, Nat.le_of_ble_eq_true rfl, Nat.le_of_ble_eq_true rfl⟩ rfl rfl (Nat.le_of_ble_eq_true rfl) dX1_solvedBy_1 h (fun x1 S1 h1 => ?_)
  refine k_iconst F dX1_solvedBy_4 ?_
  refine k_istore_n F dX1_solvedBy_5 rfl (by decide) rfl ?_
  refine k_iconst F dX1_solvedBy_6 ?_
  refine k_istore F dX1_solvedBy_7 (by decide) rfl ?_
  refine zj1_e (PJ := (fun v1 S2 => inR v1 → zk Γ (wC cI cZ ad) (RG bsC) S2 [(3, .int (zI v1))] 73 [])) h1 (fun v1 S2 h2 r2 => ?_) (fun j1 J1 h3 => ?_)
  · refine k_iload_n F dX1_solvedBy_73 rfl 0 rfl ?_
    exact k_iret F hQ r2 dX1_solvedBy_74 h2
  · refine k_sub [2, 3, 4, 1, 0] rfl (zl2_e (F := (b_X1_solvedBy_9 a1 j1)) (fun v2 v3 S3 => inR v2 → inR v3 → zk Γ (wC cI cZ ad) (RG bsC) S3 [(0, .ref (ad 11)), (1, .int (zI a1)), (2, .ref (ad 7)), (3, .int (zI v2)), (4, .int (zI v3))] 9 []) (fun rec1 v2 v3 S3 hrec1 h4 r3 r4 => ?_) 1000 0 0 S1 h3 iR_0 iR_0)
    refine k_iload F dX1_solvedBy_9 4 rfl ?_
    refine k_aload_n F dX1_solvedBy_11 rfl 0 rfl ?_
    refine kgX1_count F dX1_solvedBy_12 h4 (fun x2 r5 h5 => ?_)
    refine k_icmp_ge F r4 r5 (tgt := 73) dX1_solvedBy_15 (by decide) h5 (fun h6 => ?_) (fun h7 => ?_)
    · exact k_sub [3] rfl (J1 v2 S3 h6 r3)
    · refine k_aload_n F dX1_solvedBy_18 rfl 0 rfl ?_
      refine k_iload F dX1_solvedBy_19 4 rfl ?_
      refine k_callVi F cal_X1_isDoubt wm_287 (obC_11 cI cZ ad) (fun l D A hD hG x S' h => c_X1_isDoubt hD hG r4 h) ⟨rfl, rfl, Nat.le_of_ble_eq_true rfl, Nat.le_of_ble_eq_true rfl⟩ rfl rfl (Nat.le_of_ble_eq_true rfl) dX1_solvedBy_21 h7 (fun x3 S4 r6 b2 h8 => ?_)
      refine zj1_e (PJ := (fun v4 S5 => inR v4 → zk Γ (wC cI cZ ad) (RG bsC) S5 [(0, .ref (ad 11)), (1, .int (zI a1)), (2, .ref (ad 7)), (3, .int (zI v4)), (4, .int (zI v3))] 67 [])) h8 (fun v4 S5 h9 r7 => ?_) (fun j2 J2 h11 => ?_)
      · refine k_iinc F (k := 4) (lv' := fun y => [(4, .int (zI y)), (0, .ref (ad 11)), (1, .int (zI a1)), (2, .ref (ad 7)), (3, .int (zI v4))]) dX1_solvedBy_67 rfl (by decide) (fun _ => rfl) h9 (fun x4 r8 h10 => ?_)
        refine k_goto F (tgt := 9) dX1_solvedBy_70 (by decide) ?_
        exact k_sub [1, 2, 3, 4, 0] rfl (hrec1 v4 x4 S5 h10 r7 r8)
      · refine k_if_eq F r6 (tgt := 67) dX1_solvedBy_24 (by decide) h11 (fun h12 => ?_) (fun h13 => ?_)
        · exact k_sub [0, 1, 2, 3, 4] rfl (J2 v2 S4 h12 r3)
        · refine k_aload_n F dX1_solvedBy_27 rfl 0 rfl ?_
          refine k_iload F dX1_solvedBy_28 4 rfl ?_
          refine k_callVi F cal_X1_isLight wm_268 (obC_11 cI cZ ad) (fun l D A hD hG x S' h => c_X1_isLight hD hG r4 h) ⟨rfl, rfl, Nat.le_of_ble_eq_true rfl, Nat.le_of_ble_eq_true rfl⟩ rfl rfl (Nat.le_of_ble_eq_true rfl) dX1_solvedBy_30 h13 (fun x5 S6 r9 b3 h14 => ?_)
          refine k_if_ne F r9 (tgt := 67) dX1_solvedBy_33 (by decide) h14 (fun h15 => ?_) (fun h16 => ?_)
          · exact k_sub [0, 1, 2, 3, 4] rfl (J2 v2 S6 h15 r3)
          · refine k_aload_n F dX1_solvedBy_36 rfl 0 rfl ?_
            refine k_iload F dX1_solvedBy_37 4 rfl ?_
            refine k_callVi F cal_X1_lowestAnswerTo wm_291 (obC_11 cI cZ ad) (fun l D A hD hG x S' h => c_X1_lowestAnswerTo hD hG r4 h) ⟨rfl, rfl, Nat.le_of_ble_eq_true rfl, Nat.le_of_ble_eq_true rfl⟩ rfl rfl (Nat.le_of_ble_eq_true rfl) dX1_solvedBy_39 h16 (fun x6 S7 r10 b4 h17 => ?_)
            refine k_istore F dX1_solvedBy_42 (by decide) rfl ?_
            refine k_iload F dX1_solvedBy_44 0 rfl ?_
            refine k_iconst F dX1_solvedBy_46 ?_
            refine k_icmp_eq F r10 iR_m1 (tgt := 67) dX1_solvedBy_47 (by decide) h17 (fun h18 => ?_) (fun h19 => ?_)
            · exact k_sub [1, 2, 3, 4, 5] rfl (J2 v2 S7 h18 r3)
            · refine k_aload_n F dX1_solvedBy_50 rfl 3 rfl ?_
              refine k_aload_n F dX1_solvedBy_51 rfl 1 rfl ?_
              refine k_iload F dX1_solvedBy_52 0 rfl ?_
              refine k_callVi F cal_X1_authorOf wm_295 (obC_11 cI cZ ad) (fun l D A hD hG x S' h => c_X1_authorOf hD hG r10 h) ⟨rfl, rfl, Nat.le_of_ble_eq_true rfl, Nat.le_of_ble_eq_true rfl⟩ rfl rfl (Nat.le_of_ble_eq_true rfl) dX1_solvedBy_54 h19 (fun x7 S8 r11 b5 h20 => ?_)
              refine k_callVi F cal_X0_schoolOf wm_299 (obC_7 cI cZ ad) (fun l D A hD hG x S' h => c_X0_schoolOf hD hG r11 h) ⟨rfl, rfl, Nat.le_of_ble_eq_true rfl, Nat.le_of_ble_eq_true rfl⟩ rfl rfl (Nat.le_of_ble_eq_true rfl) dX1_solvedBy_57 h20 (fun x8 S9 r12 b6 h21 => ?_)
              refine k_iload_n F dX1_solvedBy_60 rfl 2 rfl ?_
              refine k_icmp_ne F r12 ra1 (tgt := 67) dX1_solvedBy_61 (by decide) h21 (fun h22 => ?_) (fun h23 => ?_)
              · exact k_sub [1, 2, 3, 4, 5] rfl (J2 v2 S9 h22 r3)
              · refine k_iinc F (k := 4) (lv' := fun y => [(3, .int (zI y)), (5, .int (zI x6)), (0, .ref (ad 11)), (1, .int (zI a1)), (2, .ref (ad 7)), (4, .int (zI v3))]) dX1_solvedBy_64 rfl (by decide) (fun _ => rfl) h23 (fun x9 r13 h24 => ?_)
                exact k_sub [2, 3, 4, 0, 5] rfl (J2 x9 S9 h24 r13)
set_option maxRecDepth 100000 in
theorem c_X2_count {l : Launch} {D : va_G} {A : Nat → Prop} {cI cZ : ClassId} {ad : Nat → Nat} (hD : ∀ S, va_D A (wC cI cZ ad S)) {S : zSt} (hG : RG bsC S) {x : Int} {S' : zSt} (h : m_X2_count S  = some (x, S')) : zMi l yX2_count cX2_count 1 .int { frames := 0, cells := 0, slots := 0, locals := 0 } D cI cZ A (wC cI cZ ad) (RG bsC) [.ref (ad 34)] S x S' := by
  refine k_start_i (by decide +kernel) hD hG (Nat.le_of_ble_eq_true rfl) (fun Γ F hQ => ?_)
  have F : zF Γ (wC cI cZ ad) cI cZ cX2_count { frames := 0, cells := 0, slots := 0, locals := 0 } 1 RX2 := F
  refine k_sub [0] (lv' := [(0, .ref (ad 34))]) rfl ?_
  refine k_aload_n F dX2_count_0 rfl 0 rfl ?_
  refine kgX2_count F dX2_count_1 h (fun x1 r1 h1 => ?_)
  exact k_iret F hQ r1 dX2_count_4 h1
set_option maxRecDepth 100000 in
theorem c_X2_isFull {l : Launch} {D : va_G} {A : Nat → Prop} {cI cZ : ClassId} {ad : Nat → Nat} (hD : ∀ S, va_D A (wC cI cZ ad S)) {S : zSt} (hG : RG bsC S) {x : Int} {S' : zSt} (h : m_X2_isFull S  = some (x, S')) : zMi l yX2_isFull cX2_isFull 1 .boolean { frames := 0, cells := 0, slots := 0, locals := 0 } D cI cZ A (wC cI cZ ad) (RG bsC) [.ref (ad 34)] S x S' := by
  refine k_start_i (by decide +kernel) hD hG (Nat.le_of_ble_eq_true rfl) (fun Γ F hQ => ?_)
  have F : zF Γ (wC cI cZ ad) cI cZ cX2_isFull { frames := 0, cells := 0, slots := 0, locals := 0 } 1 RX2 := F
  refine k_sub [0] (lv' := [(0, .ref (ad 34))]) rfl ?_
  refine k_aload_n F dX2_isFull_0 rfl 0 rfl ?_
  refine kgX2_count F dX2_isFull_1 h (fun x1 r1 h1 => ?_)
  refine k_bipush F dX2_isFull_4 bp_8 ?_
  refine k_icmp_lt F r1 iR_8 (tgt := 13) dX2_isFull_6 (by decide) h1 (fun h2 => ?_) (fun h3 => ?_)
  · refine k_iconst F dX2_isFull_13 ?_
    exact k_zret F hQ (Or.inl rfl) dX2_isFull_14 h2
  · refine k_iconst F dX2_isFull_9 ?_
    refine k_goto F (tgt := 14) dX2_isFull_10 (by decide) ?_
    exact k_zret F hQ (Or.inr rfl) dX2_isFull_14 h3
set_option maxRecDepth 100000 in
theorem c_X2_has {l : Launch} {D : va_G} {A : Nat → Prop} {cI cZ : ClassId} {ad : Nat → Nat} (hD : ∀ S, va_D A (wC cI cZ ad S)) {S : zSt} (hG : RG bsC S) {a1 : Int} (ra1 : inR a1) {x : Int} {S' : zSt} (h : m_X2_has S a1 = some (x, S')) : zMi l yX2_has cX2_has 2 .boolean { frames := 0, cells := 0, slots := 0, locals := 0 } D cI cZ A (wC cI cZ ad) (RG bsC) [.ref (ad 34), .int (zI a1)] S x S' := by
  refine k_start_i (by decide +kernel) hD hG (Nat.le_of_ble_eq_true rfl) (fun Γ F hQ => ?_)
  have F : zF Γ (wC cI cZ ad) cI cZ cX2_has { frames := 0, cells := 0, slots := 0, locals := 0 } 2 RX2 := F
  refine k_sub [0, 1] (lv' := [(0, .ref (ad 34)), (1, .int (zI a1))]) rfl ?_
  refine k_iload_n F dX2_has_0 rfl 1 rfl ?_
  refine zj0_e (PJ := (fun S1 => zk Γ (wC cI cZ ad) (RG bsC) S1 [] 16 [])) h (fun S1 h1 => ?_) (fun j1 J1 h2 => ?_)
  · refine k_iconst F dX2_has_16 ?_
    exact k_zret F hQ (Or.inl rfl) dX2_has_17 h1
  · refine k_if_lt F ra1 (tgt := 16) dX2_has_1 (by decide) h2 (fun h3 => ?_) (fun h4 => ?_)
    · exact k_sub [] rfl (J1 S h3)
    · refine k_iload_n F dX2_has_4 rfl 1 rfl ?_
      refine k_aload_n F dX2_has_5 rfl 0 rfl ?_
      refine kgX2_count F dX2_has_6 h4 (fun x1 r1 h5 => ?_)
      refine k_icmp_ge F ra1 r1 (tgt := 16) dX2_has_9 (by decide) h5 (fun h6 => ?_) (fun h7 => ?_)
      · exact k_sub [] rfl (J1 S h6)
      · refine k_iconst F dX2_has_12 ?_
        refine k_goto F (tgt := 17) dX2_has_13 (by decide) ?_
        exact k_zret F hQ (Or.inr rfl) dX2_has_17 h7
set_option maxRecDepth 100000 in
theorem c_X2_latestWidth {l : Launch} {D : va_G} {A : Nat → Prop} {cI cZ : ClassId} {ad : Nat → Nat} (hD : ∀ S, va_D A (wC cI cZ ad S)) {S : zSt} (hG : RG bsC S) {x : Int} {S' : zSt} (h : m_X2_latestWidth S  = some (x, S')) : zMi l yX2_latestWidth cX2_latestWidth 1 .int { frames := 0, cells := 0, slots := 0, locals := 0 } D cI cZ A (wC cI cZ ad) (RG bsC) [.ref (ad 34)] S x S' := by
  refine k_start_i (by decide +kernel) hD hG (Nat.le_of_ble_eq_true rfl) (fun Γ F hQ => ?_)
  have F : zF Γ (wC cI cZ ad) cI cZ cX2_latestWidth { frames := 0, cells := 0, slots := 0, locals := 0 } 1 RX2 := F
  refine k_sub [0] (lv' := [(0, .ref (ad 34))]) rfl ?_
  refine k_aload_n F dX2_latestWidth_0 rfl 0 rfl ?_
  refine kgX2_width F dX2_latestWidth_1 h (fun x1 r1 h1 => ?_)
  exact k_iret F hQ r1 dX2_latestWidth_4 h1
set_option maxRecDepth 100000 in
theorem c_X3i_free {l : Launch} {D : va_G} {A : Nat → Prop} {cI cZ : ClassId} {ad : Nat → Nat} (hD : ∀ S, va_D A (wC cI cZ ad S)) {S : zSt} (hG : RG bsC S) {x : Int} {S' : zSt} (h : m_X3i_free S  = some (x, S')) : zMi l yX3_free cX3_free 1 .int { frames := 0, cells := 0, slots := 0, locals := 0 } D cI cZ A (wC cI cZ ad) (RG bsC) [.ref (ad 29)] S x S' := by
  refine k_start_i (by decide +kernel) hD hG (Nat.le_of_ble_eq_true rfl) (fun Γ F hQ => ?_)
  have F : zF Γ (wC cI cZ ad) cI cZ cX3_free { frames := 0, cells := 0, slots := 0, locals := 0 } 1 RX3 := F
  refine k_sub [0] (lv' := [(0, .ref (ad 29))]) rfl ?_
  refine k_aload_n F dX3_free_0 rfl 0 rfl ?_
  refine kgX3i_free F dX3_free_1 h (fun x1 r1 h1 => ?_)
  exact k_iret F hQ r1 dX3_free_4 h1
set_option maxRecDepth 100000 in
theorem c_X3o_free {l : Launch} {D : va_G} {A : Nat → Prop} {cI cZ : ClassId} {ad : Nat → Nat} (hD : ∀ S, va_D A (wC cI cZ ad S)) {S : zSt} (hG : RG bsC S) {x : Int} {S' : zSt} (h : m_X3o_free S  = some (x, S')) : zMi l yX3_free cX3_free 1 .int { frames := 0, cells := 0, slots := 0, locals := 0 } D cI cZ A (wC cI cZ ad) (RG bsC) [.ref (ad 31)] S x S' := by
  refine k_start_i (by decide +kernel) hD hG (Nat.le_of_ble_eq_true rfl) (fun Γ F hQ => ?_)
  have F : zF Γ (wC cI cZ ad) cI cZ cX3_free { frames := 0, cells := 0, slots := 0, locals := 0 } 1 RX3 := F
  refine k_sub [0] (lv' := [(0, .ref (ad 31))]) rfl ?_
  refine k_aload_n F dX3_free_0 rfl 0 rfl ?_
  refine kgX3o_free F dX3_free_1 h (fun x1 r1 h1 => ?_)
  exact k_iret F hQ r1 dX3_free_4 h1
set_option maxRecDepth 100000 in
theorem c_X6_height {l : Launch} {D : va_G} {A : Nat → Prop} {cI cZ : ClassId} {ad : Nat → Nat} (hD : ∀ S, va_D A (wC cI cZ ad S)) {S : zSt} (hG : RG bsC S) {x : Int} {S' : zSt} (h : m_X6_height S  = some (x, S')) : zMi l yX6_height cX6_height 1 .int { frames := 1, cells := 0, slots := 0, locals := 21 } D cI cZ A (wC cI cZ ad) (RG bsC) [.ref (ad 28)] S x S' := by
  refine k_start_i (by decide +kernel) hD hG (Nat.le_of_ble_eq_true rfl) (fun Γ F hQ => ?_)
  have F : zF Γ (wC cI cZ ad) cI cZ cX6_height { frames := 1, cells := 0, slots := 0, locals := 21 } 1 RX6 := F
  refine k_sub [0] (lv' := [(0, .ref (ad 28))]) rfl ?_
  refine k_aload_n F dX6_height_0 rfl 0 rfl ?_
  refine kgX6_next F dX6_height_1 h (fun x1 r1 h1 => ?_)
  refine k_aload_n F dX6_height_4 rfl 0 rfl ?_
  refine kgX6_inner F dX6_height_5 ?_
  refine k_callVi F cal_X3_free wm_307 (obC_29 cI cZ ad) (fun l D A hD hG x S' h => c_X3i_free hD hG h) ⟨rfl, rfl, Nat.le_of_ble_eq_true rfl, Nat.le_of_ble_eq_true rfl⟩ rfl rfl (Nat.le_of_ble_eq_true rfl) dX6_height_8 h1 (fun x2 S1 r2 b1 h2 => ?_)
  refine k_aload_n F dX6_height_11 rfl 0 rfl ?_
  refine kgX6_outer F dX6_height_12 ?_
  refine k_callVi F cal_X3_free wm_307 (obC_31 cI cZ ad) (fun l D A hD hG x S' h => c_X3o_free hD hG h) ⟨rfl, rfl, Nat.le_of_ble_eq_true rfl, Nat.le_of_ble_eq_true rfl⟩ rfl rfl (Nat.le_of_ble_eq_true rfl) dX6_height_15 h2 (fun x3 S2 r3 b2 h3 => ?_)
  refine k_mmax F r2 r3 wm_308 mal_max (Nat.le_of_ble_eq_true rfl) (Nat.le_of_ble_eq_true rfl) dX6_height_18 h3 (fun x4 r4 h4 => ?_)
  refine k_mmax F r1 r4 wm_308 mal_max (Nat.le_of_ble_eq_true rfl) (Nat.le_of_ble_eq_true rfl) dX6_height_21 h4 (fun x5 r5 h5 => ?_)
  exact k_iret F hQ r5 dX6_height_24 h5
set_option maxRecDepth 100000 in
theorem c_X6_rowOfUnit {l : Launch} {D : va_G} {A : Nat → Prop} {cI cZ : ClassId} {ad : Nat → Nat} (hD : ∀ S, va_D A (wC cI cZ ad S)) {S : zSt} (hG : RG bsC S) {a1 : Int} (ra1 : inR a1) {x : Int} {S' : zSt} (h : m_X6_rowOfUnit S a1 = some (x, S')) : zMi l yX6_rowOfUnit cX6_rowOfUnit 2 .int { frames := 1, cells := 0, slots := 0, locals := 21 } D cI cZ A (wC cI cZ ad) (RG bsC) [.ref (ad 28), .int (zI a1)] S x S' := by
  refine k_start_i (by decide +kernel) hD hG (Nat.le_of_ble_eq_true rfl) (fun Γ F hQ => ?_)
  have F : zF Γ (wC cI cZ ad) cI cZ cX6_rowOfUnit { frames := 1, cells := 0, slots := 0, locals := 21 } 2 RX6 := F
  refine k_sub [0, 1] (lv' := [(0, .ref (ad 28)), (1, .int (zI a1))]) rfl ?_
  refine k_aload_n F dX6_rowOfUnit_0 rfl 0 rfl ?_
  refine kgX6_rows F dX6_rowOfUnit_1 ?_
  refine k_iload_n F dX6_rowOfUnit_4 rfl 1 rfl ?_
  refine k_bipush F dX6_rowOfUnit_5 bp_12 ?_
  refine k_imul F dX6_rowOfUnit_7 h (fun x1 r1 h1 => ?_)
  refine k_callNi F cal_X8_at nw_X6_90 (fun l D A hD hG x S' h => c_at hD hG 33 (aC_24 cI cZ ad) (by decide) (by decide) r1 h) ⟨rfl, rfl, Nat.le_of_ble_eq_true rfl, Nat.le_of_ble_eq_true rfl⟩ rfl rfl (Nat.le_of_ble_eq_true rfl) dX6_rowOfUnit_8 h1 (fun x2 S1 r2 b1 h2 => ?_)
  exact k_iret F hQ r2 dX6_rowOfUnit_11 h2
set_option maxRecDepth 100000 in
theorem c_X2_add {l : Launch} {D : va_G} {A : Nat → Prop} {cI cZ : ClassId} {ad : Nat → Nat} (hD : ∀ S, va_D A (wC cI cZ ad S)) {S : zSt} (hG : RG bsC S) {a1 : Int} (ra1 : inR a1) {a2 : Int} (ra2 : inR a2) {a3 : Int} (ra3 : inR a3) {x : Int} {S' : zSt} (h : m_X2_add S a1 a2 a3 = some (x, S')) : zMv l yX2_add cX2_add 7 { frames := 2, cells := 0, slots := 0, locals := 42 } D cI cZ A (wC cI cZ ad) (RG bsC) [.ref (ad 34), .ref (ad 28), .int (zI a1), .int (zI a2), .int (zI a3)] S S' := by
  refine k_start_v (by decide +kernel) hD hG (Nat.le_of_ble_eq_true rfl) (fun Γ F hQ => ?_)
  have F : zF Γ (wC cI cZ ad) cI cZ cX2_add { frames := 2, cells := 0, slots := 0, locals := 42 } 7 RX2 := F
  refine k_sub [0, 1, 2, 3, 4] (lv' := [(0, .ref (ad 34)), (1, .ref (ad 28)), (2, .int (zI a1)), (3, .int (zI a2)), (4, .int (zI a3))]) rfl ?_
  refine k_aload_n F dX2_add_0 rfl 0 rfl ?_
  refine k_callVi F cal_X2_isFull wm_312 (obC_34 cI cZ ad) (fun l D A hD hG x S' h => c_X2_isFull hD hG h) ⟨rfl, rfl, Nat.le_of_ble_eq_true rfl, Nat.le_of_ble_eq_true rfl⟩ rfl rfl (Nat.le_of_ble_eq_true rfl) dX2_add_1 h (fun x1 S1 r1 b1 h1 => ?_)
  refine k_if_ne F r1 (tgt := 13) dX2_add_4 (by decide) h1 (fun h2 => ?_) (fun h3 => ?_)
  · exact k_vret F hQ dX2_add_13 h2
  · refine k_iload F dX2_add_7 4 rfl ?_
    refine k_iconst F dX2_add_9 ?_
    refine k_icmp_ge F ra3 iR_1 (tgt := 14) dX2_add_10 (by decide) h3 (fun h4 => ?_) (fun h5 => ?_)
    · refine k_aload_n F dX2_add_14 rfl 0 rfl ?_
      refine k_iload_n F dX2_add_15 rfl 3 rfl ?_
      refine kpX2_width F ra2 dX2_add_16 h4 (fun S2 h6 => ?_)
      refine k_aload_n F dX2_add_19 rfl 0 rfl ?_
      refine kgX2_pageCounts F dX2_add_20 ?_
      refine k_aload_n F dX2_add_23 rfl 0 rfl ?_
      refine kgX2_count F dX2_add_24 h6 (fun x2 r2 h7 => ?_)
      refine k_aload_n F dX2_add_27 rfl 1 rfl ?_
      refine k_callVi F cal_X6_height wm_316 (obC_28 cI cZ ad) (fun l D A hD hG x S' h => c_X6_height hD hG h) ⟨rfl, rfl, Nat.le_of_ble_eq_true rfl, Nat.le_of_ble_eq_true rfl⟩ rfl rfl (Nat.le_of_ble_eq_true rfl) dX2_add_28 h7 (fun x3 S3 r3 b2 h8 => ?_)
      refine k_iload F dX2_add_31 4 rfl ?_
      refine k_iadd F dX2_add_33 h8 (fun x4 r4 h9 => ?_)
      refine k_iconst F dX2_add_34 ?_
      refine k_isub F dX2_add_35 h9 (fun x5 r5 h10 => ?_)
      refine k_iload F dX2_add_36 4 rfl ?_
      refine k_idiv F r5 ra3 dX2_add_38 h10 (fun x6 r6 h11 => ?_)
      refine k_iast F rfl 36 (aC_26 cI cZ ad) (sC_26 cI cZ ad) (by decide) r2 r6 dX2_add_39 h11 (fun S4 h12 => ?_)
      refine k_aload_n F dX2_add_40 rfl 0 rfl ?_
      refine kgX2_unitCounts F dX2_add_41 ?_
      refine k_aload_n F dX2_add_44 rfl 0 rfl ?_
      refine kgX2_count F dX2_add_45 h12 (fun x7 r7 h13 => ?_)
      refine k_iload_n F dX2_add_48 rfl 2 rfl ?_
      refine k_iast F rfl 37 (aC_27 cI cZ ad) (sC_27 cI cZ ad) (by decide) r7 ra1 dX2_add_49 h13 (fun S5 h14 => ?_)
      refine k_iconst F dX2_add_50 ?_
      refine k_istore F dX2_add_51 (by decide) rfl ?_
      refine zj0_e (PJ := (fun S6 => zk Γ (wC cI cZ ad) (RG bsC) S6 [(0, .ref (ad 34))] 109 [])) h14 (fun S6 h15 => ?_) (fun j1 J1 h19 => ?_)
      · refine k_aload_n F dX2_add_109 rfl 0 rfl ?_
        refine k_dup F dX2_add_110 rfl ?_
        refine kgX2_count F dX2_add_111 h15 (fun x8 r8 h16 => ?_)
        refine k_iconst F dX2_add_114 ?_
        refine k_iadd F dX2_add_115 h16 (fun x9 r9 h17 => ?_)
        refine kpX2_count F r9 dX2_add_116 h17 (fun S7 h18 => ?_)
        exact k_vret F hQ dX2_add_119 h18
      · refine k_sub [1, 2, 3, 5, 0] rfl (zl1_e (F := (b_X2_add_53 a1 a3 j1)) (fun v1 S8 => inR v1 → zk Γ (wC cI cZ ad) (RG bsC) S8 [(0, .ref (ad 34)), (1, .ref (ad 28)), (2, .int (zI a1)), (4, .int (zI a3)), (5, .int (zI v1))] 53 []) (fun rec1 v1 S8 hrec1 h20 r10 => ?_) 1000 0 S5 h19 iR_0)
        refine k_iload F dX2_add_53 4 rfl ?_
        refine k_iload_n F dX2_add_55 rfl 2 rfl ?_
        refine k_icmp_ge F r10 ra1 (tgt := 109) dX2_add_56 (by decide) h20 (fun h21 => ?_) (fun h22 => ?_)
        · exact k_sub [0] rfl (J1 S8 h21)
        · refine k_iload F dX2_add_59 4 rfl ?_
          refine k_bipush F dX2_add_61 bp_20 ?_
          refine k_icmp_ge F r10 iR_20 (tgt := 109) dX2_add_63 (by decide) h22 (fun h23 => ?_) (fun h24 => ?_)
          · exact k_sub [0] rfl (J1 S8 h23)
          · refine k_aload_n F dX2_add_66 rfl 1 rfl ?_
            refine k_iload F dX2_add_67 4 rfl ?_
            refine k_callVi F cal_X6_rowOfUnit wm_320 (obC_28 cI cZ ad) (fun l D A hD hG x S' h => c_X6_rowOfUnit hD hG r10 h) ⟨rfl, rfl, Nat.le_of_ble_eq_true rfl, Nat.le_of_ble_eq_true rfl⟩ rfl rfl (Nat.le_of_ble_eq_true rfl) dX2_add_69 h24 (fun x10 S9 r11 b3 h25 => ?_)
            refine k_istore F dX2_add_72 (by decide) rfl ?_
            refine k_aload_n F dX2_add_74 rfl 1 rfl ?_
            refine kgX2_addresses F dX2_add_75 ?_
            refine k_aload_n F dX2_add_78 rfl 1 rfl ?_
            refine kgX2_count F dX2_add_79 h25 (fun x11 r12 h26 => ?_)
            refine k_bipush F dX2_add_82 bp_20 ?_
            refine k_imul F dX2_add_84 h26 (fun x12 r13 h27 => ?_)
            refine k_iload F dX2_add_85 5 rfl ?_
            refine k_iadd F dX2_add_87 h27 (fun x13 r14 h28 => ?_)
            refine k_bipush F dX2_add_88 bp_100 ?_
            refine k_iload F dX2_add_90 0 rfl ?_
            refine k_iload F dX2_add_92 4 rfl ?_
            refine k_idiv F r11 ra3 dX2_add_94 h28 (fun x14 r15 h29 => ?_)
            refine k_imul F dX2_add_95 h29 (fun x15 r16 h30 => ?_)
            refine k_iload F dX2_add_96 0 rfl ?_
            refine k_iload F dX2_add_98 4 rfl ?_
            refine k_irem F r11 ra3 dX2_add_100 h30 (fun x16 r17 h31 => ?_)
            refine k_iadd F dX2_add_101 h31 (fun x17 r18 h32 => ?_)
            refine k_iast F rfl 35 (aC_25 cI cZ ad) (sC_25 cI cZ ad) (by decide) r14 r18 dX2_add_102 h32 (fun S10 h33 => ?_)
            refine k_iinc F (k := 5) (lv' := fun y => [(5, .int (zI y)), (6, .int (zI x10)), (0, .ref (ad 34)), (1, .ref (ad 28)), (2, .int (zI a1)), (4, .int (zI a3))]) dX2_add_103 rfl (by decide) (fun _ => rfl) h33 (fun x18 r19 h34 => ?_)
            refine k_goto F (tgt := 53) dX2_add_106 (by decide) ?_
            exact k_sub [2, 3, 4, 5, 0] rfl (hrec1 x18 S10 h34 r19)
    · exact k_vret F hQ dX2_add_13 h5
set_option maxRecDepth 100000 in
theorem c_X2_pagesOf {l : Launch} {D : va_G} {A : Nat → Prop} {cI cZ : ClassId} {ad : Nat → Nat} (hD : ∀ S, va_D A (wC cI cZ ad S)) {S : zSt} (hG : RG bsC S) {a1 : Int} (ra1 : inR a1) {x : Int} {S' : zSt} (h : m_X2_pagesOf S a1 = some (x, S')) : zMi l yX2_pagesOf cX2_pagesOf 2 .int { frames := 1, cells := 0, slots := 0, locals := 21 } D cI cZ A (wC cI cZ ad) (RG bsC) [.ref (ad 34), .int (zI a1)] S x S' := by
  refine k_start_i (by decide +kernel) hD hG (Nat.le_of_ble_eq_true rfl) (fun Γ F hQ => ?_)
  have F : zF Γ (wC cI cZ ad) cI cZ cX2_pagesOf { frames := 1, cells := 0, slots := 0, locals := 21 } 2 RX2 := F
  refine k_sub [0, 1] (lv' := [(0, .ref (ad 34)), (1, .int (zI a1))]) rfl ?_
  refine k_aload_n F dX2_pagesOf_0 rfl 0 rfl ?_
  refine kgX2_pageCounts F dX2_pagesOf_1 ?_
  refine k_iload_n F dX2_pagesOf_4 rfl 1 rfl ?_
  refine k_callNi F cal_X8_at nw_X2_42 (fun l D A hD hG x S' h => c_at hD hG 36 (aC_26 cI cZ ad) (by decide) (by decide) ra1 h) ⟨rfl, rfl, Nat.le_of_ble_eq_true rfl, Nat.le_of_ble_eq_true rfl⟩ rfl rfl (Nat.le_of_ble_eq_true rfl) dX2_pagesOf_5 h (fun x1 S1 r1 b1 h1 => ?_)
  exact k_iret F hQ r1 dX2_pagesOf_8 h1
set_option maxRecDepth 100000 in
theorem c_X2_addressIn {l : Launch} {D : va_G} {A : Nat → Prop} {cI cZ : ClassId} {ad : Nat → Nat} (hD : ∀ S, va_D A (wC cI cZ ad S)) {S : zSt} (hG : RG bsC S) {a1 : Int} (ra1 : inR a1) {a2 : Int} (ra2 : inR a2) {x : Int} {S' : zSt} (h : m_X2_addressIn S a1 a2 = some (x, S')) : zMi l yX2_addressIn cX2_addressIn 4 .int { frames := 1, cells := 0, slots := 0, locals := 21 } D cI cZ A (wC cI cZ ad) (RG bsC) [.ref (ad 34), .int (zI a1), .int (zI a2)] S x S' := by
  refine k_start_i (by decide +kernel) hD hG (Nat.le_of_ble_eq_true rfl) (fun Γ F hQ => ?_)
  have F : zF Γ (wC cI cZ ad) cI cZ cX2_addressIn { frames := 1, cells := 0, slots := 0, locals := 21 } 4 RX2 := F
  refine k_sub [0, 1, 2] (lv' := [(0, .ref (ad 34)), (1, .int (zI a1)), (2, .int (zI a2))]) rfl ?_
  refine k_aload_n F dX2_addressIn_0 rfl 0 rfl ?_
  refine k_iload_n F dX2_addressIn_1 rfl 1 rfl ?_
  refine k_callVi F cal_X2_has wm_324 (obC_34 cI cZ ad) (fun l D A hD hG x S' h => c_X2_has hD hG ra1 h) ⟨rfl, rfl, Nat.le_of_ble_eq_true rfl, Nat.le_of_ble_eq_true rfl⟩ rfl rfl (Nat.le_of_ble_eq_true rfl) dX2_addressIn_2 h (fun x1 S1 r1 b1 h1 => ?_)
  refine zj1_e (PJ := (fun v1 S2 => inR v1 → zk Γ (wC cI cZ ad) (RG bsC) S2 [(0, .ref (ad 34)), (1, .int (zI a1)), (2, .int (zI a2))] 27 [.int (zI v1)])) h1 (fun v1 S2 h2 r2 => ?_) (fun j1 J1 h8 => ?_)
  · refine k_istore_n F dX2_addressIn_27 rfl (by decide) rfl ?_
    refine k_iload_n F dX2_addressIn_28 rfl 0 rfl ?_
    refine k_if_eq F r2 (tgt := 48) dX2_addressIn_29 (by decide) h2 (fun h3 => ?_) (fun h4 => ?_)
    · refine k_iconst F dX2_addressIn_48 ?_
      exact k_iret F hQ iR_m1 dX2_addressIn_49 h3
    · refine k_aload_n F dX2_addressIn_32 rfl 1 rfl ?_
      refine kgX2_addresses F dX2_addressIn_33 ?_
      refine k_iload_n F dX2_addressIn_36 rfl 2 rfl ?_
      refine k_bipush F dX2_addressIn_37 bp_20 ?_
      refine k_imul F dX2_addressIn_39 h4 (fun x2 r3 h5 => ?_)
      refine k_iload_n F dX2_addressIn_40 rfl 3 rfl ?_
      refine k_iadd F dX2_addressIn_41 h5 (fun x3 r4 h6 => ?_)
      refine k_callNi F cal_X8_at nw_X2_42 (fun l D A hD hG x S' h => c_at hD hG 35 (aC_25 cI cZ ad) (by decide) (by decide) r4 h) ⟨rfl, rfl, Nat.le_of_ble_eq_true rfl, Nat.le_of_ble_eq_true rfl⟩ rfl rfl (Nat.le_of_ble_eq_true rfl) dX2_addressIn_42 h6 (fun x4 S3 r5 b2 h7 => ?_)
      refine k_goto F (tgt := 49) dX2_addressIn_45 (by decide) ?_
      exact k_iret F hQ r5 dX2_addressIn_49 h7
  · refine zj0_e (PJ := (fun S4 => zk Γ (wC cI cZ ad) (RG bsC) S4 [(0, .ref (ad 34)), (1, .int (zI a1)), (2, .int (zI a2))] 26 [])) h8 (fun S4 h9 => ?_) (fun j2 J2 h10 => ?_)
    · refine k_iconst F dX2_addressIn_26 ?_
      exact k_sub [0, 1, 2] rfl (J1 0 S4 h9 iR_0)
    · refine k_if_eq F r1 (tgt := 26) dX2_addressIn_5 (by decide) h10 (fun h11 => ?_) (fun h12 => ?_)
      · exact k_sub [0, 1, 2] rfl (J2 S1 h11)
      · refine k_iload_n F dX2_addressIn_8 rfl 2 rfl ?_
        refine k_if_lt F ra2 (tgt := 26) dX2_addressIn_9 (by decide) h12 (fun h13 => ?_) (fun h14 => ?_)
        · exact k_sub [0, 1, 2] rfl (J2 S1 h13)
        · refine k_iload_n F dX2_addressIn_12 rfl 2 rfl ?_
          refine k_aload_n F dX2_addressIn_13 rfl 0 rfl ?_
          refine kgX2_unitCounts F dX2_addressIn_14 ?_
          refine k_iload_n F dX2_addressIn_17 rfl 1 rfl ?_
          refine k_iald F rfl 37 (aC_27 cI cZ ad) ra1 dX2_addressIn_18 h14 (fun x5 r6 h15 => ?_)
          refine k_icmp_ge F ra2 r6 (tgt := 26) dX2_addressIn_19 (by decide) h15 (fun h16 => ?_) (fun h17 => ?_)
          · exact k_sub [0, 1, 2] rfl (J2 S1 h16)
          · refine k_iconst F dX2_addressIn_22 ?_
            refine k_goto F (tgt := 27) dX2_addressIn_23 (by decide) ?_
            exact k_sub [0, 1, 2] rfl (J1 1 S1 h17 iR_1)
set_option maxRecDepth 100000 in
theorem c_X2_pageIn {l : Launch} {D : va_G} {A : Nat → Prop} {cI cZ : ClassId} {ad : Nat → Nat} (hD : ∀ S, va_D A (wC cI cZ ad S)) {S : zSt} (hG : RG bsC S) {a1 : Int} (ra1 : inR a1) {a2 : Int} (ra2 : inR a2) {x : Int} {S' : zSt} (h : m_X2_pageIn S a1 a2 = some (x, S')) : zMi l yX2_pageIn cX2_pageIn 4 .int { frames := 2, cells := 0, slots := 0, locals := 44 } D cI cZ A (wC cI cZ ad) (RG bsC) [.ref (ad 34), .int (zI a1), .int (zI a2)] S x S' := by
  refine k_start_i (by decide +kernel) hD hG (Nat.le_of_ble_eq_true rfl) (fun Γ F hQ => ?_)
  have F : zF Γ (wC cI cZ ad) cI cZ cX2_pageIn { frames := 2, cells := 0, slots := 0, locals := 44 } 4 RX2 := F
  refine k_sub [0, 1, 2] (lv' := [(0, .ref (ad 34)), (1, .int (zI a1)), (2, .int (zI a2))]) rfl ?_
  refine k_aload_n F dX2_pageIn_0 rfl 0 rfl ?_
  refine k_iload_n F dX2_pageIn_1 rfl 1 rfl ?_
  refine k_iload_n F dX2_pageIn_2 rfl 2 rfl ?_
  refine k_callVi F cal_X2_addressIn wm_328 (obC_34 cI cZ ad) (fun l D A hD hG x S' h => c_X2_addressIn hD hG ra1 ra2 h) ⟨rfl, rfl, Nat.le_of_ble_eq_true rfl, Nat.le_of_ble_eq_true rfl⟩ rfl rfl (Nat.le_of_ble_eq_true rfl) dX2_pageIn_3 h (fun x1 S1 r1 b1 h1 => ?_)
  refine k_istore_n F dX2_pageIn_6 rfl (by decide) rfl ?_
  refine k_iload_n F dX2_pageIn_7 rfl 0 rfl ?_
  refine k_iconst F dX2_pageIn_8 ?_
  refine k_icmp_ne F r1 iR_m1 (tgt := 16) dX2_pageIn_9 (by decide) h1 (fun h2 => ?_) (fun h3 => ?_)
  · refine k_iload_n F dX2_pageIn_16 rfl 0 rfl ?_
    refine k_bipush F dX2_pageIn_17 bp_100 ?_
    refine k_idiv F r1 iR_100 dX2_pageIn_19 h2 (fun x2 r2 h4 => ?_)
    exact k_iret F hQ r2 dX2_pageIn_20 h4
  · refine k_iconst F dX2_pageIn_12 ?_
    refine k_goto F (tgt := 20) dX2_pageIn_13 (by decide) ?_
    exact k_iret F hQ iR_m1 dX2_pageIn_20 h3
set_option maxRecDepth 100000 in
theorem c_X2_countHeld {l : Launch} {D : va_G} {A : Nat → Prop} {cI cZ : ClassId} {ad : Nat → Nat} (hD : ∀ S, va_D A (wC cI cZ ad S)) {S : zSt} (hG : RG bsC S) {a1 : Int} (ra1 : inR a1) {x : Int} {S' : zSt} (h : m_X2_countHeld S a1 = some (x, S')) : zMi l yX2_countHeld cX2_countHeld 5 .int { frames := 3, cells := 0, slots := 0, locals := 67 } D cI cZ A (wC cI cZ ad) (RG bsC) [.ref (ad 34), .int (zI a1)] S x S' := by
  refine k_start_i (by decide +kernel) hD hG (Nat.le_of_ble_eq_true rfl) (fun Γ F hQ => ?_)
  have F : zF Γ (wC cI cZ ad) cI cZ cX2_countHeld { frames := 3, cells := 0, slots := 0, locals := 67 } 5 RX2 := F
  refine k_sub [0, 1] (lv' := [(0, .ref (ad 34)), (1, .int (zI a1))]) rfl ?_
  refine k_iconst F dX2_countHeld_0 ?_
  refine k_istore_n F dX2_countHeld_1 rfl (by decide) rfl ?_
  refine k_iconst F dX2_countHeld_2 ?_
  refine k_istore_n F dX2_countHeld_3 rfl (by decide) rfl ?_
  refine zj1_e (PJ := (fun v1 S1 => inR v1 → zk Γ (wC cI cZ ad) (RG bsC) S1 [(2, .int (zI v1))] 44 [])) h (fun v1 S1 h1 r1 => ?_) (fun j1 J1 h2 => ?_)
  · refine k_iload_n F dX2_countHeld_44 rfl 0 rfl ?_
    exact k_iret F hQ r1 dX2_countHeld_45 h1
  · refine k_sub [2, 3, 1, 0] rfl (zl2_e (F := (b_X2_countHeld_4 a1 j1)) (fun v2 v3 S2 => inR v2 → inR v3 → zk Γ (wC cI cZ ad) (RG bsC) S2 [(0, .ref (ad 34)), (1, .int (zI a1)), (2, .int (zI v2)), (3, .int (zI v3))] 4 []) (fun rec1 v2 v3 S2 hrec1 h3 r2 r3 => ?_) 1000 0 0 S h2 iR_0 iR_0)
    refine k_iload_n F dX2_countHeld_4 rfl 3 rfl ?_
    refine k_bipush F dX2_countHeld_5 bp_20 ?_
    refine k_icmp_ge F r3 iR_20 (tgt := 44) dX2_countHeld_7 (by decide) h3 (fun h4 => ?_) (fun h5 => ?_)
    · exact k_sub [2] rfl (J1 v2 S2 h4 r2)
    · refine k_aload_n F dX2_countHeld_10 rfl 0 rfl ?_
      refine k_iload_n F dX2_countHeld_11 rfl 1 rfl ?_
      refine k_iload_n F dX2_countHeld_12 rfl 3 rfl ?_
      refine k_callVi F cal_X2_pageIn wm_332 (obC_34 cI cZ ad) (fun l D A hD hG x S' h => c_X2_pageIn hD hG ra1 r3 h) ⟨rfl, rfl, Nat.le_of_ble_eq_true rfl, Nat.le_of_ble_eq_true rfl⟩ rfl rfl (Nat.le_of_ble_eq_true rfl) dX2_countHeld_13 h5 (fun x1 S3 r4 b1 h6 => ?_)
      refine k_istore F dX2_countHeld_16 (by decide) rfl ?_
      refine k_iload F dX2_countHeld_18 0 rfl ?_
      refine k_iconst F dX2_countHeld_20 ?_
      refine zj1_e (PJ := (fun v4 S4 => inR v4 → zk Γ (wC cI cZ ad) (RG bsC) S4 [(0, .ref (ad 34)), (1, .int (zI a1)), (2, .int (zI v4)), (3, .int (zI v3))] 38 [])) h6 (fun v4 S4 h7 r5 => ?_) (fun j2 J2 h9 => ?_)
      · refine k_iinc F (k := 3) (lv' := fun y => [(3, .int (zI y)), (0, .ref (ad 34)), (1, .int (zI a1)), (2, .int (zI v4))]) dX2_countHeld_38 rfl (by decide) (fun _ => rfl) h7 (fun x2 r6 h8 => ?_)
        refine k_goto F (tgt := 4) dX2_countHeld_41 (by decide) ?_
        exact k_sub [1, 2, 3, 0] rfl (hrec1 v4 x2 S4 h8 r5 r6)
      · refine k_icmp_eq F r4 iR_m1 (tgt := 38) dX2_countHeld_21 (by decide) h9 (fun h10 => ?_) (fun h11 => ?_)
        · exact k_sub [1, 2, 3, 4] rfl (J2 v2 S3 h10 r2)
        · refine k_iload F dX2_countHeld_24 0 rfl ?_
          refine k_aload_n F dX2_countHeld_26 rfl 1 rfl ?_
          refine k_iconst F dX2_countHeld_27 ?_
          refine k_iload_n F dX2_countHeld_28 rfl 4 rfl ?_
          refine k_callVi F cal_X2_pageIn wm_332 (obC_34 cI cZ ad) (fun l D A hD hG x S' h => c_X2_pageIn hD hG iR_0 r3 h) ⟨rfl, rfl, Nat.le_of_ble_eq_true rfl, Nat.le_of_ble_eq_true rfl⟩ rfl rfl (Nat.le_of_ble_eq_true rfl) dX2_countHeld_29 h11 (fun x3 S5 r7 b2 h12 => ?_)
          refine k_icmp_ne F r4 r7 (tgt := 38) dX2_countHeld_32 (by decide) h12 (fun h13 => ?_) (fun h14 => ?_)
          · exact k_sub [1, 2, 3, 4] rfl (J2 v2 S5 h13 r2)
          · refine k_iinc F (k := 3) (lv' := fun y => [(2, .int (zI y)), (4, .int (zI x1)), (0, .ref (ad 34)), (1, .int (zI a1)), (3, .int (zI v3))]) dX2_countHeld_35 rfl (by decide) (fun _ => rfl) h14 (fun x4 r8 h15 => ?_)
            exact k_sub [2, 3, 0, 4] rfl (J2 x4 S5 h15 r8)
set_option maxRecDepth 100000 in
theorem c_X2_unitsOn {l : Launch} {D : va_G} {A : Nat → Prop} {cI cZ : ClassId} {ad : Nat → Nat} (hD : ∀ S, va_D A (wC cI cZ ad S)) {S : zSt} (hG : RG bsC S) {a1 : Int} (ra1 : inR a1) {x : Int} {S' : zSt} (h : m_X2_unitsOn S a1 = some (x, S')) : zMi l yX2_unitsOn cX2_unitsOn 6 .int { frames := 3, cells := 0, slots := 0, locals := 67 } D cI cZ A (wC cI cZ ad) (RG bsC) [.ref (ad 34), .int (zI a1)] S x S' := by
  refine k_start_i (by decide +kernel) hD hG (Nat.le_of_ble_eq_true rfl) (fun Γ F hQ => ?_)
  have F : zF Γ (wC cI cZ ad) cI cZ cX2_unitsOn { frames := 3, cells := 0, slots := 0, locals := 67 } 6 RX2 := F
  refine k_sub [0, 1] (lv' := [(0, .ref (ad 34)), (1, .int (zI a1))]) rfl ?_
  refine k_aload_n F dX2_unitsOn_0 rfl 0 rfl ?_
  refine kgX2_count F dX2_unitsOn_1 h (fun x1 r1 h1 => ?_)
  refine k_iconst F dX2_unitsOn_4 ?_
  refine k_isub F dX2_unitsOn_5 h1 (fun x2 r2 h2 => ?_)
  refine k_istore_n F dX2_unitsOn_6 rfl (by decide) rfl ?_
  refine k_aload_n F dX2_unitsOn_7 rfl 1 rfl ?_
  refine k_iload_n F dX2_unitsOn_8 rfl 0 rfl ?_
  refine k_callVi F cal_X2_pagesOf wm_336 (obC_34 cI cZ ad) (fun l D A hD hG x S' h => c_X2_pagesOf hD hG r2 h) ⟨rfl, rfl, Nat.le_of_ble_eq_true rfl, Nat.le_of_ble_eq_true rfl⟩ rfl rfl (Nat.le_of_ble_eq_true rfl) dX2_unitsOn_9 h2 (fun x3 S1 r3 b1 h3 => ?_)
  refine k_istore_n F dX2_unitsOn_12 rfl (by decide) rfl ?_
  refine k_iload_n F dX2_unitsOn_13 rfl 0 rfl ?_
  refine k_iconst F dX2_unitsOn_14 ?_
  refine k_icmp_ge F r3 iR_1 (tgt := 20) dX2_unitsOn_15 (by decide) h3 (fun h4 => ?_) (fun h5 => ?_)
  · refine k_iconst F dX2_unitsOn_20 ?_
    refine k_istore F dX2_unitsOn_21 (by decide) rfl ?_
    refine k_iconst F dX2_unitsOn_23 ?_
    refine k_istore F dX2_unitsOn_24 (by decide) rfl ?_
    refine zj1_e (PJ := (fun v1 S2 => inR v1 → zk Γ (wC cI cZ ad) (RG bsC) S2 [(4, .int (zI v1))] 61 [])) h4 (fun v1 S2 h6 r4 => ?_) (fun j1 J1 h7 => ?_)
    · refine k_iload F dX2_unitsOn_61 0 rfl ?_
      exact k_iret F hQ r4 dX2_unitsOn_63 h6
    · refine k_sub [4, 5, 3, 2, 1, 0] rfl (zl2_e (F := (b_X2_unitsOn_26 a1 j1 x2 x3)) (fun v2 v3 S3 => inR v2 → inR v3 → zk Γ (wC cI cZ ad) (RG bsC) S3 [(0, .ref (ad 34)), (1, .int (zI a1)), (2, .int (zI x2)), (3, .int (zI x3)), (4, .int (zI v2)), (5, .int (zI v3))] 26 []) (fun rec1 v2 v3 S3 hrec1 h8 r5 r6 => ?_) 1000 0 0 S1 h7 iR_0 iR_0)
      refine k_iload F dX2_unitsOn_26 5 rfl ?_
      refine k_bipush F dX2_unitsOn_28 bp_20 ?_
      refine k_icmp_ge F r6 iR_20 (tgt := 61) dX2_unitsOn_30 (by decide) h8 (fun h9 => ?_) (fun h10 => ?_)
      · exact k_sub [4] rfl (J1 v2 S3 h9 r5)
      · refine k_aload_n F dX2_unitsOn_33 rfl 0 rfl ?_
        refine k_iload_n F dX2_unitsOn_34 rfl 2 rfl ?_
        refine k_iload F dX2_unitsOn_35 5 rfl ?_
        refine k_callVi F cal_X2_pageIn wm_332 (obC_34 cI cZ ad) (fun l D A hD hG x S' h => c_X2_pageIn hD hG r2 r6 h) ⟨rfl, rfl, Nat.le_of_ble_eq_true rfl, Nat.le_of_ble_eq_true rfl⟩ rfl rfl (Nat.le_of_ble_eq_true rfl) dX2_unitsOn_37 h10 (fun x4 S4 r7 b2 h11 => ?_)
        refine k_iload_n F dX2_unitsOn_40 rfl 1 rfl ?_
        refine k_iload_n F dX2_unitsOn_41 rfl 3 rfl ?_
        refine k_irem F ra1 r3 dX2_unitsOn_42 h11 (fun x5 r8 h12 => ?_)
        refine zj1_e (PJ := (fun v4 S5 => inR v4 → zk Γ (wC cI cZ ad) (RG bsC) S5 [(0, .ref (ad 34)), (1, .int (zI a1)), (2, .int (zI x2)), (3, .int (zI x3)), (4, .int (zI v4)), (5, .int (zI v3))] 55 [])) h12 (fun v4 S5 h13 r9 => ?_) (fun j2 J2 h15 => ?_)
        · refine k_iinc F (k := 5) (lv' := fun y => [(5, .int (zI y)), (0, .ref (ad 34)), (1, .int (zI a1)), (2, .int (zI x2)), (3, .int (zI x3)), (4, .int (zI v4))]) dX2_unitsOn_55 rfl (by decide) (fun _ => rfl) h13 (fun x6 r10 h14 => ?_)
          refine k_goto F (tgt := 26) dX2_unitsOn_58 (by decide) ?_
          exact k_sub [1, 2, 3, 4, 5, 0] rfl (hrec1 v4 x6 S5 h14 r9 r10)
        · refine k_icmp_ne F r7 r8 (tgt := 55) dX2_unitsOn_43 (by decide) h15 (fun h16 => ?_) (fun h17 => ?_)
          · exact k_sub [0, 1, 2, 3, 4, 5] rfl (J2 v2 S4 h16 r5)
          · refine k_iload F dX2_unitsOn_46 4 rfl ?_
            refine k_iconst F dX2_unitsOn_48 ?_
            refine k_iload F dX2_unitsOn_49 5 rfl ?_
            refine k_ishl F iR_1 r6 dX2_unitsOn_51 h17 (fun x7 r11 h18 => ?_)
            refine k_ior F r5 r11 dX2_unitsOn_52 h18 (fun x8 r12 h19 => ?_)
            refine k_istore F dX2_unitsOn_53 (by decide) rfl ?_
            exact k_sub [1, 2, 3, 4, 0, 5] rfl (J2 x8 S4 h19 r12)
  · refine k_iconst F dX2_unitsOn_18 ?_
    exact k_iret F hQ iR_0 dX2_unitsOn_19 h5
set_option maxRecDepth 100000 in
theorem c_X3i_clear {l : Launch} {D : va_G} {A : Nat → Prop} {cI cZ : ClassId} {ad : Nat → Nat} (hD : ∀ S, va_D A (wC cI cZ ad S)) {S : zSt} (hG : RG bsC S) {x : Int} {S' : zSt} (h : m_X3i_clear S  = some (x, S')) : zMv l yX3_clear cX3_clear 1 { frames := 1, cells := 0, slots := 0, locals := 23 } D cI cZ A (wC cI cZ ad) (RG bsC) [.ref (ad 29)] S S' := by
  refine k_start_v (by decide +kernel) hD hG (Nat.le_of_ble_eq_true rfl) (fun Γ F hQ => ?_)
  have F : zF Γ (wC cI cZ ad) cI cZ cX3_clear { frames := 1, cells := 0, slots := 0, locals := 23 } 1 RX3 := F
  refine k_sub [0] (lv' := [(0, .ref (ad 29))]) rfl ?_
  refine k_aload_n F dX3_clear_0 rfl 0 rfl ?_
  refine kgX3i_heights F dX3_clear_1 ?_
  refine k_iconst F dX3_clear_4 ?_
  refine k_fill F rfl 30 (aC_22 cI cZ ad) (sC_22 cI cZ ad) (by decide) (by decide) iR_0 wm_337 ⟨Nat.le_of_ble_eq_true rfl, Nat.le_of_ble_eq_true rfl⟩ (Nat.le_of_ble_eq_true rfl) dX3_clear_5 h (fun S1 h1 => ?_)
  refine k_aload_n F dX3_clear_8 rfl 0 rfl ?_
  refine k_iconst F dX3_clear_9 ?_
  refine kpX3i_free F iR_0 dX3_clear_10 h1 (fun S2 h2 => ?_)
  exact k_vret F hQ dX3_clear_13 h2
set_option maxRecDepth 100000 in
theorem c_X3o_clear {l : Launch} {D : va_G} {A : Nat → Prop} {cI cZ : ClassId} {ad : Nat → Nat} (hD : ∀ S, va_D A (wC cI cZ ad S)) {S : zSt} (hG : RG bsC S) {x : Int} {S' : zSt} (h : m_X3o_clear S  = some (x, S')) : zMv l yX3_clear cX3_clear 1 { frames := 1, cells := 0, slots := 0, locals := 23 } D cI cZ A (wC cI cZ ad) (RG bsC) [.ref (ad 31)] S S' := by
  refine k_start_v (by decide +kernel) hD hG (Nat.le_of_ble_eq_true rfl) (fun Γ F hQ => ?_)
  have F : zF Γ (wC cI cZ ad) cI cZ cX3_clear { frames := 1, cells := 0, slots := 0, locals := 23 } 1 RX3 := F
  refine k_sub [0] (lv' := [(0, .ref (ad 31))]) rfl ?_
  refine k_aload_n F dX3_clear_0 rfl 0 rfl ?_
  refine kgX3o_heights F dX3_clear_1 ?_
  refine k_iconst F dX3_clear_4 ?_
  refine k_fill F rfl 32 (aC_23 cI cZ ad) (sC_23 cI cZ ad) (by decide) (by decide) iR_0 wm_337 ⟨Nat.le_of_ble_eq_true rfl, Nat.le_of_ble_eq_true rfl⟩ (Nat.le_of_ble_eq_true rfl) dX3_clear_5 h (fun S1 h1 => ?_)
  refine k_aload_n F dX3_clear_8 rfl 0 rfl ?_
  refine k_iconst F dX3_clear_9 ?_
  refine kpX3o_free F iR_0 dX3_clear_10 h1 (fun S2 h2 => ?_)
  exact k_vret F hQ dX3_clear_13 h2
set_option maxRecDepth 100000 in
theorem c_X3i_add {l : Launch} {D : va_G} {A : Nat → Prop} {cI cZ : ClassId} {ad : Nat → Nat} (hD : ∀ S, va_D A (wC cI cZ ad S)) {S : zSt} (hG : RG bsC S) {a1 : Int} (ra1 : inR a1) {a2 : Int} (ra2 : inR a2) {x : Int} {S' : zSt} (h : m_X3i_add S a1 a2 = some (x, S')) : zMv l yX3_add cX3_add 3 { frames := 0, cells := 0, slots := 0, locals := 0 } D cI cZ A (wC cI cZ ad) (RG bsC) [.ref (ad 29), .int (zI a1), .int (zI a2)] S S' := by
  refine k_start_v (by decide +kernel) hD hG (Nat.le_of_ble_eq_true rfl) (fun Γ F hQ => ?_)
  have F : zF Γ (wC cI cZ ad) cI cZ cX3_add { frames := 0, cells := 0, slots := 0, locals := 0 } 3 RX3 := F
  refine k_sub [0, 1, 2] (lv' := [(0, .ref (ad 29)), (1, .int (zI a1)), (2, .int (zI a2))]) rfl ?_
  refine k_iload_n F dX3_add_0 rfl 1 rfl ?_
  refine k_if_lt F ra1 (tgt := 23) dX3_add_1 (by decide) h (fun h1 => ?_) (fun h2 => ?_)
  · exact k_vret F hQ dX3_add_23 h1
  · refine k_iload_n F dX3_add_4 rfl 1 rfl ?_
    refine k_aload_n F dX3_add_5 rfl 0 rfl ?_
    refine kgX3i_heights F dX3_add_6 ?_
    refine k_alen F 30 (aC_22 cI cZ ad) (by decide) dX3_add_9 ?_
    refine k_icmp_ge F ra1 iR_240 (tgt := 23) dX3_add_10 (by decide) h2 (fun h3 => ?_) (fun h4 => ?_)
    · exact k_vret F hQ dX3_add_23 h3
    · refine k_aload_n F dX3_add_13 rfl 0 rfl ?_
      refine kgX3i_heights F dX3_add_14 ?_
      refine k_iload_n F dX3_add_17 rfl 1 rfl ?_
      refine k_dup2 F dX3_add_18 rfl rfl ?_
      refine k_iald F rfl 30 (aC_22 cI cZ ad) ra1 dX3_add_19 h4 (fun x1 r1 h5 => ?_)
      refine k_iload_n F dX3_add_20 rfl 2 rfl ?_
      refine k_iadd F dX3_add_21 h5 (fun x2 r2 h6 => ?_)
      refine k_iast F rfl 30 (aC_22 cI cZ ad) (sC_22 cI cZ ad) (by decide) ra1 r2 dX3_add_22 h6 (fun S1 h7 => ?_)
      exact k_vret F hQ dX3_add_23 h7
set_option maxRecDepth 100000 in
theorem c_X3o_add {l : Launch} {D : va_G} {A : Nat → Prop} {cI cZ : ClassId} {ad : Nat → Nat} (hD : ∀ S, va_D A (wC cI cZ ad S)) {S : zSt} (hG : RG bsC S) {a1 : Int} (ra1 : inR a1) {a2 : Int} (ra2 : inR a2) {x : Int} {S' : zSt} (h : m_X3o_add S a1 a2 = some (x, S')) : zMv l yX3_add cX3_add 3 { frames := 0, cells := 0, slots := 0, locals := 0 } D cI cZ A (wC cI cZ ad) (RG bsC) [.ref (ad 31), .int (zI a1), .int (zI a2)] S S' := by
  refine k_start_v (by decide +kernel) hD hG (Nat.le_of_ble_eq_true rfl) (fun Γ F hQ => ?_)
  have F : zF Γ (wC cI cZ ad) cI cZ cX3_add { frames := 0, cells := 0, slots := 0, locals := 0 } 3 RX3 := F
  refine k_sub [0, 1, 2] (lv' := [(0, .ref (ad 31)), (1, .int (zI a1)), (2, .int (zI a2))]) rfl ?_
  refine k_iload_n F dX3_add_0 rfl 1 rfl ?_
  refine k_if_lt F ra1 (tgt := 23) dX3_add_1 (by decide) h (fun h1 => ?_) (fun h2 => ?_)
  · exact k_vret F hQ dX3_add_23 h1
  · refine k_iload_n F dX3_add_4 rfl 1 rfl ?_
    refine k_aload_n F dX3_add_5 rfl 0 rfl ?_
    refine kgX3o_heights F dX3_add_6 ?_
    refine k_alen F 32 (aC_23 cI cZ ad) (by decide) dX3_add_9 ?_
    refine k_icmp_ge F ra1 iR_240 (tgt := 23) dX3_add_10 (by decide) h2 (fun h3 => ?_) (fun h4 => ?_)
    · exact k_vret F hQ dX3_add_23 h3
    · refine k_aload_n F dX3_add_13 rfl 0 rfl ?_
      refine kgX3o_heights F dX3_add_14 ?_
      refine k_iload_n F dX3_add_17 rfl 1 rfl ?_
      refine k_dup2 F dX3_add_18 rfl rfl ?_
      refine k_iald F rfl 32 (aC_23 cI cZ ad) ra1 dX3_add_19 h4 (fun x1 r1 h5 => ?_)
      refine k_iload_n F dX3_add_20 rfl 2 rfl ?_
      refine k_iadd F dX3_add_21 h5 (fun x2 r2 h6 => ?_)
      refine k_iast F rfl 32 (aC_23 cI cZ ad) (sC_23 cI cZ ad) (by decide) ra1 r2 dX3_add_22 h6 (fun S1 h7 => ?_)
      exact k_vret F hQ dX3_add_23 h7
set_option maxRecDepth 100000 in
theorem c_X3i_rowFor {l : Launch} {D : va_G} {A : Nat → Prop} {cI cZ : ClassId} {ad : Nat → Nat} (hD : ∀ S, va_D A (wC cI cZ ad S)) {S : zSt} (hG : RG bsC S) {a1 : Int} (ra1 : inR a1) {a2 : Int} (ra2 : inR a2) {x : Int} {S' : zSt} (h : m_X3i_rowFor S a1 a2 = some (x, S')) : zMi l yX3_rowFor cX3_rowFor 3 .int { frames := 1, cells := 0, slots := 0, locals := 21 } D cI cZ A (wC cI cZ ad) (RG bsC) [.ref (ad 29), .int (zI a1), .int (zI a2)] S x S' := by
  refine k_start_i (by decide +kernel) hD hG (Nat.le_of_ble_eq_true rfl) (fun Γ F hQ => ?_)
  have F : zF Γ (wC cI cZ ad) cI cZ cX3_rowFor { frames := 1, cells := 0, slots := 0, locals := 21 } 3 RX3 := F
  refine k_sub [0, 1, 2] (lv' := [(0, .ref (ad 29)), (1, .int (zI a1)), (2, .int (zI a2))]) rfl ?_
  refine k_aload_n F dX3_rowFor_0 rfl 0 rfl ?_
  refine kgX3i_heights F dX3_rowFor_1 ?_
  refine k_iload_n F dX3_rowFor_4 rfl 1 rfl ?_
  refine k_callNi F cal_X8_at nw_X3_25 (fun l D A hD hG x S' h => c_at hD hG 30 (aC_22 cI cZ ad) (by decide) (by decide) ra1 h) ⟨rfl, rfl, Nat.le_of_ble_eq_true rfl, Nat.le_of_ble_eq_true rfl⟩ rfl rfl (Nat.le_of_ble_eq_true rfl) dX3_rowFor_5 h (fun x1 S1 r1 b1 h1 => ?_)
  refine k_if_le F r1 (tgt := 22) dX3_rowFor_8 (by decide) h1 (fun h2 => ?_) (fun h3 => ?_)
  · refine k_iload_n F dX3_rowFor_22 rfl 2 rfl ?_
    exact k_iret F hQ ra2 dX3_rowFor_23 h2
  · refine k_iload_n F dX3_rowFor_11 rfl 2 rfl ?_
    refine k_aload_n F dX3_rowFor_12 rfl 0 rfl ?_
    refine kgX3i_free F dX3_rowFor_13 h3 (fun x2 r2 h4 => ?_)
    refine k_mmax F ra2 r2 wm_338 mal_max (Nat.le_of_ble_eq_true rfl) (Nat.le_of_ble_eq_true rfl) dX3_rowFor_16 h4 (fun x3 r3 h5 => ?_)
    refine k_goto F (tgt := 23) dX3_rowFor_19 (by decide) ?_
    exact k_iret F hQ r3 dX3_rowFor_23 h5
set_option maxRecDepth 100000 in
theorem c_X3o_rowFor {l : Launch} {D : va_G} {A : Nat → Prop} {cI cZ : ClassId} {ad : Nat → Nat} (hD : ∀ S, va_D A (wC cI cZ ad S)) {S : zSt} (hG : RG bsC S) {a1 : Int} (ra1 : inR a1) {a2 : Int} (ra2 : inR a2) {x : Int} {S' : zSt} (h : m_X3o_rowFor S a1 a2 = some (x, S')) : zMi l yX3_rowFor cX3_rowFor 3 .int { frames := 1, cells := 0, slots := 0, locals := 21 } D cI cZ A (wC cI cZ ad) (RG bsC) [.ref (ad 31), .int (zI a1), .int (zI a2)] S x S' := by
  refine k_start_i (by decide +kernel) hD hG (Nat.le_of_ble_eq_true rfl) (fun Γ F hQ => ?_)
  have F : zF Γ (wC cI cZ ad) cI cZ cX3_rowFor { frames := 1, cells := 0, slots := 0, locals := 21 } 3 RX3 := F
  refine k_sub [0, 1, 2] (lv' := [(0, .ref (ad 31)), (1, .int (zI a1)), (2, .int (zI a2))]) rfl ?_
  refine k_aload_n F dX3_rowFor_0 rfl 0 rfl ?_
  refine kgX3o_heights F dX3_rowFor_1 ?_
  refine k_iload_n F dX3_rowFor_4 rfl 1 rfl ?_
  refine k_callNi F cal_X8_at nw_X3_25 (fun l D A hD hG x S' h => c_at hD hG 32 (aC_23 cI cZ ad) (by decide) (by decide) ra1 h) ⟨rfl, rfl, Nat.le_of_ble_eq_true rfl, Nat.le_of_ble_eq_true rfl⟩ rfl rfl (Nat.le_of_ble_eq_true rfl) dX3_rowFor_5 h (fun x1 S1 r1 b1 h1 => ?_)
  refine k_if_le F r1 (tgt := 22) dX3_rowFor_8 (by decide) h1 (fun h2 => ?_) (fun h3 => ?_)
  · refine k_iload_n F dX3_rowFor_22 rfl 2 rfl ?_
    exact k_iret F hQ ra2 dX3_rowFor_23 h2
  · refine k_iload_n F dX3_rowFor_11 rfl 2 rfl ?_
    refine k_aload_n F dX3_rowFor_12 rfl 0 rfl ?_
    refine kgX3o_free F dX3_rowFor_13 h3 (fun x2 r2 h4 => ?_)
    refine k_mmax F ra2 r2 wm_338 mal_max (Nat.le_of_ble_eq_true rfl) (Nat.le_of_ble_eq_true rfl) dX3_rowFor_16 h4 (fun x3 r3 h5 => ?_)
    refine k_goto F (tgt := 23) dX3_rowFor_19 (by decide) ?_
    exact k_iret F hQ r3 dX3_rowFor_23 h5
set_option maxRecDepth 100000 in
theorem c_X3i_fill {l : Launch} {D : va_G} {A : Nat → Prop} {cI cZ : ClassId} {ad : Nat → Nat} (hD : ∀ S, va_D A (wC cI cZ ad S)) {S : zSt} (hG : RG bsC S) {a1 : Int} (ra1 : inR a1) {a2 : Int} (ra2 : inR a2) {x : Int} {S' : zSt} (h : m_X3i_fill S a1 a2 = some (x, S')) : zMv l yX3_fill cX3_fill 3 { frames := 1, cells := 0, slots := 0, locals := 21 } D cI cZ A (wC cI cZ ad) (RG bsC) [.ref (ad 29), .int (zI a1), .int (zI a2)] S S' := by
  refine k_start_v (by decide +kernel) hD hG (Nat.le_of_ble_eq_true rfl) (fun Γ F hQ => ?_)
  have F : zF Γ (wC cI cZ ad) cI cZ cX3_fill { frames := 1, cells := 0, slots := 0, locals := 21 } 3 RX3 := F
  refine k_sub [0, 1, 2] (lv' := [(0, .ref (ad 29)), (1, .int (zI a1)), (2, .int (zI a2))]) rfl ?_
  refine k_aload_n F dX3_fill_0 rfl 0 rfl ?_
  refine kgX3i_heights F dX3_fill_1 ?_
  refine k_iload_n F dX3_fill_4 rfl 1 rfl ?_
  refine k_callNi F cal_X8_at nw_X3_25 (fun l D A hD hG x S' h => c_at hD hG 30 (aC_22 cI cZ ad) (by decide) (by decide) ra1 h) ⟨rfl, rfl, Nat.le_of_ble_eq_true rfl, Nat.le_of_ble_eq_true rfl⟩ rfl rfl (Nat.le_of_ble_eq_true rfl) dX3_fill_5 h (fun x1 S1 r1 b1 h1 => ?_)
  refine k_if_le F r1 (tgt := 25) dX3_fill_8 (by decide) h1 (fun h2 => ?_) (fun h3 => ?_)
  · exact k_vret F hQ dX3_fill_25 h2
  · refine k_aload_n F dX3_fill_11 rfl 0 rfl ?_
    refine k_iload_n F dX3_fill_12 rfl 2 rfl ?_
    refine k_aload_n F dX3_fill_13 rfl 0 rfl ?_
    refine kgX3i_heights F dX3_fill_14 ?_
    refine k_iload_n F dX3_fill_17 rfl 1 rfl ?_
    refine k_callNi F cal_X8_at nw_X3_25 (fun l D A hD hG x S' h => c_at hD hG 30 (aC_22 cI cZ ad) (by decide) (by decide) ra1 h) ⟨rfl, rfl, Nat.le_of_ble_eq_true rfl, Nat.le_of_ble_eq_true rfl⟩ rfl rfl (Nat.le_of_ble_eq_true rfl) dX3_fill_18 h3 (fun x2 S2 r2 b2 h4 => ?_)
    refine k_iadd F dX3_fill_21 h4 (fun x3 r3 h5 => ?_)
    refine kpX3i_free F r3 dX3_fill_22 h5 (fun S3 h6 => ?_)
    exact k_vret F hQ dX3_fill_25 h6
set_option maxRecDepth 100000 in
theorem c_X3o_fill {l : Launch} {D : va_G} {A : Nat → Prop} {cI cZ : ClassId} {ad : Nat → Nat} (hD : ∀ S, va_D A (wC cI cZ ad S)) {S : zSt} (hG : RG bsC S) {a1 : Int} (ra1 : inR a1) {a2 : Int} (ra2 : inR a2) {x : Int} {S' : zSt} (h : m_X3o_fill S a1 a2 = some (x, S')) : zMv l yX3_fill cX3_fill 3 { frames := 1, cells := 0, slots := 0, locals := 21 } D cI cZ A (wC cI cZ ad) (RG bsC) [.ref (ad 31), .int (zI a1), .int (zI a2)] S S' := by
  refine k_start_v (by decide +kernel) hD hG (Nat.le_of_ble_eq_true rfl) (fun Γ F hQ => ?_)
  have F : zF Γ (wC cI cZ ad) cI cZ cX3_fill { frames := 1, cells := 0, slots := 0, locals := 21 } 3 RX3 := F
  refine k_sub [0, 1, 2] (lv' := [(0, .ref (ad 31)), (1, .int (zI a1)), (2, .int (zI a2))]) rfl ?_
  refine k_aload_n F dX3_fill_0 rfl 0 rfl ?_
  refine kgX3o_heights F dX3_fill_1 ?_
  refine k_iload_n F dX3_fill_4 rfl 1 rfl ?_
  refine k_callNi F cal_X8_at nw_X3_25 (fun l D A hD hG x S' h => c_at hD hG 32 (aC_23 cI cZ ad) (by decide) (by decide) ra1 h) ⟨rfl, rfl, Nat.le_of_ble_eq_true rfl, Nat.le_of_ble_eq_true rfl⟩ rfl rfl (Nat.le_of_ble_eq_true rfl) dX3_fill_5 h (fun x1 S1 r1 b1 h1 => ?_)
  refine k_if_le F r1 (tgt := 25) dX3_fill_8 (by decide) h1 (fun h2 => ?_) (fun h3 => ?_)
  · exact k_vret F hQ dX3_fill_25 h2
  · refine k_aload_n F dX3_fill_11 rfl 0 rfl ?_
    refine k_iload_n F dX3_fill_12 rfl 2 rfl ?_
    refine k_aload_n F dX3_fill_13 rfl 0 rfl ?_
    refine kgX3o_heights F dX3_fill_14 ?_
    refine k_iload_n F dX3_fill_17 rfl 1 rfl ?_
    refine k_callNi F cal_X8_at nw_X3_25 (fun l D A hD hG x S' h => c_at hD hG 32 (aC_23 cI cZ ad) (by decide) (by decide) ra1 h) ⟨rfl, rfl, Nat.le_of_ble_eq_true rfl, Nat.le_of_ble_eq_true rfl⟩ rfl rfl (Nat.le_of_ble_eq_true rfl) dX3_fill_18 h3 (fun x2 S2 r2 b2 h4 => ?_)
    refine k_iadd F dX3_fill_21 h4 (fun x3 r3 h5 => ?_)
    refine kpX3o_free F r3 dX3_fill_22 h5 (fun S3 h6 => ?_)
    exact k_vret F hQ dX3_fill_25 h6
set_option maxRecDepth 100000 in
theorem c_X4_size {l : Launch} {D : va_G} {A : Nat → Prop} {cI cZ : ClassId} {ad : Nat → Nat} (hD : ∀ S, va_D A (wC cI cZ ad S)) {S : zSt} (hG : RG bsC S) {x : Int} {S' : zSt} (h : m_X4_size S  = some (x, S')) : zMi l yX4_size cX4_size 1 .int { frames := 0, cells := 0, slots := 0, locals := 0 } D cI cZ A (wC cI cZ ad) (RG bsC) [.ref (ad 1)] S x S' := by
  refine k_start_i (by decide +kernel) hD hG (Nat.le_of_ble_eq_true rfl) (fun Γ F hQ => ?_)
  have F : zF Γ (wC cI cZ ad) cI cZ cX4_size { frames := 0, cells := 0, slots := 0, locals := 0 } 1 RX4 := F
  refine k_sub [0] (lv' := [(0, .ref (ad 1))]) rfl ?_
  refine k_aload_n F dX4_size_0 rfl 0 rfl ?_
  refine kgX4_size F dX4_size_1 h (fun x1 r1 h1 => ?_)
  exact k_iret F hQ r1 dX4_size_4 h1
set_option maxRecDepth 100000 in
theorem c_X4_isFull {l : Launch} {D : va_G} {A : Nat → Prop} {cI cZ : ClassId} {ad : Nat → Nat} (hD : ∀ S, va_D A (wC cI cZ ad S)) {S : zSt} (hG : RG bsC S) {x : Int} {S' : zSt} (h : m_X4_isFull S  = some (x, S')) : zMi l yX4_isFull cX4_isFull 1 .boolean { frames := 0, cells := 0, slots := 0, locals := 0 } D cI cZ A (wC cI cZ ad) (RG bsC) [.ref (ad 1)] S x S' := by
  refine k_start_i (by decide +kernel) hD hG (Nat.le_of_ble_eq_true rfl) (fun Γ F hQ => ?_)
  have F : zF Γ (wC cI cZ ad) cI cZ cX4_isFull { frames := 0, cells := 0, slots := 0, locals := 0 } 1 RX4 := F
  refine k_sub [0] (lv' := [(0, .ref (ad 1))]) rfl ?_
  refine k_aload_n F dX4_isFull_0 rfl 0 rfl ?_
  refine kgX4_size F dX4_isFull_1 h (fun x1 r1 h1 => ?_)
  refine k_aload_n F dX4_isFull_4 rfl 0 rfl ?_
  refine kgX4_words F dX4_isFull_5 ?_
  refine k_alen F 2 (aC_0 cI cZ ad) (by decide) dX4_isFull_8 ?_
  refine k_icmp_lt F r1 iR_12 (tgt := 16) dX4_isFull_9 (by decide) h1 (fun h2 => ?_) (fun h3 => ?_)
  · refine k_iconst F dX4_isFull_16 ?_
    exact k_zret F hQ (Or.inl rfl) dX4_isFull_17 h2
  · refine k_iconst F dX4_isFull_12 ?_
    refine k_goto F (tgt := 17) dX4_isFull_13 (by decide) ?_
    exact k_zret F hQ (Or.inr rfl) dX4_isFull_17 h3
set_option maxRecDepth 100000 in
theorem c_X4_add {l : Launch} {D : va_G} {A : Nat → Prop} {cI cZ : ClassId} {ad : Nat → Nat} (hD : ∀ S, va_D A (wC cI cZ ad S)) {S : zSt} (hG : RG bsC S) {a1 : Int} (ra1 : inR a1) {x : Int} {S' : zSt} (h : m_X4_add S a1 = some (x, S')) : zMv l yX4_add cX4_add 2 { frames := 1, cells := 0, slots := 0, locals := 20 } D cI cZ A (wC cI cZ ad) (RG bsC) [.ref (ad 1), .int (zI a1)] S S' := by
  refine k_start_v (by decide +kernel) hD hG (Nat.le_of_ble_eq_true rfl) (fun Γ F hQ => ?_)
  have F : zF Γ (wC cI cZ ad) cI cZ cX4_add { frames := 1, cells := 0, slots := 0, locals := 20 } 2 RX4 := F
  refine k_sub [0, 1] (lv' := [(0, .ref (ad 1)), (1, .int (zI a1))]) rfl ?_
  refine k_aload_n F dX4_add_0 rfl 0 rfl ?_
  refine k_callVi F cal_X4_isFull wm_343 (obC_1 cI cZ ad) (fun l D A hD hG x S' h => c_X4_isFull hD hG h) ⟨rfl, rfl, Nat.le_of_ble_eq_true rfl, Nat.le_of_ble_eq_true rfl⟩ rfl rfl (Nat.le_of_ble_eq_true rfl) dX4_add_1 h (fun x1 S1 r1 b1 h1 => ?_)
  refine k_if_ne F r1 (tgt := 27) dX4_add_4 (by decide) h1 (fun h2 => ?_) (fun h3 => ?_)
  · exact k_vret F hQ dX4_add_27 h2
  · refine k_aload_n F dX4_add_7 rfl 0 rfl ?_
    refine kgX4_words F dX4_add_8 ?_
    refine k_aload_n F dX4_add_11 rfl 0 rfl ?_
    refine kgX4_size F dX4_add_12 h3 (fun x2 r2 h4 => ?_)
    refine k_iload_n F dX4_add_15 rfl 1 rfl ?_
    refine k_iast F rfl 2 (aC_0 cI cZ ad) (sC_0 cI cZ ad) (by decide) r2 ra1 dX4_add_16 h4 (fun S2 h5 => ?_)
    refine k_aload_n F dX4_add_17 rfl 0 rfl ?_
    refine k_dup F dX4_add_18 rfl ?_
    refine kgX4_size F dX4_add_19 h5 (fun x3 r3 h6 => ?_)
    refine k_iconst F dX4_add_22 ?_
    refine k_iadd F dX4_add_23 h6 (fun x4 r4 h7 => ?_)
    refine kpX4_size F r4 dX4_add_24 h7 (fun S3 h8 => ?_)
    exact k_vret F hQ dX4_add_27 h8
set_option maxRecDepth 100000 in
theorem c_X4_clear {l : Launch} {D : va_G} {A : Nat → Prop} {cI cZ : ClassId} {ad : Nat → Nat} (hD : ∀ S, va_D A (wC cI cZ ad S)) {S : zSt} (hG : RG bsC S) {x : Int} {S' : zSt} (h : m_X4_clear S  = some (x, S')) : zMv l yX4_clear cX4_clear 1 { frames := 0, cells := 0, slots := 0, locals := 0 } D cI cZ A (wC cI cZ ad) (RG bsC) [.ref (ad 1)] S S' := by
  refine k_start_v (by decide +kernel) hD hG (Nat.le_of_ble_eq_true rfl) (fun Γ F hQ => ?_)
  have F : zF Γ (wC cI cZ ad) cI cZ cX4_clear { frames := 0, cells := 0, slots := 0, locals := 0 } 1 RX4 := F
  refine k_sub [0] (lv' := [(0, .ref (ad 1))]) rfl ?_
  refine k_aload_n F dX4_clear_0 rfl 0 rfl ?_
  refine k_iconst F dX4_clear_1 ?_
  refine kpX4_size F iR_0 dX4_clear_2 h (fun S1 h1 => ?_)
  exact k_vret F hQ dX4_clear_5 h1
set_option maxRecDepth 100000 in
theorem c_X4_wordAt {l : Launch} {D : va_G} {A : Nat → Prop} {cI cZ : ClassId} {ad : Nat → Nat} (hD : ∀ S, va_D A (wC cI cZ ad S)) {S : zSt} (hG : RG bsC S) {a1 : Int} (ra1 : inR a1) {x : Int} {S' : zSt} (h : m_X4_wordAt S a1 = some (x, S')) : zMi l yX4_wordAt cX4_wordAt 2 .int { frames := 1, cells := 0, slots := 0, locals := 21 } D cI cZ A (wC cI cZ ad) (RG bsC) [.ref (ad 1), .int (zI a1)] S x S' := by
  refine k_start_i (by decide +kernel) hD hG (Nat.le_of_ble_eq_true rfl) (fun Γ F hQ => ?_)
  have F : zF Γ (wC cI cZ ad) cI cZ cX4_wordAt { frames := 1, cells := 0, slots := 0, locals := 21 } 2 RX4 := F
  refine k_sub [0, 1] (lv' := [(0, .ref (ad 1)), (1, .int (zI a1))]) rfl ?_
  refine k_iload_n F dX4_wordAt_0 rfl 1 rfl ?_
  refine k_aload_n F dX4_wordAt_1 rfl 0 rfl ?_
  refine kgX4_size F dX4_wordAt_2 h (fun x1 r1 h1 => ?_)
  refine k_icmp_ge F ra1 r1 (tgt := 19) dX4_wordAt_5 (by decide) h1 (fun h2 => ?_) (fun h3 => ?_)
  · refine k_iconst F dX4_wordAt_19 ?_
    exact k_iret F hQ iR_m1 dX4_wordAt_20 h2
  · refine k_aload_n F dX4_wordAt_8 rfl 0 rfl ?_
    refine kgX4_words F dX4_wordAt_9 ?_
    refine k_iload_n F dX4_wordAt_12 rfl 1 rfl ?_
    refine k_callNi F cal_X8_at nw_X4_23 (fun l D A hD hG x S' h => c_at hD hG 2 (aC_0 cI cZ ad) (by decide) (by decide) ra1 h) ⟨rfl, rfl, Nat.le_of_ble_eq_true rfl, Nat.le_of_ble_eq_true rfl⟩ rfl rfl (Nat.le_of_ble_eq_true rfl) dX4_wordAt_13 h3 (fun x2 S1 r2 b1 h4 => ?_)
    refine k_goto F (tgt := 20) dX4_wordAt_16 (by decide) ?_
    exact k_iret F hQ r2 dX4_wordAt_20 h4
set_option maxRecDepth 100000 in
theorem c_X5_has {l : Launch} {D : va_G} {A : Nat → Prop} {cI cZ : ClassId} {ad : Nat → Nat} (hD : ∀ S, va_D A (wC cI cZ ad S)) {S : zSt} (hG : RG bsC S) {a1 : Int} (ra1 : inR a1) {a2 : Int} (ra2 : inR a2) {x : Int} {S' : zSt} (h : m_X5_has S a1 a2 = some (x, S')) : zMi l yX5_has cX5_has 3 .boolean { frames := 1, cells := 0, slots := 0, locals := 21 } D cI cZ A (wC cI cZ ad) (RG bsC) [.ref (ad 23), .int (zI a1), .int (zI a2)] S x S' := by
  refine k_start_i (by decide +kernel) hD hG (Nat.le_of_ble_eq_true rfl) (fun Γ F hQ => ?_)
  have F : zF Γ (wC cI cZ ad) cI cZ cX5_has { frames := 1, cells := 0, slots := 0, locals := 21 } 3 RX5 := F
  refine k_sub [0, 1, 2] (lv' := [(0, .ref (ad 23)), (1, .int (zI a1)), (2, .int (zI a2))]) rfl ?_
  refine k_aload_n F dX5_has_0 rfl 0 rfl ?_
  refine kgX5_ruled F dX5_has_1 ?_
  refine k_iload_n F dX5_has_4 rfl 2 rfl ?_
  refine k_callNi F cal_X8_at nw_X5_24 (fun l D A hD hG x S' h => c_at hD hG 24 (aC_18 cI cZ ad) (by decide) (by decide) ra2 h) ⟨rfl, rfl, Nat.le_of_ble_eq_true rfl, Nat.le_of_ble_eq_true rfl⟩ rfl rfl (Nat.le_of_ble_eq_true rfl) dX5_has_5 h (fun x1 S1 r1 b1 h1 => ?_)
  refine k_iload_n F dX5_has_8 rfl 1 rfl ?_
  refine k_ishr F r1 ra1 dX5_has_9 h1 (fun x2 r2 h2 => ?_)
  refine k_iconst F dX5_has_10 ?_
  refine k_iand F r2 iR_1 dX5_has_11 h2 (fun x3 r3 h3 => ?_)
  refine k_iconst F dX5_has_12 ?_
  refine k_icmp_ne F r3 iR_1 (tgt := 20) dX5_has_13 (by decide) h3 (fun h4 => ?_) (fun h5 => ?_)
  · refine k_iconst F dX5_has_20 ?_
    exact k_zret F hQ (Or.inl rfl) dX5_has_21 h4
  · refine k_iconst F dX5_has_16 ?_
    refine k_goto F (tgt := 21) dX5_has_17 (by decide) ?_
    exact k_zret F hQ (Or.inr rfl) dX5_has_21 h5
set_option maxRecDepth 100000 in
theorem c_X5_add {l : Launch} {D : va_G} {A : Nat → Prop} {cI cZ : ClassId} {ad : Nat → Nat} (hD : ∀ S, va_D A (wC cI cZ ad S)) {S : zSt} (hG : RG bsC S) {a1 : Int} (ra1 : inR a1) {a2 : Int} (ra2 : inR a2) {a3 : Int} (ra3 : inR a3) {x : Int} {S' : zSt} (h : m_X5_add S a1 a2 a3 = some (x, S')) : zMv l yX5_add cX5_add 4 { frames := 0, cells := 0, slots := 0, locals := 0 } D cI cZ A (wC cI cZ ad) (RG bsC) [.ref (ad 23), .int (zI a1), .int (zI a2), .int (zI a3)] S S' := by
  refine k_start_v (by decide +kernel) hD hG (Nat.le_of_ble_eq_true rfl) (fun Γ F hQ => ?_)
  have F : zF Γ (wC cI cZ ad) cI cZ cX5_add { frames := 0, cells := 0, slots := 0, locals := 0 } 4 RX5 := F
  refine k_sub [0, 1, 2, 3] (lv' := [(0, .ref (ad 23)), (1, .int (zI a1)), (2, .int (zI a2)), (3, .int (zI a3))]) rfl ?_
  refine k_iload_n F dX5_add_0 rfl 2 rfl ?_
  refine k_if_lt F ra2 (tgt := 42) dX5_add_1 (by decide) h (fun h1 => ?_) (fun h2 => ?_)
  · exact k_vret F hQ dX5_add_42 h1
  · refine k_iload_n F dX5_add_4 rfl 2 rfl ?_
    refine k_bipush F dX5_add_5 bp_10 ?_
    refine k_icmp_ge F ra2 iR_10 (tgt := 42) dX5_add_7 (by decide) h2 (fun h3 => ?_) (fun h4 => ?_)
    · exact k_vret F hQ dX5_add_42 h3
    · refine k_aload_n F dX5_add_10 rfl 0 rfl ?_
      refine kgX5_ruled F dX5_add_11 ?_
      refine k_iload_n F dX5_add_14 rfl 2 rfl ?_
      refine k_dup2 F dX5_add_15 rfl rfl ?_
      refine k_iald F rfl 24 (aC_18 cI cZ ad) ra2 dX5_add_16 h4 (fun x1 r1 h5 => ?_)
      refine k_iconst F dX5_add_17 ?_
      refine k_iload_n F dX5_add_18 rfl 1 rfl ?_
      refine k_ishl F iR_1 ra1 dX5_add_19 h5 (fun x2 r2 h6 => ?_)
      refine k_ior F r1 r2 dX5_add_20 h6 (fun x3 r3 h7 => ?_)
      refine k_iast F rfl 24 (aC_18 cI cZ ad) (sC_18 cI cZ ad) (by decide) ra2 r3 dX5_add_21 h7 (fun S1 h8 => ?_)
      refine k_aload_n F dX5_add_22 rfl 0 rfl ?_
      refine kgX5_yes F dX5_add_23 ?_
      refine k_iload_n F dX5_add_26 rfl 2 rfl ?_
      refine k_dup2 F dX5_add_27 rfl rfl ?_
      refine k_iald F rfl 25 (aC_19 cI cZ ad) ra2 dX5_add_28 h8 (fun x4 r4 h9 => ?_)
      refine k_iload_n F dX5_add_29 rfl 3 rfl ?_
      refine zj1_e (PJ := (fun v1 S2 => inR v1 → zk Γ (wC cI cZ ad) (RG bsC) S2 [] 40 [.int (zI v1), .int (zI x4), .int (zI a2), .ref (ad 25)])) h9 (fun v1 S2 h10 r5 => ?_) (fun j1 J1 h13 => ?_)
      · refine k_ior F r4 r5 dX5_add_40 h10 (fun x5 r6 h11 => ?_)
        refine k_iast F rfl 25 (aC_19 cI cZ ad) (sC_19 cI cZ ad) (by decide) ra2 r6 dX5_add_41 h11 (fun S3 h12 => ?_)
        exact k_vret F hQ dX5_add_42 h12
      · refine k_if_eq F ra3 (tgt := 39) dX5_add_30 (by decide) h13 (fun h14 => ?_) (fun h15 => ?_)
        · refine k_iconst F dX5_add_39 ?_
          exact k_sub [] rfl (J1 0 S1 h14 iR_0)
        · refine k_iconst F dX5_add_33 ?_
          refine k_iload_n F dX5_add_34 rfl 1 rfl ?_
          refine k_ishl F iR_1 ra1 dX5_add_35 h15 (fun x6 r7 h16 => ?_)
          refine k_goto F (tgt := 40) dX5_add_36 (by decide) ?_
          exact k_sub [] rfl (J1 x6 S1 h16 r7)
set_option maxRecDepth 100000 in
theorem c_X5_countOn {l : Launch} {D : va_G} {A : Nat → Prop} {cI cZ : ClassId} {ad : Nat → Nat} (hD : ∀ S, va_D A (wC cI cZ ad S)) {S : zSt} (hG : RG bsC S) {a1 : Int} (ra1 : inR a1) {x : Int} {S' : zSt} (h : m_X5_countOn S a1 = some (x, S')) : zMi l yX5_countOn cX5_countOn 2 .int { frames := 1, cells := 0, slots := 0, locals := 21 } D cI cZ A (wC cI cZ ad) (RG bsC) [.ref (ad 23), .int (zI a1)] S x S' := by
  refine k_start_i (by decide +kernel) hD hG (Nat.le_of_ble_eq_true rfl) (fun Γ F hQ => ?_)
  have F : zF Γ (wC cI cZ ad) cI cZ cX5_countOn { frames := 1, cells := 0, slots := 0, locals := 21 } 2 RX5 := F
  refine k_sub [0, 1] (lv' := [(0, .ref (ad 23)), (1, .int (zI a1))]) rfl ?_
  refine k_aload_n F dX5_countOn_0 rfl 0 rfl ?_
  refine kgX5_ruled F dX5_countOn_1 ?_
  refine k_iload_n F dX5_countOn_4 rfl 1 rfl ?_
  refine k_callNi F cal_X8_at nw_X5_24 (fun l D A hD hG x S' h => c_at hD hG 24 (aC_18 cI cZ ad) (by decide) (by decide) ra1 h) ⟨rfl, rfl, Nat.le_of_ble_eq_true rfl, Nat.le_of_ble_eq_true rfl⟩ rfl rfl (Nat.le_of_ble_eq_true rfl) dX5_countOn_5 h (fun x1 S1 r1 b1 h1 => ?_)
  refine k_bitc F r1 wm_344 ⟨Nat.le_of_ble_eq_true rfl, Nat.le_of_ble_eq_true rfl⟩ (Nat.le_of_ble_eq_true rfl) dX5_countOn_8 h1 (fun x2 r2 h2 => ?_)
  exact k_iret F hQ r2 dX5_countOn_11 h2
set_option maxRecDepth 100000 in
theorem c_X5_areRulesFull {l : Launch} {D : va_G} {A : Nat → Prop} {cI cZ : ClassId} {ad : Nat → Nat} (hD : ∀ S, va_D A (wC cI cZ ad S)) {S : zSt} (hG : RG bsC S) {x : Int} {S' : zSt} (h : m_X5_areRulesFull S  = some (x, S')) : zMi l yX5_areRulesFull cX5_areRulesFull 1 .boolean { frames := 0, cells := 0, slots := 0, locals := 0 } D cI cZ A (wC cI cZ ad) (RG bsC) [.ref (ad 23)] S x S' := by
  refine k_start_i (by decide +kernel) hD hG (Nat.le_of_ble_eq_true rfl) (fun Γ F hQ => ?_)
  have F : zF Γ (wC cI cZ ad) cI cZ cX5_areRulesFull { frames := 0, cells := 0, slots := 0, locals := 0 } 1 RX5 := F
  refine k_sub [0] (lv' := [(0, .ref (ad 23))]) rfl ?_
  refine k_aload_n F dX5_areRulesFull_0 rfl 0 rfl ?_
  refine kgX5_rules F dX5_areRulesFull_1 h (fun x1 r1 h1 => ?_)
  refine k_bipush F dX5_areRulesFull_4 bp_6 ?_
  refine k_icmp_lt F r1 iR_6 (tgt := 13) dX5_areRulesFull_6 (by decide) h1 (fun h2 => ?_) (fun h3 => ?_)
  · refine k_iconst F dX5_areRulesFull_13 ?_
    exact k_zret F hQ (Or.inl rfl) dX5_areRulesFull_14 h2
  · refine k_iconst F dX5_areRulesFull_9 ?_
    refine k_goto F (tgt := 14) dX5_areRulesFull_10 (by decide) ?_
    exact k_zret F hQ (Or.inr rfl) dX5_areRulesFull_14 h3
set_option maxRecDepth 100000 in
theorem c_X5_countRules {l : Launch} {D : va_G} {A : Nat → Prop} {cI cZ : ClassId} {ad : Nat → Nat} (hD : ∀ S, va_D A (wC cI cZ ad S)) {S : zSt} (hG : RG bsC S) {x : Int} {S' : zSt} (h : m_X5_countRules S  = some (x, S')) : zMi l yX5_countRules cX5_countRules 1 .int { frames := 0, cells := 0, slots := 0, locals := 0 } D cI cZ A (wC cI cZ ad) (RG bsC) [.ref (ad 23)] S x S' := by
  refine k_start_i (by decide +kernel) hD hG (Nat.le_of_ble_eq_true rfl) (fun Γ F hQ => ?_)
  have F : zF Γ (wC cI cZ ad) cI cZ cX5_countRules { frames := 0, cells := 0, slots := 0, locals := 0 } 1 RX5 := F
  refine k_sub [0] (lv' := [(0, .ref (ad 23))]) rfl ?_
  refine k_aload_n F dX5_countRules_0 rfl 0 rfl ?_
  refine kgX5_rules F dX5_countRules_1 h (fun x1 r1 h1 => ?_)
  exact k_iret F hQ r1 dX5_countRules_4 h1
set_option maxRecDepth 100000 in
theorem c_X5_hasRule {l : Launch} {D : va_G} {A : Nat → Prop} {cI cZ : ClassId} {ad : Nat → Nat} (hD : ∀ S, va_D A (wC cI cZ ad S)) {S : zSt} (hG : RG bsC S) {a1 : Int} (ra1 : inR a1) {x : Int} {S' : zSt} (h : m_X5_hasRule S a1 = some (x, S')) : zMi l yX5_hasRule cX5_hasRule 2 .boolean { frames := 0, cells := 0, slots := 0, locals := 0 } D cI cZ A (wC cI cZ ad) (RG bsC) [.ref (ad 23), .int (zI a1)] S x S' := by
  refine k_start_i (by decide +kernel) hD hG (Nat.le_of_ble_eq_true rfl) (fun Γ F hQ => ?_)
  have F : zF Γ (wC cI cZ ad) cI cZ cX5_hasRule { frames := 0, cells := 0, slots := 0, locals := 0 } 2 RX5 := F
  refine k_sub [0, 1] (lv' := [(0, .ref (ad 23)), (1, .int (zI a1))]) rfl ?_
  refine k_iload_n F dX5_hasRule_0 rfl 1 rfl ?_
  refine zj0_e (PJ := (fun S1 => zk Γ (wC cI cZ ad) (RG bsC) S1 [] 16 [])) h (fun S1 h1 => ?_) (fun j1 J1 h2 => ?_)
  · refine k_iconst F dX5_hasRule_16 ?_
    exact k_zret F hQ (Or.inl rfl) dX5_hasRule_17 h1
  · refine k_if_lt F ra1 (tgt := 16) dX5_hasRule_1 (by decide) h2 (fun h3 => ?_) (fun h4 => ?_)
    · exact k_sub [] rfl (J1 S h3)
    · refine k_iload_n F dX5_hasRule_4 rfl 1 rfl ?_
      refine k_aload_n F dX5_hasRule_5 rfl 0 rfl ?_
      refine kgX5_rules F dX5_hasRule_6 h4 (fun x1 r1 h5 => ?_)
      refine k_icmp_ge F ra1 r1 (tgt := 16) dX5_hasRule_9 (by decide) h5 (fun h6 => ?_) (fun h7 => ?_)
      · exact k_sub [] rfl (J1 S h6)
      · refine k_iconst F dX5_hasRule_12 ?_
        refine k_goto F (tgt := 17) dX5_hasRule_13 (by decide) ?_
        exact k_zret F hQ (Or.inr rfl) dX5_hasRule_17 h7
set_option maxRecDepth 100000 in
theorem c_X5_kindOfRule {l : Launch} {D : va_G} {A : Nat → Prop} {cI cZ : ClassId} {ad : Nat → Nat} (hD : ∀ S, va_D A (wC cI cZ ad S)) {S : zSt} (hG : RG bsC S) {a1 : Int} (ra1 : inR a1) {x : Int} {S' : zSt} (h : m_X5_kindOfRule S a1 = some (x, S')) : zMi l yX5_kindOfRule cX5_kindOfRule 2 .int { frames := 1, cells := 0, slots := 0, locals := 21 } D cI cZ A (wC cI cZ ad) (RG bsC) [.ref (ad 23), .int (zI a1)] S x S' := by
  refine k_start_i (by decide +kernel) hD hG (Nat.le_of_ble_eq_true rfl) (fun Γ F hQ => ?_)
  have F : zF Γ (wC cI cZ ad) cI cZ cX5_kindOfRule { frames := 1, cells := 0, slots := 0, locals := 21 } 2 RX5 := F
  refine k_sub [0, 1] (lv' := [(0, .ref (ad 23)), (1, .int (zI a1))]) rfl ?_
  refine k_aload_n F dX5_kindOfRule_0 rfl 0 rfl ?_
  refine kgX5_ruleKinds F dX5_kindOfRule_1 ?_
  refine k_iload_n F dX5_kindOfRule_4 rfl 1 rfl ?_
  refine k_callNi F cal_X8_at nw_X5_24 (fun l D A hD hG x S' h => c_at hD hG 26 (aC_20 cI cZ ad) (by decide) (by decide) ra1 h) ⟨rfl, rfl, Nat.le_of_ble_eq_true rfl, Nat.le_of_ble_eq_true rfl⟩ rfl rfl (Nat.le_of_ble_eq_true rfl) dX5_kindOfRule_5 h (fun x1 S1 r1 b1 h1 => ?_)
  exact k_iret F hQ r1 dX5_kindOfRule_8 h1
set_option maxRecDepth 100000 in
theorem c_X5_addRule {l : Launch} {D : va_G} {A : Nat → Prop} {cI cZ : ClassId} {ad : Nat → Nat} (hD : ∀ S, va_D A (wC cI cZ ad S)) {S : zSt} (hG : RG bsC S) {a1 : Int} (ra1 : inR a1) {a2 : Int} (ra2 : inR a2) {x : Int} {S' : zSt} (h : m_X5_addRule S a1 a2 = some (x, S')) : zMv l yX5_addRule cX5_addRule 3 { frames := 1, cells := 0, slots := 0, locals := 20 } D cI cZ A (wC cI cZ ad) (RG bsC) [.ref (ad 23), .int (zI a1), .int (zI a2)] S S' := by
  refine k_start_v (by decide +kernel) hD hG (Nat.le_of_ble_eq_true rfl) (fun Γ F hQ => ?_)
  have F : zF Γ (wC cI cZ ad) cI cZ cX5_addRule { frames := 1, cells := 0, slots := 0, locals := 20 } 3 RX5 := F
  refine k_sub [0, 1, 2] (lv' := [(0, .ref (ad 23)), (1, .int (zI a1)), (2, .int (zI a2))]) rfl ?_
  refine k_aload_n F dX5_addRule_0 rfl 0 rfl ?_
  refine k_callVi F cal_X5_areRulesFull wm_349 (obC_23 cI cZ ad) (fun l D A hD hG x S' h => c_X5_areRulesFull hD hG h) ⟨rfl, rfl, Nat.le_of_ble_eq_true rfl, Nat.le_of_ble_eq_true rfl⟩ rfl rfl (Nat.le_of_ble_eq_true rfl) dX5_addRule_1 h (fun x1 S1 r1 b1 h1 => ?_)
  refine k_if_ne F r1 (tgt := 37) dX5_addRule_4 (by decide) h1 (fun h2 => ?_) (fun h3 => ?_)
  · exact k_vret F hQ dX5_addRule_37 h2
  · refine k_aload_n F dX5_addRule_7 rfl 0 rfl ?_
    refine kgX5_ruleKinds F dX5_addRule_8 ?_
    refine k_aload_n F dX5_addRule_11 rfl 0 rfl ?_
    refine kgX5_rules F dX5_addRule_12 h3 (fun x2 r2 h4 => ?_)
    refine k_iload_n F dX5_addRule_15 rfl 1 rfl ?_
    refine k_iast F rfl 26 (aC_20 cI cZ ad) (sC_20 cI cZ ad) (by decide) r2 ra1 dX5_addRule_16 h4 (fun S2 h5 => ?_)
    refine k_aload_n F dX5_addRule_17 rfl 0 rfl ?_
    refine kgX5_ruleWhats F dX5_addRule_18 ?_
    refine k_aload_n F dX5_addRule_21 rfl 0 rfl ?_
    refine kgX5_rules F dX5_addRule_22 h5 (fun x3 r3 h6 => ?_)
    refine k_iload_n F dX5_addRule_25 rfl 2 rfl ?_
    refine k_iast F rfl 27 (aC_21 cI cZ ad) (sC_21 cI cZ ad) (by decide) r3 ra2 dX5_addRule_26 h6 (fun S3 h7 => ?_)
    refine k_aload_n F dX5_addRule_27 rfl 0 rfl ?_
    refine k_dup F dX5_addRule_28 rfl ?_
    refine kgX5_rules F dX5_addRule_29 h7 (fun x4 r4 h8 => ?_)
    refine k_iconst F dX5_addRule_32 ?_
    refine k_iadd F dX5_addRule_33 h8 (fun x5 r5 h9 => ?_)
    refine kpX5_rules F r5 dX5_addRule_34 h9 (fun S4 h10 => ?_)
    exact k_vret F hQ dX5_addRule_37 h10
set_option maxRecDepth 100000 in
theorem c_X5_removeRule {l : Launch} {D : va_G} {A : Nat → Prop} {cI cZ : ClassId} {ad : Nat → Nat} (hD : ∀ S, va_D A (wC cI cZ ad S)) {S : zSt} (hG : RG bsC S) {a1 : Int} (ra1 : inR a1) {x : Int} {S' : zSt} (h : m_X5_removeRule S a1 = some (x, S')) : zMv l yX5_removeRule cX5_removeRule 3 { frames := 1, cells := 0, slots := 0, locals := 21 } D cI cZ A (wC cI cZ ad) (RG bsC) [.ref (ad 23), .int (zI a1)] S S' := by
  refine k_start_v (by decide +kernel) hD hG (Nat.le_of_ble_eq_true rfl) (fun Γ F hQ => ?_)
  have F : zF Γ (wC cI cZ ad) cI cZ cX5_removeRule { frames := 1, cells := 0, slots := 0, locals := 21 } 3 RX5 := F
  refine k_sub [0, 1] (lv' := [(0, .ref (ad 23)), (1, .int (zI a1))]) rfl ?_
  refine k_aload_n F dX5_removeRule_0 rfl 0 rfl ?_
  refine k_iload_n F dX5_removeRule_1 rfl 1 rfl ?_
  refine k_callVi F cal_X5_hasRule wm_353 (obC_23 cI cZ ad) (fun l D A hD hG x S' h => c_X5_hasRule hD hG ra1 h) ⟨rfl, rfl, Nat.le_of_ble_eq_true rfl, Nat.le_of_ble_eq_true rfl⟩ rfl rfl (Nat.le_of_ble_eq_true rfl) dX5_removeRule_2 h (fun x1 S1 r1 b1 h1 => ?_)
  refine k_if_ne F r1 (tgt := 9) dX5_removeRule_5 (by decide) h1 (fun h2 => ?_) (fun h3 => ?_)
  · refine k_aload_n F dX5_removeRule_9 rfl 0 rfl ?_
    refine k_dup F dX5_removeRule_10 rfl ?_
    refine kgX5_rules F dX5_removeRule_11 h2 (fun x2 r2 h4 => ?_)
    refine k_iconst F dX5_removeRule_14 ?_
    refine k_isub F dX5_removeRule_15 h4 (fun x3 r3 h5 => ?_)
    refine kpX5_rules F r3 dX5_removeRule_16 h5 (fun S2 h6 => ?_)
    refine k_iload_n F dX5_removeRule_19 rfl 1 rfl ?_
    refine k_istore_n F dX5_removeRule_20 rfl (by decide) rfl ?_
    refine k_sub [1, 0] rfl (zl1_e (F := b_X5_removeRule_21) (fun v1 S3 => inR v1 → zk Γ (wC cI cZ ad) (RG bsC) S3 [(0, .ref (ad 23)), (2, .int (zI v1))] 21 []) (fun rec1 v1 S3 hrec1 h7 r4 => ?_) 1000 a1 S2 h6 ra1)
    refine k_iload_n F dX5_removeRule_21 rfl 1 rfl ?_
    refine k_aload_n F dX5_removeRule_22 rfl 0 rfl ?_
    refine kgX5_rules F dX5_removeRule_23 h7 (fun x4 r5 h8 => ?_)
    refine k_icmp_ge F r4 r5 (tgt := 71) dX5_removeRule_26 (by decide) h8 (fun h9 => ?_) (fun h10 => ?_)
    · exact k_vret F hQ dX5_removeRule_71 h9
    · refine k_iload_n F dX5_removeRule_29 rfl 1 rfl ?_
      refine k_iconst F dX5_removeRule_30 ?_
      refine k_iadd F dX5_removeRule_31 h10 (fun x5 r6 h11 => ?_)
      refine k_bipush F dX5_removeRule_32 bp_6 ?_
      refine k_icmp_ge F r6 iR_6 (tgt := 71) dX5_removeRule_34 (by decide) h11 (fun h12 => ?_) (fun h13 => ?_)
      · exact k_vret F hQ dX5_removeRule_71 h12
      · refine k_aload_n F dX5_removeRule_37 rfl 0 rfl ?_
        refine kgX5_ruleKinds F dX5_removeRule_38 ?_
        refine k_iload_n F dX5_removeRule_41 rfl 1 rfl ?_
        refine k_aload_n F dX5_removeRule_42 rfl 0 rfl ?_
        refine kgX5_ruleKinds F dX5_removeRule_43 ?_
        refine k_iload_n F dX5_removeRule_46 rfl 1 rfl ?_
        refine k_iconst F dX5_removeRule_47 ?_
        refine k_iadd F dX5_removeRule_48 h13 (fun x6 r7 h14 => ?_)
        refine k_iald F rfl 26 (aC_20 cI cZ ad) r7 dX5_removeRule_49 h14 (fun x7 r8 h15 => ?_)
        refine k_iast F rfl 26 (aC_20 cI cZ ad) (sC_20 cI cZ ad) (by decide) r4 r8 dX5_removeRule_50 h15 (fun S4 h16 => ?_)
        refine k_aload_n F dX5_removeRule_51 rfl 0 rfl ?_
        refine kgX5_ruleWhats F dX5_removeRule_52 ?_
        refine k_iload_n F dX5_removeRule_55 rfl 1 rfl ?_
        refine k_aload_n F dX5_removeRule_56 rfl 0 rfl ?_
        refine kgX5_ruleWhats F dX5_removeRule_57 ?_
        refine k_iload_n F dX5_removeRule_60 rfl 1 rfl ?_
        refine k_iconst F dX5_removeRule_61 ?_
        refine k_iadd F dX5_removeRule_62 h16 (fun x8 r9 h17 => ?_)
        refine k_iald F rfl 27 (aC_21 cI cZ ad) r9 dX5_removeRule_63 h17 (fun x9 r10 h18 => ?_)
        refine k_iast F rfl 27 (aC_21 cI cZ ad) (sC_21 cI cZ ad) (by decide) r4 r10 dX5_removeRule_64 h18 (fun S5 h19 => ?_)
        refine k_iinc F (k := 1) (lv' := fun y => [(2, .int (zI y)), (0, .ref (ad 23))]) dX5_removeRule_65 rfl (by decide) (fun _ => rfl) h19 (fun x10 r11 h20 => ?_)
        refine k_goto F (tgt := 21) dX5_removeRule_68 (by decide) ?_
        exact k_sub [1, 0] rfl (hrec1 x10 S5 h20 r11)
  · exact k_vret F hQ dX5_removeRule_8 h3
set_option maxRecDepth 100000 in
theorem c_X5_rulingOf {l : Launch} {D : va_G} {A : Nat → Prop} {cI cZ : ClassId} {ad : Nat → Nat} (hD : ∀ S, va_D A (wC cI cZ ad S)) {S : zSt} (hG : RG bsC S) {a1 : Int} (ra1 : inR a1) {a2 : Int} (ra2 : inR a2) {x : Int} {S' : zSt} (h : m_X5_rulingOf S a1 a2 = some (x, S')) : zMi l yX5_rulingOf cX5_rulingOf 3 .int { frames := 1, cells := 0, slots := 0, locals := 21 } D cI cZ A (wC cI cZ ad) (RG bsC) [.ref (ad 23), .int (zI a1), .int (zI a2)] S x S' := by
  refine k_start_i (by decide +kernel) hD hG (Nat.le_of_ble_eq_true rfl) (fun Γ F hQ => ?_)
  have F : zF Γ (wC cI cZ ad) cI cZ cX5_rulingOf { frames := 1, cells := 0, slots := 0, locals := 21 } 3 RX5 := F
  refine k_sub [0, 1, 2] (lv' := [(0, .ref (ad 23)), (1, .int (zI a1)), (2, .int (zI a2))]) rfl ?_
  refine k_iload_n F dX5_rulingOf_0 rfl 1 rfl ?_
  refine k_iconst F dX5_rulingOf_1 ?_
  refine k_icmp_ne F ra1 iR_m1 (tgt := 9) dX5_rulingOf_2 (by decide) h (fun h1 => ?_) (fun h2 => ?_)
  · refine k_aload_n F dX5_rulingOf_9 rfl 0 rfl ?_
    refine kgX5_yes F dX5_rulingOf_10 ?_
    refine k_iload_n F dX5_rulingOf_13 rfl 2 rfl ?_
    refine k_callNi F cal_X8_at nw_X5_24 (fun l D A hD hG x S' h => c_at hD hG 25 (aC_19 cI cZ ad) (by decide) (by decide) ra2 h) ⟨rfl, rfl, Nat.le_of_ble_eq_true rfl, Nat.le_of_ble_eq_true rfl⟩ rfl rfl (Nat.le_of_ble_eq_true rfl) dX5_rulingOf_14 h1 (fun x1 S1 r1 b1 h3 => ?_)
    refine k_iload_n F dX5_rulingOf_17 rfl 1 rfl ?_
    refine k_ishr F r1 ra1 dX5_rulingOf_18 h3 (fun x2 r2 h4 => ?_)
    refine k_iconst F dX5_rulingOf_19 ?_
    refine k_iand F r2 iR_1 dX5_rulingOf_20 h4 (fun x3 r3 h5 => ?_)
    exact k_iret F hQ r3 dX5_rulingOf_21 h5
  · refine k_iconst F dX5_rulingOf_5 ?_
    refine k_goto F (tgt := 21) dX5_rulingOf_6 (by decide) ?_
    exact k_iret F hQ iR_m1 dX5_rulingOf_21 h2
set_option maxRecDepth 100000 in
theorem c_X5_rulingOfMost {l : Launch} {D : va_G} {A : Nat → Prop} {cI cZ : ClassId} {ad : Nat → Nat} (hD : ∀ S, va_D A (wC cI cZ ad S)) {S : zSt} (hG : RG bsC S) {a1 : Int} (ra1 : inR a1) {x : Int} {S' : zSt} (h : m_X5_rulingOfMost S a1 = some (x, S')) : zMi l yX5_rulingOfMost cX5_rulingOfMost 4 .int { frames := 2, cells := 0, slots := 0, locals := 42 } D cI cZ A (wC cI cZ ad) (RG bsC) [.ref (ad 23), .int (zI a1)] S x S' := by
  refine k_start_i (by decide +kernel) hD hG (Nat.le_of_ble_eq_true rfl) (fun Γ F hQ => ?_)
  have F : zF Γ (wC cI cZ ad) cI cZ cX5_rulingOfMost { frames := 2, cells := 0, slots := 0, locals := 42 } 4 RX5 := F
  refine k_sub [0, 1] (lv' := [(0, .ref (ad 23)), (1, .int (zI a1))]) rfl ?_
  refine k_aload_n F dX5_rulingOfMost_0 rfl 0 rfl ?_
  refine kgX5_yes F dX5_rulingOfMost_1 ?_
  refine k_iload_n F dX5_rulingOfMost_4 rfl 1 rfl ?_
  refine k_callNi F cal_X8_at nw_X5_24 (fun l D A hD hG x S' h => c_at hD hG 25 (aC_19 cI cZ ad) (by decide) (by decide) ra1 h) ⟨rfl, rfl, Nat.le_of_ble_eq_true rfl, Nat.le_of_ble_eq_true rfl⟩ rfl rfl (Nat.le_of_ble_eq_true rfl) dX5_rulingOfMost_5 h (fun x1 S1 r1 b1 h1 => ?_)
  refine k_bitc F r1 wm_344 ⟨Nat.le_of_ble_eq_true rfl, Nat.le_of_ble_eq_true rfl⟩ (Nat.le_of_ble_eq_true rfl) dX5_rulingOfMost_8 h1 (fun x2 r2 h2 => ?_)
  refine k_istore_n F dX5_rulingOfMost_11 rfl (by decide) rfl ?_
  refine k_aload_n F dX5_rulingOfMost_12 rfl 1 rfl ?_
  refine k_iload_n F dX5_rulingOfMost_13 rfl 2 rfl ?_
  refine k_callVi F cal_X5_countOn wm_357 (obC_23 cI cZ ad) (fun l D A hD hG x S' h => c_X5_countOn hD hG ra1 h) ⟨rfl, rfl, Nat.le_of_ble_eq_true rfl, Nat.le_of_ble_eq_true rfl⟩ rfl rfl (Nat.le_of_ble_eq_true rfl) dX5_rulingOfMost_14 h2 (fun x3 S2 r3 b2 h3 => ?_)
  refine k_iload_n F dX5_rulingOfMost_17 rfl 0 rfl ?_
  refine k_isub F dX5_rulingOfMost_18 h3 (fun x4 r4 h4 => ?_)
  refine k_istore_n F dX5_rulingOfMost_19 rfl (by decide) rfl ?_
  refine k_iload_n F dX5_rulingOfMost_20 rfl 1 rfl ?_
  refine k_iload_n F dX5_rulingOfMost_21 rfl 0 rfl ?_
  refine k_icmp_ne F r2 r4 (tgt := 27) dX5_rulingOfMost_22 (by decide) h4 (fun h5 => ?_) (fun h6 => ?_)
  · refine k_iload_n F dX5_rulingOfMost_27 rfl 1 rfl ?_
    refine k_iload_n F dX5_rulingOfMost_28 rfl 0 rfl ?_
    refine k_icmp_le F r2 r4 (tgt := 36) dX5_rulingOfMost_29 (by decide) h5 (fun h7 => ?_) (fun h8 => ?_)
    · refine k_iconst F dX5_rulingOfMost_36 ?_
      exact k_iret F hQ iR_0 dX5_rulingOfMost_37 h7
    · refine k_iconst F dX5_rulingOfMost_32 ?_
      refine k_goto F (tgt := 37) dX5_rulingOfMost_33 (by decide) ?_
      exact k_iret F hQ iR_1 dX5_rulingOfMost_37 h8
  · refine k_iconst F dX5_rulingOfMost_25 ?_
    exact k_iret F hQ iR_m1 dX5_rulingOfMost_26 h6
set_option maxRecDepth 100000 in
theorem c_X5_tell {l : Launch} {D : va_G} {A : Nat → Prop} {cI cZ : ClassId} {ad : Nat → Nat} (hD : ∀ S, va_D A (wC cI cZ ad S)) {S : zSt} (hG : RG bsC S) {a1 : Int} (ra1 : inR a1) {a2 : Int} (ra2 : inR a2) {a3 : Int} (ra3 : inR a3) {x : Int} {S' : zSt} (h : m_X5_tell S a1 a2 a3 = some (x, S')) : zMi l yX5_tell cX5_tell 5 .int { frames := 4, cells := 0, slots := 0, locals := 88 } D cI cZ A (wC cI cZ ad) (RG bsC) [.ref (ad 23), .int (zI a1), .int (zI a2), .int (zI a3), .ref (ad 7)] S x S' := by
  refine k_start_i (by decide +kernel) hD hG (Nat.le_of_ble_eq_true rfl) (fun Γ F hQ => ?_)
  have F : zF Γ (wC cI cZ ad) cI cZ cX5_tell { frames := 4, cells := 0, slots := 0, locals := 88 } 5 RX5 := F
  refine k_sub [0, 1, 2, 3, 4] (lv' := [(0, .ref (ad 23)), (1, .int (zI a1)), (2, .int (zI a2)), (3, .int (zI a3)), (4, .ref (ad 7))]) rfl ?_
  refine k_iload_n F dX5_tell_0 rfl 1 rfl ?_
  refine k_tsw3 F ra1 dX5_tell_1 (t0 := 28) (t1 := 48) (t2 := 68) (td := 74) rfl rfl rfl (by decide) (by decide) (by decide) (by decide) h (fun h1 => ?_) (fun h2 => ?_) (fun h3 => ?_) (fun h4 => ?_)
  · refine k_aload_n F dX5_tell_28 rfl 0 rfl ?_
    refine k_aload F dX5_tell_29 4 rfl ?_
    refine k_aload_n F dX5_tell_31 rfl 0 rfl ?_
    refine kgX5_ruled F dX5_tell_32 ?_
    refine k_iload_n F dX5_tell_35 rfl 3 rfl ?_
    refine k_callNi F cal_X8_at nw_X5_24 (fun l D A hD hG x S' h => c_at hD hG 24 (aC_18 cI cZ ad) (by decide) (by decide) ra3 h) ⟨rfl, rfl, Nat.le_of_ble_eq_true rfl, Nat.le_of_ble_eq_true rfl⟩ rfl rfl (Nat.le_of_ble_eq_true rfl) dX5_tell_36 h1 (fun x1 S1 r1 b1 h5 => ?_)
    refine k_iload_n F dX5_tell_39 rfl 2 rfl ?_
    refine k_callVi F cal_X0_latestAmong wm_361 (obC_7 cI cZ ad) (fun l D A hD hG x S' h => c_X0_latestAmong hD hG r1 ra2 h) ⟨rfl, rfl, Nat.le_of_ble_eq_true rfl, Nat.le_of_ble_eq_true rfl⟩ rfl rfl (Nat.le_of_ble_eq_true rfl) dX5_tell_40 h5 (fun x2 S2 r2 b2 h6 => ?_)
    refine k_iload_n F dX5_tell_43 rfl 3 rfl ?_
    refine k_callVi F cal_X5_rulingOf wm_365 (obC_23 cI cZ ad) (fun l D A hD hG x S' h => c_X5_rulingOf hD hG r2 ra3 h) ⟨rfl, rfl, Nat.le_of_ble_eq_true rfl, Nat.le_of_ble_eq_true rfl⟩ rfl rfl (Nat.le_of_ble_eq_true rfl) dX5_tell_44 h6 (fun x3 S3 r3 b3 h7 => ?_)
    exact k_iret F hQ r3 dX5_tell_47 h7
  · refine k_aload_n F dX5_tell_48 rfl 0 rfl ?_
    refine k_aload F dX5_tell_49 4 rfl ?_
    refine k_aload_n F dX5_tell_51 rfl 0 rfl ?_
    refine kgX5_ruled F dX5_tell_52 ?_
    refine k_iload_n F dX5_tell_55 rfl 3 rfl ?_
    refine k_callNi F cal_X8_at nw_X5_24 (fun l D A hD hG x S' h => c_at hD hG 24 (aC_18 cI cZ ad) (by decide) (by decide) ra3 h) ⟨rfl, rfl, Nat.le_of_ble_eq_true rfl, Nat.le_of_ble_eq_true rfl⟩ rfl rfl (Nat.le_of_ble_eq_true rfl) dX5_tell_56 h2 (fun x4 S4 r4 b4 h8 => ?_)
    refine k_iconst F dX5_tell_59 ?_
    refine k_callVi F cal_X0_latestAmong wm_361 (obC_7 cI cZ ad) (fun l D A hD hG x S' h => c_X0_latestAmong hD hG r4 iR_m1 h) ⟨rfl, rfl, Nat.le_of_ble_eq_true rfl, Nat.le_of_ble_eq_true rfl⟩ rfl rfl (Nat.le_of_ble_eq_true rfl) dX5_tell_60 h8 (fun x5 S5 r5 b5 h9 => ?_)
    refine k_iload_n F dX5_tell_63 rfl 3 rfl ?_
    refine k_callVi F cal_X5_rulingOf wm_365 (obC_23 cI cZ ad) (fun l D A hD hG x S' h => c_X5_rulingOf hD hG r5 ra3 h) ⟨rfl, rfl, Nat.le_of_ble_eq_true rfl, Nat.le_of_ble_eq_true rfl⟩ rfl rfl (Nat.le_of_ble_eq_true rfl) dX5_tell_64 h9 (fun x6 S6 r6 b6 h10 => ?_)
    exact k_iret F hQ r6 dX5_tell_67 h10
  · refine k_aload_n F dX5_tell_68 rfl 0 rfl ?_
    refine k_iload_n F dX5_tell_69 rfl 3 rfl ?_
    refine k_callVi F cal_X5_rulingOfMost wm_369 (obC_23 cI cZ ad) (fun l D A hD hG x S' h => c_X5_rulingOfMost hD hG ra3 h) ⟨rfl, rfl, Nat.le_of_ble_eq_true rfl, Nat.le_of_ble_eq_true rfl⟩ rfl rfl (Nat.le_of_ble_eq_true rfl) dX5_tell_70 h3 (fun x7 S7 r7 b7 h11 => ?_)
    exact k_iret F hQ r7 dX5_tell_73 h11
  · refine k_iload_n F dX5_tell_74 rfl 2 rfl ?_
    refine k_iconst F dX5_tell_75 ?_
    refine k_ishr F ra2 iR_1 dX5_tell_76 h4 (fun x8 r8 h12 => ?_)
    refine k_iload_n F dX5_tell_77 rfl 3 rfl ?_
    refine k_icmp_ne F r8 ra3 (tgt := 87) dX5_tell_78 (by decide) h12 (fun h13 => ?_) (fun h14 => ?_)
    · refine k_iconst F dX5_tell_87 ?_
      exact k_iret F hQ iR_m1 dX5_tell_88 h13
    · refine k_iload_n F dX5_tell_81 rfl 2 rfl ?_
      refine k_iconst F dX5_tell_82 ?_
      refine k_iand F ra2 iR_1 dX5_tell_83 h14 (fun x9 r9 h15 => ?_)
      refine k_goto F (tgt := 88) dX5_tell_84 (by decide) ?_
      exact k_iret F hQ r9 dX5_tell_88 h15
