set_option maxRecDepth 100000 in
theorem c_X5_decide {l : Launch} {D : va_G} {A : Nat → Prop} {cI cZ : ClassId} {ad : Nat → Nat} (hD : ∀ S, va_D A (wC cI cZ ad S)) {S : zSt} (hG : RG bsC S) {a1 : Int} (ra1 : inR a1) {x : Int} {S' : zSt} (h : m_X5_decide S a1 = some (x, S')) : zMi l yX5_decide cX5_decide 5 .int { frames := 5, cells := 0, slots := 0, locals := 112 } D cI cZ A (wC cI cZ ad) (RG bsC) [.ref (ad 23), .int (zI a1), .ref (ad 7)] S x S' := by
  refine k_start_i (by decide +kernel) hD hG (Nat.le_of_ble_eq_true rfl) (fun Γ F hQ => ?_)
  have F : zF Γ (wC cI cZ ad) cI cZ cX5_decide { frames := 5, cells := 0, slots := 0, locals := 112 } 5 RX5 := F
  refine k_sub [0, 1, 2] (lv' := [(0, .ref (ad 23)), (1, .int (zI a1)), (2, .ref (ad 7))]) rfl ?_
  refine k_iconst F dX5_decide_0 ?_
  refine k_istore_n F dX5_decide_1 rfl (by decide) rfl ?_
  refine zj0_e (PJ := (fun S1 => zk Γ (wC cI cZ ad) (RG bsC) S1 [] 50 [])) h (fun S1 h1 => ?_) (fun j1 J1 h2 => ?_)
  · refine k_iconst F dX5_decide_50 ?_
    exact k_iret F hQ iR_m1 dX5_decide_51 h1
  · refine k_sub [1, 2, 3, 0] rfl (zl1_e (F := (b_X5_decide_2 a1 j1)) (fun v1 S2 => inR v1 → zk Γ (wC cI cZ ad) (RG bsC) S2 [(0, .ref (ad 23)), (1, .int (zI a1)), (2, .ref (ad 7)), (3, .int (zI v1))] 2 []) (fun rec1 v1 S2 hrec1 h3 r1 => ?_) 1000 0 S h2 iR_0)
    refine k_iload_n F dX5_decide_2 rfl 3 rfl ?_
    refine k_aload_n F dX5_decide_3 rfl 0 rfl ?_
    refine kgX5_rules F dX5_decide_4 h3 (fun x1 r2 h4 => ?_)
    refine k_icmp_ge F r1 r2 (tgt := 50) dX5_decide_7 (by decide) h4 (fun h5 => ?_) (fun h6 => ?_)
    · exact k_sub [] rfl (J1 S2 h5)
    · refine k_aload_n F dX5_decide_10 rfl 0 rfl ?_
      refine k_aload_n F dX5_decide_11 rfl 0 rfl ?_
      refine kgX5_ruleKinds F dX5_decide_12 ?_
      refine k_iload_n F dX5_decide_15 rfl 3 rfl ?_
      refine k_iald F rfl 26 (aC_20 cI cZ ad) r1 dX5_decide_16 h6 (fun x2 r3 h7 => ?_)
      refine k_aload_n F dX5_decide_17 rfl 0 rfl ?_
      refine kgX5_ruleWhats F dX5_decide_18 ?_
      refine k_iload_n F dX5_decide_21 rfl 3 rfl ?_
      refine k_iald F rfl 27 (aC_21 cI cZ ad) r1 dX5_decide_22 h7 (fun x3 r4 h8 => ?_)
      refine k_iload_n F dX5_decide_23 rfl 1 rfl ?_
      refine k_aload_n F dX5_decide_24 rfl 2 rfl ?_
      refine k_callVi F cal_X5_tell wm_373 (obC_23 cI cZ ad) (fun l D A hD hG x S' h => c_X5_tell hD hG r3 r4 ra1 h) ⟨rfl, rfl, Nat.le_of_ble_eq_true rfl, Nat.le_of_ble_eq_true rfl⟩ rfl rfl (Nat.le_of_ble_eq_true rfl) dX5_decide_25 h8 (fun x4 S3 r5 b1 h9 => ?_)
      refine k_istore F dX5_decide_28 (by decide) rfl ?_
      refine k_iload F dX5_decide_30 0 rfl ?_
      refine k_iconst F dX5_decide_32 ?_
      refine k_icmp_eq F r5 iR_m1 (tgt := 44) dX5_decide_33 (by decide) h9 (fun h10 => ?_) (fun h11 => ?_)
      · refine k_iinc F (k := 4) (lv' := fun y => [(3, .int (zI y)), (4, .int (zI x4)), (0, .ref (ad 23)), (1, .int (zI a1)), (2, .ref (ad 7))]) dX5_decide_44 rfl (by decide) (fun _ => rfl) h10 (fun x5 r6 h12 => ?_)
        refine k_goto F (tgt := 2) dX5_decide_47 (by decide) ?_
        exact k_sub [2, 3, 4, 0] rfl (hrec1 x5 S3 h12 r6)
      · refine k_bipush F dX5_decide_36 bp_10 ?_
        refine k_iload_n F dX5_decide_38 rfl 4 rfl ?_
        refine k_imul F dX5_decide_39 h11 (fun x6 r7 h13 => ?_)
        refine k_iload F dX5_decide_40 0 rfl ?_
        refine k_iadd F dX5_decide_42 h13 (fun x7 r8 h14 => ?_)
        exact k_iret F hQ r8 dX5_decide_43 h14
set_option maxRecDepth 100000 in
theorem c_X6_firstOfLine {l : Launch} {D : va_G} {A : Nat → Prop} {cI cZ : ClassId} {ad : Nat → Nat} (hD : ∀ S, va_D A (wC cI cZ ad S)) {S : zSt} (hG : RG bsC S) {a1 : Int} (ra1 : inR a1) {x : Int} {S' : zSt} (h : m_X6_firstOfLine S a1 = some (x, S')) : zMi l yX6_firstOfLine cX6_firstOfLine 2 .int { frames := 0, cells := 0, slots := 0, locals := 0 } D cI cZ A (wC cI cZ ad) (RG bsC) [.ref (ad 28), .int (zI a1)] S x S' := by
  refine k_start_i (by decide +kernel) hD hG (Nat.le_of_ble_eq_true rfl) (fun Γ F hQ => ?_)
  have F : zF Γ (wC cI cZ ad) cI cZ cX6_firstOfLine { frames := 0, cells := 0, slots := 0, locals := 0 } 2 RX6 := F
  refine k_sub [0, 1] (lv' := [(0, .ref (ad 28)), (1, .int (zI a1))]) rfl ?_
  refine k_aload_n F dX6_firstOfLine_0 rfl 0 rfl ?_
  refine kgX6_width F dX6_firstOfLine_1 h (fun x1 r1 h1 => ?_)
  refine k_iconst F dX6_firstOfLine_4 ?_
  refine k_icmp_ge F r1 iR_1 (tgt := 12) dX6_firstOfLine_5 (by decide) h1 (fun h2 => ?_) (fun h3 => ?_)
  · refine k_iload_n F dX6_firstOfLine_12 rfl 1 rfl ?_
    refine k_iload_n F dX6_firstOfLine_13 rfl 1 rfl ?_
    refine k_aload_n F dX6_firstOfLine_14 rfl 0 rfl ?_
    refine kgX6_width F dX6_firstOfLine_15 h2 (fun x2 r2 h4 => ?_)
    refine k_irem F ra1 r2 dX6_firstOfLine_18 h4 (fun x3 r3 h5 => ?_)
    refine k_isub F dX6_firstOfLine_19 h5 (fun x4 r4 h6 => ?_)
    exact k_iret F hQ r4 dX6_firstOfLine_20 h6
  · refine k_iload_n F dX6_firstOfLine_8 rfl 1 rfl ?_
    refine k_goto F (tgt := 20) dX6_firstOfLine_9 (by decide) ?_
    exact k_iret F hQ ra1 dX6_firstOfLine_20 h3
set_option maxRecDepth 100000 in
theorem c_X6_lineOf {l : Launch} {D : va_G} {A : Nat → Prop} {cI cZ : ClassId} {ad : Nat → Nat} (hD : ∀ S, va_D A (wC cI cZ ad S)) {S : zSt} (hG : RG bsC S) {a1 : Int} (ra1 : inR a1) {x : Int} {S' : zSt} (h : m_X6_lineOf S a1 = some (x, S')) : zMi l yX6_lineOf cX6_lineOf 3 .int { frames := 2, cells := 0, slots := 0, locals := 42 } D cI cZ A (wC cI cZ ad) (RG bsC) [.ref (ad 28), .int (zI a1), .ref (ad 11)] S x S' := by
  refine k_start_i (by decide +kernel) hD hG (Nat.le_of_ble_eq_true rfl) (fun Γ F hQ => ?_)
  have F : zF Γ (wC cI cZ ad) cI cZ cX6_lineOf { frames := 2, cells := 0, slots := 0, locals := 42 } 3 RX6 := F
  refine k_sub [0, 1, 2] (lv' := [(0, .ref (ad 28)), (1, .int (zI a1)), (2, .ref (ad 11))]) rfl ?_
  refine k_aload_n F dX6_lineOf_0 rfl 2 rfl ?_
  refine k_iload_n F dX6_lineOf_1 rfl 1 rfl ?_
  refine k_callVi F cal_X1_unitOf wm_378 (obC_11 cI cZ ad) (fun l D A hD hG x S' h => c_X1_unitOf hD hG ra1 h) ⟨rfl, rfl, Nat.le_of_ble_eq_true rfl, Nat.le_of_ble_eq_true rfl⟩ rfl rfl (Nat.le_of_ble_eq_true rfl) dX6_lineOf_2 h (fun x1 S1 r1 b1 h1 => ?_)
  refine k_bipush F dX6_lineOf_5 bp_12 ?_
  refine k_imul F dX6_lineOf_7 h1 (fun x2 r2 h2 => ?_)
  refine k_aload_n F dX6_lineOf_8 rfl 0 rfl ?_
  refine k_aload_n F dX6_lineOf_9 rfl 2 rfl ?_
  refine k_iload_n F dX6_lineOf_10 rfl 1 rfl ?_
  refine k_callVi F cal_X1_placeOf wm_382 (obC_11 cI cZ ad) (fun l D A hD hG x S' h => c_X1_placeOf hD hG ra1 h) ⟨rfl, rfl, Nat.le_of_ble_eq_true rfl, Nat.le_of_ble_eq_true rfl⟩ rfl rfl (Nat.le_of_ble_eq_true rfl) dX6_lineOf_11 h2 (fun x3 S2 r3 b2 h3 => ?_)
  refine k_callVi F cal_X6_firstOfLine wm_386 (obC_28 cI cZ ad) (fun l D A hD hG x S' h => c_X6_firstOfLine hD hG r3 h) ⟨rfl, rfl, Nat.le_of_ble_eq_true rfl, Nat.le_of_ble_eq_true rfl⟩ rfl rfl (Nat.le_of_ble_eq_true rfl) dX6_lineOf_14 h3 (fun x4 S3 r4 b3 h4 => ?_)
  refine k_iadd F dX6_lineOf_17 h4 (fun x5 r5 h5 => ?_)
  exact k_iret F hQ r5 dX6_lineOf_18 h5
set_option maxRecDepth 100000 in
theorem c_X6_gatherNotes {l : Launch} {D : va_G} {A : Nat → Prop} {cI cZ : ClassId} {ad : Nat → Nat} (hD : ∀ S, va_D A (wC cI cZ ad S)) {S : zSt} (hG : RG bsC S) {x : Int} {S' : zSt} (h : m_X6_gatherNotes S  = some (x, S')) : zMv l yX6_gatherNotes cX6_gatherNotes 4 { frames := 3, cells := 0, slots := 0, locals := 64 } D cI cZ A (wC cI cZ ad) (RG bsC) [.ref (ad 28), .ref (ad 11)] S S' := by
  refine k_start_v (by decide +kernel) hD hG (Nat.le_of_ble_eq_true rfl) (fun Γ F hQ => ?_)
  have F : zF Γ (wC cI cZ ad) cI cZ cX6_gatherNotes { frames := 3, cells := 0, slots := 0, locals := 64 } 4 RX6 := F
  refine k_sub [0, 1] (lv' := [(0, .ref (ad 28)), (1, .ref (ad 11))]) rfl ?_
  refine k_iconst F dX6_gatherNotes_0 ?_
  refine k_istore_n F dX6_gatherNotes_1 rfl (by decide) rfl ?_
  refine k_sub [1, 2, 0] rfl (zl1_e (F := b_X6_gatherNotes_2) (fun v1 S1 => inR v1 → zk Γ (wC cI cZ ad) (RG bsC) S1 [(0, .ref (ad 28)), (1, .ref (ad 11)), (2, .int (zI v1))] 2 []) (fun rec1 v1 S1 hrec1 h1 r1 => ?_) 1000 0 S h iR_0)
  refine k_iload_n F dX6_gatherNotes_2 rfl 2 rfl ?_
  refine k_aload_n F dX6_gatherNotes_3 rfl 1 rfl ?_
  refine k_callVi F cal_X1_count wm_390 (obC_11 cI cZ ad) (fun l D A hD hG x S' h => c_X1_count hD hG h) ⟨rfl, rfl, Nat.le_of_ble_eq_true rfl, Nat.le_of_ble_eq_true rfl⟩ rfl rfl (Nat.le_of_ble_eq_true rfl) dX6_gatherNotes_4 h1 (fun x1 S2 r2 b1 h2 => ?_)
  refine k_icmp_ge F r1 r2 (tgt := 59) dX6_gatherNotes_7 (by decide) h2 (fun h3 => ?_) (fun h4 => ?_)
  · exact k_vret F hQ dX6_gatherNotes_59 h3
  · refine k_aload_n F dX6_gatherNotes_10 rfl 1 rfl ?_
    refine k_iload_n F dX6_gatherNotes_11 rfl 2 rfl ?_
    refine k_callVi F cal_X1_isLost wm_394 (obC_11 cI cZ ad) (fun l D A hD hG x S' h => c_X1_isLost hD hG r1 h) ⟨rfl, rfl, Nat.le_of_ble_eq_true rfl, Nat.le_of_ble_eq_true rfl⟩ rfl rfl (Nat.le_of_ble_eq_true rfl) dX6_gatherNotes_12 h4 (fun x2 S3 r3 b2 h5 => ?_)
    refine zj0_e (PJ := (fun S4 => zk Γ (wC cI cZ ad) (RG bsC) S4 [(0, .ref (ad 28)), (1, .ref (ad 11)), (2, .int (zI v1))] 53 [])) h5 (fun S4 h6 => ?_) (fun j1 J1 h8 => ?_)
    · refine k_iinc F (k := 2) (lv' := fun y => [(2, .int (zI y)), (0, .ref (ad 28)), (1, .ref (ad 11))]) dX6_gatherNotes_53 rfl (by decide) (fun _ => rfl) h6 (fun x3 r4 h7 => ?_)
      refine k_goto F (tgt := 2) dX6_gatherNotes_56 (by decide) ?_
      exact k_sub [1, 2, 0] rfl (hrec1 x3 S4 h7 r4)
    · refine k_if_ne F r3 (tgt := 53) dX6_gatherNotes_15 (by decide) h8 (fun h9 => ?_) (fun h10 => ?_)
      · exact k_sub [0, 1, 2] rfl (J1 S3 h9)
      · refine k_aload_n F dX6_gatherNotes_18 rfl 1 rfl ?_
        refine k_iload_n F dX6_gatherNotes_19 rfl 2 rfl ?_
        refine k_callVi F cal_X1_marginOf wm_398 (obC_11 cI cZ ad) (fun l D A hD hG x S' h => c_X1_marginOf hD hG r1 h) ⟨rfl, rfl, Nat.le_of_ble_eq_true rfl, Nat.le_of_ble_eq_true rfl⟩ rfl rfl (Nat.le_of_ble_eq_true rfl) dX6_gatherNotes_20 h10 (fun x4 S5 r5 b3 h11 => ?_)
        refine k_if_ne F r5 (tgt := 33) dX6_gatherNotes_23 (by decide) h11 (fun h12 => ?_) (fun h13 => ?_)
        · refine k_aload_n F dX6_gatherNotes_33 rfl 0 rfl ?_
          refine kgX6_outer F dX6_gatherNotes_34 ?_
          refine k_astore_n F dX6_gatherNotes_37 rfl (by decide) rfl ?_
          refine k_aload_n F dX6_gatherNotes_38 rfl 0 rfl ?_
          refine k_aload_n F dX6_gatherNotes_39 rfl 1 rfl ?_
          refine k_iload_n F dX6_gatherNotes_40 rfl 3 rfl ?_
          refine k_aload_n F dX6_gatherNotes_41 rfl 2 rfl ?_
          refine k_callVi F cal_X6_lineOf wm_402 (obC_28 cI cZ ad) (fun l D A hD hG x S' h => c_X6_lineOf hD hG r1 h) ⟨rfl, rfl, Nat.le_of_ble_eq_true rfl, Nat.le_of_ble_eq_true rfl⟩ rfl rfl (Nat.le_of_ble_eq_true rfl) dX6_gatherNotes_42 h12 (fun x5 S6 r6 b4 h14 => ?_)
          refine k_aload_n F dX6_gatherNotes_45 rfl 2 rfl ?_
          refine k_iload_n F dX6_gatherNotes_46 rfl 3 rfl ?_
          refine k_callVi F cal_X1_linesOf wm_406 (obC_11 cI cZ ad) (fun l D A hD hG x S' h => c_X1_linesOf hD hG r1 h) ⟨rfl, rfl, Nat.le_of_ble_eq_true rfl, Nat.le_of_ble_eq_true rfl⟩ rfl rfl (Nat.le_of_ble_eq_true rfl) dX6_gatherNotes_47 h14 (fun x6 S7 r7 b5 h15 => ?_)
          refine k_callVv F cal_X3_add wm_410 (obC_31 cI cZ ad) (fun l D A hD hG x S' h => c_X3o_add hD hG r6 r7 h) ⟨rfl, rfl, Nat.le_of_ble_eq_true rfl, Nat.le_of_ble_eq_true rfl⟩ rfl rfl (Nat.le_of_ble_eq_true rfl) dX6_gatherNotes_50 h15 (fun x7 S8 h16 => ?_)
          exact k_sub [1, 2, 3] rfl (J1 S8 h16)
        · refine k_aload_n F dX6_gatherNotes_26 rfl 0 rfl ?_
          refine kgX6_inner F dX6_gatherNotes_27 ?_
          refine k_goto F (tgt := 37) dX6_gatherNotes_30 (by decide) ?_
          refine k_astore_n F dX6_gatherNotes_37 rfl (by decide) rfl ?_
          refine k_aload_n F dX6_gatherNotes_38 rfl 0 rfl ?_
          refine k_aload_n F dX6_gatherNotes_39 rfl 1 rfl ?_
          refine k_iload_n F dX6_gatherNotes_40 rfl 3 rfl ?_
          refine k_aload_n F dX6_gatherNotes_41 rfl 2 rfl ?_
          refine k_callVi F cal_X6_lineOf wm_402 (obC_28 cI cZ ad) (fun l D A hD hG x S' h => c_X6_lineOf hD hG r1 h) ⟨rfl, rfl, Nat.le_of_ble_eq_true rfl, Nat.le_of_ble_eq_true rfl⟩ rfl rfl (Nat.le_of_ble_eq_true rfl) dX6_gatherNotes_42 h13 (fun x8 S9 r9 b7 h17 => ?_)
          refine k_aload_n F dX6_gatherNotes_45 rfl 2 rfl ?_
          refine k_iload_n F dX6_gatherNotes_46 rfl 3 rfl ?_
          refine k_callVi F cal_X1_linesOf wm_406 (obC_11 cI cZ ad) (fun l D A hD hG x S' h => c_X1_linesOf hD hG r1 h) ⟨rfl, rfl, Nat.le_of_ble_eq_true rfl, Nat.le_of_ble_eq_true rfl⟩ rfl rfl (Nat.le_of_ble_eq_true rfl) dX6_gatherNotes_47 h17 (fun x9 S10 r10 b8 h18 => ?_)
          refine k_callVv F cal_X3_add wm_410 (obC_29 cI cZ ad) (fun l D A hD hG x S' h => c_X3i_add hD hG r9 r10 h) ⟨rfl, rfl, Nat.le_of_ble_eq_true rfl, Nat.le_of_ble_eq_true rfl⟩ rfl rfl (Nat.le_of_ble_eq_true rfl) dX6_gatherNotes_50 h18 (fun x10 S11 h19 => ?_)
          exact k_sub [1, 2, 3] rfl (J1 S11 h19)
set_option maxRecDepth 100000 in
theorem c_X6_setLine {l : Launch} {D : va_G} {A : Nat → Prop} {cI cZ : ClassId} {ad : Nat → Nat} (hD : ∀ S, va_D A (wC cI cZ ad S)) {S : zSt} (hG : RG bsC S) {a1 : Int} (ra1 : inR a1) {x : Int} {S' : zSt} (h : m_X6_setLine S a1 = some (x, S')) : zMv l yX6_setLine cX6_setLine 3 { frames := 2, cells := 0, slots := 0, locals := 43 } D cI cZ A (wC cI cZ ad) (RG bsC) [.ref (ad 28), .int (zI a1)] S S' := by
  refine k_start_v (by decide +kernel) hD hG (Nat.le_of_ble_eq_true rfl) (fun Γ F hQ => ?_)
  have F : zF Γ (wC cI cZ ad) cI cZ cX6_setLine { frames := 2, cells := 0, slots := 0, locals := 43 } 3 RX6 := F
  refine k_sub [0, 1] (lv' := [(0, .ref (ad 28)), (1, .int (zI a1))]) rfl ?_
  refine k_aload_n F dX6_setLine_0 rfl 0 rfl ?_
  refine kgX6_outer F dX6_setLine_1 ?_
  refine k_iload_n F dX6_setLine_4 rfl 1 rfl ?_
  refine k_aload_n F dX6_setLine_5 rfl 0 rfl ?_
  refine kgX6_inner F dX6_setLine_6 ?_
  refine k_iload_n F dX6_setLine_9 rfl 1 rfl ?_
  refine k_aload_n F dX6_setLine_10 rfl 0 rfl ?_
  refine kgX6_next F dX6_setLine_11 h (fun x1 r1 h1 => ?_)
  refine k_callVi F cal_X3_rowFor wm_414 (obC_29 cI cZ ad) (fun l D A hD hG x S' h => c_X3i_rowFor hD hG ra1 r1 h) ⟨rfl, rfl, Nat.le_of_ble_eq_true rfl, Nat.le_of_ble_eq_true rfl⟩ rfl rfl (Nat.le_of_ble_eq_true rfl) dX6_setLine_14 h1 (fun x2 S1 r2 b1 h2 => ?_)
  refine k_callVi F cal_X3_rowFor wm_414 (obC_31 cI cZ ad) (fun l D A hD hG x S' h => c_X3o_rowFor hD hG ra1 r2 h) ⟨rfl, rfl, Nat.le_of_ble_eq_true rfl, Nat.le_of_ble_eq_true rfl⟩ rfl rfl (Nat.le_of_ble_eq_true rfl) dX6_setLine_17 h2 (fun x3 S2 r3 b2 h3 => ?_)
  refine k_istore_n F dX6_setLine_20 rfl (by decide) rfl ?_
  refine k_aload_n F dX6_setLine_21 rfl 1 rfl ?_
  refine kgX6_inner F dX6_setLine_22 ?_
  refine k_iload_n F dX6_setLine_25 rfl 2 rfl ?_
  refine k_iload_n F dX6_setLine_26 rfl 0 rfl ?_
  refine k_callVv F cal_X3_fill wm_418 (obC_29 cI cZ ad) (fun l D A hD hG x S' h => c_X3i_fill hD hG ra1 r3 h) ⟨rfl, rfl, Nat.le_of_ble_eq_true rfl, Nat.le_of_ble_eq_true rfl⟩ rfl rfl (Nat.le_of_ble_eq_true rfl) dX6_setLine_27 h3 (fun x4 S3 h4 => ?_)
  refine k_aload_n F dX6_setLine_30 rfl 1 rfl ?_
  refine kgX6_outer F dX6_setLine_31 ?_
  refine k_iload_n F dX6_setLine_34 rfl 2 rfl ?_
  refine k_iload_n F dX6_setLine_35 rfl 0 rfl ?_
  refine k_callVv F cal_X3_fill wm_418 (obC_31 cI cZ ad) (fun l D A hD hG x S' h => c_X3o_fill hD hG ra1 r3 h) ⟨rfl, rfl, Nat.le_of_ble_eq_true rfl, Nat.le_of_ble_eq_true rfl⟩ rfl rfl (Nat.le_of_ble_eq_true rfl) dX6_setLine_36 h4 (fun x5 S4 h5 => ?_)
  refine k_iload_n F dX6_setLine_39 rfl 2 rfl ?_
  refine zj0_e (PJ := (fun S5 => zk Γ (wC cI cZ ad) (RG bsC) S5 [(0, .ref (ad 28)), (2, .int (zI x3))] 59 [])) h5 (fun S5 h6 => ?_) (fun j1 J1 h9 => ?_)
  · refine k_aload_n F dX6_setLine_59 rfl 0 rfl ?_
    refine k_iload_n F dX6_setLine_60 rfl 1 rfl ?_
    refine k_iconst F dX6_setLine_61 ?_
    refine k_iadd F dX6_setLine_62 h6 (fun x6 r6 h7 => ?_)
    refine kpX6_next F r6 dX6_setLine_63 h7 (fun S6 h8 => ?_)
    exact k_vret F hQ dX6_setLine_66 h8
  · refine k_if_lt F ra1 (tgt := 59) dX6_setLine_40 (by decide) h9 (fun h10 => ?_) (fun h11 => ?_)
    · exact k_sub [1, 0] rfl (J1 S4 h10)
    · refine k_iload_n F dX6_setLine_43 rfl 2 rfl ?_
      refine k_aload_n F dX6_setLine_44 rfl 1 rfl ?_
      refine kgX6_rows F dX6_setLine_45 ?_
      refine k_alen F 33 (aC_24 cI cZ ad) (by decide) dX6_setLine_48 ?_
      refine k_icmp_ge F ra1 iR_240 (tgt := 59) dX6_setLine_49 (by decide) h11 (fun h12 => ?_) (fun h13 => ?_)
      · exact k_sub [1, 0] rfl (J1 S4 h12)
      · refine k_aload_n F dX6_setLine_52 rfl 1 rfl ?_
        refine kgX6_rows F dX6_setLine_53 ?_
        refine k_iload_n F dX6_setLine_56 rfl 2 rfl ?_
        refine k_iload_n F dX6_setLine_57 rfl 0 rfl ?_
        refine k_iast F rfl 33 (aC_24 cI cZ ad) (sC_24 cI cZ ad) (by decide) ra1 r3 dX6_setLine_58 h13 (fun S7 h14 => ?_)
        exact k_sub [1, 0] rfl (J1 S7 h14)
set_option maxRecDepth 100000 in
theorem c_X7_count {l : Launch} {D : va_G} {A : Nat → Prop} {cI cZ : ClassId} {ad : Nat → Nat} (hD : ∀ S, va_D A (wC cI cZ ad S)) {S : zSt} (hG : RG bsC S) {x : Int} {S' : zSt} (h : m_X7_count S  = some (x, S')) : zMi l yX7_count cX7_count 1 .int { frames := 0, cells := 0, slots := 0, locals := 0 } D cI cZ A (wC cI cZ ad) (RG bsC) [.ref (ad 3)] S x S' := by
  refine k_start_i (by decide +kernel) hD hG (Nat.le_of_ble_eq_true rfl) (fun Γ F hQ => ?_)
  have F : zF Γ (wC cI cZ ad) cI cZ cX7_count { frames := 0, cells := 0, slots := 0, locals := 0 } 1 RX7 := F
  refine k_sub [0] (lv' := [(0, .ref (ad 3))]) rfl ?_
  refine k_aload_n F dX7_count_0 rfl 0 rfl ?_
  refine kgX7_count F dX7_count_1 h (fun x1 r1 h1 => ?_)
  exact k_iret F hQ r1 dX7_count_4 h1
set_option maxRecDepth 100000 in
theorem c_X6_set {l : Launch} {D : va_G} {A : Nat → Prop} {cI cZ : ClassId} {ad : Nat → Nat} (hD : ∀ S, va_D A (wC cI cZ ad S)) {S : zSt} (hG : RG bsC S) {a1 : Int} (ra1 : inR a1) {x : Int} {S' : zSt} (h : m_X6_set S a1 = some (x, S')) : zMv l yX6_set cX6_set 6 { frames := 4, cells := 0, slots := 0, locals := 87 } D cI cZ A (wC cI cZ ad) (RG bsC) [.ref (ad 28), .ref (ad 3), .ref (ad 11), .int (zI a1)] S S' := by
  refine k_start_v (by decide +kernel) hD hG (Nat.le_of_ble_eq_true rfl) (fun Γ F hQ => ?_)
  have F : zF Γ (wC cI cZ ad) cI cZ cX6_set { frames := 4, cells := 0, slots := 0, locals := 87 } 6 RX6 := F
  refine k_sub [0, 1, 2, 3] (lv' := [(0, .ref (ad 28)), (1, .ref (ad 3)), (2, .ref (ad 11)), (3, .int (zI a1))]) rfl ?_
  refine k_aload_n F dX6_set_0 rfl 0 rfl ?_
  refine k_iload_n F dX6_set_1 rfl 3 rfl ?_
  refine kpX6_width F ra1 dX6_set_2 h (fun S1 h1 => ?_)
  refine k_aload_n F dX6_set_5 rfl 0 rfl ?_
  refine k_iconst F dX6_set_6 ?_
  refine kpX6_next F iR_0 dX6_set_7 h1 (fun S2 h2 => ?_)
  refine k_aload_n F dX6_set_10 rfl 0 rfl ?_
  refine kgX6_inner F dX6_set_11 ?_
  refine k_callVv F cal_X3_clear wm_422 (obC_29 cI cZ ad) (fun l D A hD hG x S' h => c_X3i_clear hD hG h) ⟨rfl, rfl, Nat.le_of_ble_eq_true rfl, Nat.le_of_ble_eq_true rfl⟩ rfl rfl (Nat.le_of_ble_eq_true rfl) dX6_set_14 h2 (fun x1 S3 h3 => ?_)
  refine k_aload_n F dX6_set_17 rfl 0 rfl ?_
  refine kgX6_outer F dX6_set_18 ?_
  refine k_callVv F cal_X3_clear wm_422 (obC_31 cI cZ ad) (fun l D A hD hG x S' h => c_X3o_clear hD hG h) ⟨rfl, rfl, Nat.le_of_ble_eq_true rfl, Nat.le_of_ble_eq_true rfl⟩ rfl rfl (Nat.le_of_ble_eq_true rfl) dX6_set_21 h3 (fun x2 S4 h4 => ?_)
  refine k_aload_n F dX6_set_24 rfl 0 rfl ?_
  refine k_aload_n F dX6_set_25 rfl 2 rfl ?_
  refine k_callVv F cal_X6_gatherNotes wm_426 (obC_28 cI cZ ad) (fun l D A hD hG x S' h => c_X6_gatherNotes hD hG h) ⟨rfl, rfl, Nat.le_of_ble_eq_true rfl, Nat.le_of_ble_eq_true rfl⟩ rfl rfl (Nat.le_of_ble_eq_true rfl) dX6_set_26 h4 (fun x3 S5 h5 => ?_)
  refine k_iconst F dX6_set_29 ?_
  refine k_istore F dX6_set_30 (by decide) rfl ?_
  refine k_sub [1, 2, 0] rfl (zl1_e (F := b_X6_set_32) (fun v1 S6 => inR v1 → zk Γ (wC cI cZ ad) (RG bsC) S6 [(0, .ref (ad 28)), (1, .ref (ad 3)), (4, .int (zI v1))] 32 []) (fun rec1 v1 S6 hrec1 h6 r4 => ?_) 1000 0 S5 h5 iR_0)
  refine k_iload F dX6_set_32 2 rfl ?_
  refine k_aload_n F dX6_set_34 rfl 1 rfl ?_
  refine k_callVi F cal_X7_count wm_430 (obC_3 cI cZ ad) (fun l D A hD hG x S' h => c_X7_count hD hG h) ⟨rfl, rfl, Nat.le_of_ble_eq_true rfl, Nat.le_of_ble_eq_true rfl⟩ rfl rfl (Nat.le_of_ble_eq_true rfl) dX6_set_35 h6 (fun x4 S7 r5 b4 h7 => ?_)
  refine k_icmp_ge F r4 r5 (tgt := 90) dX6_set_38 (by decide) h7 (fun h8 => ?_) (fun h9 => ?_)
  · exact k_vret F hQ dX6_set_90 h8
  · refine k_iconst F dX6_set_41 ?_
    refine k_istore F dX6_set_42 (by decide) rfl ?_
    refine zj0_e (PJ := (fun S8 => zk Γ (wC cI cZ ad) (RG bsC) S8 [(0, .ref (ad 28)), (1, .ref (ad 3)), (4, .int (zI v1))] 84 [])) h9 (fun S8 h10 => ?_) (fun j1 J1 h12 => ?_)
    · refine k_iinc F (k := 2) (lv' := fun y => [(4, .int (zI y)), (0, .ref (ad 28)), (1, .ref (ad 3))]) dX6_set_84 rfl (by decide) (fun _ => rfl) h10 (fun x5 r6 h11 => ?_)
      refine k_goto F (tgt := 32) dX6_set_87 (by decide) ?_
      exact k_sub [1, 2, 0] rfl (hrec1 x5 S8 h11 r6)
    · refine k_sub [1, 2, 3, 0] rfl (zl1_e (F := (b_X6_set_44 j1 v1)) (fun v2 S9 => inR v2 → zk Γ (wC cI cZ ad) (RG bsC) S9 [(0, .ref (ad 28)), (1, .ref (ad 3)), (4, .int (zI v1)), (5, .int (zI v2))] 44 []) (fun rec2 v2 S9 hrec2 h13 r7 => ?_) 1000 0 S7 h12 iR_0)
      refine k_iload F dX6_set_44 3 rfl ?_
      refine k_aload_n F dX6_set_46 rfl 1 rfl ?_
      refine k_iload F dX6_set_47 2 rfl ?_
      refine k_callVi F cal_X7_sizeOf wm_431 (obC_3 cI cZ ad) (fun l D A hD hG x S' h => c_X7_sizeOf hD hG r4 h) ⟨rfl, rfl, Nat.le_of_ble_eq_true rfl, Nat.le_of_ble_eq_true rfl⟩ rfl rfl (Nat.le_of_ble_eq_true rfl) dX6_set_49 h13 (fun x6 S10 r8 b5 h14 => ?_)
      refine k_icmp_ge F r7 r8 (tgt := 84) dX6_set_52 (by decide) h14 (fun h15 => ?_) (fun h16 => ?_)
      · exact k_sub [0, 1, 2] rfl (J1 S10 h15)
      · refine k_aload_n F dX6_set_55 rfl 0 rfl ?_
        refine k_iload F dX6_set_56 3 rfl ?_
        refine k_callVi F cal_X6_firstOfLine wm_386 (obC_28 cI cZ ad) (fun l D A hD hG x S' h => c_X6_firstOfLine hD hG r7 h) ⟨rfl, rfl, Nat.le_of_ble_eq_true rfl, Nat.le_of_ble_eq_true rfl⟩ rfl rfl (Nat.le_of_ble_eq_true rfl) dX6_set_58 h16 (fun x7 S11 r9 b6 h17 => ?_)
        refine k_iload F dX6_set_61 3 rfl ?_
        refine zj0_e (PJ := (fun S12 => zk Γ (wC cI cZ ad) (RG bsC) S12 [(0, .ref (ad 28)), (1, .ref (ad 3)), (4, .int (zI v1)), (5, .int (zI v2))] 78 [])) h17 (fun S12 h18 => ?_) (fun j2 J2 h20 => ?_)
        · refine k_iinc F (k := 3) (lv' := fun y => [(5, .int (zI y)), (0, .ref (ad 28)), (1, .ref (ad 3)), (4, .int (zI v1))]) dX6_set_78 rfl (by decide) (fun _ => rfl) h18 (fun x8 r10 h19 => ?_)
          refine k_goto F (tgt := 44) dX6_set_81 (by decide) ?_
          exact k_sub [1, 2, 3, 0] rfl (hrec2 x8 S12 h19 r10)
        · refine k_icmp_ne F r9 r7 (tgt := 78) dX6_set_63 (by decide) h20 (fun h21 => ?_) (fun h22 => ?_)
          · exact k_sub [0, 1, 2, 3] rfl (J2 S11 h21)
          · refine k_aload_n F dX6_set_66 rfl 0 rfl ?_
            refine k_iload F dX6_set_67 2 rfl ?_
            refine k_bipush F dX6_set_69 bp_12 ?_
            refine k_imul F dX6_set_71 h22 (fun x9 r11 h23 => ?_)
            refine k_iload F dX6_set_72 3 rfl ?_
            refine k_iadd F dX6_set_74 h23 (fun x10 r12 h24 => ?_)
            refine k_callVv F cal_X6_setLine wm_435 (obC_28 cI cZ ad) (fun l D A hD hG x S' h => c_X6_setLine hD hG r12 h) ⟨rfl, rfl, Nat.le_of_ble_eq_true rfl, Nat.le_of_ble_eq_true rfl⟩ rfl rfl (Nat.le_of_ble_eq_true rfl) dX6_set_75 h24 (fun x11 S13 h25 => ?_)
            exact k_sub [0, 1, 2, 3] rfl (J2 S13 h25)
set_option maxRecDepth 100000 in
theorem c_X6_rowOfNote {l : Launch} {D : va_G} {A : Nat → Prop} {cI cZ : ClassId} {ad : Nat → Nat} (hD : ∀ S, va_D A (wC cI cZ ad S)) {S : zSt} (hG : RG bsC S) {a1 : Int} (ra1 : inR a1) {x : Int} {S' : zSt} (h : m_X6_rowOfNote S a1 = some (x, S')) : zMi l yX6_rowOfNote cX6_rowOfNote 6 .int { frames := 3, cells := 0, slots := 0, locals := 64 } D cI cZ A (wC cI cZ ad) (RG bsC) [.ref (ad 28), .int (zI a1), .ref (ad 11)] S x S' := by
  refine k_start_i (by decide +kernel) hD hG (Nat.le_of_ble_eq_true rfl) (fun Γ F hQ => ?_)
  have F : zF Γ (wC cI cZ ad) cI cZ cX6_rowOfNote { frames := 3, cells := 0, slots := 0, locals := 64 } 6 RX6 := F
  refine k_sub [0, 1, 2] (lv' := [(0, .ref (ad 28)), (1, .int (zI a1)), (2, .ref (ad 11))]) rfl ?_
  refine k_aload_n F dX6_rowOfNote_0 rfl 0 rfl ?_
  refine k_iload_n F dX6_rowOfNote_1 rfl 1 rfl ?_
  refine k_aload_n F dX6_rowOfNote_2 rfl 2 rfl ?_
  refine k_callVi F cal_X6_lineOf wm_402 (obC_28 cI cZ ad) (fun l D A hD hG x S' h => c_X6_lineOf hD hG ra1 h) ⟨rfl, rfl, Nat.le_of_ble_eq_true rfl, Nat.le_of_ble_eq_true rfl⟩ rfl rfl (Nat.le_of_ble_eq_true rfl) dX6_rowOfNote_3 h (fun x1 S1 r1 b1 h1 => ?_)
  refine k_istore_n F dX6_rowOfNote_6 rfl (by decide) rfl ?_
  refine k_aload_n F dX6_rowOfNote_7 rfl 1 rfl ?_
  refine kgX6_rows F dX6_rowOfNote_8 ?_
  refine k_iload_n F dX6_rowOfNote_11 rfl 0 rfl ?_
  refine k_callNi F cal_X8_at nw_X6_90 (fun l D A hD hG x S' h => c_at hD hG 33 (aC_24 cI cZ ad) (by decide) (by decide) r1 h) ⟨rfl, rfl, Nat.le_of_ble_eq_true rfl, Nat.le_of_ble_eq_true rfl⟩ rfl rfl (Nat.le_of_ble_eq_true rfl) dX6_rowOfNote_12 h1 (fun x2 S2 r2 b2 h2 => ?_)
  refine k_istore F dX6_rowOfNote_15 (by decide) rfl ?_
  refine k_iconst F dX6_rowOfNote_17 ?_
  refine k_istore F dX6_rowOfNote_18 (by decide) rfl ?_
  refine zj1_e (PJ := (fun v1 S3 => inR v1 → zk Γ (wC cI cZ ad) (RG bsC) S3 [(4, .int (zI v1))] 77 [])) h2 (fun v1 S3 h3 r3 => ?_) (fun j1 J1 h4 => ?_)
  · refine k_iload F dX6_rowOfNote_77 0 rfl ?_
    exact k_iret F hQ r3 dX6_rowOfNote_79 h3
  · refine k_sub [3, 4, 5, 2, 1, 0] rfl (zl2_e (F := (b_X6_rowOfNote_20 a1 j1 x1)) (fun v2 v3 S4 => inR v2 → inR v3 → zk Γ (wC cI cZ ad) (RG bsC) S4 [(0, .ref (ad 28)), (1, .int (zI a1)), (2, .ref (ad 11)), (3, .int (zI x1)), (4, .int (zI v2)), (5, .int (zI v3))] 20 []) (fun rec1 v2 v3 S4 hrec1 h5 r4 r5 => ?_) 1000 x2 0 S2 h4 r2 iR_0)
    refine k_iload F dX6_rowOfNote_20 5 rfl ?_
    refine k_iload_n F dX6_rowOfNote_22 rfl 1 rfl ?_
    refine k_icmp_ge F r5 ra1 (tgt := 77) dX6_rowOfNote_23 (by decide) h5 (fun h6 => ?_) (fun h7 => ?_)
    · exact k_sub [4] rfl (J1 v2 S4 h6 r4)
    · refine k_aload_n F dX6_rowOfNote_26 rfl 2 rfl ?_
      refine k_iload F dX6_rowOfNote_27 5 rfl ?_
      refine k_callVi F cal_X1_isLost wm_394 (obC_11 cI cZ ad) (fun l D A hD hG x S' h => c_X1_isLost hD hG r5 h) ⟨rfl, rfl, Nat.le_of_ble_eq_true rfl, Nat.le_of_ble_eq_true rfl⟩ rfl rfl (Nat.le_of_ble_eq_true rfl) dX6_rowOfNote_29 h7 (fun x3 S5 r6 b3 h8 => ?_)
      refine zj1_e (PJ := (fun v4 S6 => inR v4 → zk Γ (wC cI cZ ad) (RG bsC) S6 [(0, .ref (ad 28)), (1, .int (zI a1)), (2, .ref (ad 11)), (3, .int (zI x1)), (4, .int (zI v4)), (5, .int (zI v3))] 71 [])) h8 (fun v4 S6 h9 r7 => ?_) (fun j2 J2 h11 => ?_)
      · refine k_iinc F (k := 5) (lv' := fun y => [(5, .int (zI y)), (0, .ref (ad 28)), (1, .int (zI a1)), (2, .ref (ad 11)), (3, .int (zI x1)), (4, .int (zI v4))]) dX6_rowOfNote_71 rfl (by decide) (fun _ => rfl) h9 (fun x4 r8 h10 => ?_)
        refine k_goto F (tgt := 20) dX6_rowOfNote_74 (by decide) ?_
        exact k_sub [1, 2, 3, 4, 5, 0] rfl (hrec1 v4 x4 S6 h10 r7 r8)
      · refine k_if_ne F r6 (tgt := 71) dX6_rowOfNote_32 (by decide) h11 (fun h12 => ?_) (fun h13 => ?_)
        · exact k_sub [0, 1, 2, 3, 4, 5] rfl (J2 v2 S5 h12 r4)
        · refine k_aload_n F dX6_rowOfNote_35 rfl 0 rfl ?_
          refine k_iload F dX6_rowOfNote_36 5 rfl ?_
          refine k_aload_n F dX6_rowOfNote_38 rfl 2 rfl ?_
          refine k_callVi F cal_X6_lineOf wm_402 (obC_28 cI cZ ad) (fun l D A hD hG x S' h => c_X6_lineOf hD hG r5 h) ⟨rfl, rfl, Nat.le_of_ble_eq_true rfl, Nat.le_of_ble_eq_true rfl⟩ rfl rfl (Nat.le_of_ble_eq_true rfl) dX6_rowOfNote_39 h13 (fun x5 S7 r9 b4 h14 => ?_)
          refine k_iload_n F dX6_rowOfNote_42 rfl 3 rfl ?_
          refine k_icmp_ne F r9 r1 (tgt := 71) dX6_rowOfNote_43 (by decide) h14 (fun h15 => ?_) (fun h16 => ?_)
          · exact k_sub [0, 1, 2, 3, 4, 5] rfl (J2 v2 S7 h15 r4)
          · refine k_aload_n F dX6_rowOfNote_46 rfl 2 rfl ?_
            refine k_iload F dX6_rowOfNote_47 5 rfl ?_
            refine k_callVi F cal_X1_marginOf wm_398 (obC_11 cI cZ ad) (fun l D A hD hG x S' h => c_X1_marginOf hD hG r5 h) ⟨rfl, rfl, Nat.le_of_ble_eq_true rfl, Nat.le_of_ble_eq_true rfl⟩ rfl rfl (Nat.le_of_ble_eq_true rfl) dX6_rowOfNote_49 h16 (fun x6 S8 r10 b5 h17 => ?_)
            refine k_aload_n F dX6_rowOfNote_52 rfl 2 rfl ?_
            refine k_iload_n F dX6_rowOfNote_53 rfl 1 rfl ?_
            refine k_callVi F cal_X1_marginOf wm_398 (obC_11 cI cZ ad) (fun l D A hD hG x S' h => c_X1_marginOf hD hG ra1 h) ⟨rfl, rfl, Nat.le_of_ble_eq_true rfl, Nat.le_of_ble_eq_true rfl⟩ rfl rfl (Nat.le_of_ble_eq_true rfl) dX6_rowOfNote_54 h17 (fun x7 S9 r11 b6 h18 => ?_)
            refine k_icmp_ne F r10 r11 (tgt := 71) dX6_rowOfNote_57 (by decide) h18 (fun h19 => ?_) (fun h20 => ?_)
            · exact k_sub [0, 1, 2, 3, 4, 5] rfl (J2 v2 S9 h19 r4)
            · refine k_iload F dX6_rowOfNote_60 4 rfl ?_
              refine k_aload_n F dX6_rowOfNote_62 rfl 2 rfl ?_
              refine k_iload F dX6_rowOfNote_63 5 rfl ?_
              refine k_callVi F cal_X1_linesOf wm_406 (obC_11 cI cZ ad) (fun l D A hD hG x S' h => c_X1_linesOf hD hG r5 h) ⟨rfl, rfl, Nat.le_of_ble_eq_true rfl, Nat.le_of_ble_eq_true rfl⟩ rfl rfl (Nat.le_of_ble_eq_true rfl) dX6_rowOfNote_65 h20 (fun x8 S10 r12 b7 h21 => ?_)
              refine k_iadd F dX6_rowOfNote_68 h21 (fun x9 r13 h22 => ?_)
              refine k_istore F dX6_rowOfNote_69 (by decide) rfl ?_
              exact k_sub [1, 2, 3, 4, 0, 5] rfl (J2 x9 S10 h22 r13)
set_option maxRecDepth 100000 in
theorem c_X7_isFull {l : Launch} {D : va_G} {A : Nat → Prop} {cI cZ : ClassId} {ad : Nat → Nat} (hD : ∀ S, va_D A (wC cI cZ ad S)) {S : zSt} (hG : RG bsC S) {x : Int} {S' : zSt} (h : m_X7_isFull S  = some (x, S')) : zMi l yX7_isFull cX7_isFull 1 .boolean { frames := 0, cells := 0, slots := 0, locals := 0 } D cI cZ A (wC cI cZ ad) (RG bsC) [.ref (ad 3)] S x S' := by
  refine k_start_i (by decide +kernel) hD hG (Nat.le_of_ble_eq_true rfl) (fun Γ F hQ => ?_)
  have F : zF Γ (wC cI cZ ad) cI cZ cX7_isFull { frames := 0, cells := 0, slots := 0, locals := 0 } 1 RX7 := F
  refine k_sub [0] (lv' := [(0, .ref (ad 3))]) rfl ?_
  refine k_aload_n F dX7_isFull_0 rfl 0 rfl ?_
  refine kgX7_count F dX7_isFull_1 h (fun x1 r1 h1 => ?_)
  refine k_aload_n F dX7_isFull_4 rfl 0 rfl ?_
  refine kgX7_sizes F dX7_isFull_5 ?_
  refine k_alen F 5 (aC_2 cI cZ ad) (by decide) dX7_isFull_8 ?_
  refine k_icmp_lt F r1 iR_20 (tgt := 16) dX7_isFull_9 (by decide) h1 (fun h2 => ?_) (fun h3 => ?_)
  · refine k_iconst F dX7_isFull_16 ?_
    exact k_zret F hQ (Or.inl rfl) dX7_isFull_17 h2
  · refine k_iconst F dX7_isFull_12 ?_
    refine k_goto F (tgt := 17) dX7_isFull_13 (by decide) ?_
    exact k_zret F hQ (Or.inr rfl) dX7_isFull_17 h3
set_option maxRecDepth 100000 in
theorem c_X7_put {l : Launch} {D : va_G} {A : Nat → Prop} {cI cZ : ClassId} {ad : Nat → Nat} (hD : ∀ S, va_D A (wC cI cZ ad S)) {S : zSt} (hG : RG bsC S) {a1 : Int} (ra1 : inR a1) {a2 : Int} (ra2 : inR a2) {a3 : Int} (ra3 : inR a3) {x : Int} {S' : zSt} (h : m_X7_put S a1 a2 a3 = some (x, S')) : zMv l yX7_put cX7_put 4 { frames := 3, cells := 0, slots := 0, locals := 64 } D cI cZ A (wC cI cZ ad) (RG bsC) [.ref (ad 3), .int (zI a1), .int (zI a2), .int (zI a3)] S S' := by
  refine k_start_v (by decide +kernel) hD hG (Nat.le_of_ble_eq_true rfl) (fun Γ F hQ => ?_)
  have F : zF Γ (wC cI cZ ad) cI cZ cX7_put { frames := 3, cells := 0, slots := 0, locals := 64 } 4 RX7 := F
  refine k_sub [0, 1, 2, 3] (lv' := [(0, .ref (ad 3)), (1, .int (zI a1)), (2, .int (zI a2)), (3, .int (zI a3))]) rfl ?_
  refine k_aload_n F dX7_put_0 rfl 0 rfl ?_
  refine k_iload_n F dX7_put_1 rfl 1 rfl ?_
  refine k_iload_n F dX7_put_2 rfl 2 rfl ?_
  refine k_callVi F cal_X7_hasPlace wm_254 (obC_3 cI cZ ad) (fun l D A hD hG x S' h => c_X7_hasPlace hD hG ra1 ra2 h) ⟨rfl, rfl, Nat.le_of_ble_eq_true rfl, Nat.le_of_ble_eq_true rfl⟩ rfl rfl (Nat.le_of_ble_eq_true rfl) dX7_put_3 h (fun x1 S1 r1 b1 h1 => ?_)
  refine k_if_eq F r1 (tgt := 21) dX7_put_6 (by decide) h1 (fun h2 => ?_) (fun h3 => ?_)
  · exact k_vret F hQ dX7_put_21 h2
  · refine k_aload_n F dX7_put_9 rfl 0 rfl ?_
    refine kgX7_words F dX7_put_10 ?_
    refine k_iload_n F dX7_put_13 rfl 1 rfl ?_
    refine k_bipush F dX7_put_14 bp_12 ?_
    refine k_imul F dX7_put_16 h3 (fun x2 r2 h4 => ?_)
    refine k_iload_n F dX7_put_17 rfl 2 rfl ?_
    refine k_iadd F dX7_put_18 h4 (fun x3 r3 h5 => ?_)
    refine k_iload_n F dX7_put_19 rfl 3 rfl ?_
    refine k_iast F rfl 4 (aC_1 cI cZ ad) (sC_1 cI cZ ad) (by decide) r3 ra3 dX7_put_20 h5 (fun S2 h6 => ?_)
    exact k_vret F hQ dX7_put_21 h6
set_option maxRecDepth 100000 in
theorem c_X7_add {l : Launch} {D : va_G} {A : Nat → Prop} {cI cZ : ClassId} {ad : Nat → Nat} (hD : ∀ S, va_D A (wC cI cZ ad S)) {S : zSt} (hG : RG bsC S) {x : Int} {S' : zSt} (h : m_X7_add S  = some (x, S')) : zMv l yX7_add cX7_add 4 { frames := 4, cells := 0, slots := 0, locals := 87 } D cI cZ A (wC cI cZ ad) (RG bsC) [.ref (ad 3), .ref (ad 1)] S S' := by
  refine k_start_v (by decide +kernel) hD hG (Nat.le_of_ble_eq_true rfl) (fun Γ F hQ => ?_)
  have F : zF Γ (wC cI cZ ad) cI cZ cX7_add { frames := 4, cells := 0, slots := 0, locals := 87 } 4 RX7 := F
  refine k_sub [0, 1] (lv' := [(0, .ref (ad 3)), (1, .ref (ad 1))]) rfl ?_
  refine k_aload_n F dX7_add_0 rfl 0 rfl ?_
  refine k_callVi F cal_X7_isFull wm_439 (obC_3 cI cZ ad) (fun l D A hD hG x S' h => c_X7_isFull hD hG h) ⟨rfl, rfl, Nat.le_of_ble_eq_true rfl, Nat.le_of_ble_eq_true rfl⟩ rfl rfl (Nat.le_of_ble_eq_true rfl) dX7_add_1 h (fun x1 S1 r1 b1 h1 => ?_)
  refine k_if_eq F r1 (tgt := 8) dX7_add_4 (by decide) h1 (fun h2 => ?_) (fun h3 => ?_)
  · refine k_aload_n F dX7_add_8 rfl 0 rfl ?_
    refine kgX7_count F dX7_add_9 h2 (fun x2 r2 h4 => ?_)
    refine k_istore_n F dX7_add_12 rfl (by decide) rfl ?_
    refine k_aload_n F dX7_add_13 rfl 1 rfl ?_
    refine k_dup F dX7_add_14 rfl ?_
    refine kgX7_count F dX7_add_15 h4 (fun x3 r3 h5 => ?_)
    refine k_iconst F dX7_add_18 ?_
    refine k_iadd F dX7_add_19 h5 (fun x4 r4 h6 => ?_)
    refine kpX7_count F r4 dX7_add_20 h6 (fun S2 h7 => ?_)
    refine k_aload_n F dX7_add_23 rfl 1 rfl ?_
    refine kgX7_sizes F dX7_add_24 ?_
    refine k_iload_n F dX7_add_27 rfl 0 rfl ?_
    refine k_aload_n F dX7_add_28 rfl 2 rfl ?_
    refine k_callVi F cal_X4_size wm_443 (obC_1 cI cZ ad) (fun l D A hD hG x S' h => c_X4_size hD hG h) ⟨rfl, rfl, Nat.le_of_ble_eq_true rfl, Nat.le_of_ble_eq_true rfl⟩ rfl rfl (Nat.le_of_ble_eq_true rfl) dX7_add_29 h7 (fun x5 S3 r5 b2 h8 => ?_)
    refine k_iast F rfl 5 (aC_2 cI cZ ad) (sC_2 cI cZ ad) (by decide) r2 r5 dX7_add_32 h8 (fun S4 h9 => ?_)
    refine k_iconst F dX7_add_33 ?_
    refine k_istore_n F dX7_add_34 rfl (by decide) rfl ?_
    refine k_sub [2, 3, 1, 0] rfl (zl1_e (F := (b_X7_add_35 x2)) (fun v1 S5 => inR v1 → zk Γ (wC cI cZ ad) (RG bsC) S5 [(0, .ref (ad 3)), (1, .ref (ad 1)), (2, .int (zI x2)), (3, .int (zI v1))] 35 []) (fun rec1 v1 S5 hrec1 h10 r6 => ?_) 1000 0 S4 h9 iR_0)
    refine k_iload_n F dX7_add_35 rfl 3 rfl ?_
    refine k_aload_n F dX7_add_36 rfl 1 rfl ?_
    refine k_callVi F cal_X4_size wm_443 (obC_1 cI cZ ad) (fun l D A hD hG x S' h => c_X4_size hD hG h) ⟨rfl, rfl, Nat.le_of_ble_eq_true rfl, Nat.le_of_ble_eq_true rfl⟩ rfl rfl (Nat.le_of_ble_eq_true rfl) dX7_add_37 h10 (fun x6 S6 r7 b3 h11 => ?_)
    refine k_icmp_ge F r6 r7 (tgt := 60) dX7_add_40 (by decide) h11 (fun h12 => ?_) (fun h13 => ?_)
    · exact k_vret F hQ dX7_add_60 h12
    · refine k_aload_n F dX7_add_43 rfl 0 rfl ?_
      refine k_iload_n F dX7_add_44 rfl 2 rfl ?_
      refine k_iload_n F dX7_add_45 rfl 3 rfl ?_
      refine k_aload_n F dX7_add_46 rfl 1 rfl ?_
      refine k_iload_n F dX7_add_47 rfl 3 rfl ?_
      refine k_callVi F cal_X4_wordAt wm_447 (obC_1 cI cZ ad) (fun l D A hD hG x S' h => c_X4_wordAt hD hG r6 h) ⟨rfl, rfl, Nat.le_of_ble_eq_true rfl, Nat.le_of_ble_eq_true rfl⟩ rfl rfl (Nat.le_of_ble_eq_true rfl) dX7_add_48 h13 (fun x7 S7 r8 b4 h14 => ?_)
      refine k_callVv F cal_X7_put wm_451 (obC_3 cI cZ ad) (fun l D A hD hG x S' h => c_X7_put hD hG r2 r6 r8 h) ⟨rfl, rfl, Nat.le_of_ble_eq_true rfl, Nat.le_of_ble_eq_true rfl⟩ rfl rfl (Nat.le_of_ble_eq_true rfl) dX7_add_51 h14 (fun x8 S8 h15 => ?_)
      refine k_iinc F (k := 3) (lv' := fun y => [(3, .int (zI y)), (0, .ref (ad 3)), (1, .ref (ad 1)), (2, .int (zI x2))]) dX7_add_54 rfl (by decide) (fun _ => rfl) h15 (fun x9 r10 h16 => ?_)
      refine k_goto F (tgt := 35) dX7_add_57 (by decide) ?_
      exact k_sub [1, 2, 3, 0] rfl (hrec1 x9 S8 h16 r10)
  · exact k_vret F hQ dX7_add_7 h3
set_option maxRecDepth 100000 in
theorem c_X7_takeOut {l : Launch} {D : va_G} {A : Nat → Prop} {cI cZ : ClassId} {ad : Nat → Nat} (hD : ∀ S, va_D A (wC cI cZ ad S)) {S : zSt} (hG : RG bsC S) {a1 : Int} (ra1 : inR a1) {a2 : Int} (ra2 : inR a2) {x : Int} {S' : zSt} (h : m_X7_takeOut S a1 a2 = some (x, S')) : zMv l yX7_takeOut cX7_takeOut 4 { frames := 4, cells := 0, slots := 0, locals := 87 } D cI cZ A (wC cI cZ ad) (RG bsC) [.ref (ad 3), .int (zI a1), .int (zI a2)] S S' := by
  refine k_start_v (by decide +kernel) hD hG (Nat.le_of_ble_eq_true rfl) (fun Γ F hQ => ?_)
  have F : zF Γ (wC cI cZ ad) cI cZ cX7_takeOut { frames := 4, cells := 0, slots := 0, locals := 87 } 4 RX7 := F
  refine k_sub [0, 1, 2] (lv' := [(0, .ref (ad 3)), (1, .int (zI a1)), (2, .int (zI a2))]) rfl ?_
  refine k_aload_n F dX7_takeOut_0 rfl 0 rfl ?_
  refine k_iload_n F dX7_takeOut_1 rfl 1 rfl ?_
  refine k_iload_n F dX7_takeOut_2 rfl 2 rfl ?_
  refine k_callVi F cal_X7_hasPlace wm_254 (obC_3 cI cZ ad) (fun l D A hD hG x S' h => c_X7_hasPlace hD hG ra1 ra2 h) ⟨rfl, rfl, Nat.le_of_ble_eq_true rfl, Nat.le_of_ble_eq_true rfl⟩ rfl rfl (Nat.le_of_ble_eq_true rfl) dX7_takeOut_3 h (fun x1 S1 r1 b1 h1 => ?_)
  refine k_if_ne F r1 (tgt := 10) dX7_takeOut_6 (by decide) h1 (fun h2 => ?_) (fun h3 => ?_)
  · refine k_iload_n F dX7_takeOut_10 rfl 2 rfl ?_
    refine k_istore_n F dX7_takeOut_11 rfl (by decide) rfl ?_
    refine zj0_e (PJ := (fun S2 => zk Γ (wC cI cZ ad) (RG bsC) S2 [(0, .ref (ad 3)), (1, .int (zI a1))] 44 [])) h2 (fun S2 h4 => ?_) (fun j1 J1 h8 => ?_)
    · refine k_aload_n F dX7_takeOut_44 rfl 0 rfl ?_
      refine kgX7_sizes F dX7_takeOut_45 ?_
      refine k_iload_n F dX7_takeOut_48 rfl 1 rfl ?_
      refine k_dup2 F dX7_takeOut_49 rfl rfl ?_
      refine k_iald F rfl 5 (aC_2 cI cZ ad) ra1 dX7_takeOut_50 h4 (fun x2 r2 h5 => ?_)
      refine k_iconst F dX7_takeOut_51 ?_
      refine k_isub F dX7_takeOut_52 h5 (fun x3 r3 h6 => ?_)
      refine k_iast F rfl 5 (aC_2 cI cZ ad) (sC_2 cI cZ ad) (by decide) ra1 r3 dX7_takeOut_53 h6 (fun S3 h7 => ?_)
      exact k_vret F hQ dX7_takeOut_54 h7
    · refine k_sub [1, 2, 0] rfl (zl1_e (F := (b_X7_takeOut_12 a1 j1)) (fun v1 S4 => inR v1 → zk Γ (wC cI cZ ad) (RG bsC) S4 [(0, .ref (ad 3)), (1, .int (zI a1)), (3, .int (zI v1))] 12 []) (fun rec1 v1 S4 hrec1 h9 r4 => ?_) 1000 a2 S1 h8 ra2)
      refine k_iload_n F dX7_takeOut_12 rfl 2 rfl ?_
      refine k_iconst F dX7_takeOut_13 ?_
      refine k_iadd F dX7_takeOut_14 h9 (fun x4 r5 h10 => ?_)
      refine k_aload_n F dX7_takeOut_15 rfl 0 rfl ?_
      refine kgX7_sizes F dX7_takeOut_16 ?_
      refine k_iload_n F dX7_takeOut_19 rfl 1 rfl ?_
      refine k_iald F rfl 5 (aC_2 cI cZ ad) ra1 dX7_takeOut_20 h10 (fun x5 r6 h11 => ?_)
      refine k_icmp_ge F r5 r6 (tgt := 44) dX7_takeOut_21 (by decide) h11 (fun h12 => ?_) (fun h13 => ?_)
      · exact k_sub [0, 1] rfl (J1 S4 h12)
      · refine k_aload_n F dX7_takeOut_24 rfl 0 rfl ?_
        refine k_iload_n F dX7_takeOut_25 rfl 1 rfl ?_
        refine k_iload_n F dX7_takeOut_26 rfl 2 rfl ?_
        refine k_aload_n F dX7_takeOut_27 rfl 0 rfl ?_
        refine k_iload_n F dX7_takeOut_28 rfl 1 rfl ?_
        refine k_iload_n F dX7_takeOut_29 rfl 2 rfl ?_
        refine k_iconst F dX7_takeOut_30 ?_
        refine k_iadd F dX7_takeOut_31 h13 (fun x6 r7 h14 => ?_)
        refine k_callVi F cal_X7_wordAt wm_258 (obC_3 cI cZ ad) (fun l D A hD hG x S' h => c_X7_wordAt hD hG ra1 r7 h) ⟨rfl, rfl, Nat.le_of_ble_eq_true rfl, Nat.le_of_ble_eq_true rfl⟩ rfl rfl (Nat.le_of_ble_eq_true rfl) dX7_takeOut_32 h14 (fun x7 S5 r8 b2 h15 => ?_)
        refine k_callVv F cal_X7_put wm_451 (obC_3 cI cZ ad) (fun l D A hD hG x S' h => c_X7_put hD hG ra1 r4 r8 h) ⟨rfl, rfl, Nat.le_of_ble_eq_true rfl, Nat.le_of_ble_eq_true rfl⟩ rfl rfl (Nat.le_of_ble_eq_true rfl) dX7_takeOut_35 h15 (fun x8 S6 h16 => ?_)
        refine k_iinc F (k := 2) (lv' := fun y => [(3, .int (zI y)), (0, .ref (ad 3)), (1, .int (zI a1))]) dX7_takeOut_38 rfl (by decide) (fun _ => rfl) h16 (fun x9 r10 h17 => ?_)
        refine k_goto F (tgt := 12) dX7_takeOut_41 (by decide) ?_
        exact k_sub [1, 2, 0] rfl (hrec1 x9 S6 h17 r10)
  · exact k_vret F hQ dX7_takeOut_9 h3
set_option maxRecDepth 100000 in
theorem c_X7_placeOf {l : Launch} {D : va_G} {A : Nat → Prop} {cI cZ : ClassId} {ad : Nat → Nat} (hD : ∀ S, va_D A (wC cI cZ ad S)) {S : zSt} (hG : RG bsC S) {a1 : Int} (ra1 : inR a1) {a2 : Int} (ra2 : inR a2) {a3 : Int} (ra3 : inR a3) {x : Int} {S' : zSt} (h : m_X7_placeOf S a1 a2 a3 = some (x, S')) : zMi l yX7_placeOf cX7_placeOf 6 .int { frames := 4, cells := 0, slots := 0, locals := 86 } D cI cZ A (wC cI cZ ad) (RG bsC) [.ref (ad 3), .int (zI a1), .int (zI a2), .int (zI a3)] S x S' := by
  refine k_start_i (by decide +kernel) hD hG (Nat.le_of_ble_eq_true rfl) (fun Γ F hQ => ?_)
  have F : zF Γ (wC cI cZ ad) cI cZ cX7_placeOf { frames := 4, cells := 0, slots := 0, locals := 86 } 6 RX7 := F
  refine k_sub [0, 1, 2, 3] (lv' := [(0, .ref (ad 3)), (1, .int (zI a1)), (2, .int (zI a2)), (3, .int (zI a3))]) rfl ?_
  refine k_iconst F dX7_placeOf_0 ?_
  refine k_istore F dX7_placeOf_1 (by decide) rfl ?_
  refine k_iconst F dX7_placeOf_3 ?_
  refine k_istore F dX7_placeOf_4 (by decide) rfl ?_
  refine zj0_e (PJ := (fun S1 => zk Γ (wC cI cZ ad) (RG bsC) S1 [] 45 [])) h (fun S1 h1 => ?_) (fun j1 J1 h2 => ?_)
  · refine k_iconst F dX7_placeOf_45 ?_
    exact k_iret F hQ iR_m1 dX7_placeOf_46 h1
  · refine k_sub [2, 3, 4, 5, 1, 0] rfl (zl2_e (F := (b_X7_placeOf_6 a1 a2 a3 j1)) (fun v1 v2 S2 => inR v1 → inR v2 → zk Γ (wC cI cZ ad) (RG bsC) S2 [(0, .ref (ad 3)), (1, .int (zI a1)), (2, .int (zI a2)), (3, .int (zI a3)), (4, .int (zI v1)), (5, .int (zI v2))] 6 []) (fun rec1 v1 v2 S2 hrec1 h3 r1 r2 => ?_) 1000 0 0 S h2 iR_0 iR_0)
    refine k_iload F dX7_placeOf_6 5 rfl ?_
    refine k_aload_n F dX7_placeOf_8 rfl 0 rfl ?_
    refine k_iload_n F dX7_placeOf_9 rfl 1 rfl ?_
    refine k_callVi F cal_X7_sizeOf wm_250 (obC_3 cI cZ ad) (fun l D A hD hG x S' h => c_X7_sizeOf hD hG ra1 h) ⟨rfl, rfl, Nat.le_of_ble_eq_true rfl, Nat.le_of_ble_eq_true rfl⟩ rfl rfl (Nat.le_of_ble_eq_true rfl) dX7_placeOf_10 h3 (fun x1 S3 r3 b1 h4 => ?_)
    refine k_icmp_ge F r2 r3 (tgt := 45) dX7_placeOf_13 (by decide) h4 (fun h5 => ?_) (fun h6 => ?_)
    · exact k_sub [] rfl (J1 S3 h5)
    · refine k_aload_n F dX7_placeOf_16 rfl 0 rfl ?_
      refine k_iload_n F dX7_placeOf_17 rfl 1 rfl ?_
      refine k_iload F dX7_placeOf_18 5 rfl ?_
      refine k_callVi F cal_X7_wordAt wm_258 (obC_3 cI cZ ad) (fun l D A hD hG x S' h => c_X7_wordAt hD hG ra1 r2 h) ⟨rfl, rfl, Nat.le_of_ble_eq_true rfl, Nat.le_of_ble_eq_true rfl⟩ rfl rfl (Nat.le_of_ble_eq_true rfl) dX7_placeOf_20 h6 (fun x2 S4 r4 b2 h7 => ?_)
      refine k_iload_n F dX7_placeOf_23 rfl 2 rfl ?_
      refine zj1_e (PJ := (fun v3 S5 => inR v3 → zk Γ (wC cI cZ ad) (RG bsC) S5 [(0, .ref (ad 3)), (1, .int (zI a1)), (2, .int (zI a2)), (3, .int (zI a3)), (4, .int (zI v3)), (5, .int (zI v2))] 39 [])) h7 (fun v3 S5 h8 r5 => ?_) (fun j2 J2 h10 => ?_)
      · refine k_iinc F (k := 5) (lv' := fun y => [(5, .int (zI y)), (0, .ref (ad 3)), (1, .int (zI a1)), (2, .int (zI a2)), (3, .int (zI a3)), (4, .int (zI v3))]) dX7_placeOf_39 rfl (by decide) (fun _ => rfl) h8 (fun x3 r6 h9 => ?_)
        refine k_goto F (tgt := 6) dX7_placeOf_42 (by decide) ?_
        exact k_sub [1, 2, 3, 4, 5, 0] rfl (hrec1 v3 x3 S5 h9 r5 r6)
      · refine k_icmp_ne F r4 ra2 (tgt := 39) dX7_placeOf_24 (by decide) h10 (fun h11 => ?_) (fun h12 => ?_)
        · exact k_sub [0, 1, 2, 3, 4, 5] rfl (J2 v1 S4 h11 r1)
        · refine k_iinc F (k := 4) (lv' := fun y => [(4, .int (zI y)), (0, .ref (ad 3)), (1, .int (zI a1)), (2, .int (zI a2)), (3, .int (zI a3)), (5, .int (zI v2))]) dX7_placeOf_27 rfl (by decide) (fun _ => rfl) h12 (fun x4 r7 h13 => ?_)
          refine k_iload F dX7_placeOf_30 0 rfl ?_
          refine k_iload_n F dX7_placeOf_32 rfl 4 rfl ?_
          refine k_icmp_ne F r7 ra3 (tgt := 39) dX7_placeOf_33 (by decide) h13 (fun h14 => ?_) (fun h15 => ?_)
          · exact k_sub [1, 2, 3, 4, 0, 5] rfl (J2 x4 S4 h14 r7)
          · refine k_iload F dX7_placeOf_36 5 rfl ?_
            exact k_iret F hQ r2 dX7_placeOf_38 h15
set_option maxRecDepth 100000 in
theorem c_X7_likeness {l : Launch} {D : va_G} {A : Nat → Prop} {cI cZ : ClassId} {ad : Nat → Nat} (hD : ∀ S, va_D A (wC cI cZ ad S)) {S : zSt} (hG : RG bsC S) {a1 : Int} (ra1 : inR a1) {x : Int} {S' : zSt} (h : m_X7_likeness S a1 = some (x, S')) : zMi l yX7_likeness cX7_likeness 8 .int { frames := 4, cells := 0, slots := 0, locals := 86 } D cI cZ A (wC cI cZ ad) (RG bsC) [.ref (ad 3), .int (zI a1), .ref (ad 1)] S x S' := by
  refine k_start_i (by decide +kernel) hD hG (Nat.le_of_ble_eq_true rfl) (fun Γ F hQ => ?_)
  have F : zF Γ (wC cI cZ ad) cI cZ cX7_likeness { frames := 4, cells := 0, slots := 0, locals := 86 } 8 RX7 := F
  refine k_sub [0, 1, 2] (lv' := [(0, .ref (ad 3)), (1, .int (zI a1)), (2, .ref (ad 1))]) rfl ?_
  refine k_aload_n F dX7_likeness_0 rfl 0 rfl ?_
  refine kgX7_likenesses F dX7_likeness_1 ?_
  refine k_iconst F dX7_likeness_4 ?_
  refine k_fill F rfl 6 (aC_3 cI cZ ad) (sC_3 cI cZ ad) (by decide) (by decide) iR_0 wm_452 ⟨Nat.le_of_ble_eq_true rfl, Nat.le_of_ble_eq_true rfl⟩ (Nat.le_of_ble_eq_true rfl) dX7_likeness_5 h (fun S1 h1 => ?_)
  refine k_iconst F dX7_likeness_8 ?_
  refine k_istore_n F dX7_likeness_9 rfl (by decide) rfl ?_
  refine zj0_e (PJ := (fun S2 => zk Γ (wC cI cZ ad) (RG bsC) S2 [(0, .ref (ad 3)), (2, .ref (ad 1))] 118 [])) h1 (fun S2 h2 => ?_) (fun j1 J1 h5 => ?_)
  · refine k_aload_n F dX7_likeness_118 rfl 0 rfl ?_
    refine kgX7_likenesses F dX7_likeness_119 ?_
    refine k_aload_n F dX7_likeness_122 rfl 1 rfl ?_
    refine k_callVi F cal_X4_size wm_443 (obC_1 cI cZ ad) (fun l D A hD hG x S' h => c_X4_size hD hG h) ⟨rfl, rfl, Nat.le_of_ble_eq_true rfl, Nat.le_of_ble_eq_true rfl⟩ rfl rfl (Nat.le_of_ble_eq_true rfl) dX7_likeness_123 h2 (fun x1 S3 r1 b1 h3 => ?_)
    refine k_callNi F cal_X8_at nw_X7_75 (fun l D A hD hG x S' h => c_at hD hG 6 (aC_3 cI cZ ad) (by decide) (by decide) r1 h) ⟨rfl, rfl, Nat.le_of_ble_eq_true rfl, Nat.le_of_ble_eq_true rfl⟩ rfl rfl (Nat.le_of_ble_eq_true rfl) dX7_likeness_126 h3 (fun x2 S4 r2 b2 h4 => ?_)
    exact k_iret F hQ r2 dX7_likeness_129 h4
  · refine k_sub [1, 2, 3, 0] rfl (zl1_e (F := (b_X7_likeness_10 a1 j1)) (fun v1 S5 => inR v1 → zk Γ (wC cI cZ ad) (RG bsC) S5 [(0, .ref (ad 3)), (1, .int (zI a1)), (2, .ref (ad 1)), (3, .int (zI v1))] 10 []) (fun rec1 v1 S5 hrec1 h6 r3 => ?_) 1000 0 S1 h5 iR_0)
    refine k_iload_n F dX7_likeness_10 rfl 3 rfl ?_
    refine k_aload_n F dX7_likeness_11 rfl 0 rfl ?_
    refine k_iload_n F dX7_likeness_12 rfl 1 rfl ?_
    refine k_callVi F cal_X7_sizeOf wm_250 (obC_3 cI cZ ad) (fun l D A hD hG x S' h => c_X7_sizeOf hD hG ra1 h) ⟨rfl, rfl, Nat.le_of_ble_eq_true rfl, Nat.le_of_ble_eq_true rfl⟩ rfl rfl (Nat.le_of_ble_eq_true rfl) dX7_likeness_13 h6 (fun x3 S6 r4 b3 h7 => ?_)
    refine k_icmp_ge F r3 r4 (tgt := 118) dX7_likeness_16 (by decide) h7 (fun h8 => ?_) (fun h9 => ?_)
    · exact k_sub [0, 2] rfl (J1 S6 h8)
    · refine k_aload_n F dX7_likeness_19 rfl 0 rfl ?_
      refine k_iload_n F dX7_likeness_20 rfl 1 rfl ?_
      refine k_iload_n F dX7_likeness_21 rfl 3 rfl ?_
      refine k_callVi F cal_X7_wordAt wm_258 (obC_3 cI cZ ad) (fun l D A hD hG x S' h => c_X7_wordAt hD hG ra1 r3 h) ⟨rfl, rfl, Nat.le_of_ble_eq_true rfl, Nat.le_of_ble_eq_true rfl⟩ rfl rfl (Nat.le_of_ble_eq_true rfl) dX7_likeness_22 h9 (fun x4 S7 r5 b4 h10 => ?_)
      refine k_istore F dX7_likeness_25 (by decide) rfl ?_
      refine k_iconst F dX7_likeness_27 ?_
      refine k_istore F dX7_likeness_28 (by decide) rfl ?_
      refine k_iconst F dX7_likeness_30 ?_
      refine k_istore F dX7_likeness_31 (by decide) rfl ?_
      refine zj0_e (PJ := (fun S8 => zk Γ (wC cI cZ ad) (RG bsC) S8 [(0, .ref (ad 3)), (1, .int (zI a1)), (2, .ref (ad 1)), (3, .int (zI v1))] 112 [])) h10 (fun S8 h11 => ?_) (fun j2 J2 h13 => ?_)
      · refine k_iinc F (k := 3) (lv' := fun y => [(3, .int (zI y)), (0, .ref (ad 3)), (1, .int (zI a1)), (2, .ref (ad 1))]) dX7_likeness_112 rfl (by decide) (fun _ => rfl) h11 (fun x5 r6 h12 => ?_)
        refine k_goto F (tgt := 10) dX7_likeness_115 (by decide) ?_
        exact k_sub [1, 2, 3, 0] rfl (hrec1 x5 S8 h12 r6)
      · refine k_sub [3, 4, 5, 6, 2, 1, 0] rfl (zl2_e (F := (b_X7_likeness_33 j2 x4)) (fun v2 v3 S9 => inR v2 → inR v3 → zk Γ (wC cI cZ ad) (RG bsC) S9 [(0, .ref (ad 3)), (1, .int (zI a1)), (2, .ref (ad 1)), (3, .int (zI v1)), (4, .int (zI x4)), (5, .int (zI v2)), (6, .int (zI v3))] 33 []) (fun rec2 v2 v3 S9 hrec2 h14 r7 r8 => ?_) 1000 0 1 S7 h13 iR_0 iR_1)
        refine k_iload F dX7_likeness_33 6 rfl ?_
        refine k_aload_n F dX7_likeness_35 rfl 2 rfl ?_
        refine k_callVi F cal_X4_size wm_443 (obC_1 cI cZ ad) (fun l D A hD hG x S' h => c_X4_size hD hG h) ⟨rfl, rfl, Nat.le_of_ble_eq_true rfl, Nat.le_of_ble_eq_true rfl⟩ rfl rfl (Nat.le_of_ble_eq_true rfl) dX7_likeness_36 h14 (fun x6 S10 r9 b5 h15 => ?_)
        refine k_icmp_gt F r8 r9 (tgt := 112) dX7_likeness_39 (by decide) h15 (fun h16 => ?_) (fun h17 => ?_)
        · exact k_sub [0, 1, 2, 3] rfl (J2 S10 h16)
        · refine k_iload F dX7_likeness_42 6 rfl ?_
          refine k_aload_n F dX7_likeness_44 rfl 0 rfl ?_
          refine kgX7_likenesses F dX7_likeness_45 ?_
          refine k_alen F 6 (aC_3 cI cZ ad) (by decide) dX7_likeness_48 ?_
          refine k_icmp_ge F r8 iR_13 (tgt := 112) dX7_likeness_49 (by decide) h17 (fun h18 => ?_) (fun h19 => ?_)
          · exact k_sub [0, 1, 2, 3] rfl (J2 S10 h18)
          · refine k_aload_n F dX7_likeness_52 rfl 0 rfl ?_
            refine kgX7_likenesses F dX7_likeness_53 ?_
            refine k_iload F dX7_likeness_56 6 rfl ?_
            refine k_iald F rfl 6 (aC_3 cI cZ ad) r8 dX7_likeness_58 h19 (fun x7 r10 h20 => ?_)
            refine k_istore F dX7_likeness_59 (by decide) rfl ?_
            refine k_aload_n F dX7_likeness_61 rfl 1 rfl ?_
            refine kgX7_likenesses F dX7_likeness_62 ?_
            refine k_iload F dX7_likeness_65 7 rfl ?_
            refine k_aload_n F dX7_likeness_67 rfl 3 rfl ?_
            refine k_iload F dX7_likeness_68 7 rfl ?_
            refine k_iconst F dX7_likeness_70 ?_
            refine k_isub F dX7_likeness_71 h20 (fun x8 r11 h21 => ?_)
            refine k_callVi F cal_X4_wordAt wm_447 (obC_1 cI cZ ad) (fun l D A hD hG x S' h => c_X4_wordAt hD hG r11 h) ⟨rfl, rfl, Nat.le_of_ble_eq_true rfl, Nat.le_of_ble_eq_true rfl⟩ rfl rfl (Nat.le_of_ble_eq_true rfl) dX7_likeness_72 h21 (fun x9 S11 r12 b6 h22 => ?_)
            refine k_iload F dX7_likeness_75 5 rfl ?_
            refine zj1_e (PJ := (fun v4 S12 => inR v4 → zk Γ (wC cI cZ ad) (RG bsC) S12 [(0, .ref (ad 3)), (1, .int (zI a1)), (2, .ref (ad 1)), (3, .int (zI v1)), (4, .int (zI x4)), (6, .int (zI v3)), (7, .int (zI x7))] 101 [.int (zI v4), .int (zI v3), .ref (ad 6)])) h22 (fun v4 S12 h23 r13 => ?_) (fun j3 J3 h26 => ?_)
            · refine k_iast F rfl 6 (aC_3 cI cZ ad) (sC_3 cI cZ ad) (by decide) r8 r13 dX7_likeness_101 h23 (fun S13 h24 => ?_)
              refine k_iload F dX7_likeness_102 6 rfl ?_
              refine k_istore F dX7_likeness_104 (by decide) rfl ?_
              refine k_iinc F (k := 6) (lv' := fun y => [(6, .int (zI y)), (5, .int (zI x7)), (0, .ref (ad 3)), (1, .int (zI a1)), (2, .ref (ad 1)), (3, .int (zI v1)), (4, .int (zI x4)), (7, .int (zI x7))]) dX7_likeness_106 rfl (by decide) (fun _ => rfl) h24 (fun x10 r14 h25 => ?_)
              refine k_goto F (tgt := 33) dX7_likeness_109 (by decide) ?_
              exact k_sub [2, 3, 4, 5, 6, 1, 0] rfl (hrec2 x7 x10 S13 h25 r10 r14)
            · refine k_icmp_ne F r12 r5 (tgt := 87) dX7_likeness_77 (by decide) h26 (fun h27 => ?_) (fun h28 => ?_)
              · refine k_iload F dX7_likeness_87 0 rfl ?_
                refine k_aload_n F dX7_likeness_89 rfl 1 rfl ?_
                refine kgX7_likenesses F dX7_likeness_90 ?_
                refine k_iload F dX7_likeness_93 7 rfl ?_
                refine k_iconst F dX7_likeness_95 ?_
                refine k_isub F dX7_likeness_96 h27 (fun x11 r15 h29 => ?_)
                refine k_iald F rfl 6 (aC_3 cI cZ ad) r15 dX7_likeness_97 h29 (fun x12 r16 h30 => ?_)
                refine k_mmax F r10 r16 wm_453 mal_max (Nat.le_of_ble_eq_true rfl) (Nat.le_of_ble_eq_true rfl) dX7_likeness_98 h30 (fun x13 r17 h31 => ?_)
                exact k_sub [1, 2, 3, 4, 5, 7, 0] rfl (J3 x13 S11 h31 r17)
              · refine k_iload F dX7_likeness_80 6 rfl ?_
                refine k_iconst F dX7_likeness_82 ?_
                refine k_iadd F dX7_likeness_83 h28 (fun x14 r18 h32 => ?_)
                refine k_goto F (tgt := 101) dX7_likeness_84 (by decide) ?_
                exact k_sub [1, 2, 3, 4, 5, 7, 0] rfl (J3 x14 S11 h32 r18)
set_option maxRecDepth 100000 in
theorem c_X7_mostLike {l : Launch} {D : va_G} {A : Nat → Prop} {cI cZ : ClassId} {ad : Nat → Nat} (hD : ∀ S, va_D A (wC cI cZ ad S)) {S : zSt} (hG : RG bsC S) {x : Int} {S' : zSt} (h : m_X7_mostLike S  = some (x, S')) : zMi l yX7_mostLike cX7_mostLike 6 .int { frames := 5, cells := 0, slots := 0, locals := 113 } D cI cZ A (wC cI cZ ad) (RG bsC) [.ref (ad 3), .ref (ad 1)] S x S' := by
  refine k_start_i (by decide +kernel) hD hG (Nat.le_of_ble_eq_true rfl) (fun Γ F hQ => ?_)
  have F : zF Γ (wC cI cZ ad) cI cZ cX7_mostLike { frames := 5, cells := 0, slots := 0, locals := 113 } 6 RX7 := F
  refine k_sub [0, 1] (lv' := [(0, .ref (ad 3)), (1, .ref (ad 1))]) rfl ?_
  refine k_iconst F dX7_mostLike_0 ?_
  refine k_istore_n F dX7_mostLike_1 rfl (by decide) rfl ?_
  refine k_iconst F dX7_mostLike_2 ?_
  refine k_istore_n F dX7_mostLike_3 rfl (by decide) rfl ?_
  refine k_iconst F dX7_mostLike_4 ?_
  refine k_istore F dX7_mostLike_5 (by decide) rfl ?_
  refine zj1_e (PJ := (fun v1 S1 => inR v1 → zk Γ (wC cI cZ ad) (RG bsC) S1 [(2, .int (zI v1))] 43 [])) h (fun v1 S1 h1 r1 => ?_) (fun j1 J1 h2 => ?_)
  · refine k_iload_n F dX7_mostLike_43 rfl 0 rfl ?_
    exact k_iret F hQ r1 dX7_mostLike_44 h1
  · refine k_sub [3, 4, 2, 1, 0] rfl (zl3_e (F := (b_X7_mostLike_7 j1)) (fun v2 v3 v4 S2 => inR v2 → inR v3 → inR v4 → zk Γ (wC cI cZ ad) (RG bsC) S2 [(0, .ref (ad 3)), (1, .ref (ad 1)), (2, .int (zI v2)), (3, .int (zI v3)), (4, .int (zI v4))] 7 []) (fun rec1 v2 v3 v4 S2 hrec1 h3 r2 r3 r4 => ?_) 1000 (-1) 0 0 S h2 iR_m1 iR_0 iR_0)
    refine k_iload F dX7_mostLike_7 4 rfl ?_
    refine k_aload_n F dX7_mostLike_9 rfl 0 rfl ?_
    refine kgX7_count F dX7_mostLike_10 h3 (fun x1 r5 h4 => ?_)
    refine k_icmp_ge F r4 r5 (tgt := 43) dX7_mostLike_13 (by decide) h4 (fun h5 => ?_) (fun h6 => ?_)
    · exact k_sub [2] rfl (J1 v2 S2 h5 r2)
    · refine k_aload_n F dX7_mostLike_16 rfl 0 rfl ?_
      refine k_iload F dX7_mostLike_17 4 rfl ?_
      refine k_aload_n F dX7_mostLike_19 rfl 1 rfl ?_
      refine k_callVi F cal_X7_likeness wm_457 (obC_3 cI cZ ad) (fun l D A hD hG x S' h => c_X7_likeness hD hG r4 h) ⟨rfl, rfl, Nat.le_of_ble_eq_true rfl, Nat.le_of_ble_eq_true rfl⟩ rfl rfl (Nat.le_of_ble_eq_true rfl) dX7_mostLike_20 h6 (fun x2 S3 r6 b1 h7 => ?_)
      refine k_istore F dX7_mostLike_23 (by decide) rfl ?_
      refine k_iload F dX7_mostLike_25 0 rfl ?_
      refine k_iload_n F dX7_mostLike_27 rfl 4 rfl ?_
      refine zj2_e (PJ := (fun v5 v6 S4 => inR v5 → inR v6 → zk Γ (wC cI cZ ad) (RG bsC) S4 [(0, .ref (ad 3)), (1, .ref (ad 1)), (2, .int (zI v5)), (3, .int (zI v6)), (4, .int (zI v4))] 37 [])) h7 (fun v5 v6 S4 h8 r7 r8 => ?_) (fun j2 J2 h10 => ?_)
      · refine k_iinc F (k := 4) (lv' := fun y => [(4, .int (zI y)), (0, .ref (ad 3)), (1, .ref (ad 1)), (2, .int (zI v5)), (3, .int (zI v6))]) dX7_mostLike_37 rfl (by decide) (fun _ => rfl) h8 (fun x3 r9 h9 => ?_)
        refine k_goto F (tgt := 7) dX7_mostLike_40 (by decide) ?_
        exact k_sub [1, 2, 3, 4, 0] rfl (hrec1 v5 v6 x3 S4 h9 r7 r8 r9)
      · refine k_icmp_le F r6 r3 (tgt := 37) dX7_mostLike_28 (by decide) h10 (fun h11 => ?_) (fun h12 => ?_)
        · exact k_sub [1, 2, 3, 4, 5] rfl (J2 v2 v3 S3 h11 r2 r3)
        · refine k_iload F dX7_mostLike_31 0 rfl ?_
          refine k_istore_n F dX7_mostLike_33 rfl (by decide) rfl ?_
          refine k_iload F dX7_mostLike_34 5 rfl ?_
          refine k_istore_n F dX7_mostLike_36 rfl (by decide) rfl ?_
          exact k_sub [3, 4, 0, 1, 5] rfl (J2 v4 x2 S3 h12 r4 r6)
set_option maxRecDepth 100000 in
theorem c_X8_wipe {l : Launch} {D : va_G} {A : Nat → Prop} {cI cZ : ClassId} {ad : Nat → Nat} (hD : ∀ S, va_D A (wC cI cZ ad S)) {S : zSt} (hG : RG bsC S) {x : Int} {S' : zSt} (h : m_X8_wipe S  = some (x, S')) : zMi l yX8_wipe cX8_wipe 2 .int { frames := 1, cells := 0, slots := 0, locals := 20 } D cI cZ A (wC cI cZ ad) (RG bsC) [.ref (ad 0)] S x S' := by
  refine k_start_i (by decide +kernel) hD hG (Nat.le_of_ble_eq_true rfl) (fun Γ F hQ => ?_)
  have F : zF Γ (wC cI cZ ad) cI cZ cX8_wipe { frames := 1, cells := 0, slots := 0, locals := 20 } 2 RX8 := F
  refine k_sub [0] (lv' := [(0, .ref (ad 0))]) rfl ?_
  refine k_aload_n F dX8_wipe_0 rfl 0 rfl ?_
  refine kgX8_pad F dX8_wipe_1 ?_
  refine k_callVi F cal_X4_size wm_458 (obC_1 cI cZ ad) (fun l D A hD hG x S' h => c_X4_size hD hG h) ⟨rfl, rfl, Nat.le_of_ble_eq_true rfl, Nat.le_of_ble_eq_true rfl⟩ rfl rfl (Nat.le_of_ble_eq_true rfl) dX8_wipe_4 h (fun x1 S1 r1 b1 h1 => ?_)
  refine k_istore_n F dX8_wipe_7 rfl (by decide) rfl ?_
  refine k_aload_n F dX8_wipe_8 rfl 1 rfl ?_
  refine kgX8_pad F dX8_wipe_9 ?_
  refine k_callVv F cal_X4_clear wm_462 (obC_1 cI cZ ad) (fun l D A hD hG x S' h => c_X4_clear hD hG h) ⟨rfl, rfl, Nat.le_of_ble_eq_true rfl, Nat.le_of_ble_eq_true rfl⟩ rfl rfl (Nat.le_of_ble_eq_true rfl) dX8_wipe_12 h1 (fun x2 S2 h2 => ?_)
  refine k_iload_n F dX8_wipe_15 rfl 0 rfl ?_
  exact k_iret F hQ r1 dX8_wipe_16 h2
set_option maxRecDepth 100000 in
theorem c_X8_found {l : Launch} {D : va_G} {A : Nat → Prop} {cI cZ : ClassId} {ad : Nat → Nat} (hD : ∀ S, va_D A (wC cI cZ ad S)) {S : zSt} (hG : RG bsC S) {x : Int} {S' : zSt} (h : m_X8_found S  = some (x, S')) : zMi l yX8_found cX8_found 1 .int { frames := 6, cells := 0, slots := 0, locals := 138 } D cI cZ A (wC cI cZ ad) (RG bsC) [.ref (ad 0)] S x S' := by
  refine k_start_i (by decide +kernel) hD hG (Nat.le_of_ble_eq_true rfl) (fun Γ F hQ => ?_)
  have F : zF Γ (wC cI cZ ad) cI cZ cX8_found { frames := 6, cells := 0, slots := 0, locals := 138 } 1 RX8 := F
  refine k_sub [0] (lv' := [(0, .ref (ad 0))]) rfl ?_
  refine k_aload_n F dX8_found_0 rfl 0 rfl ?_
  refine kgX8_text F dX8_found_1 ?_
  refine k_aload_n F dX8_found_4 rfl 0 rfl ?_
  refine kgX8_pad F dX8_found_5 ?_
  refine k_callVi F cal_X7_mostLike wm_466 (obC_3 cI cZ ad) (fun l D A hD hG x S' h => c_X7_mostLike hD hG h) ⟨rfl, rfl, Nat.le_of_ble_eq_true rfl, Nat.le_of_ble_eq_true rfl⟩ rfl rfl (Nat.le_of_ble_eq_true rfl) dX8_found_8 h (fun x1 S1 r1 b1 h1 => ?_)
  exact k_iret F hQ r1 dX8_found_11 h1
set_option maxRecDepth 100000 in
theorem c_X8_exact {l : Launch} {D : va_G} {A : Nat → Prop} {cI cZ : ClassId} {ad : Nat → Nat} (hD : ∀ S, va_D A (wC cI cZ ad S)) {S : zSt} (hG : RG bsC S) {x : Int} {S' : zSt} (h : m_X8_exact S  = some (x, S')) : zMi l yX8_exact cX8_exact 3 .int { frames := 6, cells := 0, slots := 0, locals := 138 } D cI cZ A (wC cI cZ ad) (RG bsC) [.ref (ad 0)] S x S' := by
  refine k_start_i (by decide +kernel) hD hG (Nat.le_of_ble_eq_true rfl) (fun Γ F hQ => ?_)
  have F : zF Γ (wC cI cZ ad) cI cZ cX8_exact { frames := 6, cells := 0, slots := 0, locals := 138 } 3 RX8 := F
  refine k_sub [0] (lv' := [(0, .ref (ad 0))]) rfl ?_
  refine k_aload_n F dX8_exact_0 rfl 0 rfl ?_
  refine kgX8_text F dX8_exact_1 ?_
  refine k_aload_n F dX8_exact_4 rfl 0 rfl ?_
  refine kgX8_pad F dX8_exact_5 ?_
  refine k_callVi F cal_X7_mostLike wm_466 (obC_3 cI cZ ad) (fun l D A hD hG x S' h => c_X7_mostLike hD hG h) ⟨rfl, rfl, Nat.le_of_ble_eq_true rfl, Nat.le_of_ble_eq_true rfl⟩ rfl rfl (Nat.le_of_ble_eq_true rfl) dX8_exact_8 h (fun x1 S1 r1 b1 h1 => ?_)
  refine k_istore_n F dX8_exact_11 rfl (by decide) rfl ?_
  refine k_aload_n F dX8_exact_12 rfl 1 rfl ?_
  refine kgX8_pad F dX8_exact_13 ?_
  refine k_callVi F cal_X4_size wm_458 (obC_1 cI cZ ad) (fun l D A hD hG x S' h => c_X4_size hD hG h) ⟨rfl, rfl, Nat.le_of_ble_eq_true rfl, Nat.le_of_ble_eq_true rfl⟩ rfl rfl (Nat.le_of_ble_eq_true rfl) dX8_exact_16 h1 (fun x2 S2 r2 b2 h2 => ?_)
  refine k_aload_n F dX8_exact_19 rfl 1 rfl ?_
  refine kgX8_text F dX8_exact_20 ?_
  refine k_iload_n F dX8_exact_23 rfl 0 rfl ?_
  refine k_callVi F cal_X7_sizeOf wm_467 (obC_3 cI cZ ad) (fun l D A hD hG x S' h => c_X7_sizeOf hD hG r1 h) ⟨rfl, rfl, Nat.le_of_ble_eq_true rfl, Nat.le_of_ble_eq_true rfl⟩ rfl rfl (Nat.le_of_ble_eq_true rfl) dX8_exact_24 h2 (fun x3 S3 r3 b3 h3 => ?_)
  refine k_iadd F dX8_exact_27 h3 (fun x4 r4 h4 => ?_)
  refine k_istore_n F dX8_exact_28 rfl (by decide) rfl ?_
  refine k_iload_n F dX8_exact_29 rfl 1 rfl ?_
  refine k_iconst F dX8_exact_30 ?_
  refine zj0_e (PJ := (fun S4 => zk Γ (wC cI cZ ad) (RG bsC) S4 [] 38 [])) h4 (fun S4 h5 => ?_) (fun j1 J1 h6 => ?_)
  · refine k_iconst F dX8_exact_38 ?_
    exact k_iret F hQ iR_0 dX8_exact_39 h5
  · refine k_icmp_eq F r1 iR_m1 (tgt := 38) dX8_exact_31 (by decide) h6 (fun h7 => ?_) (fun h8 => ?_)
    · exact k_sub [] rfl (J1 S3 h7)
    · refine k_iload_n F dX8_exact_34 rfl 0 rfl ?_
      refine k_if_ne F r4 (tgt := 40) dX8_exact_35 (by decide) h8 (fun h9 => ?_) (fun h10 => ?_)
      · refine k_iconst F dX8_exact_40 ?_
        refine k_aload_n F dX8_exact_41 rfl 2 rfl ?_
        refine kgX8_text F dX8_exact_42 ?_
        refine k_iload_n F dX8_exact_45 rfl 1 rfl ?_
        refine k_aload_n F dX8_exact_46 rfl 2 rfl ?_
        refine kgX8_pad F dX8_exact_47 ?_
        refine k_callVi F cal_X7_likeness wm_468 (obC_3 cI cZ ad) (fun l D A hD hG x S' h => c_X7_likeness hD hG r1 h) ⟨rfl, rfl, Nat.le_of_ble_eq_true rfl, Nat.le_of_ble_eq_true rfl⟩ rfl rfl (Nat.le_of_ble_eq_true rfl) dX8_exact_50 h9 (fun x5 S5 r5 b4 h11 => ?_)
        refine k_imul F dX8_exact_53 h11 (fun x6 r6 h12 => ?_)
        refine k_bipush F dX8_exact_54 bp_100 ?_
        refine k_imul F dX8_exact_56 h12 (fun x7 r7 h13 => ?_)
        refine k_iload_n F dX8_exact_57 rfl 0 rfl ?_
        refine k_idiv F r7 r4 dX8_exact_58 h13 (fun x8 r8 h14 => ?_)
        exact k_iret F hQ r8 dX8_exact_59 h14
      · exact k_sub [] rfl (J1 S3 h10)
