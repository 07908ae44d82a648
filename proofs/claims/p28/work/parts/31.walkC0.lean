set_option maxRecDepth 100000 in
theorem c_X0_count {l : Launch} {D : va_G} {A : Nat → Prop} {cI cZ : ClassId} {ad : Nat → Nat} (hD : ∀ S, va_D A (wC cI cZ ad S)) {S : zSt} (hG : RG bsC S) {x : Int} {S' : zSt} (h : m_X0_count S  = some (x, S')) : zMi l yX0_count cX0_count 1 .int { frames := 0, cells := 0, slots := 0, locals := 0 } D cI cZ A (wC cI cZ ad) (RG bsC) [.ref (ad 7)] S x S' := by
  refine k_start_i (by decide +kernel) hD hG (Nat.le_of_ble_eq_true rfl) (fun Γ F hQ => ?_)
  have F : zF Γ (wC cI cZ ad) cI cZ cX0_count { frames := 0, cells := 0, slots := 0, locals := 0 } 1 RX0 := F
  refine k_sub [0] (lv' := [(0, .ref (ad 7))]) rfl ?_
  refine k_aload_n F dX0_count_0 rfl 0 rfl ?_
  refine kgX0_count F dX0_count_1 h (fun x1 r1 h1 => ?_)
  exact k_iret F hQ r1 dX0_count_4 h1
set_option maxRecDepth 100000 in
theorem c_X0_isFull {l : Launch} {D : va_G} {A : Nat → Prop} {cI cZ : ClassId} {ad : Nat → Nat} (hD : ∀ S, va_D A (wC cI cZ ad S)) {S : zSt} (hG : RG bsC S) {x : Int} {S' : zSt} (h : m_X0_isFull S  = some (x, S')) : zMi l yX0_isFull cX0_isFull 1 .boolean { frames := 0, cells := 0, slots := 0, locals := 0 } D cI cZ A (wC cI cZ ad) (RG bsC) [.ref (ad 7)] S x S' := by
  refine k_start_i (by decide +kernel) hD hG (Nat.le_of_ble_eq_true rfl) (fun Γ F hQ => ?_)
  have F : zF Γ (wC cI cZ ad) cI cZ cX0_isFull { frames := 0, cells := 0, slots := 0, locals := 0 } 1 RX0 := F
  refine k_sub [0] (lv' := [(0, .ref (ad 7))]) rfl ?_
  refine k_aload_n F dX0_isFull_0 rfl 0 rfl ?_
  refine kgX0_count F dX0_isFull_1 h (fun x1 r1 h1 => ?_)
  refine k_bipush F dX0_isFull_4 bp_12 ?_
  refine k_icmp_lt F r1 iR_12 (tgt := 13) dX0_isFull_6 (by decide) h1 (fun h2 => ?_) (fun h3 => ?_)
  · refine k_iconst F dX0_isFull_13 ?_
    exact k_zret F hQ (Or.inl rfl) dX0_isFull_14 h2
  · refine k_iconst F dX0_isFull_9 ?_
    refine k_goto F (tgt := 14) dX0_isFull_10 (by decide) ?_
    exact k_zret F hQ (Or.inr rfl) dX0_isFull_14 h3
set_option maxRecDepth 100000 in
theorem c_X0_has {l : Launch} {D : va_G} {A : Nat → Prop} {cI cZ : ClassId} {ad : Nat → Nat} (hD : ∀ S, va_D A (wC cI cZ ad S)) {S : zSt} (hG : RG bsC S) {a1 : Int} (ra1 : inR a1) {x : Int} {S' : zSt} (h : m_X0_has S a1 = some (x, S')) : zMi l yX0_has cX0_has 2 .boolean { frames := 0, cells := 0, slots := 0, locals := 0 } D cI cZ A (wC cI cZ ad) (RG bsC) [.ref (ad 7), .int (zI a1)] S x S' := by
  refine k_start_i (by decide +kernel) hD hG (Nat.le_of_ble_eq_true rfl) (fun Γ F hQ => ?_)
  have F : zF Γ (wC cI cZ ad) cI cZ cX0_has { frames := 0, cells := 0, slots := 0, locals := 0 } 2 RX0 := F
  refine k_sub [0, 1] (lv' := [(0, .ref (ad 7)), (1, .int (zI a1))]) rfl ?_
  refine k_iload_n F dX0_has_0 rfl 1 rfl ?_
  refine zj0_e (PJ := (fun S1 => zk Γ (wC cI cZ ad) (RG bsC) S1 [] 16 [])) h (fun S1 h1 => ?_) (fun j1 J1 h2 => ?_)
  · refine k_iconst F dX0_has_16 ?_
    exact k_zret F hQ (Or.inl rfl) dX0_has_17 h1
  · refine k_if_lt F ra1 (tgt := 16) dX0_has_1 (by decide) h2 (fun h3 => ?_) (fun h4 => ?_)
    · exact k_sub [] rfl (J1 S h3)
    · refine k_iload_n F dX0_has_4 rfl 1 rfl ?_
      refine k_aload_n F dX0_has_5 rfl 0 rfl ?_
      refine kgX0_count F dX0_has_6 h4 (fun x1 r1 h5 => ?_)
      refine k_icmp_ge F ra1 r1 (tgt := 16) dX0_has_9 (by decide) h5 (fun h6 => ?_) (fun h7 => ?_)
      · exact k_sub [] rfl (J1 S h6)
      · refine k_iconst F dX0_has_12 ?_
        refine k_goto F (tgt := 17) dX0_has_13 (by decide) ?_
        exact k_zret F hQ (Or.inr rfl) dX0_has_17 h7
set_option maxRecDepth 100000 in
theorem c_X0_add {l : Launch} {D : va_G} {A : Nat → Prop} {cI cZ : ClassId} {ad : Nat → Nat} (hD : ∀ S, va_D A (wC cI cZ ad S)) {S : zSt} (hG : RG bsC S) {a1 : Int} (ra1 : inR a1) {a2 : Int} (ra2 : inR a2) {a3 : Int} (ra3 : inR a3) {x : Int} {S' : zSt} (h : m_X0_add S a1 a2 a3 = some (x, S')) : zMv l yX0_add cX0_add 4 { frames := 1, cells := 0, slots := 0, locals := 20 } D cI cZ A (wC cI cZ ad) (RG bsC) [.ref (ad 7), .int (zI a1), .int (zI a2), .int (zI a3)] S S' := by
  refine k_start_v (by decide +kernel) hD hG (Nat.le_of_ble_eq_true rfl) (fun Γ F hQ => ?_)
  have F : zF Γ (wC cI cZ ad) cI cZ cX0_add { frames := 1, cells := 0, slots := 0, locals := 20 } 4 RX0 := F
  refine k_sub [0, 1, 2, 3] (lv' := [(0, .ref (ad 7)), (1, .int (zI a1)), (2, .int (zI a2)), (3, .int (zI a3))]) rfl ?_
  refine k_aload_n F dX0_add_0 rfl 0 rfl ?_
  refine k_callVi F cal_X0_isFull wm_107 (obC_7 cI cZ ad) (fun l D A hD hG x S' h => c_X0_isFull hD hG h) ⟨rfl, rfl, Nat.le_of_ble_eq_true rfl, Nat.le_of_ble_eq_true rfl⟩ rfl rfl (Nat.le_of_ble_eq_true rfl) dX0_add_1 h (fun x1 S1 r1 b1 h1 => ?_)
  refine k_if_ne F r1 (tgt := 47) dX0_add_4 (by decide) h1 (fun h2 => ?_) (fun h3 => ?_)
  · exact k_vret F hQ dX0_add_47 h2
  · refine k_aload_n F dX0_add_7 rfl 0 rfl ?_
    refine kgX0_years F dX0_add_8 ?_
    refine k_aload_n F dX0_add_11 rfl 0 rfl ?_
    refine kgX0_count F dX0_add_12 h3 (fun x2 r2 h4 => ?_)
    refine k_iload_n F dX0_add_15 rfl 1 rfl ?_
    refine k_iast F rfl 8 (aC_4 cI cZ ad) (sC_4 cI cZ ad) (by decide) r2 ra1 dX0_add_16 h4 (fun S2 h5 => ?_)
    refine k_aload_n F dX0_add_17 rfl 0 rfl ?_
    refine kgX0_schools F dX0_add_18 ?_
    refine k_aload_n F dX0_add_21 rfl 0 rfl ?_
    refine kgX0_count F dX0_add_22 h5 (fun x3 r3 h6 => ?_)
    refine k_iload_n F dX0_add_25 rfl 2 rfl ?_
    refine k_iast F rfl 9 (aC_5 cI cZ ad) (sC_5 cI cZ ad) (by decide) r3 ra2 dX0_add_26 h6 (fun S3 h7 => ?_)
    refine k_aload_n F dX0_add_27 rfl 0 rfl ?_
    refine kgX0_initials F dX0_add_28 ?_
    refine k_aload_n F dX0_add_31 rfl 0 rfl ?_
    refine kgX0_count F dX0_add_32 h7 (fun x4 r4 h8 => ?_)
    refine k_iload_n F dX0_add_35 rfl 3 rfl ?_
    refine k_iast F rfl 10 (aC_6 cI cZ ad) (sC_6 cI cZ ad) (by decide) r4 ra3 dX0_add_36 h8 (fun S4 h9 => ?_)
    refine k_aload_n F dX0_add_37 rfl 0 rfl ?_
    refine k_dup F dX0_add_38 rfl ?_
    refine kgX0_count F dX0_add_39 h9 (fun x5 r5 h10 => ?_)
    refine k_iconst F dX0_add_42 ?_
    refine k_iadd F dX0_add_43 h10 (fun x6 r6 h11 => ?_)
    refine kpX0_count F r6 dX0_add_44 h11 (fun S5 h12 => ?_)
    exact k_vret F hQ dX0_add_47 h12
set_option maxRecDepth 100000 in
theorem c_X1_isFull {l : Launch} {D : va_G} {A : Nat → Prop} {cI cZ : ClassId} {ad : Nat → Nat} (hD : ∀ S, va_D A (wC cI cZ ad S)) {S : zSt} (hG : RG bsC S) {x : Int} {S' : zSt} (h : m_X1_isFull S  = some (x, S')) : zMi l yX1_isFull cX1_isFull 1 .boolean { frames := 0, cells := 0, slots := 0, locals := 0 } D cI cZ A (wC cI cZ ad) (RG bsC) [.ref (ad 11)] S x S' := by
  refine k_start_i (by decide +kernel) hD hG (Nat.le_of_ble_eq_true rfl) (fun Γ F hQ => ?_)
  have F : zF Γ (wC cI cZ ad) cI cZ cX1_isFull { frames := 0, cells := 0, slots := 0, locals := 0 } 1 RX1 := F
  refine k_sub [0] (lv' := [(0, .ref (ad 11))]) rfl ?_
  refine k_aload_n F dX1_isFull_0 rfl 0 rfl ?_
  refine kgX1_count F dX1_isFull_1 h (fun x1 r1 h1 => ?_)
  refine k_bipush F dX1_isFull_4 bp_60 ?_
  refine k_icmp_lt F r1 iR_60 (tgt := 13) dX1_isFull_6 (by decide) h1 (fun h2 => ?_) (fun h3 => ?_)
  · refine k_iconst F dX1_isFull_13 ?_
    exact k_zret F hQ (Or.inl rfl) dX1_isFull_14 h2
  · refine k_iconst F dX1_isFull_9 ?_
    refine k_goto F (tgt := 14) dX1_isFull_10 (by decide) ?_
    exact k_zret F hQ (Or.inr rfl) dX1_isFull_14 h3
set_option maxRecDepth 100000 in
theorem c_X1_has {l : Launch} {D : va_G} {A : Nat → Prop} {cI cZ : ClassId} {ad : Nat → Nat} (hD : ∀ S, va_D A (wC cI cZ ad S)) {S : zSt} (hG : RG bsC S) {a1 : Int} (ra1 : inR a1) {x : Int} {S' : zSt} (h : m_X1_has S a1 = some (x, S')) : zMi l yX1_has cX1_has 2 .boolean { frames := 0, cells := 0, slots := 0, locals := 0 } D cI cZ A (wC cI cZ ad) (RG bsC) [.ref (ad 11), .int (zI a1)] S x S' := by
  refine k_start_i (by decide +kernel) hD hG (Nat.le_of_ble_eq_true rfl) (fun Γ F hQ => ?_)
  have F : zF Γ (wC cI cZ ad) cI cZ cX1_has { frames := 0, cells := 0, slots := 0, locals := 0 } 2 RX1 := F
  refine k_sub [0, 1] (lv' := [(0, .ref (ad 11)), (1, .int (zI a1))]) rfl ?_
  refine k_iload_n F dX1_has_0 rfl 1 rfl ?_
  refine zj0_e (PJ := (fun S1 => zk Γ (wC cI cZ ad) (RG bsC) S1 [] 16 [])) h (fun S1 h1 => ?_) (fun j1 J1 h2 => ?_)
  · refine k_iconst F dX1_has_16 ?_
    exact k_zret F hQ (Or.inl rfl) dX1_has_17 h1
  · refine k_if_lt F ra1 (tgt := 16) dX1_has_1 (by decide) h2 (fun h3 => ?_) (fun h4 => ?_)
    · exact k_sub [] rfl (J1 S h3)
    · refine k_iload_n F dX1_has_4 rfl 1 rfl ?_
      refine k_aload_n F dX1_has_5 rfl 0 rfl ?_
      refine kgX1_count F dX1_has_6 h4 (fun x1 r1 h5 => ?_)
      refine k_icmp_ge F ra1 r1 (tgt := 16) dX1_has_9 (by decide) h5 (fun h6 => ?_) (fun h7 => ?_)
      · exact k_sub [] rfl (J1 S h6)
      · refine k_iconst F dX1_has_12 ?_
        refine k_goto F (tgt := 17) dX1_has_13 (by decide) ?_
        exact k_zret F hQ (Or.inr rfl) dX1_has_17 h7
set_option maxRecDepth 100000 in
theorem c_X1_add {l : Launch} {D : va_G} {A : Nat → Prop} {cI cZ : ClassId} {ad : Nat → Nat} (hD : ∀ S, va_D A (wC cI cZ ad S)) {S : zSt} (hG : RG bsC S) {a1 : Int} (ra1 : inR a1) {a2 : Int} (ra2 : inR a2) {a3 : Int} (ra3 : inR a3) {a4 : Int} (ra4 : inR a4) {x : Int} {S' : zSt} (h : m_X1_add S a1 a2 a3 a4 = some (x, S')) : zMi l yX1_add cX1_add 5 .int { frames := 1, cells := 0, slots := 0, locals := 20 } D cI cZ A (wC cI cZ ad) (RG bsC) [.ref (ad 11), .int (zI a1), .int (zI a2), .int (zI a3), .int (zI a4)] S x S' := by
  refine k_start_i (by decide +kernel) hD hG (Nat.le_of_ble_eq_true rfl) (fun Γ F hQ => ?_)
  have F : zF Γ (wC cI cZ ad) cI cZ cX1_add { frames := 1, cells := 0, slots := 0, locals := 20 } 5 RX1 := F
  refine k_sub [0, 1, 2, 3, 4] (lv' := [(0, .ref (ad 11)), (1, .int (zI a1)), (2, .int (zI a2)), (3, .int (zI a3)), (4, .int (zI a4))]) rfl ?_
  refine k_aload_n F dX1_add_0 rfl 0 rfl ?_
  refine k_callVi F cal_X1_isFull wm_112 (obC_11 cI cZ ad) (fun l D A hD hG x S' h => c_X1_isFull hD hG h) ⟨rfl, rfl, Nat.le_of_ble_eq_true rfl, Nat.le_of_ble_eq_true rfl⟩ rfl rfl (Nat.le_of_ble_eq_true rfl) dX1_add_1 h (fun x1 S1 r1 b1 h1 => ?_)
  refine k_if_eq F r1 (tgt := 9) dX1_add_4 (by decide) h1 (fun h2 => ?_) (fun h3 => ?_)
  · refine k_aload_n F dX1_add_9 rfl 0 rfl ?_
    refine kgX1_writers F dX1_add_10 ?_
    refine k_aload_n F dX1_add_13 rfl 0 rfl ?_
    refine kgX1_count F dX1_add_14 h2 (fun x2 r2 h4 => ?_)
    refine k_iload_n F dX1_add_17 rfl 1 rfl ?_
    refine k_iast F rfl 12 (aC_7 cI cZ ad) (sC_7 cI cZ ad) (by decide) r2 ra1 dX1_add_18 h4 (fun S2 h5 => ?_)
    refine k_aload_n F dX1_add_19 rfl 0 rfl ?_
    refine kgX1_kinds F dX1_add_20 ?_
    refine k_aload_n F dX1_add_23 rfl 0 rfl ?_
    refine kgX1_count F dX1_add_24 h5 (fun x3 r3 h6 => ?_)
    refine k_iload_n F dX1_add_27 rfl 2 rfl ?_
    refine k_iast F rfl 13 (aC_8 cI cZ ad) (sC_8 cI cZ ad) (by decide) r3 ra2 dX1_add_28 h6 (fun S3 h7 => ?_)
    refine k_aload_n F dX1_add_29 rfl 0 rfl ?_
    refine kgX1_lines F dX1_add_30 ?_
    refine k_aload_n F dX1_add_33 rfl 0 rfl ?_
    refine kgX1_count F dX1_add_34 h7 (fun x4 r4 h8 => ?_)
    refine k_iload_n F dX1_add_37 rfl 3 rfl ?_
    refine k_iast F rfl 14 (aC_9 cI cZ ad) (sC_9 cI cZ ad) (by decide) r4 ra3 dX1_add_38 h8 (fun S4 h9 => ?_)
    refine k_aload_n F dX1_add_39 rfl 0 rfl ?_
    refine kgX1_margins F dX1_add_40 ?_
    refine k_aload_n F dX1_add_43 rfl 0 rfl ?_
    refine kgX1_count F dX1_add_44 h9 (fun x5 r5 h10 => ?_)
    refine k_iload F dX1_add_47 4 rfl ?_
    refine k_iast F rfl 15 (aC_10 cI cZ ad) (sC_10 cI cZ ad) (by decide) r5 ra4 dX1_add_49 h10 (fun S5 h11 => ?_)
    refine k_aload_n F dX1_add_50 rfl 0 rfl ?_
    refine k_dup F dX1_add_51 rfl ?_
    refine kgX1_count F dX1_add_52 h11 (fun x6 r6 h12 => ?_)
    refine k_iconst F dX1_add_55 ?_
    refine k_iadd F dX1_add_56 h12 (fun x7 r7 h13 => ?_)
    refine kpX1_count F r7 dX1_add_57 h13 (fun S6 h14 => ?_)
    refine k_aload_n F dX1_add_60 rfl 0 rfl ?_
    refine kgX1_count F dX1_add_61 h14 (fun x8 r8 h15 => ?_)
    refine k_iconst F dX1_add_64 ?_
    refine k_isub F dX1_add_65 h15 (fun x9 r9 h16 => ?_)
    exact k_iret F hQ r9 dX1_add_66 h16
  · refine k_iconst F dX1_add_7 ?_
    exact k_iret F hQ iR_m1 dX1_add_8 h3
set_option maxRecDepth 100000 in
theorem c_X1_hookTo {l : Launch} {D : va_G} {A : Nat → Prop} {cI cZ : ClassId} {ad : Nat → Nat} (hD : ∀ S, va_D A (wC cI cZ ad S)) {S : zSt} (hG : RG bsC S) {a1 : Int} (ra1 : inR a1) {a2 : Int} (ra2 : inR a2) {a3 : Int} (ra3 : inR a3) {a4 : Int} (ra4 : inR a4) {x : Int} {S' : zSt} (h : m_X1_hookTo S a1 a2 a3 a4 = some (x, S')) : zMv l yX1_hookTo cX1_hookTo 5 { frames := 1, cells := 0, slots := 0, locals := 21 } D cI cZ A (wC cI cZ ad) (RG bsC) [.ref (ad 11), .int (zI a1), .int (zI a2), .int (zI a3), .int (zI a4)] S S' := by
  refine k_start_v (by decide +kernel) hD hG (Nat.le_of_ble_eq_true rfl) (fun Γ F hQ => ?_)
  have F : zF Γ (wC cI cZ ad) cI cZ cX1_hookTo { frames := 1, cells := 0, slots := 0, locals := 21 } 5 RX1 := F
  refine k_sub [0, 1, 2, 3, 4] (lv' := [(0, .ref (ad 11)), (1, .int (zI a1)), (2, .int (zI a2)), (3, .int (zI a3)), (4, .int (zI a4))]) rfl ?_
  refine k_aload_n F dX1_hookTo_0 rfl 0 rfl ?_
  refine k_iload_n F dX1_hookTo_1 rfl 1 rfl ?_
  refine k_callVi F cal_X1_has wm_116 (obC_11 cI cZ ad) (fun l D A hD hG x S' h => c_X1_has hD hG ra1 h) ⟨rfl, rfl, Nat.le_of_ble_eq_true rfl, Nat.le_of_ble_eq_true rfl⟩ rfl rfl (Nat.le_of_ble_eq_true rfl) dX1_hookTo_2 h (fun x1 S1 r1 b1 h1 => ?_)
  refine k_if_eq F r1 (tgt := 44) dX1_hookTo_5 (by decide) h1 (fun h2 => ?_) (fun h3 => ?_)
  · exact k_vret F hQ dX1_hookTo_44 h2
  · refine k_aload_n F dX1_hookTo_8 rfl 0 rfl ?_
    refine kgX1_parents F dX1_hookTo_9 ?_
    refine k_iload_n F dX1_hookTo_12 rfl 1 rfl ?_
    refine k_iconst F dX1_hookTo_13 ?_
    refine k_iast F rfl 16 (aC_11 cI cZ ad) (sC_11 cI cZ ad) (by decide) ra1 iR_m1 dX1_hookTo_14 h3 (fun S2 h4 => ?_)
    refine k_aload_n F dX1_hookTo_15 rfl 0 rfl ?_
    refine kgX1_roots F dX1_hookTo_16 ?_
    refine k_iload_n F dX1_hookTo_19 rfl 1 rfl ?_
    refine k_iload_n F dX1_hookTo_20 rfl 1 rfl ?_
    refine k_iast F rfl 17 (aC_12 cI cZ ad) (sC_12 cI cZ ad) (by decide) ra1 ra1 dX1_hookTo_21 h4 (fun S3 h5 => ?_)
    refine k_aload_n F dX1_hookTo_22 rfl 0 rfl ?_
    refine kgX1_units F dX1_hookTo_23 ?_
    refine k_iload_n F dX1_hookTo_26 rfl 1 rfl ?_
    refine k_iload_n F dX1_hookTo_27 rfl 2 rfl ?_
    refine k_iast F rfl 18 (aC_13 cI cZ ad) (sC_13 cI cZ ad) (by decide) ra1 ra2 dX1_hookTo_28 h5 (fun S4 h6 => ?_)
    refine k_aload_n F dX1_hookTo_29 rfl 0 rfl ?_
    refine kgX1_places F dX1_hookTo_30 ?_
    refine k_iload_n F dX1_hookTo_33 rfl 1 rfl ?_
    refine k_iload_n F dX1_hookTo_34 rfl 3 rfl ?_
    refine k_iast F rfl 19 (aC_14 cI cZ ad) (sC_14 cI cZ ad) (by decide) ra1 ra3 dX1_hookTo_35 h6 (fun S5 h7 => ?_)
    refine k_aload_n F dX1_hookTo_36 rfl 0 rfl ?_
    refine kgX1_words F dX1_hookTo_37 ?_
    refine k_iload_n F dX1_hookTo_40 rfl 1 rfl ?_
    refine k_iload F dX1_hookTo_41 4 rfl ?_
    refine k_iast F rfl 20 (aC_15 cI cZ ad) (sC_15 cI cZ ad) (by decide) ra1 ra4 dX1_hookTo_43 h7 (fun S6 h8 => ?_)
    exact k_vret F hQ dX1_hookTo_44 h8
set_option maxRecDepth 100000 in
theorem c_X1_authorOf {l : Launch} {D : va_G} {A : Nat → Prop} {cI cZ : ClassId} {ad : Nat → Nat} (hD : ∀ S, va_D A (wC cI cZ ad S)) {S : zSt} (hG : RG bsC S) {a1 : Int} (ra1 : inR a1) {x : Int} {S' : zSt} (h : m_X1_authorOf S a1 = some (x, S')) : zMi l yX1_authorOf cX1_authorOf 2 .int { frames := 1, cells := 0, slots := 0, locals := 21 } D cI cZ A (wC cI cZ ad) (RG bsC) [.ref (ad 11), .int (zI a1)] S x S' := by
  refine k_start_i (by decide +kernel) hD hG (Nat.le_of_ble_eq_true rfl) (fun Γ F hQ => ?_)
  have F : zF Γ (wC cI cZ ad) cI cZ cX1_authorOf { frames := 1, cells := 0, slots := 0, locals := 21 } 2 RX1 := F
  refine k_sub [0, 1] (lv' := [(0, .ref (ad 11)), (1, .int (zI a1))]) rfl ?_
  refine k_aload_n F dX1_authorOf_0 rfl 0 rfl ?_
  refine kgX1_writers F dX1_authorOf_1 ?_
  refine k_iload_n F dX1_authorOf_4 rfl 1 rfl ?_
  refine k_callNi F cal_X8_at nw_X1_58 (fun l D A hD hG x S' h => c_at hD hG 12 (aC_7 cI cZ ad) (by decide) (by decide) ra1 h) ⟨rfl, rfl, Nat.le_of_ble_eq_true rfl, Nat.le_of_ble_eq_true rfl⟩ rfl rfl (Nat.le_of_ble_eq_true rfl) dX1_authorOf_5 h (fun x1 S1 r1 b1 h1 => ?_)
  exact k_iret F hQ r1 dX1_authorOf_8 h1
set_option maxRecDepth 100000 in
theorem c_X1_kindOf {l : Launch} {D : va_G} {A : Nat → Prop} {cI cZ : ClassId} {ad : Nat → Nat} (hD : ∀ S, va_D A (wC cI cZ ad S)) {S : zSt} (hG : RG bsC S) {a1 : Int} (ra1 : inR a1) {x : Int} {S' : zSt} (h : m_X1_kindOf S a1 = some (x, S')) : zMi l yX1_kindOf cX1_kindOf 2 .int { frames := 1, cells := 0, slots := 0, locals := 21 } D cI cZ A (wC cI cZ ad) (RG bsC) [.ref (ad 11), .int (zI a1)] S x S' := by
  refine k_start_i (by decide +kernel) hD hG (Nat.le_of_ble_eq_true rfl) (fun Γ F hQ => ?_)
  have F : zF Γ (wC cI cZ ad) cI cZ cX1_kindOf { frames := 1, cells := 0, slots := 0, locals := 21 } 2 RX1 := F
  refine k_sub [0, 1] (lv' := [(0, .ref (ad 11)), (1, .int (zI a1))]) rfl ?_
  refine k_aload_n F dX1_kindOf_0 rfl 0 rfl ?_
  refine kgX1_kinds F dX1_kindOf_1 ?_
  refine k_iload_n F dX1_kindOf_4 rfl 1 rfl ?_
  refine k_callNi F cal_X8_at nw_X1_58 (fun l D A hD hG x S' h => c_at hD hG 13 (aC_8 cI cZ ad) (by decide) (by decide) ra1 h) ⟨rfl, rfl, Nat.le_of_ble_eq_true rfl, Nat.le_of_ble_eq_true rfl⟩ rfl rfl (Nat.le_of_ble_eq_true rfl) dX1_kindOf_5 h (fun x1 S1 r1 b1 h1 => ?_)
  exact k_iret F hQ r1 dX1_kindOf_8 h1
set_option maxRecDepth 100000 in
theorem c_X1_parentOf {l : Launch} {D : va_G} {A : Nat → Prop} {cI cZ : ClassId} {ad : Nat → Nat} (hD : ∀ S, va_D A (wC cI cZ ad S)) {S : zSt} (hG : RG bsC S) {a1 : Int} (ra1 : inR a1) {x : Int} {S' : zSt} (h : m_X1_parentOf S a1 = some (x, S')) : zMi l yX1_parentOf cX1_parentOf 2 .int { frames := 1, cells := 0, slots := 0, locals := 21 } D cI cZ A (wC cI cZ ad) (RG bsC) [.ref (ad 11), .int (zI a1)] S x S' := by
  refine k_start_i (by decide +kernel) hD hG (Nat.le_of_ble_eq_true rfl) (fun Γ F hQ => ?_)
  have F : zF Γ (wC cI cZ ad) cI cZ cX1_parentOf { frames := 1, cells := 0, slots := 0, locals := 21 } 2 RX1 := F
  refine k_sub [0, 1] (lv' := [(0, .ref (ad 11)), (1, .int (zI a1))]) rfl ?_
  refine k_aload_n F dX1_parentOf_0 rfl 0 rfl ?_
  refine kgX1_parents F dX1_parentOf_1 ?_
  refine k_iload_n F dX1_parentOf_4 rfl 1 rfl ?_
  refine k_callNi F cal_X8_at nw_X1_58 (fun l D A hD hG x S' h => c_at hD hG 16 (aC_11 cI cZ ad) (by decide) (by decide) ra1 h) ⟨rfl, rfl, Nat.le_of_ble_eq_true rfl, Nat.le_of_ble_eq_true rfl⟩ rfl rfl (Nat.le_of_ble_eq_true rfl) dX1_parentOf_5 h (fun x1 S1 r1 b1 h1 => ?_)
  exact k_iret F hQ r1 dX1_parentOf_8 h1
set_option maxRecDepth 100000 in
theorem c_X1_unitOf {l : Launch} {D : va_G} {A : Nat → Prop} {cI cZ : ClassId} {ad : Nat → Nat} (hD : ∀ S, va_D A (wC cI cZ ad S)) {S : zSt} (hG : RG bsC S) {a1 : Int} (ra1 : inR a1) {x : Int} {S' : zSt} (h : m_X1_unitOf S a1 = some (x, S')) : zMi l yX1_unitOf cX1_unitOf 2 .int { frames := 1, cells := 0, slots := 0, locals := 21 } D cI cZ A (wC cI cZ ad) (RG bsC) [.ref (ad 11), .int (zI a1)] S x S' := by
  refine k_start_i (by decide +kernel) hD hG (Nat.le_of_ble_eq_true rfl) (fun Γ F hQ => ?_)
  have F : zF Γ (wC cI cZ ad) cI cZ cX1_unitOf { frames := 1, cells := 0, slots := 0, locals := 21 } 2 RX1 := F
  refine k_sub [0, 1] (lv' := [(0, .ref (ad 11)), (1, .int (zI a1))]) rfl ?_
  refine k_aload_n F dX1_unitOf_0 rfl 0 rfl ?_
  refine kgX1_units F dX1_unitOf_1 ?_
  refine k_aload_n F dX1_unitOf_4 rfl 0 rfl ?_
  refine kgX1_roots F dX1_unitOf_5 ?_
  refine k_iload_n F dX1_unitOf_8 rfl 1 rfl ?_
  refine k_callNi F cal_X8_at nw_X1_58 (fun l D A hD hG x S' h => c_at hD hG 17 (aC_12 cI cZ ad) (by decide) (by decide) ra1 h) ⟨rfl, rfl, Nat.le_of_ble_eq_true rfl, Nat.le_of_ble_eq_true rfl⟩ rfl rfl (Nat.le_of_ble_eq_true rfl) dX1_unitOf_9 h (fun x1 S1 r1 b1 h1 => ?_)
  refine k_callNi F cal_X8_at nw_X1_58 (fun l D A hD hG x S' h => c_at hD hG 18 (aC_13 cI cZ ad) (by decide) (by decide) r1 h) ⟨rfl, rfl, Nat.le_of_ble_eq_true rfl, Nat.le_of_ble_eq_true rfl⟩ rfl rfl (Nat.le_of_ble_eq_true rfl) dX1_unitOf_12 h1 (fun x2 S2 r2 b2 h2 => ?_)
  exact k_iret F hQ r2 dX1_unitOf_15 h2
set_option maxRecDepth 100000 in
theorem c_X1_placeOf {l : Launch} {D : va_G} {A : Nat → Prop} {cI cZ : ClassId} {ad : Nat → Nat} (hD : ∀ S, va_D A (wC cI cZ ad S)) {S : zSt} (hG : RG bsC S) {a1 : Int} (ra1 : inR a1) {x : Int} {S' : zSt} (h : m_X1_placeOf S a1 = some (x, S')) : zMi l yX1_placeOf cX1_placeOf 2 .int { frames := 1, cells := 0, slots := 0, locals := 21 } D cI cZ A (wC cI cZ ad) (RG bsC) [.ref (ad 11), .int (zI a1)] S x S' := by
  refine k_start_i (by decide +kernel) hD hG (Nat.le_of_ble_eq_true rfl) (fun Γ F hQ => ?_)
  have F : zF Γ (wC cI cZ ad) cI cZ cX1_placeOf { frames := 1, cells := 0, slots := 0, locals := 21 } 2 RX1 := F
  refine k_sub [0, 1] (lv' := [(0, .ref (ad 11)), (1, .int (zI a1))]) rfl ?_
  refine k_aload_n F dX1_placeOf_0 rfl 0 rfl ?_
  refine kgX1_places F dX1_placeOf_1 ?_
  refine k_aload_n F dX1_placeOf_4 rfl 0 rfl ?_
  refine kgX1_roots F dX1_placeOf_5 ?_
  refine k_iload_n F dX1_placeOf_8 rfl 1 rfl ?_
  refine k_callNi F cal_X8_at nw_X1_58 (fun l D A hD hG x S' h => c_at hD hG 17 (aC_12 cI cZ ad) (by decide) (by decide) ra1 h) ⟨rfl, rfl, Nat.le_of_ble_eq_true rfl, Nat.le_of_ble_eq_true rfl⟩ rfl rfl (Nat.le_of_ble_eq_true rfl) dX1_placeOf_9 h (fun x1 S1 r1 b1 h1 => ?_)
  refine k_callNi F cal_X8_at nw_X1_58 (fun l D A hD hG x S' h => c_at hD hG 19 (aC_14 cI cZ ad) (by decide) (by decide) r1 h) ⟨rfl, rfl, Nat.le_of_ble_eq_true rfl, Nat.le_of_ble_eq_true rfl⟩ rfl rfl (Nat.le_of_ble_eq_true rfl) dX1_placeOf_12 h1 (fun x2 S2 r2 b2 h2 => ?_)
  exact k_iret F hQ r2 dX1_placeOf_15 h2
set_option maxRecDepth 100000 in
theorem c_X1_isLost {l : Launch} {D : va_G} {A : Nat → Prop} {cI cZ : ClassId} {ad : Nat → Nat} (hD : ∀ S, va_D A (wC cI cZ ad S)) {S : zSt} (hG : RG bsC S) {a1 : Int} (ra1 : inR a1) {x : Int} {S' : zSt} (h : m_X1_isLost S a1 = some (x, S')) : zMi l yX1_isLost cX1_isLost 3 .boolean { frames := 1, cells := 0, slots := 0, locals := 21 } D cI cZ A (wC cI cZ ad) (RG bsC) [.ref (ad 11), .int (zI a1)] S x S' := by
  refine k_start_i (by decide +kernel) hD hG (Nat.le_of_ble_eq_true rfl) (fun Γ F hQ => ?_)
  have F : zF Γ (wC cI cZ ad) cI cZ cX1_isLost { frames := 1, cells := 0, slots := 0, locals := 21 } 3 RX1 := F
  refine k_sub [0, 1] (lv' := [(0, .ref (ad 11)), (1, .int (zI a1))]) rfl ?_
  refine k_aload_n F dX1_isLost_0 rfl 0 rfl ?_
  refine kgX1_roots F dX1_isLost_1 ?_
  refine k_iload_n F dX1_isLost_4 rfl 1 rfl ?_
  refine k_callNi F cal_X8_at nw_X1_58 (fun l D A hD hG x S' h => c_at hD hG 17 (aC_12 cI cZ ad) (by decide) (by decide) ra1 h) ⟨rfl, rfl, Nat.le_of_ble_eq_true rfl, Nat.le_of_ble_eq_true rfl⟩ rfl rfl (Nat.le_of_ble_eq_true rfl) dX1_isLost_5 h (fun x1 S1 r1 b1 h1 => ?_)
  refine k_istore_n F dX1_isLost_8 rfl (by decide) rfl ?_
  refine k_aload_n F dX1_isLost_9 rfl 1 rfl ?_
  refine k_iload_n F dX1_isLost_10 rfl 0 rfl ?_
  refine k_callVi F cal_X1_has wm_116 (obC_11 cI cZ ad) (fun l D A hD hG x S' h => c_X1_has hD hG r1 h) ⟨rfl, rfl, Nat.le_of_ble_eq_true rfl, Nat.le_of_ble_eq_true rfl⟩ rfl rfl (Nat.le_of_ble_eq_true rfl) dX1_isLost_11 h1 (fun x2 S2 r2 b2 h2 => ?_)
  refine zj0_e (PJ := (fun S3 => zk Γ (wC cI cZ ad) (RG bsC) S3 [] 30 [])) h2 (fun S3 h3 => ?_) (fun j1 J1 h4 => ?_)
  · refine k_iconst F dX1_isLost_30 ?_
    exact k_zret F hQ (Or.inl rfl) dX1_isLost_31 h3
  · refine k_if_eq F r2 (tgt := 30) dX1_isLost_14 (by decide) h4 (fun h5 => ?_) (fun h6 => ?_)
    · exact k_sub [] rfl (J1 S2 h5)
    · refine k_aload_n F dX1_isLost_17 rfl 1 rfl ?_
      refine kgX1_lost F dX1_isLost_18 ?_
      refine k_iload_n F dX1_isLost_21 rfl 0 rfl ?_
      refine k_zald01 F rfl 21 (by decide) (aC_16 cI cZ ad) r1 dX1_isLost_22 h6 (fun x3 r3 z1 h7 => ?_)
      refine k_if_eq F r3 (tgt := 30) dX1_isLost_23 (by decide) h7 (fun h8 => ?_) (fun h9 => ?_)
      · exact k_sub [] rfl (J1 S2 h8)
      · refine k_iconst F dX1_isLost_26 ?_
        refine k_goto F (tgt := 31) dX1_isLost_27 (by decide) ?_
        exact k_zret F hQ (Or.inr rfl) dX1_isLost_31 h9
set_option maxRecDepth 100000 in
theorem c_X1_isHook {l : Launch} {D : va_G} {A : Nat → Prop} {cI cZ : ClassId} {ad : Nat → Nat} (hD : ∀ S, va_D A (wC cI cZ ad S)) {S : zSt} (hG : RG bsC S) {a1 : Int} (ra1 : inR a1) {a2 : Int} (ra2 : inR a2) {x : Int} {S' : zSt} (h : m_X1_isHook S a1 a2 = some (x, S')) : zMi l yX1_isHook cX1_isHook 3 .boolean { frames := 1, cells := 0, slots := 0, locals := 21 } D cI cZ A (wC cI cZ ad) (RG bsC) [.ref (ad 11), .int (zI a1), .int (zI a2)] S x S' := by
  refine k_start_i (by decide +kernel) hD hG (Nat.le_of_ble_eq_true rfl) (fun Γ F hQ => ?_)
  have F : zF Γ (wC cI cZ ad) cI cZ cX1_isHook { frames := 1, cells := 0, slots := 0, locals := 21 } 3 RX1 := F
  refine k_sub [0, 1, 2] (lv' := [(0, .ref (ad 11)), (1, .int (zI a1)), (2, .int (zI a2))]) rfl ?_
  refine k_aload_n F dX1_isHook_0 rfl 0 rfl ?_
  refine k_iload_n F dX1_isHook_1 rfl 1 rfl ?_
  refine k_callVi F cal_X1_has wm_116 (obC_11 cI cZ ad) (fun l D A hD hG x S' h => c_X1_has hD hG ra1 h) ⟨rfl, rfl, Nat.le_of_ble_eq_true rfl, Nat.le_of_ble_eq_true rfl⟩ rfl rfl (Nat.le_of_ble_eq_true rfl) dX1_isHook_2 h (fun x1 S1 r1 b1 h1 => ?_)
  refine zj0_e (PJ := (fun S2 => zk Γ (wC cI cZ ad) (RG bsC) S2 [] 32 [])) h1 (fun S2 h2 => ?_) (fun j1 J1 h3 => ?_)
  · refine k_iconst F dX1_isHook_32 ?_
    exact k_zret F hQ (Or.inl rfl) dX1_isHook_33 h2
  · refine k_if_eq F r1 (tgt := 32) dX1_isHook_5 (by decide) h3 (fun h4 => ?_) (fun h5 => ?_)
    · exact k_sub [] rfl (J1 S1 h4)
    · refine k_aload_n F dX1_isHook_8 rfl 0 rfl ?_
      refine kgX1_parents F dX1_isHook_9 ?_
      refine k_iload_n F dX1_isHook_12 rfl 1 rfl ?_
      refine k_iald F rfl 16 (aC_11 cI cZ ad) ra1 dX1_isHook_13 h5 (fun x2 r2 h6 => ?_)
      refine k_iconst F dX1_isHook_14 ?_
      refine k_icmp_ne F r2 iR_m1 (tgt := 32) dX1_isHook_15 (by decide) h6 (fun h7 => ?_) (fun h8 => ?_)
      · exact k_sub [] rfl (J1 S1 h7)
      · refine k_aload_n F dX1_isHook_18 rfl 0 rfl ?_
        refine kgX1_units F dX1_isHook_19 ?_
        refine k_iload_n F dX1_isHook_22 rfl 1 rfl ?_
        refine k_iald F rfl 18 (aC_13 cI cZ ad) ra1 dX1_isHook_23 h8 (fun x3 r3 h9 => ?_)
        refine k_iload_n F dX1_isHook_24 rfl 2 rfl ?_
        refine k_icmp_ne F r3 ra2 (tgt := 32) dX1_isHook_25 (by decide) h9 (fun h10 => ?_) (fun h11 => ?_)
        · exact k_sub [] rfl (J1 S1 h10)
        · refine k_iconst F dX1_isHook_28 ?_
          refine k_goto F (tgt := 33) dX1_isHook_29 (by decide) ?_
          exact k_zret F hQ (Or.inr rfl) dX1_isHook_33 h11
set_option maxRecDepth 100000 in
theorem c_X1_closeGap {l : Launch} {D : va_G} {A : Nat → Prop} {cI cZ : ClassId} {ad : Nat → Nat} (hD : ∀ S, va_D A (wC cI cZ ad S)) {S : zSt} (hG : RG bsC S) {a1 : Int} (ra1 : inR a1) {a2 : Int} (ra2 : inR a2) {a3 : Int} (ra3 : inR a3) {x : Int} {S' : zSt} (h : m_X1_closeGap S a1 a2 a3 = some (x, S')) : zMv l yX1_closeGap cX1_closeGap 6 { frames := 2, cells := 0, slots := 0, locals := 43 } D cI cZ A (wC cI cZ ad) (RG bsC) [.ref (ad 11), .int (zI a1), .int (zI a2), .int (zI a3)] S S' := by
  refine k_start_v (by decide +kernel) hD hG (Nat.le_of_ble_eq_true rfl) (fun Γ F hQ => ?_)
  have F : zF Γ (wC cI cZ ad) cI cZ cX1_closeGap { frames := 2, cells := 0, slots := 0, locals := 43 } 6 RX1 := F
  refine k_sub [0, 1, 2, 3] (lv' := [(0, .ref (ad 11)), (1, .int (zI a1)), (2, .int (zI a2)), (3, .int (zI a3))]) rfl ?_
  refine k_iconst F dX1_closeGap_0 ?_
  refine k_istore F dX1_closeGap_1 (by decide) rfl ?_
  refine k_sub [1, 2, 3, 4, 0] rfl (zl1_e (F := (b_X1_closeGap_3 a1 a2 a3)) (fun v1 S1 => inR v1 → zk Γ (wC cI cZ ad) (RG bsC) S1 [(0, .ref (ad 11)), (1, .int (zI a1)), (2, .int (zI a2)), (3, .int (zI a3)), (4, .int (zI v1))] 3 []) (fun rec1 v1 S1 hrec1 h1 r1 => ?_) 1000 0 S h iR_0)
  refine k_iload F dX1_closeGap_3 4 rfl ?_
  refine k_aload_n F dX1_closeGap_5 rfl 0 rfl ?_
  refine kgX1_count F dX1_closeGap_6 h1 (fun x1 r2 h2 => ?_)
  refine k_icmp_ge F r1 r2 (tgt := 63) dX1_closeGap_9 (by decide) h2 (fun h3 => ?_) (fun h4 => ?_)
  · exact k_vret F hQ dX1_closeGap_63 h3
  · refine k_aload_n F dX1_closeGap_12 rfl 0 rfl ?_
    refine k_iload F dX1_closeGap_13 4 rfl ?_
    refine k_iload_n F dX1_closeGap_15 rfl 1 rfl ?_
    refine k_callVi F cal_X1_isHook wm_123 (obC_11 cI cZ ad) (fun l D A hD hG x S' h => c_X1_isHook hD hG r1 ra1 h) ⟨rfl, rfl, Nat.le_of_ble_eq_true rfl, Nat.le_of_ble_eq_true rfl⟩ rfl rfl (Nat.le_of_ble_eq_true rfl) dX1_closeGap_16 h4 (fun x2 S2 r3 b1 h5 => ?_)
    refine zj0_e (PJ := (fun S3 => zk Γ (wC cI cZ ad) (RG bsC) S3 [(0, .ref (ad 11)), (1, .int (zI a1)), (2, .int (zI a2)), (3, .int (zI a3)), (4, .int (zI v1))] 57 [])) h5 (fun S3 h6 => ?_) (fun j1 J1 h8 => ?_)
    · refine k_iinc F (k := 4) (lv' := fun y => [(4, .int (zI y)), (0, .ref (ad 11)), (1, .int (zI a1)), (2, .int (zI a2)), (3, .int (zI a3))]) dX1_closeGap_57 rfl (by decide) (fun _ => rfl) h6 (fun x3 r4 h7 => ?_)
      refine k_goto F (tgt := 3) dX1_closeGap_60 (by decide) ?_
      exact k_sub [1, 2, 3, 4, 0] rfl (hrec1 x3 S3 h7 r4)
    · refine k_if_eq F r3 (tgt := 57) dX1_closeGap_19 (by decide) h8 (fun h9 => ?_) (fun h10 => ?_)
      · exact k_sub [0, 1, 2, 3, 4] rfl (J1 S2 h9)
      · refine k_aload_n F dX1_closeGap_22 rfl 0 rfl ?_
        refine kgX1_places F dX1_closeGap_23 ?_
        refine k_iload F dX1_closeGap_26 4 rfl ?_
        refine k_iald F rfl 19 (aC_14 cI cZ ad) r1 dX1_closeGap_28 h10 (fun x4 r5 h11 => ?_)
        refine k_istore F dX1_closeGap_29 (by decide) rfl ?_
        refine k_aload_n F dX1_closeGap_31 rfl 1 rfl ?_
        refine kgX1_places F dX1_closeGap_32 ?_
        refine k_iload F dX1_closeGap_35 5 rfl ?_
        refine k_iload F dX1_closeGap_37 0 rfl ?_
        refine k_iload_n F dX1_closeGap_39 rfl 3 rfl ?_
        refine zj1_e (PJ := (fun v2 S4 => inR v2 → zk Γ (wC cI cZ ad) (RG bsC) S4 [(0, .ref (ad 11)), (1, .int (zI a1)), (2, .int (zI a2)), (3, .int (zI a3)), (4, .int (zI v1))] 52 [.int (zI v2), .int (zI v1), .ref (ad 19)])) h11 (fun v2 S4 h12 r6 => ?_) (fun j2 J2 h15 => ?_)
        · refine k_iload_n F dX1_closeGap_52 rfl 3 rfl ?_
          refine k_mmin F r6 ra3 wm_124 mal_min (Nat.le_of_ble_eq_true rfl) (Nat.le_of_ble_eq_true rfl) dX1_closeGap_53 h12 (fun x5 r7 h13 => ?_)
          refine k_iast F rfl 19 (aC_14 cI cZ ad) (sC_14 cI cZ ad) (by decide) r1 r7 dX1_closeGap_56 h13 (fun S5 h14 => ?_)
          exact k_sub [0, 1, 2, 3, 4] rfl (J1 S5 h14)
        · refine k_icmp_le F r5 ra2 (tgt := 50) dX1_closeGap_40 (by decide) h15 (fun h16 => ?_) (fun h17 => ?_)
          · refine k_iload F dX1_closeGap_50 0 rfl ?_
            exact k_sub [1, 2, 3, 4, 5] rfl (J2 x4 S2 h16 r5)
          · refine k_iload F dX1_closeGap_43 0 rfl ?_
            refine k_iconst F dX1_closeGap_45 ?_
            refine k_isub F dX1_closeGap_46 h17 (fun x6 r8 h18 => ?_)
            refine k_goto F (tgt := 52) dX1_closeGap_47 (by decide) ?_
            exact k_sub [1, 2, 3, 4, 5] rfl (J2 x6 S2 h18 r8)
set_option maxRecDepth 100000 in
theorem c_X7_has {l : Launch} {D : va_G} {A : Nat → Prop} {cI cZ : ClassId} {ad : Nat → Nat} (hD : ∀ S, va_D A (wC cI cZ ad S)) {S : zSt} (hG : RG bsC S) {a1 : Int} (ra1 : inR a1) {x : Int} {S' : zSt} (h : m_X7_has S a1 = some (x, S')) : zMi l yX7_has cX7_has 2 .boolean { frames := 0, cells := 0, slots := 0, locals := 0 } D cI cZ A (wC cI cZ ad) (RG bsC) [.ref (ad 3), .int (zI a1)] S x S' := by
  refine k_start_i (by decide +kernel) hD hG (Nat.le_of_ble_eq_true rfl) (fun Γ F hQ => ?_)
  have F : zF Γ (wC cI cZ ad) cI cZ cX7_has { frames := 0, cells := 0, slots := 0, locals := 0 } 2 RX7 := F
  refine k_sub [0, 1] (lv' := [(0, .ref (ad 3)), (1, .int (zI a1))]) rfl ?_
  refine k_iload_n F dX7_has_0 rfl 1 rfl ?_
  refine zj0_e (PJ := (fun S1 => zk Γ (wC cI cZ ad) (RG bsC) S1 [] 16 [])) h (fun S1 h1 => ?_) (fun j1 J1 h2 => ?_)
  · refine k_iconst F dX7_has_16 ?_
    exact k_zret F hQ (Or.inl rfl) dX7_has_17 h1
  · refine k_if_lt F ra1 (tgt := 16) dX7_has_1 (by decide) h2 (fun h3 => ?_) (fun h4 => ?_)
    · exact k_sub [] rfl (J1 S h3)
    · refine k_iload_n F dX7_has_4 rfl 1 rfl ?_
      refine k_aload_n F dX7_has_5 rfl 0 rfl ?_
      refine kgX7_count F dX7_has_6 h4 (fun x1 r1 h5 => ?_)
      refine k_icmp_ge F ra1 r1 (tgt := 16) dX7_has_9 (by decide) h5 (fun h6 => ?_) (fun h7 => ?_)
      · exact k_sub [] rfl (J1 S h6)
      · refine k_iconst F dX7_has_12 ?_
        refine k_goto F (tgt := 17) dX7_has_13 (by decide) ?_
        exact k_zret F hQ (Or.inr rfl) dX7_has_17 h7
set_option maxRecDepth 100000 in
theorem c_X7_sizeOf {l : Launch} {D : va_G} {A : Nat → Prop} {cI cZ : ClassId} {ad : Nat → Nat} (hD : ∀ S, va_D A (wC cI cZ ad S)) {S : zSt} (hG : RG bsC S) {a1 : Int} (ra1 : inR a1) {x : Int} {S' : zSt} (h : m_X7_sizeOf S a1 = some (x, S')) : zMi l yX7_sizeOf cX7_sizeOf 2 .int { frames := 1, cells := 0, slots := 0, locals := 21 } D cI cZ A (wC cI cZ ad) (RG bsC) [.ref (ad 3), .int (zI a1)] S x S' := by
  refine k_start_i (by decide +kernel) hD hG (Nat.le_of_ble_eq_true rfl) (fun Γ F hQ => ?_)
  have F : zF Γ (wC cI cZ ad) cI cZ cX7_sizeOf { frames := 1, cells := 0, slots := 0, locals := 21 } 2 RX7 := F
  refine k_sub [0, 1] (lv' := [(0, .ref (ad 3)), (1, .int (zI a1))]) rfl ?_
  refine k_aload_n F dX7_sizeOf_0 rfl 0 rfl ?_
  refine k_iload_n F dX7_sizeOf_1 rfl 1 rfl ?_
  refine k_callVi F cal_X7_has wm_129 (obC_3 cI cZ ad) (fun l D A hD hG x S' h => c_X7_has hD hG ra1 h) ⟨rfl, rfl, Nat.le_of_ble_eq_true rfl, Nat.le_of_ble_eq_true rfl⟩ rfl rfl (Nat.le_of_ble_eq_true rfl) dX7_sizeOf_2 h (fun x1 S1 r1 b1 h1 => ?_)
  refine k_if_eq F r1 (tgt := 17) dX7_sizeOf_5 (by decide) h1 (fun h2 => ?_) (fun h3 => ?_)
  · refine k_iconst F dX7_sizeOf_17 ?_
    exact k_iret F hQ iR_0 dX7_sizeOf_18 h2
  · refine k_aload_n F dX7_sizeOf_8 rfl 0 rfl ?_
    refine kgX7_sizes F dX7_sizeOf_9 ?_
    refine k_iload_n F dX7_sizeOf_12 rfl 1 rfl ?_
    refine k_iald F rfl 5 (aC_2 cI cZ ad) ra1 dX7_sizeOf_13 h3 (fun x2 r2 h4 => ?_)
    refine k_goto F (tgt := 18) dX7_sizeOf_14 (by decide) ?_
    exact k_iret F hQ r2 dX7_sizeOf_18 h4
set_option maxRecDepth 100000 in
theorem c_X7_hasPlace {l : Launch} {D : va_G} {A : Nat → Prop} {cI cZ : ClassId} {ad : Nat → Nat} (hD : ∀ S, va_D A (wC cI cZ ad S)) {S : zSt} (hG : RG bsC S) {a1 : Int} (ra1 : inR a1) {a2 : Int} (ra2 : inR a2) {x : Int} {S' : zSt} (h : m_X7_hasPlace S a1 a2 = some (x, S')) : zMi l yX7_hasPlace cX7_hasPlace 3 .boolean { frames := 2, cells := 0, slots := 0, locals := 42 } D cI cZ A (wC cI cZ ad) (RG bsC) [.ref (ad 3), .int (zI a1), .int (zI a2)] S x S' := by
  refine k_start_i (by decide +kernel) hD hG (Nat.le_of_ble_eq_true rfl) (fun Γ F hQ => ?_)
  have F : zF Γ (wC cI cZ ad) cI cZ cX7_hasPlace { frames := 2, cells := 0, slots := 0, locals := 42 } 3 RX7 := F
  refine k_sub [0, 1, 2] (lv' := [(0, .ref (ad 3)), (1, .int (zI a1)), (2, .int (zI a2))]) rfl ?_
  refine k_iload_n F dX7_hasPlace_0 rfl 2 rfl ?_
  refine zj0_e (PJ := (fun S1 => zk Γ (wC cI cZ ad) (RG bsC) S1 [] 17 [])) h (fun S1 h1 => ?_) (fun j1 J1 h2 => ?_)
  · refine k_iconst F dX7_hasPlace_17 ?_
    exact k_zret F hQ (Or.inl rfl) dX7_hasPlace_18 h1
  · refine k_if_lt F ra2 (tgt := 17) dX7_hasPlace_1 (by decide) h2 (fun h3 => ?_) (fun h4 => ?_)
    · exact k_sub [] rfl (J1 S h3)
    · refine k_iload_n F dX7_hasPlace_4 rfl 2 rfl ?_
      refine k_aload_n F dX7_hasPlace_5 rfl 0 rfl ?_
      refine k_iload_n F dX7_hasPlace_6 rfl 1 rfl ?_
      refine k_callVi F cal_X7_sizeOf wm_133 (obC_3 cI cZ ad) (fun l D A hD hG x S' h => c_X7_sizeOf hD hG ra1 h) ⟨rfl, rfl, Nat.le_of_ble_eq_true rfl, Nat.le_of_ble_eq_true rfl⟩ rfl rfl (Nat.le_of_ble_eq_true rfl) dX7_hasPlace_7 h4 (fun x1 S2 r1 b1 h5 => ?_)
      refine k_icmp_ge F ra2 r1 (tgt := 17) dX7_hasPlace_10 (by decide) h5 (fun h6 => ?_) (fun h7 => ?_)
      · exact k_sub [] rfl (J1 S2 h6)
      · refine k_iconst F dX7_hasPlace_13 ?_
        refine k_goto F (tgt := 18) dX7_hasPlace_14 (by decide) ?_
        exact k_zret F hQ (Or.inr rfl) dX7_hasPlace_18 h7
set_option maxRecDepth 100000 in
theorem c_X7_wordAt {l : Launch} {D : va_G} {A : Nat → Prop} {cI cZ : ClassId} {ad : Nat → Nat} (hD : ∀ S, va_D A (wC cI cZ ad S)) {S : zSt} (hG : RG bsC S) {a1 : Int} (ra1 : inR a1) {a2 : Int} (ra2 : inR a2) {x : Int} {S' : zSt} (h : m_X7_wordAt S a1 a2 = some (x, S')) : zMi l yX7_wordAt cX7_wordAt 3 .int { frames := 3, cells := 0, slots := 0, locals := 64 } D cI cZ A (wC cI cZ ad) (RG bsC) [.ref (ad 3), .int (zI a1), .int (zI a2)] S x S' := by
  refine k_start_i (by decide +kernel) hD hG (Nat.le_of_ble_eq_true rfl) (fun Γ F hQ => ?_)
  have F : zF Γ (wC cI cZ ad) cI cZ cX7_wordAt { frames := 3, cells := 0, slots := 0, locals := 64 } 3 RX7 := F
  refine k_sub [0, 1, 2] (lv' := [(0, .ref (ad 3)), (1, .int (zI a1)), (2, .int (zI a2))]) rfl ?_
  refine k_aload_n F dX7_wordAt_0 rfl 0 rfl ?_
  refine k_iload_n F dX7_wordAt_1 rfl 1 rfl ?_
  refine k_iload_n F dX7_wordAt_2 rfl 2 rfl ?_
  refine k_callVi F cal_X7_hasPlace wm_137 (obC_3 cI cZ ad) (fun l D A hD hG x S' h => c_X7_hasPlace hD hG ra1 ra2 h) ⟨rfl, rfl, Nat.le_of_ble_eq_true rfl, Nat.le_of_ble_eq_true rfl⟩ rfl rfl (Nat.le_of_ble_eq_true rfl) dX7_wordAt_3 h (fun x1 S1 r1 b1 h1 => ?_)
  refine k_if_eq F r1 (tgt := 23) dX7_wordAt_6 (by decide) h1 (fun h2 => ?_) (fun h3 => ?_)
  · refine k_iconst F dX7_wordAt_23 ?_
    exact k_iret F hQ iR_m1 dX7_wordAt_24 h2
  · refine k_aload_n F dX7_wordAt_9 rfl 0 rfl ?_
    refine kgX7_words F dX7_wordAt_10 ?_
    refine k_iload_n F dX7_wordAt_13 rfl 1 rfl ?_
    refine k_bipush F dX7_wordAt_14 bp_12 ?_
    refine k_imul F dX7_wordAt_16 h3 (fun x2 r2 h4 => ?_)
    refine k_iload_n F dX7_wordAt_17 rfl 2 rfl ?_
    refine k_iadd F dX7_wordAt_18 h4 (fun x3 r3 h5 => ?_)
    refine k_iald F rfl 4 (aC_1 cI cZ ad) r3 dX7_wordAt_19 h5 (fun x4 r4 h6 => ?_)
    refine k_goto F (tgt := 24) dX7_wordAt_20 (by decide) ?_
    exact k_iret F hQ r4 dX7_wordAt_24 h6
set_option maxRecDepth 100000 in
theorem c_X7_nearest {l : Launch} {D : va_G} {A : Nat → Prop} {cI cZ : ClassId} {ad : Nat → Nat} (hD : ∀ S, va_D A (wC cI cZ ad S)) {S : zSt} (hG : RG bsC S) {a1 : Int} (ra1 : inR a1) {a2 : Int} (ra2 : inR a2) {a3 : Int} (ra3 : inR a3) {x : Int} {S' : zSt} (h : m_X7_nearest S a1 a2 a3 = some (x, S')) : zMi l yX7_nearest cX7_nearest 6 .int { frames := 4, cells := 0, slots := 0, locals := 86 } D cI cZ A (wC cI cZ ad) (RG bsC) [.ref (ad 3), .int (zI a1), .int (zI a2), .int (zI a3)] S x S' := by
  refine k_start_i (by decide +kernel) hD hG (Nat.le_of_ble_eq_true rfl) (fun Γ F hQ => ?_)
  have F : zF Γ (wC cI cZ ad) cI cZ cX7_nearest { frames := 4, cells := 0, slots := 0, locals := 86 } 6 RX7 := F
  refine k_sub [0, 1, 2, 3] (lv' := [(0, .ref (ad 3)), (1, .int (zI a1)), (2, .int (zI a2)), (3, .int (zI a3))]) rfl ?_
  refine k_iconst F dX7_nearest_0 ?_
  refine k_istore F dX7_nearest_1 (by decide) rfl ?_
  refine k_iconst F dX7_nearest_3 ?_
  refine k_istore F dX7_nearest_4 (by decide) rfl ?_
  refine zj1_e (PJ := (fun v1 S1 => inR v1 → zk Γ (wC cI cZ ad) (RG bsC) S1 [(4, .int (zI v1))] 60 [])) h (fun v1 S1 h1 r1 => ?_) (fun j1 J1 h2 => ?_)
  · refine k_iload F dX7_nearest_60 0 rfl ?_
    exact k_iret F hQ r1 dX7_nearest_62 h1
  · refine k_sub [2, 3, 4, 5, 1, 0] rfl (zl2_e (F := (b_X7_nearest_6 a1 a2 a3 j1)) (fun v2 v3 S2 => inR v2 → inR v3 → zk Γ (wC cI cZ ad) (RG bsC) S2 [(0, .ref (ad 3)), (1, .int (zI a1)), (2, .int (zI a2)), (3, .int (zI a3)), (4, .int (zI v2)), (5, .int (zI v3))] 6 []) (fun rec1 v2 v3 S2 hrec1 h3 r2 r3 => ?_) 1000 (-1) 0 S h2 iR_m1 iR_0)
    refine k_iload F dX7_nearest_6 5 rfl ?_
    refine k_aload_n F dX7_nearest_8 rfl 0 rfl ?_
    refine k_iload_n F dX7_nearest_9 rfl 1 rfl ?_
    refine k_callVi F cal_X7_sizeOf wm_133 (obC_3 cI cZ ad) (fun l D A hD hG x S' h => c_X7_sizeOf hD hG ra1 h) ⟨rfl, rfl, Nat.le_of_ble_eq_true rfl, Nat.le_of_ble_eq_true rfl⟩ rfl rfl (Nat.le_of_ble_eq_true rfl) dX7_nearest_10 h3 (fun x1 S3 r4 b1 h4 => ?_)
    refine k_icmp_ge F r3 r4 (tgt := 60) dX7_nearest_13 (by decide) h4 (fun h5 => ?_) (fun h6 => ?_)
    · exact k_sub [4] rfl (J1 v2 S3 h5 r2)
    · refine k_aload_n F dX7_nearest_16 rfl 0 rfl ?_
      refine k_iload_n F dX7_nearest_17 rfl 1 rfl ?_
      refine k_iload F dX7_nearest_18 5 rfl ?_
      refine k_callVi F cal_X7_wordAt wm_141 (obC_3 cI cZ ad) (fun l D A hD hG x S' h => c_X7_wordAt hD hG ra1 r3 h) ⟨rfl, rfl, Nat.le_of_ble_eq_true rfl, Nat.le_of_ble_eq_true rfl⟩ rfl rfl (Nat.le_of_ble_eq_true rfl) dX7_nearest_20 h6 (fun x2 S4 r5 b2 h7 => ?_)
      refine k_iload_n F dX7_nearest_23 rfl 2 rfl ?_
      refine zj1_e (PJ := (fun v4 S5 => inR v4 → zk Γ (wC cI cZ ad) (RG bsC) S5 [(0, .ref (ad 3)), (1, .int (zI a1)), (2, .int (zI a2)), (3, .int (zI a3)), (4, .int (zI v4)), (5, .int (zI v3))] 54 [])) h7 (fun v4 S5 h8 r6 => ?_) (fun j2 J2 h10 => ?_)
      · refine k_iinc F (k := 5) (lv' := fun y => [(5, .int (zI y)), (0, .ref (ad 3)), (1, .int (zI a1)), (2, .int (zI a2)), (3, .int (zI a3)), (4, .int (zI v4))]) dX7_nearest_54 rfl (by decide) (fun _ => rfl) h8 (fun x3 r7 h9 => ?_)
        refine k_goto F (tgt := 6) dX7_nearest_57 (by decide) ?_
        exact k_sub [1, 2, 3, 4, 5, 0] rfl (hrec1 v4 x3 S5 h9 r6 r7)
      · refine k_icmp_ne F r5 ra2 (tgt := 54) dX7_nearest_24 (by decide) h10 (fun h11 => ?_) (fun h12 => ?_)
        · exact k_sub [0, 1, 2, 3, 4, 5] rfl (J2 v2 S4 h11 r2)
        · refine k_iload F dX7_nearest_27 4 rfl ?_
          refine k_iconst F dX7_nearest_29 ?_
          refine zj0_e (PJ := (fun S6 => zk Γ (wC cI cZ ad) (RG bsC) S6 [(0, .ref (ad 3)), (1, .int (zI a1)), (2, .int (zI a2)), (3, .int (zI a3)), (5, .int (zI v3))] 50 [])) h12 (fun S6 h13 => ?_) (fun j3 J3 h14 => ?_)
          · refine k_iload F dX7_nearest_50 4 rfl ?_
            refine k_istore F dX7_nearest_52 (by decide) rfl ?_
            exact k_sub [1, 2, 3, 4, 0, 5] rfl (J2 v3 S6 h13 r3)
          · refine k_icmp_eq F r2 iR_m1 (tgt := 50) dX7_nearest_30 (by decide) h14 (fun h15 => ?_) (fun h16 => ?_)
            · exact k_sub [0, 1, 2, 3, 5] rfl (J3 S4 h15)
            · refine k_iload F dX7_nearest_33 5 rfl ?_
              refine k_iload_n F dX7_nearest_35 rfl 3 rfl ?_
              refine k_isub F dX7_nearest_36 h16 (fun x4 r8 h17 => ?_)
              refine k_mabs F r8 wm_142 mal_abs (Nat.le_of_ble_eq_true rfl) (Nat.le_of_ble_eq_true rfl) dX7_nearest_37 h17 (fun x5 r9 h18 => ?_)
              refine k_iload F dX7_nearest_40 4 rfl ?_
              refine k_iload_n F dX7_nearest_42 rfl 3 rfl ?_
              refine k_isub F dX7_nearest_43 h18 (fun x6 r10 h19 => ?_)
              refine k_mabs F r10 wm_142 mal_abs (Nat.le_of_ble_eq_true rfl) (Nat.le_of_ble_eq_true rfl) dX7_nearest_44 h19 (fun x7 r11 h20 => ?_)
              refine k_icmp_ge F r9 r11 (tgt := 54) dX7_nearest_47 (by decide) h20 (fun h21 => ?_) (fun h22 => ?_)
              · exact k_sub [0, 1, 2, 3, 4, 5] rfl (J2 v2 S4 h21 r2)
              · exact k_sub [0, 1, 2, 3, 5] rfl (J3 S4 h22)
set_option maxRecDepth 100000 in
theorem c_X1_hookAnew {l : Launch} {D : va_G} {A : Nat → Prop} {cI cZ : ClassId} {ad : Nat → Nat} (hD : ∀ S, va_D A (wC cI cZ ad S)) {S : zSt} (hG : RG bsC S) {a1 : Int} (ra1 : inR a1) {x : Int} {S' : zSt} (h : m_X1_hookAnew S a1 = some (x, S')) : zMi l yX1_hookAnew cX1_hookAnew 7 .int { frames := 5, cells := 0, slots := 0, locals := 111 } D cI cZ A (wC cI cZ ad) (RG bsC) [.ref (ad 11), .int (zI a1), .ref (ad 3)] S x S' := by
  refine k_start_i (by decide +kernel) hD hG (Nat.le_of_ble_eq_true rfl) (fun Γ F hQ => ?_)
  have F : zF Γ (wC cI cZ ad) cI cZ cX1_hookAnew { frames := 5, cells := 0, slots := 0, locals := 111 } 7 RX1 := F
  refine k_sub [0, 1, 2] (lv' := [(0, .ref (ad 11)), (1, .int (zI a1)), (2, .ref (ad 3))]) rfl ?_
  refine k_iconst F dX1_hookAnew_0 ?_
  refine k_istore_n F dX1_hookAnew_1 rfl (by decide) rfl ?_
  refine k_iconst F dX1_hookAnew_2 ?_
  refine k_istore F dX1_hookAnew_3 (by decide) rfl ?_
  refine zj1_e (PJ := (fun v1 S1 => inR v1 → zk Γ (wC cI cZ ad) (RG bsC) S1 [(3, .int (zI v1))] 102 [])) h (fun v1 S1 h1 r1 => ?_) (fun j1 J1 h2 => ?_)
  · refine k_iload_n F dX1_hookAnew_102 rfl 0 rfl ?_
    exact k_iret F hQ r1 dX1_hookAnew_103 h1
  · refine k_sub [2, 3, 4, 1, 0] rfl (zl2_e (F := (b_X1_hookAnew_5 a1 j1)) (fun v2 v3 S2 => inR v2 → inR v3 → zk Γ (wC cI cZ ad) (RG bsC) S2 [(0, .ref (ad 11)), (1, .int (zI a1)), (2, .ref (ad 3)), (3, .int (zI v2)), (4, .int (zI v3))] 5 []) (fun rec1 v2 v3 S2 hrec1 h3 r2 r3 => ?_) 1000 0 0 S h2 iR_0 iR_0)
    refine k_iload F dX1_hookAnew_5 4 rfl ?_
    refine k_aload_n F dX1_hookAnew_7 rfl 0 rfl ?_
    refine kgX1_count F dX1_hookAnew_8 h3 (fun x1 r4 h4 => ?_)
    refine k_icmp_ge F r3 r4 (tgt := 102) dX1_hookAnew_11 (by decide) h4 (fun h5 => ?_) (fun h6 => ?_)
    · exact k_sub [3] rfl (J1 v2 S2 h5 r2)
    · refine k_aload_n F dX1_hookAnew_14 rfl 0 rfl ?_
      refine k_iload F dX1_hookAnew_15 4 rfl ?_
      refine k_iload_n F dX1_hookAnew_17 rfl 1 rfl ?_
      refine k_callVi F cal_X1_isHook wm_123 (obC_11 cI cZ ad) (fun l D A hD hG x S' h => c_X1_isHook hD hG r3 ra1 h) ⟨rfl, rfl, Nat.le_of_ble_eq_true rfl, Nat.le_of_ble_eq_true rfl⟩ rfl rfl (Nat.le_of_ble_eq_true rfl) dX1_hookAnew_18 h6 (fun x2 S3 r5 b1 h7 => ?_)
      refine zj1_e (PJ := (fun v4 S4 => inR v4 → zk Γ (wC cI cZ ad) (RG bsC) S4 [(0, .ref (ad 11)), (1, .int (zI a1)), (2, .ref (ad 3)), (3, .int (zI v4)), (4, .int (zI v3))] 96 [])) h7 (fun v4 S4 h8 r6 => ?_) (fun j2 J2 h10 => ?_)
      · refine k_iinc F (k := 4) (lv' := fun y => [(4, .int (zI y)), (0, .ref (ad 11)), (1, .int (zI a1)), (2, .ref (ad 3)), (3, .int (zI v4))]) dX1_hookAnew_96 rfl (by decide) (fun _ => rfl) h8 (fun x3 r7 h9 => ?_)
        refine k_goto F (tgt := 5) dX1_hookAnew_99 (by decide) ?_
        exact k_sub [1, 2, 3, 4, 0] rfl (hrec1 v4 x3 S4 h9 r6 r7)
      · refine k_if_eq F r5 (tgt := 96) dX1_hookAnew_21 (by decide) h10 (fun h11 => ?_) (fun h12 => ?_)
        · exact k_sub [0, 1, 2, 3, 4] rfl (J2 v2 S3 h11 r2)
        · refine k_aload_n F dX1_hookAnew_24 rfl 2 rfl ?_
          refine k_iload_n F dX1_hookAnew_25 rfl 1 rfl ?_
          refine k_aload_n F dX1_hookAnew_26 rfl 0 rfl ?_
          refine kgX1_words F dX1_hookAnew_27 ?_
          refine k_iload F dX1_hookAnew_30 4 rfl ?_
          refine k_iald F rfl 20 (aC_15 cI cZ ad) r3 dX1_hookAnew_32 h12 (fun x4 r8 h13 => ?_)
          refine k_aload_n F dX1_hookAnew_33 rfl 0 rfl ?_
          refine kgX1_places F dX1_hookAnew_34 ?_
          refine k_iload F dX1_hookAnew_37 4 rfl ?_
          refine k_iald F rfl 19 (aC_14 cI cZ ad) r3 dX1_hookAnew_39 h13 (fun x5 r9 h14 => ?_)
          refine k_callVi F cal_X7_nearest wm_146 (obC_3 cI cZ ad) (fun l D A hD hG x S' h => c_X7_nearest hD hG ra1 r8 r9 h) ⟨rfl, rfl, Nat.le_of_ble_eq_true rfl, Nat.le_of_ble_eq_true rfl⟩ rfl rfl (Nat.le_of_ble_eq_true rfl) dX1_hookAnew_40 h14 (fun x6 S5 r10 b2 h15 => ?_)
          refine k_istore F dX1_hookAnew_43 (by decide) rfl ?_
          refine k_iload F dX1_hookAnew_45 0 rfl ?_
          refine k_iconst F dX1_hookAnew_47 ?_
          refine zj1_e (PJ := (fun v5 S6 => inR v5 → zk Γ (wC cI cZ ad) (RG bsC) S6 [(0, .ref (ad 11)), (1, .int (zI a1)), (2, .ref (ad 3)), (3, .int (zI v2)), (4, .int (zI v3)), (5, .int (zI x6))] 56 [.int (zI v5)])) h15 (fun v5 S6 h16 r11 => ?_) (fun j4 J4 h28 => ?_)
          · refine k_istore F dX1_hookAnew_56 (by decide) rfl ?_
            refine k_iload F dX1_hookAnew_58 0 rfl ?_
            refine zj0_e (PJ := (fun S7 => zk Γ (wC cI cZ ad) (RG bsC) S7 [(0, .ref (ad 11)), (1, .int (zI a1)), (2, .ref (ad 3)), (3, .int (zI v2)), (4, .int (zI v3)), (6, .int (zI v5))] 72 [])) h16 (fun S7 h17 => ?_) (fun j3 J3 h24 => ?_)
            · refine k_iload F dX1_hookAnew_72 5 rfl ?_
              refine k_aload_n F dX1_hookAnew_74 rfl 0 rfl ?_
              refine kgX1_lost F dX1_hookAnew_75 ?_
              refine k_iload F dX1_hookAnew_78 4 rfl ?_
              refine k_zald01 F rfl 21 (by decide) (aC_16 cI cZ ad) r3 dX1_hookAnew_80 h17 (fun x7 r12 z1 h18 => ?_)
              refine k_icmp_eq F r11 r12 (tgt := 96) dX1_hookAnew_81 (by decide) h18 (fun h19 => ?_) (fun h20 => ?_)
              · exact k_sub [0, 1, 2, 3, 4] rfl (J2 v2 S7 h19 r2)
              · refine k_aload_n F dX1_hookAnew_84 rfl 0 rfl ?_
                refine kgX1_lost F dX1_hookAnew_85 ?_
                refine k_iload F dX1_hookAnew_88 4 rfl ?_
                refine k_iload F dX1_hookAnew_90 5 rfl ?_
                obtain ⟨z2, h21⟩ := zc01_e h20
                refine k_zast F rfl 21 (aC_16 cI cZ ad) (sC_16 cI cZ ad) r3 z2 dX1_hookAnew_92 h21 (fun S8 h22 => ?_)
                refine k_iinc F (k := 3) (lv' := fun y => [(3, .int (zI y)), (0, .ref (ad 11)), (1, .int (zI a1)), (2, .ref (ad 3)), (4, .int (zI v3)), (6, .int (zI v5))]) dX1_hookAnew_93 rfl (by decide) (fun _ => rfl) h22 (fun x8 r13 h23 => ?_)
                exact k_sub [1, 2, 3, 0, 4] rfl (J2 x8 S8 h23 r13)
            · refine k_if_ne F r11 (tgt := 72) dX1_hookAnew_60 (by decide) h24 (fun h25 => ?_) (fun h26 => ?_)
              · exact k_sub [1, 2, 3, 4, 5, 0] rfl (J3 S6 h25)
              · refine k_aload_n F dX1_hookAnew_63 rfl 1 rfl ?_
                refine kgX1_places F dX1_hookAnew_64 ?_
                refine k_iload F dX1_hookAnew_67 5 rfl ?_
                refine k_iload F dX1_hookAnew_69 6 rfl ?_
                refine k_iast F rfl 19 (aC_14 cI cZ ad) (sC_14 cI cZ ad) (by decide) r3 r10 dX1_hookAnew_71 h26 (fun S9 h27 => ?_)
                exact k_sub [1, 2, 3, 4, 5, 0] rfl (J3 S9 h27)
          · refine k_icmp_ne F r10 iR_m1 (tgt := 55) dX1_hookAnew_48 (by decide) h28 (fun h29 => ?_) (fun h30 => ?_)
            · refine k_iconst F dX1_hookAnew_55 ?_
              exact k_sub [1, 2, 3, 4, 5, 0] rfl (J4 0 S5 h29 iR_0)
            · refine k_iconst F dX1_hookAnew_51 ?_
              refine k_goto F (tgt := 56) dX1_hookAnew_52 (by decide) ?_
              exact k_sub [1, 2, 3, 4, 5, 0] rfl (J4 1 S5 h30 iR_1)
set_option maxRecDepth 100000 in
theorem c_X1_isLight {l : Launch} {D : va_G} {A : Nat → Prop} {cI cZ : ClassId} {ad : Nat → Nat} (hD : ∀ S, va_D A (wC cI cZ ad S)) {S : zSt} (hG : RG bsC S) {a1 : Int} (ra1 : inR a1) {x : Int} {S' : zSt} (h : m_X1_isLight S a1 = some (x, S')) : zMi l yX1_isLight cX1_isLight 2 .boolean { frames := 1, cells := 0, slots := 0, locals := 21 } D cI cZ A (wC cI cZ ad) (RG bsC) [.ref (ad 11), .int (zI a1)] S x S' := by
  refine k_start_i (by decide +kernel) hD hG (Nat.le_of_ble_eq_true rfl) (fun Γ F hQ => ?_)
  have F : zF Γ (wC cI cZ ad) cI cZ cX1_isLight { frames := 1, cells := 0, slots := 0, locals := 21 } 2 RX1 := F
  refine k_sub [0, 1] (lv' := [(0, .ref (ad 11)), (1, .int (zI a1))]) rfl ?_
  refine k_aload_n F dX1_isLight_0 rfl 0 rfl ?_
  refine kgX1_burdens F dX1_isLight_1 ?_
  refine k_iload_n F dX1_isLight_4 rfl 1 rfl ?_
  refine k_callNi F cal_X8_at nw_X1_58 (fun l D A hD hG x S' h => c_at hD hG 22 (aC_17 cI cZ ad) (by decide) (by decide) ra1 h) ⟨rfl, rfl, Nat.le_of_ble_eq_true rfl, Nat.le_of_ble_eq_true rfl⟩ rfl rfl (Nat.le_of_ble_eq_true rfl) dX1_isLight_5 h (fun x1 S1 r1 b1 h1 => ?_)
  refine k_iconst F dX1_isLight_8 ?_
  refine k_icmp_ge F r1 iR_1 (tgt := 16) dX1_isLight_9 (by decide) h1 (fun h2 => ?_) (fun h3 => ?_)
  · refine k_iconst F dX1_isLight_16 ?_
    exact k_zret F hQ (Or.inl rfl) dX1_isLight_17 h2
  · refine k_iconst F dX1_isLight_12 ?_
    refine k_goto F (tgt := 17) dX1_isLight_13 (by decide) ?_
    exact k_zret F hQ (Or.inr rfl) dX1_isLight_17 h3
set_option maxRecDepth 100000 in
theorem c_X1_burdenOf {l : Launch} {D : va_G} {A : Nat → Prop} {cI cZ : ClassId} {ad : Nat → Nat} (hD : ∀ S, va_D A (wC cI cZ ad S)) {S : zSt} (hG : RG bsC S) {a1 : Int} (ra1 : inR a1) {x : Int} {S' : zSt} (h : m_X1_burdenOf S a1 = some (x, S')) : zMi l yX1_burdenOf cX1_burdenOf 1 .int { frames := 0, cells := 0, slots := 0, locals := 0 } D cI cZ A (wC cI cZ ad) (RG bsC) [.int (zI a1)] S x S' := by
  refine k_start_i (by decide +kernel) hD hG (Nat.le_of_ble_eq_true rfl) (fun Γ F hQ => ?_)
  have F : zF Γ (wC cI cZ ad) cI cZ cX1_burdenOf { frames := 0, cells := 0, slots := 0, locals := 0 } 1 RX1 := F
  refine k_sub [0] (lv' := [(0, .int (zI a1))]) rfl ?_
  refine k_iload_n F dX1_burdenOf_0 rfl 0 rfl ?_
  refine k_iconst F dX1_burdenOf_1 ?_
  refine zj0_e (PJ := (fun S1 => zk Γ (wC cI cZ ad) (RG bsC) S1 [] 10 [])) h (fun S1 h1 => ?_) (fun j1 J1 h2 => ?_)
  · refine k_iconst F dX1_burdenOf_10 ?_
    exact k_iret F hQ iR_1 dX1_burdenOf_11 h1
  · refine k_icmp_eq F ra1 iR_1 (tgt := 10) dX1_burdenOf_2 (by decide) h2 (fun h3 => ?_) (fun h4 => ?_)
    · exact k_sub [] rfl (J1 S h3)
    · refine k_iload_n F dX1_burdenOf_5 rfl 0 rfl ?_
      refine k_iconst F dX1_burdenOf_6 ?_
      refine k_icmp_ne F ra1 iR_3 (tgt := 12) dX1_burdenOf_7 (by decide) h4 (fun h5 => ?_) (fun h6 => ?_)
      · refine k_iload_n F dX1_burdenOf_12 rfl 0 rfl ?_
        refine k_iconst F dX1_burdenOf_13 ?_
        refine k_icmp_ne F ra1 iR_2 (tgt := 21) dX1_burdenOf_14 (by decide) h5 (fun h7 => ?_) (fun h8 => ?_)
        · refine k_iconst F dX1_burdenOf_21 ?_
          exact k_iret F hQ iR_0 dX1_burdenOf_22 h7
        · refine k_iconst F dX1_burdenOf_17 ?_
          refine k_goto F (tgt := 22) dX1_burdenOf_18 (by decide) ?_
          exact k_iret F hQ iR_m1 dX1_burdenOf_22 h8
      · exact k_sub [] rfl (J1 S h6)
set_option maxRecDepth 100000 in
theorem c_X1_weigh {l : Launch} {D : va_G} {A : Nat → Prop} {cI cZ : ClassId} {ad : Nat → Nat} (hD : ∀ S, va_D A (wC cI cZ ad S)) {S : zSt} (hG : RG bsC S) {x : Int} {S' : zSt} (h : m_X1_weigh S  = some (x, S')) : zMv l yX1_weigh cX1_weigh 3 { frames := 2, cells := 0, slots := 0, locals := 42 } D cI cZ A (wC cI cZ ad) (RG bsC) [.ref (ad 11)] S S' := by
  refine k_start_v (by decide +kernel) hD hG (Nat.le_of_ble_eq_true rfl) (fun Γ F hQ => ?_)
  have F : zF Γ (wC cI cZ ad) cI cZ cX1_weigh { frames := 2, cells := 0, slots := 0, locals := 42 } 3 RX1 := F
  refine k_sub [0] (lv' := [(0, .ref (ad 11))]) rfl ?_
  refine k_aload_n F dX1_weigh_0 rfl 0 rfl ?_
  refine kgX1_burdens F dX1_weigh_1 ?_
  refine k_iconst F dX1_weigh_4 ?_
  refine k_fill F rfl 22 (aC_17 cI cZ ad) (sC_17 cI cZ ad) (by decide) (by decide) iR_0 wm_147 ⟨Nat.le_of_ble_eq_true rfl, Nat.le_of_ble_eq_true rfl⟩ (Nat.le_of_ble_eq_true rfl) dX1_weigh_5 h (fun S1 h1 => ?_)
  refine k_aload_n F dX1_weigh_8 rfl 0 rfl ?_
  refine kgX1_count F dX1_weigh_9 h1 (fun x1 r1 h2 => ?_)
  refine k_iconst F dX1_weigh_12 ?_
  refine k_isub F dX1_weigh_13 h2 (fun x2 r2 h3 => ?_)
  refine k_istore_n F dX1_weigh_14 rfl (by decide) rfl ?_
  refine k_sub [1, 0] rfl (zl1_e (F := b_X1_weigh_15) (fun v1 S2 => inR v1 → zk Γ (wC cI cZ ad) (RG bsC) S2 [(0, .ref (ad 11)), (1, .int (zI v1))] 15 []) (fun rec1 v1 S2 hrec1 h4 r3 => ?_) 1000 x2 S1 h3 r2)
  refine k_iload_n F dX1_weigh_15 rfl 1 rfl ?_
  refine k_if_lt F r3 (tgt := 66) dX1_weigh_16 (by decide) h4 (fun h5 => ?_) (fun h6 => ?_)
  · exact k_vret F hQ dX1_weigh_66 h5
  · refine k_aload_n F dX1_weigh_19 rfl 0 rfl ?_
    refine kgX1_parents F dX1_weigh_20 ?_
    refine k_iload_n F dX1_weigh_23 rfl 1 rfl ?_
    refine k_iald F rfl 16 (aC_11 cI cZ ad) r3 dX1_weigh_24 h6 (fun x3 r4 h7 => ?_)
    refine k_istore_n F dX1_weigh_25 rfl (by decide) rfl ?_
    refine k_aload_n F dX1_weigh_26 rfl 1 rfl ?_
    refine k_iload_n F dX1_weigh_27 rfl 0 rfl ?_
    refine k_callVi F cal_X1_has wm_116 (obC_11 cI cZ ad) (fun l D A hD hG x S' h => c_X1_has hD hG r4 h) ⟨rfl, rfl, Nat.le_of_ble_eq_true rfl, Nat.le_of_ble_eq_true rfl⟩ rfl rfl (Nat.le_of_ble_eq_true rfl) dX1_weigh_28 h7 (fun x4 S3 r5 b1 h8 => ?_)
    refine zj0_e (PJ := (fun S4 => zk Γ (wC cI cZ ad) (RG bsC) S4 [(0, .ref (ad 11)), (1, .int (zI v1))] 60 [])) h8 (fun S4 h9 => ?_) (fun j1 J1 h11 => ?_)
    · refine k_iinc F (k := 1) (lv' := fun y => [(1, .int (zI y)), (0, .ref (ad 11))]) dX1_weigh_60 rfl (by decide) (fun _ => rfl) h9 (fun x5 r6 h10 => ?_)
      refine k_goto F (tgt := 15) dX1_weigh_63 (by decide) ?_
      exact k_sub [1, 0] rfl (hrec1 x5 S4 h10 r6)
    · refine k_if_eq F r5 (tgt := 60) dX1_weigh_31 (by decide) h11 (fun h12 => ?_) (fun h13 => ?_)
      · exact k_sub [1, 2] rfl (J1 S3 h12)
      · refine k_aload_n F dX1_weigh_34 rfl 1 rfl ?_
        refine k_iload_n F dX1_weigh_35 rfl 2 rfl ?_
        refine k_callVi F cal_X1_isLight wm_151 (obC_11 cI cZ ad) (fun l D A hD hG x S' h => c_X1_isLight hD hG r3 h) ⟨rfl, rfl, Nat.le_of_ble_eq_true rfl, Nat.le_of_ble_eq_true rfl⟩ rfl rfl (Nat.le_of_ble_eq_true rfl) dX1_weigh_36 h13 (fun x6 S5 r7 b2 h14 => ?_)
        refine k_if_eq F r7 (tgt := 60) dX1_weigh_39 (by decide) h14 (fun h15 => ?_) (fun h16 => ?_)
        · exact k_sub [1, 2] rfl (J1 S5 h15)
        · refine k_aload_n F dX1_weigh_42 rfl 1 rfl ?_
          refine kgX1_burdens F dX1_weigh_43 ?_
          refine k_iload_n F dX1_weigh_46 rfl 0 rfl ?_
          refine k_dup2 F dX1_weigh_47 rfl rfl ?_
          refine k_iald F rfl 22 (aC_17 cI cZ ad) r4 dX1_weigh_48 h16 (fun x7 r8 h17 => ?_)
          refine k_aload_n F dX1_weigh_49 rfl 1 rfl ?_
          refine kgX1_kinds F dX1_weigh_50 ?_
          refine k_iload_n F dX1_weigh_53 rfl 2 rfl ?_
          refine k_iald F rfl 13 (aC_8 cI cZ ad) r3 dX1_weigh_54 h17 (fun x8 r9 h18 => ?_)
          refine k_callSi F cal_X1_burdenOf wm_154 (fun l D A hD hG x S' h => c_X1_burdenOf hD hG r9 h) ⟨rfl, rfl, Nat.le_of_ble_eq_true rfl, Nat.le_of_ble_eq_true rfl⟩ rfl rfl (Nat.le_of_ble_eq_true rfl) dX1_weigh_55 h18 (fun x9 S6 r10 b3 h19 => ?_)
          refine k_iadd F dX1_weigh_58 h19 (fun x10 r11 h20 => ?_)
          refine k_iast F rfl 22 (aC_17 cI cZ ad) (sC_17 cI cZ ad) (by decide) r4 r11 dX1_weigh_59 h20 (fun S7 h21 => ?_)
          exact k_sub [1, 2] rfl (J1 S7 h21)
set_option maxRecDepth 100000 in
theorem c_X1_stands {l : Launch} {D : va_G} {A : Nat → Prop} {cI cZ : ClassId} {ad : Nat → Nat} (hD : ∀ S, va_D A (wC cI cZ ad S)) {S : zSt} (hG : RG bsC S) {a1 : Int} (ra1 : inR a1) {x : Int} {S' : zSt} (h : m_X1_stands S a1 = some (x, S')) : zMi l yX1_stands cX1_stands 2 .boolean { frames := 3, cells := 0, slots := 0, locals := 64 } D cI cZ A (wC cI cZ ad) (RG bsC) [.ref (ad 11), .int (zI a1)] S x S' := by
  refine k_start_i (by decide +kernel) hD hG (Nat.le_of_ble_eq_true rfl) (fun Γ F hQ => ?_)
  have F : zF Γ (wC cI cZ ad) cI cZ cX1_stands { frames := 3, cells := 0, slots := 0, locals := 64 } 2 RX1 := F
  refine k_sub [0, 1] (lv' := [(0, .ref (ad 11)), (1, .int (zI a1))]) rfl ?_
  refine k_aload_n F dX1_stands_0 rfl 0 rfl ?_
  refine k_callVv F cal_X1_weigh wm_158 (obC_11 cI cZ ad) (fun l D A hD hG x S' h => c_X1_weigh hD hG h) ⟨rfl, rfl, Nat.le_of_ble_eq_true rfl, Nat.le_of_ble_eq_true rfl⟩ rfl rfl (Nat.le_of_ble_eq_true rfl) dX1_stands_1 h (fun x1 S1 h1 => ?_)
  refine k_aload_n F dX1_stands_4 rfl 0 rfl ?_
  refine k_iload_n F dX1_stands_5 rfl 1 rfl ?_
  refine k_callVi F cal_X1_isLight wm_151 (obC_11 cI cZ ad) (fun l D A hD hG x S' h => c_X1_isLight hD hG ra1 h) ⟨rfl, rfl, Nat.le_of_ble_eq_true rfl, Nat.le_of_ble_eq_true rfl⟩ rfl rfl (Nat.le_of_ble_eq_true rfl) dX1_stands_6 h1 (fun x2 S2 r2 b2 h2 => ?_)
  exact k_zret F hQ (b2 rfl) dX1_stands_9 h2
set_option maxRecDepth 100000 in
theorem c_X4_size {l : Launch} {D : va_G} {A : Nat → Prop} {cI cZ : ClassId} {ad : Nat → Nat} (hD : ∀ S, va_D A (wC cI cZ ad S)) {S : zSt} (hG : RG bsC S) {x : Int} {S' : zSt} (h : m_X4_size S  = some (x, S')) : zMi l yX4_size cX4_size 1 .int { frames := 0, cells := 0, slots := 0, locals := 0 } D cI cZ A (wC cI cZ ad) (RG bsC) [.ref (ad 1)] S x S' := by
  refine k_start_i (by decide +kernel) hD hG (Nat.le_of_ble_eq_true rfl) (fun Γ F hQ => ?_)
  have F : zF Γ (wC cI cZ ad) cI cZ cX4_size { frames := 0, cells := 0, slots := 0, locals := 0 } 1 RX4 := F
  refine k_sub [0] (lv' := [(0, .ref (ad 1))]) rfl ?_
  refine k_aload_n F dX4_size_0 rfl 0 rfl ?_
  refine kgX4_size F dX4_size_1 h (fun x1 r1 h1 => ?_)
  exact k_iret F hQ r1 dX4_size_4 h1
set_option maxRecDepth 100000 in
theorem c_X4_isFull {l : Launch} {D : va_G} {A : Nat → Prop} {cI cZ : ClassId} {ad : Nat → Nat} (hD : ∀ S, va_D A (wC cI cZ ad S)) {S : zSt} (hG : RG bsC S) {x : Int} {S' : zSt} (h : m_X4_isFull S  = some (x, S')) : zMi l yX4_isFull cX4_isFull 1 .boolean { frames := 0, cells := 0, slots := 0, locals := 0 } D cI cZ A (wC cI cZ ad) (RG bsC) [.ref (ad 1)] S x S' := by
  refine k_start_i (by decide +kernel) hD hG (Nat.le_of_ble_eq_true rfl) (fun Γ F hQ => ?_)
  have F : zF Γ (wC cI cZ ad) cI cZ cX4_isFull { frames := 0, cells := 0, slots := 0, locals := 0 } 1 RX4 := F
  refine k_sub [0] (lv' := [(0, .ref (ad 1))]) rfl ?_
  refine k_aload_n F dX4_isFull_0 rfl 0 rfl ?_
  refine kgX4_size F dX4_isFull_1 h (fun x1 r1 h1 => ?_)
  refine k_aload_n F dX4_isFull_4 rfl 0 rfl ?_
  refine kgX4_words F dX4_isFull_5 ?_
  refine k_alen F 2 (aC_0 cI cZ ad) (by decide) dX4_isFull_8 ?_
  refine k_icmp_lt F r1 iR_12 (tgt := 16) dX4_isFull_9 (by decide) h1 (fun h2 => ?_) (fun h3 => ?_)
  · refine k_iconst F dX4_isFull_16 ?_
    exact k_zret F hQ (Or.inl rfl) dX4_isFull_17 h2
  · refine k_iconst F dX4_isFull_12 ?_
    refine k_goto F (tgt := 17) dX4_isFull_13 (by decide) ?_
    exact k_zret F hQ (Or.inr rfl) dX4_isFull_17 h3
set_option maxRecDepth 100000 in
theorem c_X4_add {l : Launch} {D : va_G} {A : Nat → Prop} {cI cZ : ClassId} {ad : Nat → Nat} (hD : ∀ S, va_D A (wC cI cZ ad S)) {S : zSt} (hG : RG bsC S) {a1 : Int} (ra1 : inR a1) {x : Int} {S' : zSt} (h : m_X4_add S a1 = some (x, S')) : zMv l yX4_add cX4_add 2 { frames := 1, cells := 0, slots := 0, locals := 20 } D cI cZ A (wC cI cZ ad) (RG bsC) [.ref (ad 1), .int (zI a1)] S S' := by
  refine k_start_v (by decide +kernel) hD hG (Nat.le_of_ble_eq_true rfl) (fun Γ F hQ => ?_)
  have F : zF Γ (wC cI cZ ad) cI cZ cX4_add { frames := 1, cells := 0, slots := 0, locals := 20 } 2 RX4 := F
  refine k_sub [0, 1] (lv' := [(0, .ref (ad 1)), (1, .int (zI a1))]) rfl ?_
  refine k_aload_n F dX4_add_0 rfl 0 rfl ?_
  refine k_callVi F cal_X4_isFull wm_163 (obC_1 cI cZ ad) (fun l D A hD hG x S' h => c_X4_isFull hD hG h) ⟨rfl, rfl, Nat.le_of_ble_eq_true rfl, Nat.le_of_ble_eq_true rfl⟩ rfl rfl (Nat.le_of_ble_eq_true rfl) dX4_add_1 h (fun x1 S1 r1 b1 h1 => ?_)
  refine k_if_ne F r1 (tgt := 27) dX4_add_4 (by decide) h1 (fun h2 => ?_) (fun h3 => ?_)
  · exact k_vret F hQ dX4_add_27 h2
  · refine k_aload_n F dX4_add_7 rfl 0 rfl ?_
    refine kgX4_words F dX4_add_8 ?_
    refine k_aload_n F dX4_add_11 rfl 0 rfl ?_
    refine kgX4_size F dX4_add_12 h3 (fun x2 r2 h4 => ?_)
    refine k_iload_n F dX4_add_15 rfl 1 rfl ?_
    refine k_iast F rfl 2 (aC_0 cI cZ ad) (sC_0 cI cZ ad) (by decide) r2 ra1 dX4_add_16 h4 (fun S2 h5 => ?_)
    refine k_aload_n F dX4_add_17 rfl 0 rfl ?_
    refine k_dup F dX4_add_18 rfl ?_
    refine kgX4_size F dX4_add_19 h5 (fun x3 r3 h6 => ?_)
    refine k_iconst F dX4_add_22 ?_
    refine k_iadd F dX4_add_23 h6 (fun x4 r4 h7 => ?_)
    refine kpX4_size F r4 dX4_add_24 h7 (fun S3 h8 => ?_)
    exact k_vret F hQ dX4_add_27 h8
set_option maxRecDepth 100000 in
theorem c_X4_clear {l : Launch} {D : va_G} {A : Nat → Prop} {cI cZ : ClassId} {ad : Nat → Nat} (hD : ∀ S, va_D A (wC cI cZ ad S)) {S : zSt} (hG : RG bsC S) {x : Int} {S' : zSt} (h : m_X4_clear S  = some (x, S')) : zMv l yX4_clear cX4_clear 1 { frames := 0, cells := 0, slots := 0, locals := 0 } D cI cZ A (wC cI cZ ad) (RG bsC) [.ref (ad 1)] S S' := by
  refine k_start_v (by decide +kernel) hD hG (Nat.le_of_ble_eq_true rfl) (fun Γ F hQ => ?_)
  have F : zF Γ (wC cI cZ ad) cI cZ cX4_clear { frames := 0, cells := 0, slots := 0, locals := 0 } 1 RX4 := F
  refine k_sub [0] (lv' := [(0, .ref (ad 1))]) rfl ?_
  refine k_aload_n F dX4_clear_0 rfl 0 rfl ?_
  refine k_iconst F dX4_clear_1 ?_
  refine kpX4_size F iR_0 dX4_clear_2 h (fun S1 h1 => ?_)
  exact k_vret F hQ dX4_clear_5 h1
set_option maxRecDepth 100000 in
theorem c_X4_wordAt {l : Launch} {D : va_G} {A : Nat → Prop} {cI cZ : ClassId} {ad : Nat → Nat} (hD : ∀ S, va_D A (wC cI cZ ad S)) {S : zSt} (hG : RG bsC S) {a1 : Int} (ra1 : inR a1) {x : Int} {S' : zSt} (h : m_X4_wordAt S a1 = some (x, S')) : zMi l yX4_wordAt cX4_wordAt 2 .int { frames := 1, cells := 0, slots := 0, locals := 21 } D cI cZ A (wC cI cZ ad) (RG bsC) [.ref (ad 1), .int (zI a1)] S x S' := by
  refine k_start_i (by decide +kernel) hD hG (Nat.le_of_ble_eq_true rfl) (fun Γ F hQ => ?_)
  have F : zF Γ (wC cI cZ ad) cI cZ cX4_wordAt { frames := 1, cells := 0, slots := 0, locals := 21 } 2 RX4 := F
  refine k_sub [0, 1] (lv' := [(0, .ref (ad 1)), (1, .int (zI a1))]) rfl ?_
  refine k_iload_n F dX4_wordAt_0 rfl 1 rfl ?_
  refine k_aload_n F dX4_wordAt_1 rfl 0 rfl ?_
  refine kgX4_size F dX4_wordAt_2 h (fun x1 r1 h1 => ?_)
  refine k_icmp_ge F ra1 r1 (tgt := 19) dX4_wordAt_5 (by decide) h1 (fun h2 => ?_) (fun h3 => ?_)
  · refine k_iconst F dX4_wordAt_19 ?_
    exact k_iret F hQ iR_m1 dX4_wordAt_20 h2
  · refine k_aload_n F dX4_wordAt_8 rfl 0 rfl ?_
    refine kgX4_words F dX4_wordAt_9 ?_
    refine k_iload_n F dX4_wordAt_12 rfl 1 rfl ?_
    refine k_callNi F cal_X8_at nw_X4_23 (fun l D A hD hG x S' h => c_at hD hG 2 (aC_0 cI cZ ad) (by decide) (by decide) ra1 h) ⟨rfl, rfl, Nat.le_of_ble_eq_true rfl, Nat.le_of_ble_eq_true rfl⟩ rfl rfl (Nat.le_of_ble_eq_true rfl) dX4_wordAt_13 h3 (fun x2 S1 r2 b1 h4 => ?_)
    refine k_goto F (tgt := 20) dX4_wordAt_16 (by decide) ?_
    exact k_iret F hQ r2 dX4_wordAt_20 h4
set_option maxRecDepth 100000 in
theorem c_X7_count {l : Launch} {D : va_G} {A : Nat → Prop} {cI cZ : ClassId} {ad : Nat → Nat} (hD : ∀ S, va_D A (wC cI cZ ad S)) {S : zSt} (hG : RG bsC S) {x : Int} {S' : zSt} (h : m_X7_count S  = some (x, S')) : zMi l yX7_count cX7_count 1 .int { frames := 0, cells := 0, slots := 0, locals := 0 } D cI cZ A (wC cI cZ ad) (RG bsC) [.ref (ad 3)] S x S' := by
  refine k_start_i (by decide +kernel) hD hG (Nat.le_of_ble_eq_true rfl) (fun Γ F hQ => ?_)
  have F : zF Γ (wC cI cZ ad) cI cZ cX7_count { frames := 0, cells := 0, slots := 0, locals := 0 } 1 RX7 := F
  refine k_sub [0] (lv' := [(0, .ref (ad 3))]) rfl ?_
  refine k_aload_n F dX7_count_0 rfl 0 rfl ?_
  refine kgX7_count F dX7_count_1 h (fun x1 r1 h1 => ?_)
  exact k_iret F hQ r1 dX7_count_4 h1
set_option maxRecDepth 100000 in
theorem c_X7_isFull {l : Launch} {D : va_G} {A : Nat → Prop} {cI cZ : ClassId} {ad : Nat → Nat} (hD : ∀ S, va_D A (wC cI cZ ad S)) {S : zSt} (hG : RG bsC S) {x : Int} {S' : zSt} (h : m_X7_isFull S  = some (x, S')) : zMi l yX7_isFull cX7_isFull 1 .boolean { frames := 0, cells := 0, slots := 0, locals := 0 } D cI cZ A (wC cI cZ ad) (RG bsC) [.ref (ad 3)] S x S' := by
  refine k_start_i (by decide +kernel) hD hG (Nat.le_of_ble_eq_true rfl) (fun Γ F hQ => ?_)
  have F : zF Γ (wC cI cZ ad) cI cZ cX7_isFull { frames := 0, cells := 0, slots := 0, locals := 0 } 1 RX7 := F
  refine k_sub [0] (lv' := [(0, .ref (ad 3))]) rfl ?_
  refine k_aload_n F dX7_isFull_0 rfl 0 rfl ?_
  refine kgX7_count F dX7_isFull_1 h (fun x1 r1 h1 => ?_)
  refine k_aload_n F dX7_isFull_4 rfl 0 rfl ?_
  refine kgX7_sizes F dX7_isFull_5 ?_
  refine k_alen F 5 (aC_2 cI cZ ad) (by decide) dX7_isFull_8 ?_
  refine k_icmp_lt F r1 iR_20 (tgt := 16) dX7_isFull_9 (by decide) h1 (fun h2 => ?_) (fun h3 => ?_)
  · refine k_iconst F dX7_isFull_16 ?_
    exact k_zret F hQ (Or.inl rfl) dX7_isFull_17 h2
  · refine k_iconst F dX7_isFull_12 ?_
    refine k_goto F (tgt := 17) dX7_isFull_13 (by decide) ?_
    exact k_zret F hQ (Or.inr rfl) dX7_isFull_17 h3
set_option maxRecDepth 100000 in
theorem c_X7_put {l : Launch} {D : va_G} {A : Nat → Prop} {cI cZ : ClassId} {ad : Nat → Nat} (hD : ∀ S, va_D A (wC cI cZ ad S)) {S : zSt} (hG : RG bsC S) {a1 : Int} (ra1 : inR a1) {a2 : Int} (ra2 : inR a2) {a3 : Int} (ra3 : inR a3) {x : Int} {S' : zSt} (h : m_X7_put S a1 a2 a3 = some (x, S')) : zMv l yX7_put cX7_put 4 { frames := 3, cells := 0, slots := 0, locals := 64 } D cI cZ A (wC cI cZ ad) (RG bsC) [.ref (ad 3), .int (zI a1), .int (zI a2), .int (zI a3)] S S' := by
  refine k_start_v (by decide +kernel) hD hG (Nat.le_of_ble_eq_true rfl) (fun Γ F hQ => ?_)
  have F : zF Γ (wC cI cZ ad) cI cZ cX7_put { frames := 3, cells := 0, slots := 0, locals := 64 } 4 RX7 := F
  refine k_sub [0, 1, 2, 3] (lv' := [(0, .ref (ad 3)), (1, .int (zI a1)), (2, .int (zI a2)), (3, .int (zI a3))]) rfl ?_
  refine k_aload_n F dX7_put_0 rfl 0 rfl ?_
  refine k_iload_n F dX7_put_1 rfl 1 rfl ?_
  refine k_iload_n F dX7_put_2 rfl 2 rfl ?_
  refine k_callVi F cal_X7_hasPlace wm_137 (obC_3 cI cZ ad) (fun l D A hD hG x S' h => c_X7_hasPlace hD hG ra1 ra2 h) ⟨rfl, rfl, Nat.le_of_ble_eq_true rfl, Nat.le_of_ble_eq_true rfl⟩ rfl rfl (Nat.le_of_ble_eq_true rfl) dX7_put_3 h (fun x1 S1 r1 b1 h1 => ?_)
  refine k_if_eq F r1 (tgt := 21) dX7_put_6 (by decide) h1 (fun h2 => ?_) (fun h3 => ?_)
  · exact k_vret F hQ dX7_put_21 h2
  · refine k_aload_n F dX7_put_9 rfl 0 rfl ?_
    refine kgX7_words F dX7_put_10 ?_
    refine k_iload_n F dX7_put_13 rfl 1 rfl ?_
    refine k_bipush F dX7_put_14 bp_12 ?_
    refine k_imul F dX7_put_16 h3 (fun x2 r2 h4 => ?_)
    refine k_iload_n F dX7_put_17 rfl 2 rfl ?_
    refine k_iadd F dX7_put_18 h4 (fun x3 r3 h5 => ?_)
    refine k_iload_n F dX7_put_19 rfl 3 rfl ?_
    refine k_iast F rfl 4 (aC_1 cI cZ ad) (sC_1 cI cZ ad) (by decide) r3 ra3 dX7_put_20 h5 (fun S2 h6 => ?_)
    exact k_vret F hQ dX7_put_21 h6
set_option maxRecDepth 100000 in
theorem c_X7_add {l : Launch} {D : va_G} {A : Nat → Prop} {cI cZ : ClassId} {ad : Nat → Nat} (hD : ∀ S, va_D A (wC cI cZ ad S)) {S : zSt} (hG : RG bsC S) {x : Int} {S' : zSt} (h : m_X7_add S  = some (x, S')) : zMv l yX7_add cX7_add 4 { frames := 4, cells := 0, slots := 0, locals := 87 } D cI cZ A (wC cI cZ ad) (RG bsC) [.ref (ad 3), .ref (ad 1)] S S' := by
  refine k_start_v (by decide +kernel) hD hG (Nat.le_of_ble_eq_true rfl) (fun Γ F hQ => ?_)
  have F : zF Γ (wC cI cZ ad) cI cZ cX7_add { frames := 4, cells := 0, slots := 0, locals := 87 } 4 RX7 := F
  refine k_sub [0, 1] (lv' := [(0, .ref (ad 3)), (1, .ref (ad 1))]) rfl ?_
  refine k_aload_n F dX7_add_0 rfl 0 rfl ?_
  refine k_callVi F cal_X7_isFull wm_167 (obC_3 cI cZ ad) (fun l D A hD hG x S' h => c_X7_isFull hD hG h) ⟨rfl, rfl, Nat.le_of_ble_eq_true rfl, Nat.le_of_ble_eq_true rfl⟩ rfl rfl (Nat.le_of_ble_eq_true rfl) dX7_add_1 h (fun x1 S1 r1 b1 h1 => ?_)
  refine k_if_eq F r1 (tgt := 8) dX7_add_4 (by decide) h1 (fun h2 => ?_) (fun h3 => ?_)
  · refine k_aload_n F dX7_add_8 rfl 0 rfl ?_
    refine kgX7_count F dX7_add_9 h2 (fun x2 r2 h4 => ?_)
    refine k_istore_n F dX7_add_12 rfl (by decide) rfl ?_
    refine k_aload_n F dX7_add_13 rfl 1 rfl ?_
    refine k_dup F dX7_add_14 rfl ?_
    refine kgX7_count F dX7_add_15 h4 (fun x3 r3 h5 => ?_)
    refine k_iconst F dX7_add_18 ?_
    refine k_iadd F dX7_add_19 h5 (fun x4 r4 h6 => ?_)
    refine kpX7_count F r4 dX7_add_20 h6 (fun S2 h7 => ?_)
    refine k_aload_n F dX7_add_23 rfl 1 rfl ?_
    refine kgX7_sizes F dX7_add_24 ?_
    refine k_iload_n F dX7_add_27 rfl 0 rfl ?_
    refine k_aload_n F dX7_add_28 rfl 2 rfl ?_
    refine k_callVi F cal_X4_size wm_171 (obC_1 cI cZ ad) (fun l D A hD hG x S' h => c_X4_size hD hG h) ⟨rfl, rfl, Nat.le_of_ble_eq_true rfl, Nat.le_of_ble_eq_true rfl⟩ rfl rfl (Nat.le_of_ble_eq_true rfl) dX7_add_29 h7 (fun x5 S3 r5 b2 h8 => ?_)
    refine k_iast F rfl 5 (aC_2 cI cZ ad) (sC_2 cI cZ ad) (by decide) r2 r5 dX7_add_32 h8 (fun S4 h9 => ?_)
    refine k_iconst F dX7_add_33 ?_
    refine k_istore_n F dX7_add_34 rfl (by decide) rfl ?_
    refine k_sub [2, 3, 1, 0] rfl (zl1_e (F := (b_X7_add_35 x2)) (fun v1 S5 => inR v1 → zk Γ (wC cI cZ ad) (RG bsC) S5 [(0, .ref (ad 3)), (1, .ref (ad 1)), (2, .int (zI x2)), (3, .int (zI v1))] 35 []) (fun rec1 v1 S5 hrec1 h10 r6 => ?_) 1000 0 S4 h9 iR_0)
    refine k_iload_n F dX7_add_35 rfl 3 rfl ?_
    refine k_aload_n F dX7_add_36 rfl 1 rfl ?_
    refine k_callVi F cal_X4_size wm_171 (obC_1 cI cZ ad) (fun l D A hD hG x S' h => c_X4_size hD hG h) ⟨rfl, rfl, Nat.le_of_ble_eq_true rfl, Nat.le_of_ble_eq_true rfl⟩ rfl rfl (Nat.le_of_ble_eq_true rfl) dX7_add_37 h10 (fun x6 S6 r7 b3 h11 => ?_)
    refine k_icmp_ge F r6 r7 (tgt := 60) dX7_add_40 (by decide) h11 (fun h12 => ?_) (fun h13 => ?_)
    · exact k_vret F hQ dX7_add_60 h12
    · refine k_aload_n F dX7_add_43 rfl 0 rfl ?_
      refine k_iload_n F dX7_add_44 rfl 2 rfl ?_
      refine k_iload_n F dX7_add_45 rfl 3 rfl ?_
      refine k_aload_n F dX7_add_46 rfl 1 rfl ?_
      refine k_iload_n F dX7_add_47 rfl 3 rfl ?_
      refine k_callVi F cal_X4_wordAt wm_175 (obC_1 cI cZ ad) (fun l D A hD hG x S' h => c_X4_wordAt hD hG r6 h) ⟨rfl, rfl, Nat.le_of_ble_eq_true rfl, Nat.le_of_ble_eq_true rfl⟩ rfl rfl (Nat.le_of_ble_eq_true rfl) dX7_add_48 h13 (fun x7 S7 r8 b4 h14 => ?_)
      refine k_callVv F cal_X7_put wm_179 (obC_3 cI cZ ad) (fun l D A hD hG x S' h => c_X7_put hD hG r2 r6 r8 h) ⟨rfl, rfl, Nat.le_of_ble_eq_true rfl, Nat.le_of_ble_eq_true rfl⟩ rfl rfl (Nat.le_of_ble_eq_true rfl) dX7_add_51 h14 (fun x8 S8 h15 => ?_)
      refine k_iinc F (k := 3) (lv' := fun y => [(3, .int (zI y)), (0, .ref (ad 3)), (1, .ref (ad 1)), (2, .int (zI x2))]) dX7_add_54 rfl (by decide) (fun _ => rfl) h15 (fun x9 r10 h16 => ?_)
      refine k_goto F (tgt := 35) dX7_add_57 (by decide) ?_
      exact k_sub [1, 2, 3, 0] rfl (hrec1 x9 S8 h16 r10)
  · exact k_vret F hQ dX7_add_7 h3
set_option maxRecDepth 100000 in
theorem c_X7_takeOut {l : Launch} {D : va_G} {A : Nat → Prop} {cI cZ : ClassId} {ad : Nat → Nat} (hD : ∀ S, va_D A (wC cI cZ ad S)) {S : zSt} (hG : RG bsC S) {a1 : Int} (ra1 : inR a1) {a2 : Int} (ra2 : inR a2) {x : Int} {S' : zSt} (h : m_X7_takeOut S a1 a2 = some (x, S')) : zMv l yX7_takeOut cX7_takeOut 4 { frames := 4, cells := 0, slots := 0, locals := 87 } D cI cZ A (wC cI cZ ad) (RG bsC) [.ref (ad 3), .int (zI a1), .int (zI a2)] S S' := by
  refine k_start_v (by decide +kernel) hD hG (Nat.le_of_ble_eq_true rfl) (fun Γ F hQ => ?_)
  have F : zF Γ (wC cI cZ ad) cI cZ cX7_takeOut { frames := 4, cells := 0, slots := 0, locals := 87 } 4 RX7 := F
  refine k_sub [0, 1, 2] (lv' := [(0, .ref (ad 3)), (1, .int (zI a1)), (2, .int (zI a2))]) rfl ?_
  refine k_aload_n F dX7_takeOut_0 rfl 0 rfl ?_
  refine k_iload_n F dX7_takeOut_1 rfl 1 rfl ?_
  refine k_iload_n F dX7_takeOut_2 rfl 2 rfl ?_
  refine k_callVi F cal_X7_hasPlace wm_137 (obC_3 cI cZ ad) (fun l D A hD hG x S' h => c_X7_hasPlace hD hG ra1 ra2 h) ⟨rfl, rfl, Nat.le_of_ble_eq_true rfl, Nat.le_of_ble_eq_true rfl⟩ rfl rfl (Nat.le_of_ble_eq_true rfl) dX7_takeOut_3 h (fun x1 S1 r1 b1 h1 => ?_)
  refine k_if_ne F r1 (tgt := 10) dX7_takeOut_6 (by decide) h1 (fun h2 => ?_) (fun h3 => ?_)
  · refine k_iload_n F dX7_takeOut_10 rfl 2 rfl ?_
    refine k_istore_n F dX7_takeOut_11 rfl (by decide) rfl ?_
    refine zj0_e (PJ := (fun S2 => zk Γ (wC cI cZ ad) (RG bsC) S2 [(0, .ref (ad 3)), (1, .int (zI a1))] 44 [])) h2 (fun S2 h4 => ?_) (fun j1 J1 h8 => ?_)
    · refine k_aload_n F dX7_takeOut_44 rfl 0 rfl ?_
      refine kgX7_sizes F dX7_takeOut_45 ?_
      refine k_iload_n F dX7_takeOut_48 rfl 1 rfl ?_
      refine k_dup2 F dX7_takeOut_49 rfl rfl ?_
      refine k_iald F rfl 5 (aC_2 cI cZ ad) ra1 dX7_takeOut_50 h4 (fun x2 r2 h5 => ?_)
      refine k_iconst F dX7_takeOut_51 ?_
      refine k_isub F dX7_takeOut_52 h5 (fun x3 r3 h6 => ?_)
      refine k_iast F rfl 5 (aC_2 cI cZ ad) (sC_2 cI cZ ad) (by decide) ra1 r3 dX7_takeOut_53 h6 (fun S3 h7 => ?_)
      exact k_vret F hQ dX7_takeOut_54 h7
    · refine k_sub [1, 2, 0] rfl (zl1_e (F := (b_X7_takeOut_12 a1 j1)) (fun v1 S4 => inR v1 → zk Γ (wC cI cZ ad) (RG bsC) S4 [(0, .ref (ad 3)), (1, .int (zI a1)), (3, .int (zI v1))] 12 []) (fun rec1 v1 S4 hrec1 h9 r4 => ?_) 1000 a2 S1 h8 ra2)
      refine k_iload_n F dX7_takeOut_12 rfl 2 rfl ?_
      refine k_iconst F dX7_takeOut_13 ?_
      refine k_iadd F dX7_takeOut_14 h9 (fun x4 r5 h10 => ?_)
      refine k_aload_n F dX7_takeOut_15 rfl 0 rfl ?_
      refine kgX7_sizes F dX7_takeOut_16 ?_
      refine k_iload_n F dX7_takeOut_19 rfl 1 rfl ?_
      refine k_iald F rfl 5 (aC_2 cI cZ ad) ra1 dX7_takeOut_20 h10 (fun x5 r6 h11 => ?_)
      refine k_icmp_ge F r5 r6 (tgt := 44) dX7_takeOut_21 (by decide) h11 (fun h12 => ?_) (fun h13 => ?_)
      · exact k_sub [0, 1] rfl (J1 S4 h12)
      · refine k_aload_n F dX7_takeOut_24 rfl 0 rfl ?_
        refine k_iload_n F dX7_takeOut_25 rfl 1 rfl ?_
        refine k_iload_n F dX7_takeOut_26 rfl 2 rfl ?_
        refine k_aload_n F dX7_takeOut_27 rfl 0 rfl ?_
        refine k_iload_n F dX7_takeOut_28 rfl 1 rfl ?_
        refine k_iload_n F dX7_takeOut_29 rfl 2 rfl ?_
        refine k_iconst F dX7_takeOut_30 ?_
        refine k_iadd F dX7_takeOut_31 h13 (fun x6 r7 h14 => ?_)
        refine k_callVi F cal_X7_wordAt wm_141 (obC_3 cI cZ ad) (fun l D A hD hG x S' h => c_X7_wordAt hD hG ra1 r7 h) ⟨rfl, rfl, Nat.le_of_ble_eq_true rfl, Nat.le_of_ble_eq_true rfl⟩ rfl rfl (Nat.le_of_ble_eq_true rfl) dX7_takeOut_32 h14 (fun x7 S5 r8 b2 h15 => ?_)
        refine k_callVv F cal_X7_put wm_179 (obC_3 cI cZ ad) (fun l D A hD hG x S' h => c_X7_put hD hG ra1 r4 r8 h) ⟨rfl, rfl, Nat.le_of_ble_eq_true rfl, Nat.le_of_ble_eq_true rfl⟩ rfl rfl (Nat.le_of_ble_eq_true rfl) dX7_takeOut_35 h15 (fun x8 S6 h16 => ?_)
        refine k_iinc F (k := 2) (lv' := fun y => [(3, .int (zI y)), (0, .ref (ad 3)), (1, .int (zI a1))]) dX7_takeOut_38 rfl (by decide) (fun _ => rfl) h16 (fun x9 r10 h17 => ?_)
        refine k_goto F (tgt := 12) dX7_takeOut_41 (by decide) ?_
        exact k_sub [1, 2, 0] rfl (hrec1 x9 S6 h17 r10)
  · exact k_vret F hQ dX7_takeOut_9 h3
set_option maxRecDepth 100000 in
theorem c_X7_placeOf {l : Launch} {D : va_G} {A : Nat → Prop} {cI cZ : ClassId} {ad : Nat → Nat} (hD : ∀ S, va_D A (wC cI cZ ad S)) {S : zSt} (hG : RG bsC S) {a1 : Int} (ra1 : inR a1) {a2 : Int} (ra2 : inR a2) {a3 : Int} (ra3 : inR a3) {x : Int} {S' : zSt} (h : m_X7_placeOf S a1 a2 a3 = some (x, S')) : zMi l yX7_placeOf cX7_placeOf 6 .int { frames := 4, cells := 0, slots := 0, locals := 86 } D cI cZ A (wC cI cZ ad) (RG bsC) [.ref (ad 3), .int (zI a1), .int (zI a2), .int (zI a3)] S x S' := by
  refine k_start_i (by decide +kernel) hD hG (Nat.le_of_ble_eq_true rfl) (fun Γ F hQ => ?_)
  have F : zF Γ (wC cI cZ ad) cI cZ cX7_placeOf { frames := 4, cells := 0, slots := 0, locals := 86 } 6 RX7 := F
  refine k_sub [0, 1, 2, 3] (lv' := [(0, .ref (ad 3)), (1, .int (zI a1)), (2, .int (zI a2)), (3, .int (zI a3))]) rfl ?_
  refine k_iconst F dX7_placeOf_0 ?_
  refine k_istore F dX7_placeOf_1 (by decide) rfl ?_
  refine k_iconst F dX7_placeOf_3 ?_
  refine k_istore F dX7_placeOf_4 (by decide) rfl ?_
  refine zj0_e (PJ := (fun S1 => zk Γ (wC cI cZ ad) (RG bsC) S1 [] 45 [])) h (fun S1 h1 => ?_) (fun j1 J1 h2 => ?_)
  · refine k_iconst F dX7_placeOf_45 ?_
    exact k_iret F hQ iR_m1 dX7_placeOf_46 h1
  · refine k_sub [2, 3, 4, 5, 1, 0] rfl (zl2_e (F := (b_X7_placeOf_6 a1 a2 a3 j1)) (fun v1 v2 S2 => inR v1 → inR v2 → zk Γ (wC cI cZ ad) (RG bsC) S2 [(0, .ref (ad 3)), (1, .int (zI a1)), (2, .int (zI a2)), (3, .int (zI a3)), (4, .int (zI v1)), (5, .int (zI v2))] 6 []) (fun rec1 v1 v2 S2 hrec1 h3 r1 r2 => ?_) 1000 0 0 S h2 iR_0 iR_0)
    refine k_iload F dX7_placeOf_6 5 rfl ?_
    refine k_aload_n F dX7_placeOf_8 rfl 0 rfl ?_
    refine k_iload_n F dX7_placeOf_9 rfl 1 rfl ?_
    refine k_callVi F cal_X7_sizeOf wm_133 (obC_3 cI cZ ad) (fun l D A hD hG x S' h => c_X7_sizeOf hD hG ra1 h) ⟨rfl, rfl, Nat.le_of_ble_eq_true rfl, Nat.le_of_ble_eq_true rfl⟩ rfl rfl (Nat.le_of_ble_eq_true rfl) dX7_placeOf_10 h3 (fun x1 S3 r3 b1 h4 => ?_)
    refine k_icmp_ge F r2 r3 (tgt := 45) dX7_placeOf_13 (by decide) h4 (fun h5 => ?_) (fun h6 => ?_)
    · exact k_sub [] rfl (J1 S3 h5)
    · refine k_aload_n F dX7_placeOf_16 rfl 0 rfl ?_
      refine k_iload_n F dX7_placeOf_17 rfl 1 rfl ?_
      refine k_iload F dX7_placeOf_18 5 rfl ?_
      refine k_callVi F cal_X7_wordAt wm_141 (obC_3 cI cZ ad) (fun l D A hD hG x S' h => c_X7_wordAt hD hG ra1 r2 h) ⟨rfl, rfl, Nat.le_of_ble_eq_true rfl, Nat.le_of_ble_eq_true rfl⟩ rfl rfl (Nat.le_of_ble_eq_true rfl) dX7_placeOf_20 h6 (fun x2 S4 r4 b2 h7 => ?_)
      refine k_iload_n F dX7_placeOf_23 rfl 2 rfl ?_
      refine zj1_e (PJ := (fun v3 S5 => inR v3 → zk Γ (wC cI cZ ad) (RG bsC) S5 [(0, .ref (ad 3)), (1, .int (zI a1)), (2, .int (zI a2)), (3, .int (zI a3)), (4, .int (zI v3)), (5, .int (zI v2))] 39 [])) h7 (fun v3 S5 h8 r5 => ?_) (fun j2 J2 h10 => ?_)
      · refine k_iinc F (k := 5) (lv' := fun y => [(5, .int (zI y)), (0, .ref (ad 3)), (1, .int (zI a1)), (2, .int (zI a2)), (3, .int (zI a3)), (4, .int (zI v3))]) dX7_placeOf_39 rfl (by decide) (fun _ => rfl) h8 (fun x3 r6 h9 => ?_)
        refine k_goto F (tgt := 6) dX7_placeOf_42 (by decide) ?_
        exact k_sub [1, 2, 3, 4, 5, 0] rfl (hrec1 v3 x3 S5 h9 r5 r6)
      · refine k_icmp_ne F r4 ra2 (tgt := 39) dX7_placeOf_24 (by decide) h10 (fun h11 => ?_) (fun h12 => ?_)
        · exact k_sub [0, 1, 2, 3, 4, 5] rfl (J2 v1 S4 h11 r1)
        · refine k_iinc F (k := 4) (lv' := fun y => [(4, .int (zI y)), (0, .ref (ad 3)), (1, .int (zI a1)), (2, .int (zI a2)), (3, .int (zI a3)), (5, .int (zI v2))]) dX7_placeOf_27 rfl (by decide) (fun _ => rfl) h12 (fun x4 r7 h13 => ?_)
          refine k_iload F dX7_placeOf_30 0 rfl ?_
          refine k_iload_n F dX7_placeOf_32 rfl 4 rfl ?_
          refine k_icmp_ne F r7 ra3 (tgt := 39) dX7_placeOf_33 (by decide) h13 (fun h14 => ?_) (fun h15 => ?_)
          · exact k_sub [1, 2, 3, 4, 0, 5] rfl (J2 x4 S4 h14 r7)
          · refine k_iload F dX7_placeOf_36 5 rfl ?_
            exact k_iret F hQ r2 dX7_placeOf_38 h15
