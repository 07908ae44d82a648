set_option maxRecDepth 100000 in
theorem c_X9_thrown {l : Launch} {D : va_G} {A : Nat → Prop} {cI cZ : ClassId} {ad : Nat → Nat} (hD : ∀ S, va_D A (wM cI cZ ad S)) {S : zSt} (hG : RG bsM S) {x : Int} {S' : zSt} (h : m_X9_thrown S  = some (x, S')) : zMi l yX9_thrown cX9_thrown 1 .int { frames := 0, cells := 0, slots := 0, locals := 0 } D cI cZ A (wM cI cZ ad) (RG bsM) [.ref (ad 0)] S x S' := by
  refine k_start_i (by decide +kernel) hD hG (Nat.le_of_ble_eq_true rfl) (fun Γ F hQ => ?_)
  have F : zF Γ (wM cI cZ ad) cI cZ cX9_thrown { frames := 0, cells := 0, slots := 0, locals := 0 } 1 RX9 := F
  refine k_sub [0] (lv' := [(0, .ref (ad 0))]) rfl ?_
  refine k_aload_n F dX9_thrown_0 rfl 0 rfl ?_
  refine kgX9_thrown F dX9_thrown_1 h (fun x1 r1 h1 => ?_)
  exact k_iret F hQ r1 dX9_thrown_4 h1
set_option maxRecDepth 100000 in
theorem c_X9_between {l : Launch} {D : va_G} {A : Nat → Prop} {cI cZ : ClassId} {ad : Nat → Nat} (hD : ∀ S, va_D A (wM cI cZ ad S)) {S : zSt} (hG : RG bsM S) {a1 : Int} (ra1 : inR a1) {a2 : Int} (ra2 : inR a2) {a3 : Int} (ra3 : inR a3) {x : Int} {S' : zSt} (h : m_X9_between S a1 a2 a3 = some (x, S')) : zMi l yX9_between cX9_between 4 .boolean { frames := 0, cells := 0, slots := 0, locals := 0 } D cI cZ A (wM cI cZ ad) (RG bsM) [.ref (ad 0), .int (zI a1), .int (zI a2), .int (zI a3)] S x S' := by
  refine k_start_i (by decide +kernel) hD hG (Nat.le_of_ble_eq_true rfl) (fun Γ F hQ => ?_)
  have F : zF Γ (wM cI cZ ad) cI cZ cX9_between { frames := 0, cells := 0, slots := 0, locals := 0 } 4 RX9 := F
  refine k_sub [0, 1, 2, 3] (lv' := [(0, .ref (ad 0)), (1, .int (zI a1)), (2, .int (zI a2)), (3, .int (zI a3))]) rfl ?_
  refine k_iload_n F dX9_between_0 rfl 1 rfl ?_
  refine k_iload_n F dX9_between_1 rfl 2 rfl ?_
  refine zj0_e (PJ := (fun S1 => zk Γ (wM cI cZ ad) (RG bsM) S1 [] 14 [])) h (fun S1 h1 => ?_) (fun j1 J1 h2 => ?_)
  · refine k_iconst F dX9_between_14 ?_
    exact k_zret F hQ (Or.inl rfl) dX9_between_15 h1
  · refine k_icmp_lt F ra1 ra2 (tgt := 14) dX9_between_2 (by decide) h2 (fun h3 => ?_) (fun h4 => ?_)
    · exact k_sub [] rfl (J1 S h3)
    · refine k_iload_n F dX9_between_5 rfl 1 rfl ?_
      refine k_iload_n F dX9_between_6 rfl 3 rfl ?_
      refine k_icmp_gt F ra1 ra3 (tgt := 14) dX9_between_7 (by decide) h4 (fun h5 => ?_) (fun h6 => ?_)
      · exact k_sub [] rfl (J1 S h5)
      · refine k_iconst F dX9_between_10 ?_
        refine k_goto F (tgt := 15) dX9_between_11 (by decide) ?_
        exact k_zret F hQ (Or.inr rfl) dX9_between_15 h6
set_option maxRecDepth 100000 in
theorem c_X9_isUnit {l : Launch} {D : va_G} {A : Nat → Prop} {cI cZ : ClassId} {ad : Nat → Nat} (hD : ∀ S, va_D A (wM cI cZ ad S)) {S : zSt} (hG : RG bsM S) {a1 : Int} (ra1 : inR a1) {x : Int} {S' : zSt} (h : m_X9_isUnit S a1 = some (x, S')) : zMi l yX9_isUnit cX9_isUnit 2 .boolean { frames := 1, cells := 0, slots := 0, locals := 23 } D cI cZ A (wM cI cZ ad) (RG bsM) [.ref (ad 0), .int (zI a1)] S x S' := by
  refine k_start_i (by decide +kernel) hD hG (Nat.le_of_ble_eq_true rfl) (fun Γ F hQ => ?_)
  have F : zF Γ (wM cI cZ ad) cI cZ cX9_isUnit { frames := 1, cells := 0, slots := 0, locals := 23 } 2 RX9 := F
  refine k_sub [0, 1] (lv' := [(0, .ref (ad 0)), (1, .int (zI a1))]) rfl ?_
  refine k_aload_n F dX9_isUnit_0 rfl 0 rfl ?_
  refine k_iload_n F dX9_isUnit_1 rfl 1 rfl ?_
  refine k_iconst F dX9_isUnit_2 ?_
  refine k_aload_n F dX9_isUnit_3 rfl 0 rfl ?_
  refine kgX9_unitMany F dX9_isUnit_4 h (fun x1 r1 h1 => ?_)
  refine k_iconst F dX9_isUnit_7 ?_
  refine k_isub F dX9_isUnit_8 h1 (fun x2 r2 h2 => ?_)
  refine k_callVi F cal_X9_between wm_144 (obM_0 cI cZ ad) (fun l D A hD hG x S' h => c_X9_between hD hG ra1 iR_0 r2 h) ⟨rfl, rfl, Nat.le_of_ble_eq_true rfl, Nat.le_of_ble_eq_true rfl⟩ rfl rfl (Nat.le_of_ble_eq_true rfl) dX9_isUnit_9 h2 (fun x3 S1 r3 b1 h3 => ?_)
  exact k_zret F hQ (b1 rfl) dX9_isUnit_12 h3
set_option maxRecDepth 100000 in
theorem c_X9_isAuthor {l : Launch} {D : va_G} {A : Nat → Prop} {cI cZ : ClassId} {ad : Nat → Nat} (hD : ∀ S, va_D A (wM cI cZ ad S)) {S : zSt} (hG : RG bsM S) {a1 : Int} (ra1 : inR a1) {x : Int} {S' : zSt} (h : m_X9_isAuthor S a1 = some (x, S')) : zMi l yX9_isAuthor cX9_isAuthor 2 .boolean { frames := 1, cells := 0, slots := 0, locals := 23 } D cI cZ A (wM cI cZ ad) (RG bsM) [.ref (ad 0), .int (zI a1)] S x S' := by
  refine k_start_i (by decide +kernel) hD hG (Nat.le_of_ble_eq_true rfl) (fun Γ F hQ => ?_)
  have F : zF Γ (wM cI cZ ad) cI cZ cX9_isAuthor { frames := 1, cells := 0, slots := 0, locals := 23 } 2 RX9 := F
  refine k_sub [0, 1] (lv' := [(0, .ref (ad 0)), (1, .int (zI a1))]) rfl ?_
  refine k_aload_n F dX9_isAuthor_0 rfl 0 rfl ?_
  refine k_iload_n F dX9_isAuthor_1 rfl 1 rfl ?_
  refine k_iconst F dX9_isAuthor_2 ?_
  refine k_aload_n F dX9_isAuthor_3 rfl 0 rfl ?_
  refine kgX9_authorMany F dX9_isAuthor_4 h (fun x1 r1 h1 => ?_)
  refine k_iconst F dX9_isAuthor_7 ?_
  refine k_isub F dX9_isAuthor_8 h1 (fun x2 r2 h2 => ?_)
  refine k_callVi F cal_X9_between wm_144 (obM_0 cI cZ ad) (fun l D A hD hG x S' h => c_X9_between hD hG ra1 iR_0 r2 h) ⟨rfl, rfl, Nat.le_of_ble_eq_true rfl, Nat.le_of_ble_eq_true rfl⟩ rfl rfl (Nat.le_of_ble_eq_true rfl) dX9_isAuthor_9 h2 (fun x3 S1 r3 b1 h3 => ?_)
  exact k_zret F hQ (b1 rfl) dX9_isAuthor_12 h3
set_option maxRecDepth 100000 in
theorem c_X9_isComment {l : Launch} {D : va_G} {A : Nat → Prop} {cI cZ : ClassId} {ad : Nat → Nat} (hD : ∀ S, va_D A (wM cI cZ ad S)) {S : zSt} (hG : RG bsM S) {a1 : Int} (ra1 : inR a1) {x : Int} {S' : zSt} (h : m_X9_isComment S a1 = some (x, S')) : zMi l yX9_isComment cX9_isComment 2 .boolean { frames := 1, cells := 0, slots := 0, locals := 23 } D cI cZ A (wM cI cZ ad) (RG bsM) [.ref (ad 0), .int (zI a1)] S x S' := by
  refine k_start_i (by decide +kernel) hD hG (Nat.le_of_ble_eq_true rfl) (fun Γ F hQ => ?_)
  have F : zF Γ (wM cI cZ ad) cI cZ cX9_isComment { frames := 1, cells := 0, slots := 0, locals := 23 } 2 RX9 := F
  refine k_sub [0, 1] (lv' := [(0, .ref (ad 0)), (1, .int (zI a1))]) rfl ?_
  refine k_aload_n F dX9_isComment_0 rfl 0 rfl ?_
  refine k_iload_n F dX9_isComment_1 rfl 1 rfl ?_
  refine k_iconst F dX9_isComment_2 ?_
  refine k_aload_n F dX9_isComment_3 rfl 0 rfl ?_
  refine kgX9_commentMany F dX9_isComment_4 h (fun x1 r1 h1 => ?_)
  refine k_iconst F dX9_isComment_7 ?_
  refine k_isub F dX9_isComment_8 h1 (fun x2 r2 h2 => ?_)
  refine k_callVi F cal_X9_between wm_144 (obM_0 cI cZ ad) (fun l D A hD hG x S' h => c_X9_between hD hG ra1 iR_0 r2 h) ⟨rfl, rfl, Nat.le_of_ble_eq_true rfl, Nat.le_of_ble_eq_true rfl⟩ rfl rfl (Nat.le_of_ble_eq_true rfl) dX9_isComment_9 h2 (fun x3 S1 r3 b1 h3 => ?_)
  exact k_zret F hQ (b1 rfl) dX9_isComment_12 h3
set_option maxRecDepth 100000 in
theorem c_X9_word {l : Launch} {D : va_G} {A : Nat → Prop} {cI cZ : ClassId} {ad : Nat → Nat} (hD : ∀ S, va_D A (wM cI cZ ad S)) {S : zSt} (hG : RG bsM S) {a1 : Int} (ra1 : inR a1) {x : Int} {S' : zSt} (h : m_X9_word S a1 = some (x, S')) : zMi l yX9_word cX9_word 2 .int { frames := 1, cells := 0, slots := 0, locals := 23 } D cI cZ A (wM cI cZ ad) (RG bsM) [.ref (ad 0), .int (zI a1)] S x S' := by
  refine k_start_i (by decide +kernel) hD hG (Nat.le_of_ble_eq_true rfl) (fun Γ F hQ => ?_)
  have F : zF Γ (wM cI cZ ad) cI cZ cX9_word { frames := 1, cells := 0, slots := 0, locals := 23 } 2 RX9 := F
  refine k_sub [0, 1] (lv' := [(0, .ref (ad 0)), (1, .int (zI a1))]) rfl ?_
  refine k_aload_n F dX9_word_0 rfl 0 rfl ?_
  refine k_aload_n F dX9_word_1 rfl 0 rfl ?_
  refine k_iload_n F dX9_word_2 rfl 1 rfl ?_
  refine k_iconst F dX9_word_3 ?_
  refine k_bipush F dX9_word_4 bp_59 ?_
  refine k_callVi F cal_X9_between wm_144 (obM_0 cI cZ ad) (fun l D A hD hG x S' h => c_X9_between hD hG ra1 iR_0 iR_59 h) ⟨rfl, rfl, Nat.le_of_ble_eq_true rfl, Nat.le_of_ble_eq_true rfl⟩ rfl rfl (Nat.le_of_ble_eq_true rfl) dX9_word_6 h (fun x1 S1 r1 b1 h1 => ?_)
  refine zj1_e (PJ := (fun v1 S2 => inR v1 → zk Γ (wM cI cZ ad) (RG bsM) S2 [(0, .ref (ad 0)), (1, .int (zI a1))] 30 [.int (zI v1), .ref (ad 0)])) h1 (fun v1 S2 h2 r2 => ?_) (fun j1 J1 h13 => ?_)
  · refine kpX9_thrown F r2 dX9_word_30 h2 (fun S3 h3 => ?_)
    refine k_aload_n F dX9_word_33 rfl 0 rfl ?_
    refine kgX9_thrown F dX9_word_34 h3 (fun x2 r3 h4 => ?_)
    refine k_if_le F r3 (tgt := 42) dX9_word_37 (by decide) h4 (fun h5 => ?_) (fun h6 => ?_)
    · refine k_aload_n F dX9_word_42 rfl 0 rfl ?_
      refine kgX9_pad F dX9_word_43 ?_
      refine k_aload_n F dX9_word_46 rfl 0 rfl ?_
      refine kgX9_padMany F dX9_word_47 h5 (fun x3 r4 h7 => ?_)
      refine k_iload_n F dX9_word_50 rfl 1 rfl ?_
      refine k_iast F rfl 1 (aM_0 cI cZ ad) (sM_0 cI cZ ad) (by decide) r4 ra1 dX9_word_51 h7 (fun S4 h8 => ?_)
      refine k_aload_n F dX9_word_52 rfl 0 rfl ?_
      refine k_dup F dX9_word_53 rfl ?_
      refine kgX9_padMany F dX9_word_54 h8 (fun x4 r5 h9 => ?_)
      refine k_iconst F dX9_word_57 ?_
      refine k_iadd F dX9_word_58 h9 (fun x5 r6 h10 => ?_)
      refine kpX9_padMany F r6 dX9_word_59 h10 (fun S5 h11 => ?_)
      refine k_aload_n F dX9_word_62 rfl 0 rfl ?_
      refine kgX9_padMany F dX9_word_63 h11 (fun x6 r7 h12 => ?_)
      exact k_iret F hQ r7 dX9_word_66 h12
    · refine k_iconst F dX9_word_40 ?_
      exact k_iret F hQ iR_0 dX9_word_41 h6
  · refine k_if_ne F r1 (tgt := 16) dX9_word_9 (by decide) h13 (fun h14 => ?_) (fun h15 => ?_)
    · refine k_aload_n F dX9_word_16 rfl 0 rfl ?_
      refine kgX9_padMany F dX9_word_17 h14 (fun x7 r8 h16 => ?_)
      refine k_bipush F dX9_word_20 bp_12 ?_
      refine k_icmp_ne F r8 iR_12 (tgt := 29) dX9_word_22 (by decide) h16 (fun h17 => ?_) (fun h18 => ?_)
      · refine k_iconst F dX9_word_29 ?_
        exact k_sub [0, 1] rfl (J1 0 S1 h17 iR_0)
      · refine k_iconst F dX9_word_25 ?_
        refine k_goto F (tgt := 30) dX9_word_26 (by decide) ?_
        exact k_sub [0, 1] rfl (J1 2 S1 h18 iR_2)
    · refine k_iconst F dX9_word_12 ?_
      refine k_goto F (tgt := 30) dX9_word_13 (by decide) ?_
      exact k_sub [0, 1] rfl (J1 1 S1 h15 iR_1)
set_option maxRecDepth 100000 in
theorem c_X9_wipe {l : Launch} {D : va_G} {A : Nat → Prop} {cI cZ : ClassId} {ad : Nat → Nat} (hD : ∀ S, va_D A (wM cI cZ ad S)) {S : zSt} (hG : RG bsM S) {x : Int} {S' : zSt} (h : m_X9_wipe S  = some (x, S')) : zMi l yX9_wipe cX9_wipe 2 .int { frames := 0, cells := 0, slots := 0, locals := 0 } D cI cZ A (wM cI cZ ad) (RG bsM) [.ref (ad 0)] S x S' := by
  refine k_start_i (by decide +kernel) hD hG (Nat.le_of_ble_eq_true rfl) (fun Γ F hQ => ?_)
  have F : zF Γ (wM cI cZ ad) cI cZ cX9_wipe { frames := 0, cells := 0, slots := 0, locals := 0 } 2 RX9 := F
  refine k_sub [0] (lv' := [(0, .ref (ad 0))]) rfl ?_
  refine k_aload_n F dX9_wipe_0 rfl 0 rfl ?_
  refine k_iconst F dX9_wipe_1 ?_
  refine kpX9_thrown F iR_0 dX9_wipe_2 h (fun S1 h1 => ?_)
  refine k_aload_n F dX9_wipe_5 rfl 0 rfl ?_
  refine kgX9_padMany F dX9_wipe_6 h1 (fun x1 r1 h2 => ?_)
  refine k_istore_n F dX9_wipe_9 rfl (by decide) rfl ?_
  refine k_aload_n F dX9_wipe_10 rfl 1 rfl ?_
  refine k_iconst F dX9_wipe_11 ?_
  refine kpX9_padMany F iR_0 dX9_wipe_12 h2 (fun S2 h3 => ?_)
  refine k_iload_n F dX9_wipe_15 rfl 0 rfl ?_
  exact k_iret F hQ r1 dX9_wipe_16 h3
set_option maxRecDepth 100000 in
theorem c_X9_unit {l : Launch} {D : va_G} {A : Nat → Prop} {cI cZ : ClassId} {ad : Nat → Nat} (hD : ∀ S, va_D A (wM cI cZ ad S)) {S : zSt} (hG : RG bsM S) {x : Int} {S' : zSt} (h : m_X9_unit S  = some (x, S')) : zMi l yX9_unit cX9_unit 2 .int { frames := 0, cells := 0, slots := 0, locals := 0 } D cI cZ A (wM cI cZ ad) (RG bsM) [.ref (ad 0)] S x S' := by
  refine k_start_i (by decide +kernel) hD hG (Nat.le_of_ble_eq_true rfl) (fun Γ F hQ => ?_)
  have F : zF Γ (wM cI cZ ad) cI cZ cX9_unit { frames := 0, cells := 0, slots := 0, locals := 0 } 2 RX9 := F
  refine k_sub [0] (lv' := [(0, .ref (ad 0))]) rfl ?_
  refine k_aload_n F dX9_unit_0 rfl 0 rfl ?_
  refine k_aload_n F dX9_unit_1 rfl 0 rfl ?_
  refine kgX9_padMany F dX9_unit_2 h (fun x1 r1 h1 => ?_)
  refine zj1_e (PJ := (fun v1 S1 => inR v1 → zk Γ (wM cI cZ ad) (RG bsM) S1 [(0, .ref (ad 0))] 22 [.int (zI v1), .ref (ad 0)])) h1 (fun v1 S1 h2 r2 => ?_) (fun j2 J2 h28 => ?_)
  · refine kpX9_thrown F r2 dX9_unit_22 h2 (fun S2 h3 => ?_)
    refine k_aload_n F dX9_unit_25 rfl 0 rfl ?_
    refine kgX9_thrown F dX9_unit_26 h3 (fun x2 r3 h4 => ?_)
    refine k_if_le F r3 (tgt := 34) dX9_unit_29 (by decide) h4 (fun h5 => ?_) (fun h6 => ?_)
    · refine k_iconst F dX9_unit_34 ?_
      refine k_istore_n F dX9_unit_35 rfl (by decide) rfl ?_
      refine zj0_e (PJ := (fun S3 => zk Γ (wM cI cZ ad) (RG bsM) S3 [(0, .ref (ad 0))] 70 [])) h5 (fun S3 h7 => ?_) (fun j1 J1 h17 => ?_)
      · refine k_aload_n F dX9_unit_70 rfl 0 rfl ?_
        refine kgX9_lengths F dX9_unit_71 ?_
        refine k_aload_n F dX9_unit_74 rfl 0 rfl ?_
        refine kgX9_unitMany F dX9_unit_75 h7 (fun x3 r4 h8 => ?_)
        refine k_aload_n F dX9_unit_78 rfl 0 rfl ?_
        refine kgX9_padMany F dX9_unit_79 h8 (fun x4 r5 h9 => ?_)
        refine k_iast F rfl 3 (aM_2 cI cZ ad) (sM_2 cI cZ ad) (by decide) r4 r5 dX9_unit_82 h9 (fun S4 h10 => ?_)
        refine k_aload_n F dX9_unit_83 rfl 0 rfl ?_
        refine k_iconst F dX9_unit_84 ?_
        refine kpX9_padMany F iR_0 dX9_unit_85 h10 (fun S5 h11 => ?_)
        refine k_aload_n F dX9_unit_88 rfl 0 rfl ?_
        refine k_dup F dX9_unit_89 rfl ?_
        refine kgX9_unitMany F dX9_unit_90 h11 (fun x5 r6 h12 => ?_)
        refine k_iconst F dX9_unit_93 ?_
        refine k_iadd F dX9_unit_94 h12 (fun x6 r7 h13 => ?_)
        refine kpX9_unitMany F r7 dX9_unit_95 h13 (fun S6 h14 => ?_)
        refine k_aload_n F dX9_unit_98 rfl 0 rfl ?_
        refine kgX9_unitMany F dX9_unit_99 h14 (fun x7 r8 h15 => ?_)
        refine k_iconst F dX9_unit_102 ?_
        refine k_isub F dX9_unit_103 h15 (fun x8 r9 h16 => ?_)
        exact k_iret F hQ r9 dX9_unit_104 h16
      · refine k_sub [1, 0] rfl (zl1_e (F := (b_X9_unit_36 j1)) (fun v2 S7 => inR v2 → zk Γ (wM cI cZ ad) (RG bsM) S7 [(0, .ref (ad 0)), (1, .int (zI v2))] 36 []) (fun rec1 v2 S7 hrec1 h18 r10 => ?_) 1000 0 S2 h17 iR_0)
        refine k_iload_n F dX9_unit_36 rfl 1 rfl ?_
        refine k_aload_n F dX9_unit_37 rfl 0 rfl ?_
        refine kgX9_padMany F dX9_unit_38 h18 (fun x9 r11 h19 => ?_)
        refine k_icmp_ge F r10 r11 (tgt := 70) dX9_unit_41 (by decide) h19 (fun h20 => ?_) (fun h21 => ?_)
        · exact k_sub [0] rfl (J1 S7 h20)
        · refine k_aload_n F dX9_unit_44 rfl 0 rfl ?_
          refine kgX9_texts F dX9_unit_45 ?_
          refine k_bipush F dX9_unit_48 bp_12 ?_
          refine k_aload_n F dX9_unit_50 rfl 0 rfl ?_
          refine kgX9_unitMany F dX9_unit_51 h21 (fun x10 r12 h22 => ?_)
          refine k_imul F dX9_unit_54 h22 (fun x11 r13 h23 => ?_)
          refine k_iload_n F dX9_unit_55 rfl 1 rfl ?_
          refine k_iadd F dX9_unit_56 h23 (fun x12 r14 h24 => ?_)
          refine k_aload_n F dX9_unit_57 rfl 0 rfl ?_
          refine kgX9_pad F dX9_unit_58 ?_
          refine k_iload_n F dX9_unit_61 rfl 1 rfl ?_
          refine k_iald F rfl 1 (aM_0 cI cZ ad) r10 dX9_unit_62 h24 (fun x13 r15 h25 => ?_)
          refine k_iast F rfl 2 (aM_1 cI cZ ad) (sM_1 cI cZ ad) (by decide) r14 r15 dX9_unit_63 h25 (fun S8 h26 => ?_)
          refine k_iinc F (k := 1) (lv' := fun y => [(1, .int (zI y)), (0, .ref (ad 0))]) dX9_unit_64 rfl (by decide) (fun _ => rfl) h26 (fun x14 r16 h27 => ?_)
          refine k_goto F (tgt := 36) dX9_unit_67 (by decide) ?_
          exact k_sub [1, 0] rfl (hrec1 x14 S8 h27 r16)
    · refine k_iconst F dX9_unit_32 ?_
      exact k_iret F hQ iR_0 dX9_unit_33 h6
  · refine zj0_e (PJ := (fun S9 => zk Γ (wM cI cZ ad) (RG bsM) S9 [(0, .ref (ad 0))] 17 [.ref (ad 0)])) h28 (fun S9 h29 => ?_) (fun j3 J3 h30 => ?_)
    · refine k_iconst F dX9_unit_17 ?_
      refine k_goto F (tgt := 22) dX9_unit_18 (by decide) ?_
      exact k_sub [0] rfl (J2 1 S9 h29 iR_1)
    · refine k_if_eq F r1 (tgt := 17) dX9_unit_5 (by decide) h30 (fun h31 => ?_) (fun h32 => ?_)
      · exact k_sub [0] rfl (J3 S h31)
      · refine k_aload_n F dX9_unit_8 rfl 0 rfl ?_
        refine kgX9_unitMany F dX9_unit_9 h32 (fun x15 r17 h33 => ?_)
        refine k_bipush F dX9_unit_12 bp_20 ?_
        refine k_icmp_ne F r17 iR_20 (tgt := 21) dX9_unit_14 (by decide) h33 (fun h34 => ?_) (fun h35 => ?_)
        · refine k_iconst F dX9_unit_21 ?_
          exact k_sub [0] rfl (J2 0 S h34 iR_0)
        · exact k_sub [0] rfl (J3 S h35)
set_option maxRecDepth 100000 in
theorem c_X9_nearest {l : Launch} {D : va_G} {A : Nat → Prop} {cI cZ : ClassId} {ad : Nat → Nat} (hD : ∀ S, va_D A (wM cI cZ ad S)) {S : zSt} (hG : RG bsM S) {a1 : Int} (ra1 : inR a1) {a2 : Int} (ra2 : inR a2) {a3 : Int} (ra3 : inR a3) {x : Int} {S' : zSt} (h : m_X9_nearest S a1 a2 a3 = some (x, S')) : zMi l yX9_nearest cX9_nearest 8 .int { frames := 0, cells := 0, slots := 0, locals := 0 } D cI cZ A (wM cI cZ ad) (RG bsM) [.ref (ad 0), .int (zI a1), .int (zI a2), .int (zI a3)] S x S' := by
  refine k_start_i (by decide +kernel) hD hG (Nat.le_of_ble_eq_true rfl) (fun Γ F hQ => ?_)
  have F : zF Γ (wM cI cZ ad) cI cZ cX9_nearest { frames := 0, cells := 0, slots := 0, locals := 0 } 8 RX9 := F
  refine k_sub [0, 1, 2, 3] (lv' := [(0, .ref (ad 0)), (1, .int (zI a1)), (2, .int (zI a2)), (3, .int (zI a3))]) rfl ?_
  refine k_iconst F dX9_nearest_0 ?_
  refine k_istore F dX9_nearest_1 (by decide) rfl ?_
  refine k_bipush F dX9_nearest_3 bp_99 ?_
  refine k_istore F dX9_nearest_5 (by decide) rfl ?_
  refine k_iconst F dX9_nearest_7 ?_
  refine k_istore F dX9_nearest_8 (by decide) rfl ?_
  refine zj1_e (PJ := (fun v1 S1 => inR v1 → zk Γ (wM cI cZ ad) (RG bsM) S1 [(4, .int (zI v1))] 77 [])) h (fun v1 S1 h1 r1 => ?_) (fun j1 J1 h2 => ?_)
  · refine k_iload F dX9_nearest_77 0 rfl ?_
    exact k_iret F hQ r1 dX9_nearest_79 h1
  · refine k_sub [3, 4, 5, 6, 2, 1, 0] rfl (zl3_e (F := (b_X9_nearest_10 a1 a2 a3 j1)) (fun v2 v3 v4 S2 => inR v2 → inR v3 → inR v4 → zk Γ (wM cI cZ ad) (RG bsM) S2 [(0, .ref (ad 0)), (1, .int (zI a1)), (2, .int (zI a2)), (3, .int (zI a3)), (4, .int (zI v2)), (5, .int (zI v3)), (6, .int (zI v4))] 10 []) (fun rec1 v2 v3 v4 S2 hrec1 h3 r2 r3 r4 => ?_) 1000 (-1) 99 0 S h2 iR_m1 iR_99 iR_0)
    refine k_iload F dX9_nearest_10 6 rfl ?_
    refine k_aload_n F dX9_nearest_12 rfl 0 rfl ?_
    refine kgX9_lengths F dX9_nearest_13 ?_
    refine k_iload_n F dX9_nearest_16 rfl 1 rfl ?_
    refine k_iald F rfl 3 (aM_2 cI cZ ad) ra1 dX9_nearest_17 h3 (fun x1 r5 h4 => ?_)
    refine k_icmp_ge F r4 r5 (tgt := 77) dX9_nearest_18 (by decide) h4 (fun h5 => ?_) (fun h6 => ?_)
    · exact k_sub [4] rfl (J1 v2 S2 h5 r2)
    · refine k_iload F dX9_nearest_21 6 rfl ?_
      refine k_iload_n F dX9_nearest_23 rfl 3 rfl ?_
      refine zj1_e (PJ := (fun v5 S3 => inR v5 → zk Γ (wM cI cZ ad) (RG bsM) S3 [(0, .ref (ad 0)), (1, .int (zI a1)), (2, .int (zI a2)), (3, .int (zI a3)), (4, .int (zI v2)), (5, .int (zI v3)), (6, .int (zI v4))] 38 [.int (zI v5)])) h6 (fun v5 S3 h7 r6 => ?_) (fun j3 J3 h18 => ?_)
      · refine k_istore F dX9_nearest_38 (by decide) rfl ?_
        refine k_aload_n F dX9_nearest_40 rfl 1 rfl ?_
        refine kgX9_texts F dX9_nearest_41 ?_
        refine k_bipush F dX9_nearest_44 bp_12 ?_
        refine k_iload_n F dX9_nearest_46 rfl 2 rfl ?_
        refine k_imul F dX9_nearest_47 h7 (fun x2 r7 h8 => ?_)
        refine k_iload F dX9_nearest_48 7 rfl ?_
        refine k_iadd F dX9_nearest_50 h8 (fun x3 r8 h9 => ?_)
        refine k_iald F rfl 2 (aM_1 cI cZ ad) r8 dX9_nearest_51 h9 (fun x4 r9 h10 => ?_)
        refine k_iload_n F dX9_nearest_52 rfl 3 rfl ?_
        refine zj2_e (PJ := (fun v6 v7 S4 => inR v6 → inR v7 → zk Γ (wM cI cZ ad) (RG bsM) S4 [(0, .ref (ad 0)), (1, .int (zI a1)), (2, .int (zI a2)), (3, .int (zI a3)), (4, .int (zI v6)), (5, .int (zI v7)), (6, .int (zI v4))] 71 [])) h10 (fun v6 v7 S4 h11 r10 r11 => ?_) (fun j2 J2 h13 => ?_)
        · refine k_iinc F (k := 6) (lv' := fun y => [(6, .int (zI y)), (0, .ref (ad 0)), (1, .int (zI a1)), (2, .int (zI a2)), (3, .int (zI a3)), (4, .int (zI v6)), (5, .int (zI v7))]) dX9_nearest_71 rfl (by decide) (fun _ => rfl) h11 (fun x5 r12 h12 => ?_)
          refine k_goto F (tgt := 10) dX9_nearest_74 (by decide) ?_
          exact k_sub [1, 2, 3, 4, 5, 6, 0] rfl (hrec1 v6 v7 x5 S4 h12 r10 r11 r12)
        · refine k_icmp_ne F r9 ra2 (tgt := 71) dX9_nearest_53 (by decide) h13 (fun h14 => ?_) (fun h15 => ?_)
          · exact k_sub [1, 2, 3, 4, 5, 6, 7] rfl (J2 v2 v3 S3 h14 r2 r3)
          · refine k_iload F dX9_nearest_56 0 rfl ?_
            refine k_iload F dX9_nearest_58 6 rfl ?_
            refine k_icmp_ge F r6 r3 (tgt := 71) dX9_nearest_60 (by decide) h15 (fun h16 => ?_) (fun h17 => ?_)
            · exact k_sub [1, 2, 3, 4, 5, 6, 7] rfl (J2 v2 v3 S3 h16 r2 r3)
            · refine k_iload F dX9_nearest_63 7 rfl ?_
              refine k_istore F dX9_nearest_65 (by decide) rfl ?_
              refine k_iload F dX9_nearest_67 1 rfl ?_
              refine k_istore F dX9_nearest_69 (by decide) rfl ?_
              exact k_sub [3, 4, 5, 6, 1, 0, 7] rfl (J2 v4 v5 S3 h17 r4 r6)
      · refine k_icmp_ge F r4 ra3 (tgt := 34) dX9_nearest_24 (by decide) h18 (fun h19 => ?_) (fun h20 => ?_)
        · refine k_iload F dX9_nearest_34 6 rfl ?_
          refine k_iload_n F dX9_nearest_36 rfl 3 rfl ?_
          refine k_isub F dX9_nearest_37 h19 (fun x6 r13 h21 => ?_)
          exact k_sub [0, 1, 2, 3, 4, 5, 6] rfl (J3 x6 S2 h21 r13)
        · refine k_iload_n F dX9_nearest_27 rfl 3 rfl ?_
          refine k_iload F dX9_nearest_28 6 rfl ?_
          refine k_isub F dX9_nearest_30 h20 (fun x7 r14 h22 => ?_)
          refine k_goto F (tgt := 38) dX9_nearest_31 (by decide) ?_
          exact k_sub [0, 1, 2, 3, 4, 5, 6] rfl (J3 x7 S2 h22 r14)
set_option maxRecDepth 100000 in
theorem c_X9_emend {l : Launch} {D : va_G} {A : Nat → Prop} {cI cZ : ClassId} {ad : Nat → Nat} (hD : ∀ S, va_D A (wM cI cZ ad S)) {S : zSt} (hG : RG bsM S) {a1 : Int} (ra1 : inR a1) {a2 : Int} (ra2 : inR a2) {a3 : Int} (ra3 : inR a3) {x : Int} {S' : zSt} (h : m_X9_emend S a1 a2 a3 = some (x, S')) : zMi l yX9_emend cX9_emend 8 .int { frames := 2, cells := 0, slots := 0, locals := 44 } D cI cZ A (wM cI cZ ad) (RG bsM) [.ref (ad 0), .int (zI a1), .int (zI a2), .int (zI a3)] S x S' := by
  refine k_start_i (by decide +kernel) hD hG (Nat.le_of_ble_eq_true rfl) (fun Γ F hQ => ?_)
  have F : zF Γ (wM cI cZ ad) cI cZ cX9_emend { frames := 2, cells := 0, slots := 0, locals := 44 } 8 RX9 := F
  refine k_sub [0, 1, 2, 3] (lv' := [(0, .ref (ad 0)), (1, .int (zI a1)), (2, .int (zI a2)), (3, .int (zI a3))]) rfl ?_
  refine k_aload_n F dX9_emend_0 rfl 0 rfl ?_
  refine k_aload_n F dX9_emend_1 rfl 0 rfl ?_
  refine k_iload_n F dX9_emend_2 rfl 1 rfl ?_
  refine k_callVi F cal_X9_isUnit wm_151 (obM_0 cI cZ ad) (fun l D A hD hG x S' h => c_X9_isUnit hD hG ra1 h) ⟨rfl, rfl, Nat.le_of_ble_eq_true rfl, Nat.le_of_ble_eq_true rfl⟩ rfl rfl (Nat.le_of_ble_eq_true rfl) dX9_emend_3 h (fun x1 S1 r1 b1 h1 => ?_)
  refine zj1_e (PJ := (fun v1 S2 => inR v1 → zk Γ (wM cI cZ ad) (RG bsM) S2 [(0, .ref (ad 0)), (1, .int (zI a1)), (2, .int (zI a2)), (3, .int (zI a3))] 65 [.int (zI v1), .ref (ad 0)])) h1 (fun v1 S2 h2 r2 => ?_) (fun j12 J12 h88 => ?_)
  · refine kpX9_thrown F r2 dX9_emend_65 h2 (fun S3 h3 => ?_)
    refine k_aload_n F dX9_emend_68 rfl 0 rfl ?_
    refine kgX9_thrown F dX9_emend_69 h3 (fun x2 r3 h4 => ?_)
    refine k_if_le F r3 (tgt := 77) dX9_emend_72 (by decide) h4 (fun h5 => ?_) (fun h6 => ?_)
    · refine k_iload_n F dX9_emend_77 rfl 3 rfl ?_
      refine k_iconst F dX9_emend_78 ?_
      refine zj0_e (PJ := (fun S4 => zk Γ (wM cI cZ ad) (RG bsM) S4 [(0, .ref (ad 0)), (1, .int (zI a1)), (2, .int (zI a2)), (3, .int (zI a3))] 155 [])) h5 (fun S4 h7 => ?_) (fun j10 J10 h64 => ?_)
      · refine k_iconst F dX9_emend_155 ?_
        refine k_istore F dX9_emend_156 (by decide) rfl ?_
        refine k_iconst F dX9_emend_158 ?_
        refine k_istore F dX9_emend_159 (by decide) rfl ?_
        refine zj1_e (PJ := (fun v2 S5 => inR v2 → zk Γ (wM cI cZ ad) (RG bsM) S5 [(4, .int (zI v2))] 342 [])) h7 (fun v2 S5 h8 r4 => ?_) (fun j1 J1 h9 => ?_)
        · refine k_iload F dX9_emend_342 0 rfl ?_
          exact k_iret F hQ r4 dX9_emend_344 h8
        · refine k_sub [2, 3, 4, 5, 1, 0] rfl (zl2_e (F := (b_X9_emend_161 a1 a2 a3 j1)) (fun v3 v4 S6 => inR v3 → inR v4 → zk Γ (wM cI cZ ad) (RG bsM) S6 [(0, .ref (ad 0)), (1, .int (zI a1)), (2, .int (zI a2)), (3, .int (zI a3)), (4, .int (zI v3)), (5, .int (zI v4))] 161 []) (fun rec1 v3 v4 S6 hrec1 h10 r5 r6 => ?_) 1000 0 0 S4 h9 iR_0 iR_0)
          refine k_iload F dX9_emend_161 5 rfl ?_
          refine k_aload_n F dX9_emend_163 rfl 0 rfl ?_
          refine kgX9_commentMany F dX9_emend_164 h10 (fun x3 r7 h11 => ?_)
          refine k_icmp_ge F r6 r7 (tgt := 342) dX9_emend_167 (by decide) h11 (fun h12 => ?_) (fun h13 => ?_)
          · exact k_sub [4] rfl (J1 v3 S6 h12 r5)
          · refine k_aload_n F dX9_emend_170 rfl 0 rfl ?_
            refine kgX9_on F dX9_emend_171 ?_
            refine k_iload F dX9_emend_174 5 rfl ?_
            refine k_iald F rfl 9 (aM_8 cI cZ ad) r6 dX9_emend_176 h13 (fun x4 r8 h14 => ?_)
            refine k_iconst F dX9_emend_177 ?_
            refine zj1_e (PJ := (fun v5 S7 => inR v5 → zk Γ (wM cI cZ ad) (RG bsM) S7 [(0, .ref (ad 0)), (1, .int (zI a1)), (2, .int (zI a2)), (3, .int (zI a3)), (4, .int (zI v5)), (5, .int (zI v4))] 336 [])) h14 (fun v5 S7 h15 r9 => ?_) (fun j2 J2 h17 => ?_)
            · refine k_iinc F (k := 5) (lv' := fun y => [(5, .int (zI y)), (0, .ref (ad 0)), (1, .int (zI a1)), (2, .int (zI a2)), (3, .int (zI a3)), (4, .int (zI v5))]) dX9_emend_336 rfl (by decide) (fun _ => rfl) h15 (fun x5 r10 h16 => ?_)
              refine k_goto F (tgt := 161) dX9_emend_339 (by decide) ?_
              exact k_sub [1, 2, 3, 4, 5, 0] rfl (hrec1 v5 x5 S7 h16 r9 r10)
            · refine k_icmp_ne F r8 iR_m1 (tgt := 336) dX9_emend_178 (by decide) h17 (fun h18 => ?_) (fun h19 => ?_)
              · exact k_sub [0, 1, 2, 3, 4, 5] rfl (J2 v3 S6 h18 r5)
              · refine k_aload_n F dX9_emend_181 rfl 0 rfl ?_
                refine kgX9_units F dX9_emend_182 ?_
                refine k_iload F dX9_emend_185 5 rfl ?_
                refine k_iald F rfl 11 (aM_10 cI cZ ad) r6 dX9_emend_187 h19 (fun x6 r11 h20 => ?_)
                refine k_iload_n F dX9_emend_188 rfl 1 rfl ?_
                refine k_icmp_ne F r11 ra1 (tgt := 336) dX9_emend_189 (by decide) h20 (fun h21 => ?_) (fun h22 => ?_)
                · exact k_sub [0, 1, 2, 3, 4, 5] rfl (J2 v3 S6 h21 r5)
                · refine k_aload_n F dX9_emend_192 rfl 0 rfl ?_
                  refine kgX9_places F dX9_emend_193 ?_
                  refine k_iload F dX9_emend_196 5 rfl ?_
                  refine k_iald F rfl 13 (aM_12 cI cZ ad) r6 dX9_emend_198 h22 (fun x7 r12 h23 => ?_)
                  refine k_istore F dX9_emend_199 (by decide) rfl ?_
                  refine k_iload_n F dX9_emend_201 rfl 4 rfl ?_
                  refine k_iconst F dX9_emend_202 ?_
                  refine zj1_e (PJ := (fun v6 S8 => inR v6 → zk Γ (wM cI cZ ad) (RG bsM) S8 [(0, .ref (ad 0)), (1, .int (zI a1)), (2, .int (zI a2)), (3, .int (zI a3)), (4, .int (zI v3)), (5, .int (zI v4))] 221 [.int (zI v6)])) h23 (fun v6 S8 h24 r13 => ?_) (fun j8 J8 h56 => ?_)
                  · refine k_istore F dX9_emend_221 (by decide) rfl ?_
                    refine k_iload F dX9_emend_223 0 rfl ?_
                    refine k_aload_n F dX9_emend_225 rfl 1 rfl ?_
                    refine kgX9_lengths F dX9_emend_226 ?_
                    refine k_iload_n F dX9_emend_229 rfl 2 rfl ?_
                    refine k_iald F rfl 3 (aM_2 cI cZ ad) ra1 dX9_emend_230 h24 (fun x8 r14 h25 => ?_)
                    refine k_iconst F dX9_emend_231 ?_
                    refine k_isub F dX9_emend_232 h25 (fun x9 r15 h26 => ?_)
                    refine zj1_e (PJ := (fun v7 S9 => inR v7 → zk Γ (wM cI cZ ad) (RG bsM) S9 [(0, .ref (ad 0)), (1, .int (zI a1)), (2, .int (zI a2)), (3, .int (zI a3)), (4, .int (zI v3)), (5, .int (zI v4))] 249 [.int (zI v7)])) h26 (fun v7 S9 h27 r16 => ?_) (fun j7 J7 h51 => ?_)
                    · refine k_istore F dX9_emend_249 (by decide) rfl ?_
                      refine k_aload_n F dX9_emend_251 rfl 1 rfl ?_
                      refine k_iload_n F dX9_emend_252 rfl 2 rfl ?_
                      refine k_aload_n F dX9_emend_253 rfl 1 rfl ?_
                      refine kgX9_words F dX9_emend_254 ?_
                      refine k_iload F dX9_emend_257 6 rfl ?_
                      refine k_iald F rfl 12 (aM_11 cI cZ ad) r6 dX9_emend_259 h27 (fun x10 r17 h28 => ?_)
                      refine k_iload F dX9_emend_260 0 rfl ?_
                      refine k_callVi F cal_X9_nearest wm_155 (obM_0 cI cZ ad) (fun l D A hD hG x S' h => c_X9_nearest hD hG ra1 r17 r16 h) ⟨rfl, rfl, Nat.le_of_ble_eq_true rfl, Nat.le_of_ble_eq_true rfl⟩ rfl rfl (Nat.le_of_ble_eq_true rfl) dX9_emend_262 h28 (fun x11 S10 r18 b2 h29 => ?_)
                      refine k_istore F dX9_emend_265 (by decide) rfl ?_
                      refine k_iload F dX9_emend_267 6 rfl ?_
                      refine k_aload_n F dX9_emend_269 rfl 2 rfl ?_
                      refine kgX9_lost F dX9_emend_270 ?_
                      refine k_iload F dX9_emend_273 7 rfl ?_
                      refine k_zald01 F rfl 14 (by decide) (aM_13 cI cZ ad) r6 dX9_emend_275 h29 (fun x12 r19 z1 h30 => ?_)
                      refine k_iload F dX9_emend_276 0 rfl ?_
                      refine k_iconst F dX9_emend_278 ?_
                      refine zj1_e (PJ := (fun v8 S11 => inR v8 → zk Γ (wM cI cZ ad) (RG bsM) S11 [(0, .ref (ad 0)), (1, .int (zI a1)), (2, .int (zI a2)), (3, .int (zI a3)), (5, .int (zI v4)), (6, .int (zI v7)), (7, .int (zI x11))] 287 [.int (zI v8), .int (zI x12), .int (zI v3)])) h30 (fun v8 S11 h31 r20 => ?_) (fun j6 J6 h48 => ?_)
                      · refine zj1_e (PJ := (fun v9 S12 => inR v9 → zk Γ (wM cI cZ ad) (RG bsM) S12 [(0, .ref (ad 0)), (1, .int (zI a1)), (2, .int (zI a2)), (3, .int (zI a3)), (5, .int (zI v4)), (6, .int (zI v7)), (7, .int (zI x11))] 295 [.int (zI v9), .int (zI v3)])) h31 (fun v9 S12 h32 r21 => ?_) (fun j5 J5 h45 => ?_)
                        · refine k_iadd F dX9_emend_295 h32 (fun x13 r22 h33 => ?_)
                          refine k_istore F dX9_emend_296 (by decide) rfl ?_
                          refine k_aload_n F dX9_emend_298 rfl 1 rfl ?_
                          refine kgX9_lost F dX9_emend_299 ?_
                          refine k_iload F dX9_emend_302 5 rfl ?_
                          refine k_iload F dX9_emend_304 7 rfl ?_
                          refine k_iconst F dX9_emend_306 ?_
                          refine zj1_e (PJ := (fun v10 S13 => inR v10 → zk Γ (wM cI cZ ad) (RG bsM) S13 [(0, .ref (ad 0)), (1, .int (zI a1)), (2, .int (zI a2)), (3, .int (zI a3)), (4, .int (zI x13)), (5, .int (zI v4)), (6, .int (zI v7)), (7, .int (zI x11))] 315 [.int (zI v10), .int (zI v4), .ref (ad 14)])) h33 (fun v10 S13 h34 r23 => ?_) (fun j4 J4 h42 => ?_)
                          · obtain ⟨z2, h35⟩ := zc01_e h34
                            refine k_zast F rfl 14 (aM_13 cI cZ ad) (sM_13 cI cZ ad) r6 z2 dX9_emend_315 h35 (fun S14 h36 => ?_)
                            refine k_aload_n F dX9_emend_316 rfl 0 rfl ?_
                            refine kgX9_places F dX9_emend_317 ?_
                            refine k_iload F dX9_emend_320 5 rfl ?_
                            refine k_iload F dX9_emend_322 7 rfl ?_
                            refine k_iconst F dX9_emend_324 ?_
                            refine zj1_e (PJ := (fun v11 S15 => inR v11 → zk Γ (wM cI cZ ad) (RG bsM) S15 [(0, .ref (ad 0)), (1, .int (zI a1)), (2, .int (zI a2)), (3, .int (zI a3)), (4, .int (zI x13)), (5, .int (zI v4))] 335 [.int (zI v11), .int (zI v4), .ref (ad 13)])) h36 (fun v11 S15 h37 r24 => ?_) (fun j3 J3 h39 => ?_)
                            · refine k_iast F rfl 13 (aM_12 cI cZ ad) (sM_12 cI cZ ad) (by decide) r6 r24 dX9_emend_335 h37 (fun S16 h38 => ?_)
                              exact k_sub [0, 1, 2, 3, 4, 5] rfl (J2 x13 S16 h38 r22)
                            · refine k_icmp_ne F r18 iR_m1 (tgt := 333) dX9_emend_325 (by decide) h39 (fun h40 => ?_) (fun h41 => ?_)
                              · refine k_iload F dX9_emend_333 7 rfl ?_
                                exact k_sub [0, 1, 2, 3, 4, 5] rfl (J3 x11 S14 h40 r18)
                              · refine k_iload F dX9_emend_328 6 rfl ?_
                                refine k_goto F (tgt := 335) dX9_emend_330 (by decide) ?_
                                exact k_sub [0, 1, 2, 3, 4, 5] rfl (J3 v7 S14 h41 r16)
                          · refine k_icmp_ne F r18 iR_m1 (tgt := 314) dX9_emend_307 (by decide) h42 (fun h43 => ?_) (fun h44 => ?_)
                            · refine k_iconst F dX9_emend_314 ?_
                              exact k_sub [1, 2, 3, 4, 0, 5, 6, 7] rfl (J4 0 S12 h43 iR_0)
                            · refine k_iconst F dX9_emend_310 ?_
                              refine k_goto F (tgt := 315) dX9_emend_311 (by decide) ?_
                              exact k_sub [1, 2, 3, 4, 0, 5, 6, 7] rfl (J4 1 S12 h44 iR_1)
                        · refine k_icmp_eq F r19 r20 (tgt := 294) dX9_emend_287 (by decide) h45 (fun h46 => ?_) (fun h47 => ?_)
                          · refine k_iconst F dX9_emend_294 ?_
                            exact k_sub [0, 1, 2, 3, 4, 5, 6] rfl (J5 0 S11 h46 iR_0)
                          · refine k_iconst F dX9_emend_290 ?_
                            refine k_goto F (tgt := 295) dX9_emend_291 (by decide) ?_
                            exact k_sub [0, 1, 2, 3, 4, 5, 6] rfl (J5 1 S11 h47 iR_1)
                      · refine k_icmp_ne F r18 iR_m1 (tgt := 286) dX9_emend_279 (by decide) h48 (fun h49 => ?_) (fun h50 => ?_)
                        · refine k_iconst F dX9_emend_286 ?_
                          exact k_sub [2, 3, 4, 5, 7, 1, 0] rfl (J6 0 S10 h49 iR_0)
                        · refine k_iconst F dX9_emend_282 ?_
                          refine k_goto F (tgt := 287) dX9_emend_283 (by decide) ?_
                          exact k_sub [2, 3, 4, 5, 7, 1, 0] rfl (J6 1 S10 h50 iR_1)
                    · refine k_icmp_le F r13 r15 (tgt := 247) dX9_emend_233 (by decide) h51 (fun h52 => ?_) (fun h53 => ?_)
                      · refine k_iload F dX9_emend_247 0 rfl ?_
                        exact k_sub [1, 2, 3, 4, 5, 6] rfl (J7 v6 S8 h52 r13)
                      · refine k_aload_n F dX9_emend_236 rfl 1 rfl ?_
                        refine kgX9_lengths F dX9_emend_237 ?_
                        refine k_iload_n F dX9_emend_240 rfl 2 rfl ?_
                        refine k_iald F rfl 3 (aM_2 cI cZ ad) ra1 dX9_emend_241 h53 (fun x14 r25 h54 => ?_)
                        refine k_iconst F dX9_emend_242 ?_
                        refine k_isub F dX9_emend_243 h54 (fun x15 r26 h55 => ?_)
                        refine k_goto F (tgt := 249) dX9_emend_244 (by decide) ?_
                        exact k_sub [1, 2, 3, 4, 5, 6] rfl (J7 x15 S8 h55 r26)
                  · refine zj0_e (PJ := (fun S17 => zk Γ (wM cI cZ ad) (RG bsM) S17 [(0, .ref (ad 0)), (1, .int (zI a1)), (2, .int (zI a2)), (3, .int (zI a3)), (4, .int (zI v3)), (5, .int (zI v4)), (6, .int (zI x7))] 219 [])) h56 (fun S17 h57 => ?_) (fun j9 J9 h58 => ?_)
                    · refine k_iload F dX9_emend_219 6 rfl ?_
                      exact k_sub [0, 1, 2, 3, 4, 5] rfl (J8 x7 S17 h57 r12)
                    · refine k_icmp_ne F ra3 iR_m1 (tgt := 219) dX9_emend_203 (by decide) h58 (fun h59 => ?_) (fun h60 => ?_)
                      · exact k_sub [1, 2, 3, 4, 5, 6, 0] rfl (J9 S6 h59)
                      · refine k_iload F dX9_emend_206 0 rfl ?_
                        refine k_iload_n F dX9_emend_208 rfl 3 rfl ?_
                        refine k_icmp_le F r12 ra2 (tgt := 219) dX9_emend_209 (by decide) h60 (fun h61 => ?_) (fun h62 => ?_)
                        · exact k_sub [1, 2, 3, 4, 5, 6, 0] rfl (J9 S6 h61)
                        · refine k_iload F dX9_emend_212 0 rfl ?_
                          refine k_iconst F dX9_emend_214 ?_
                          refine k_isub F dX9_emend_215 h62 (fun x16 r27 h63 => ?_)
                          refine k_goto F (tgt := 221) dX9_emend_216 (by decide) ?_
                          exact k_sub [1, 2, 3, 4, 5, 6] rfl (J8 x16 S6 h63 r27)
      · refine k_icmp_ne F ra3 iR_m1 (tgt := 143) dX9_emend_79 (by decide) h64 (fun h65 => ?_) (fun h66 => ?_)
        · refine k_aload_n F dX9_emend_143 rfl 0 rfl ?_
          refine kgX9_texts F dX9_emend_144 ?_
          refine k_bipush F dX9_emend_147 bp_12 ?_
          refine k_iload_n F dX9_emend_149 rfl 1 rfl ?_
          refine k_imul F dX9_emend_150 h65 (fun x17 r28 h67 => ?_)
          refine k_iload_n F dX9_emend_151 rfl 2 rfl ?_
          refine k_iadd F dX9_emend_152 h67 (fun x18 r29 h68 => ?_)
          refine k_iload_n F dX9_emend_153 rfl 3 rfl ?_
          refine k_iast F rfl 2 (aM_1 cI cZ ad) (sM_1 cI cZ ad) (by decide) r29 ra3 dX9_emend_154 h68 (fun S18 h69 => ?_)
          exact k_sub [0, 1, 2, 3] rfl (J10 S18 h69)
        · refine k_iload_n F dX9_emend_82 rfl 2 rfl ?_
          refine k_istore F dX9_emend_83 (by decide) rfl ?_
          refine zj0_e (PJ := (fun S19 => zk Γ (wM cI cZ ad) (RG bsM) S19 [(0, .ref (ad 0)), (1, .int (zI a1)), (2, .int (zI a2)), (3, .int (zI a3))] 130 [])) h66 (fun S19 h70 => ?_) (fun j11 J11 h74 => ?_)
          · refine k_aload_n F dX9_emend_130 rfl 0 rfl ?_
            refine kgX9_lengths F dX9_emend_131 ?_
            refine k_iload_n F dX9_emend_134 rfl 1 rfl ?_
            refine k_dup2 F dX9_emend_135 rfl rfl ?_
            refine k_iald F rfl 3 (aM_2 cI cZ ad) ra1 dX9_emend_136 h70 (fun x19 r30 h71 => ?_)
            refine k_iconst F dX9_emend_137 ?_
            refine k_isub F dX9_emend_138 h71 (fun x20 r31 h72 => ?_)
            refine k_iast F rfl 3 (aM_2 cI cZ ad) (sM_2 cI cZ ad) (by decide) ra1 r31 dX9_emend_139 h72 (fun S20 h73 => ?_)
            refine k_goto F (tgt := 155) dX9_emend_140 (by decide) ?_
            exact k_sub [0, 1, 2, 3] rfl (J10 S20 h73)
          · refine k_sub [1, 2, 3, 4, 0] rfl (zl1_e (F := (b_X9_emend_85 a1 j11)) (fun v12 S21 => inR v12 → zk Γ (wM cI cZ ad) (RG bsM) S21 [(0, .ref (ad 0)), (1, .int (zI a1)), (2, .int (zI a2)), (3, .int (zI a3)), (4, .int (zI v12))] 85 []) (fun rec2 v12 S21 hrec2 h75 r32 => ?_) 1000 a2 S3 h74 ra2)
            refine k_iload F dX9_emend_85 4 rfl ?_
            refine k_aload_n F dX9_emend_87 rfl 0 rfl ?_
            refine kgX9_lengths F dX9_emend_88 ?_
            refine k_iload_n F dX9_emend_91 rfl 1 rfl ?_
            refine k_iald F rfl 3 (aM_2 cI cZ ad) ra1 dX9_emend_92 h75 (fun x21 r33 h76 => ?_)
            refine k_iconst F dX9_emend_93 ?_
            refine k_isub F dX9_emend_94 h76 (fun x22 r34 h77 => ?_)
            refine k_icmp_ge F r32 r34 (tgt := 130) dX9_emend_95 (by decide) h77 (fun h78 => ?_) (fun h79 => ?_)
            · exact k_sub [0, 1, 2, 3] rfl (J11 S21 h78)
            · refine k_aload_n F dX9_emend_98 rfl 0 rfl ?_
              refine kgX9_texts F dX9_emend_99 ?_
              refine k_bipush F dX9_emend_102 bp_12 ?_
              refine k_iload_n F dX9_emend_104 rfl 1 rfl ?_
              refine k_imul F dX9_emend_105 h79 (fun x23 r35 h80 => ?_)
              refine k_iload F dX9_emend_106 4 rfl ?_
              refine k_iadd F dX9_emend_108 h80 (fun x24 r36 h81 => ?_)
              refine k_aload_n F dX9_emend_109 rfl 0 rfl ?_
              refine kgX9_texts F dX9_emend_110 ?_
              refine k_bipush F dX9_emend_113 bp_12 ?_
              refine k_iload_n F dX9_emend_115 rfl 1 rfl ?_
              refine k_imul F dX9_emend_116 h81 (fun x25 r37 h82 => ?_)
              refine k_iload F dX9_emend_117 4 rfl ?_
              refine k_iadd F dX9_emend_119 h82 (fun x26 r38 h83 => ?_)
              refine k_iconst F dX9_emend_120 ?_
              refine k_iadd F dX9_emend_121 h83 (fun x27 r39 h84 => ?_)
              refine k_iald F rfl 2 (aM_1 cI cZ ad) r39 dX9_emend_122 h84 (fun x28 r40 h85 => ?_)
              refine k_iast F rfl 2 (aM_1 cI cZ ad) (sM_1 cI cZ ad) (by decide) r36 r40 dX9_emend_123 h85 (fun S22 h86 => ?_)
              refine k_iinc F (k := 4) (lv' := fun y => [(4, .int (zI y)), (0, .ref (ad 0)), (1, .int (zI a1)), (2, .int (zI a2)), (3, .int (zI a3))]) dX9_emend_124 rfl (by decide) (fun _ => rfl) h86 (fun x29 r41 h87 => ?_)
              refine k_goto F (tgt := 85) dX9_emend_127 (by decide) ?_
              exact k_sub [1, 2, 3, 4, 0] rfl (hrec2 x29 S22 h87 r41)
    · refine k_iconst F dX9_emend_75 ?_
      exact k_iret F hQ iR_0 dX9_emend_76 h6
  · refine zj0_e (PJ := (fun S23 => zk Γ (wM cI cZ ad) (RG bsM) S23 [(0, .ref (ad 0)), (1, .int (zI a1)), (2, .int (zI a2)), (3, .int (zI a3))] 26 [.ref (ad 0)])) h88 (fun S23 h89 => ?_) (fun j13 J13 h90 => ?_)
    · refine k_iconst F dX9_emend_26 ?_
      refine k_goto F (tgt := 65) dX9_emend_27 (by decide) ?_
      exact k_sub [0, 1, 2, 3] rfl (J12 1 S23 h89 iR_1)
    · refine k_if_eq F r1 (tgt := 26) dX9_emend_6 (by decide) h90 (fun h91 => ?_) (fun h92 => ?_)
      · exact k_sub [0, 1, 2, 3] rfl (J13 S1 h91)
      · refine k_aload_n F dX9_emend_9 rfl 0 rfl ?_
        refine k_iload_n F dX9_emend_10 rfl 2 rfl ?_
        refine k_iconst F dX9_emend_11 ?_
        refine k_aload_n F dX9_emend_12 rfl 0 rfl ?_
        refine kgX9_lengths F dX9_emend_13 ?_
        refine k_iload_n F dX9_emend_16 rfl 1 rfl ?_
        refine k_iald F rfl 3 (aM_2 cI cZ ad) ra1 dX9_emend_17 h92 (fun x30 r42 h93 => ?_)
        refine k_iconst F dX9_emend_18 ?_
        refine k_isub F dX9_emend_19 h93 (fun x31 r43 h94 => ?_)
        refine k_callVi F cal_X9_between wm_144 (obM_0 cI cZ ad) (fun l D A hD hG x S' h => c_X9_between hD hG ra2 iR_0 r43 h) ⟨rfl, rfl, Nat.le_of_ble_eq_true rfl, Nat.le_of_ble_eq_true rfl⟩ rfl rfl (Nat.le_of_ble_eq_true rfl) dX9_emend_20 h94 (fun x32 S24 r44 b3 h95 => ?_)
        refine k_if_ne F r44 (tgt := 30) dX9_emend_23 (by decide) h95 (fun h96 => ?_) (fun h97 => ?_)
        · refine k_aload_n F dX9_emend_30 rfl 0 rfl ?_
          refine k_iload_n F dX9_emend_31 rfl 3 rfl ?_
          refine k_iconst F dX9_emend_32 ?_
          refine k_bipush F dX9_emend_33 bp_59 ?_
          refine k_callVi F cal_X9_between wm_144 (obM_0 cI cZ ad) (fun l D A hD hG x S' h => c_X9_between hD hG ra3 iR_m1 iR_59 h) ⟨rfl, rfl, Nat.le_of_ble_eq_true rfl, Nat.le_of_ble_eq_true rfl⟩ rfl rfl (Nat.le_of_ble_eq_true rfl) dX9_emend_35 h96 (fun x33 S25 r45 b4 h98 => ?_)
          refine k_if_ne F r45 (tgt := 45) dX9_emend_38 (by decide) h98 (fun h99 => ?_) (fun h100 => ?_)
          · refine k_iload_n F dX9_emend_45 rfl 3 rfl ?_
            refine k_iconst F dX9_emend_46 ?_
            refine zj0_e (PJ := (fun S26 => zk Γ (wM cI cZ ad) (RG bsM) S26 [(0, .ref (ad 0)), (1, .int (zI a1)), (2, .int (zI a2)), (3, .int (zI a3))] 64 [.ref (ad 0)])) h99 (fun S26 h101 => ?_) (fun j14 J14 h102 => ?_)
            · refine k_iconst F dX9_emend_64 ?_
              exact k_sub [0, 1, 2, 3] rfl (J12 0 S26 h101 iR_0)
            · refine k_icmp_ne F ra3 iR_m1 (tgt := 64) dX9_emend_47 (by decide) h102 (fun h103 => ?_) (fun h104 => ?_)
              · exact k_sub [0, 1, 2, 3] rfl (J14 S25 h103)
              · refine k_aload_n F dX9_emend_50 rfl 0 rfl ?_
                refine kgX9_lengths F dX9_emend_51 ?_
                refine k_iload_n F dX9_emend_54 rfl 1 rfl ?_
                refine k_iald F rfl 3 (aM_2 cI cZ ad) ra1 dX9_emend_55 h104 (fun x34 r46 h105 => ?_)
                refine k_iconst F dX9_emend_56 ?_
                refine k_icmp_ne F r46 iR_1 (tgt := 64) dX9_emend_57 (by decide) h105 (fun h106 => ?_) (fun h107 => ?_)
                · exact k_sub [0, 1, 2, 3] rfl (J14 S25 h106)
                · refine k_iconst F dX9_emend_60 ?_
                  refine k_goto F (tgt := 65) dX9_emend_61 (by decide) ?_
                  exact k_sub [0, 1, 2, 3] rfl (J12 3 S25 h107 iR_3)
          · refine k_iconst F dX9_emend_41 ?_
            refine k_goto F (tgt := 65) dX9_emend_42 (by decide) ?_
            exact k_sub [0, 1, 2, 3] rfl (J12 2 S25 h100 iR_2)
        · exact k_sub [0, 1, 2, 3] rfl (J13 S24 h97)
set_option maxRecDepth 100000 in
theorem c_X9_textOf {l : Launch} {D : va_G} {A : Nat → Prop} {cI cZ : ClassId} {ad : Nat → Nat} (hD : ∀ S, va_D A (wM cI cZ ad S)) {S : zSt} (hG : RG bsM S) {a1 : Int} (ra1 : inR a1) {a2 : Int} (ra2 : inR a2) {x : Int} {S' : zSt} (h : m_X9_textOf S a1 a2 = some (x, S')) : zMi l yX9_textOf cX9_textOf 3 .int { frames := 2, cells := 0, slots := 0, locals := 44 } D cI cZ A (wM cI cZ ad) (RG bsM) [.ref (ad 0), .int (zI a1), .int (zI a2)] S x S' := by
  refine k_start_i (by decide +kernel) hD hG (Nat.le_of_ble_eq_true rfl) (fun Γ F hQ => ?_)
  have F : zF Γ (wM cI cZ ad) cI cZ cX9_textOf { frames := 2, cells := 0, slots := 0, locals := 44 } 3 RX9 := F
  refine k_sub [0, 1, 2] (lv' := [(0, .ref (ad 0)), (1, .int (zI a1)), (2, .int (zI a2))]) rfl ?_
  refine k_aload_n F dX9_textOf_0 rfl 0 rfl ?_
  refine k_aload_n F dX9_textOf_1 rfl 0 rfl ?_
  refine k_iload_n F dX9_textOf_2 rfl 1 rfl ?_
  refine k_callVi F cal_X9_isUnit wm_151 (obM_0 cI cZ ad) (fun l D A hD hG x S' h => c_X9_isUnit hD hG ra1 h) ⟨rfl, rfl, Nat.le_of_ble_eq_true rfl, Nat.le_of_ble_eq_true rfl⟩ rfl rfl (Nat.le_of_ble_eq_true rfl) dX9_textOf_3 h (fun x1 S1 r1 b1 h1 => ?_)
  refine zj1_e (PJ := (fun v1 S2 => inR v1 → zk Γ (wM cI cZ ad) (RG bsM) S2 [(0, .ref (ad 0)), (1, .int (zI a1)), (2, .int (zI a2))] 18 [.int (zI v1), .ref (ad 0)])) h1 (fun v1 S2 h2 r2 => ?_) (fun j1 J1 h13 => ?_)
  · refine kpX9_thrown F r2 dX9_textOf_18 h2 (fun S3 h3 => ?_)
    refine k_aload_n F dX9_textOf_21 rfl 0 rfl ?_
    refine kgX9_thrown F dX9_textOf_22 h3 (fun x2 r3 h4 => ?_)
    refine k_if_le F r3 (tgt := 32) dX9_textOf_25 (by decide) h4 (fun h5 => ?_) (fun h6 => ?_)
    · refine k_iload_n F dX9_textOf_32 rfl 2 rfl ?_
      refine k_aload_n F dX9_textOf_33 rfl 0 rfl ?_
      refine kgX9_lengths F dX9_textOf_34 ?_
      refine k_iload_n F dX9_textOf_37 rfl 1 rfl ?_
      refine k_iald F rfl 3 (aM_2 cI cZ ad) ra1 dX9_textOf_38 h5 (fun x3 r4 h7 => ?_)
      refine k_icmp_ge F ra2 r4 (tgt := 56) dX9_textOf_39 (by decide) h7 (fun h8 => ?_) (fun h9 => ?_)
      · refine k_iconst F dX9_textOf_56 ?_
        exact k_iret F hQ iR_m1 dX9_textOf_57 h8
      · refine k_aload_n F dX9_textOf_42 rfl 0 rfl ?_
        refine kgX9_texts F dX9_textOf_43 ?_
        refine k_bipush F dX9_textOf_46 bp_12 ?_
        refine k_iload_n F dX9_textOf_48 rfl 1 rfl ?_
        refine k_imul F dX9_textOf_49 h9 (fun x4 r5 h10 => ?_)
        refine k_iload_n F dX9_textOf_50 rfl 2 rfl ?_
        refine k_iadd F dX9_textOf_51 h10 (fun x5 r6 h11 => ?_)
        refine k_iald F rfl 2 (aM_1 cI cZ ad) r6 dX9_textOf_52 h11 (fun x6 r7 h12 => ?_)
        refine k_goto F (tgt := 57) dX9_textOf_53 (by decide) ?_
        exact k_iret F hQ r7 dX9_textOf_57 h12
    · refine k_iconst F dX9_textOf_28 ?_
      refine k_goto F (tgt := 57) dX9_textOf_29 (by decide) ?_
      exact k_iret F hQ iR_0 dX9_textOf_57 h6
  · refine zj0_e (PJ := (fun S4 => zk Γ (wM cI cZ ad) (RG bsM) S4 [(0, .ref (ad 0)), (1, .int (zI a1)), (2, .int (zI a2))] 13 [.ref (ad 0)])) h13 (fun S4 h14 => ?_) (fun j2 J2 h15 => ?_)
    · refine k_iconst F dX9_textOf_13 ?_
      refine k_goto F (tgt := 18) dX9_textOf_14 (by decide) ?_
      exact k_sub [0, 1, 2] rfl (J1 1 S4 h14 iR_1)
    · refine k_if_eq F r1 (tgt := 13) dX9_textOf_6 (by decide) h15 (fun h16 => ?_) (fun h17 => ?_)
      · exact k_sub [0, 1, 2] rfl (J2 S1 h16)
      · refine k_iload_n F dX9_textOf_9 rfl 2 rfl ?_
        refine k_if_ge F ra2 (tgt := 17) dX9_textOf_10 (by decide) h17 (fun h18 => ?_) (fun h19 => ?_)
        · refine k_iconst F dX9_textOf_17 ?_
          exact k_sub [0, 1, 2] rfl (J1 0 S1 h18 iR_0)
        · exact k_sub [0, 1, 2] rfl (J2 S1 h19)
set_option maxRecDepth 100000 in
theorem c_X9_author {l : Launch} {D : va_G} {A : Nat → Prop} {cI cZ : ClassId} {ad : Nat → Nat} (hD : ∀ S, va_D A (wM cI cZ ad S)) {S : zSt} (hG : RG bsM S) {a1 : Int} (ra1 : inR a1) {a2 : Int} (ra2 : inR a2) {a3 : Int} (ra3 : inR a3) {x : Int} {S' : zSt} (h : m_X9_author S a1 a2 a3 = some (x, S')) : zMi l yX9_author cX9_author 4 .int { frames := 1, cells := 0, slots := 0, locals := 23 } D cI cZ A (wM cI cZ ad) (RG bsM) [.ref (ad 0), .int (zI a1), .int (zI a2), .int (zI a3)] S x S' := by
  refine k_start_i (by decide +kernel) hD hG (Nat.le_of_ble_eq_true rfl) (fun Γ F hQ => ?_)
  have F : zF Γ (wM cI cZ ad) cI cZ cX9_author { frames := 1, cells := 0, slots := 0, locals := 23 } 4 RX9 := F
  refine k_sub [0, 1, 2, 3] (lv' := [(0, .ref (ad 0)), (1, .int (zI a1)), (2, .int (zI a2)), (3, .int (zI a3))]) rfl ?_
  refine k_aload_n F dX9_author_0 rfl 0 rfl ?_
  refine k_aload_n F dX9_author_1 rfl 0 rfl ?_
  refine k_iload_n F dX9_author_2 rfl 1 rfl ?_
  refine k_iconst F dX9_author_3 ?_
  refine k_sipush F dX9_author_4 sp_2000 ?_
  refine k_callVi F cal_X9_between wm_144 (obM_0 cI cZ ad) (fun l D A hD hG x S' h => c_X9_between hD hG ra1 iR_0 iR_2000 h) ⟨rfl, rfl, Nat.le_of_ble_eq_true rfl, Nat.le_of_ble_eq_true rfl⟩ rfl rfl (Nat.le_of_ble_eq_true rfl) dX9_author_7 h (fun x1 S1 r1 b1 h1 => ?_)
  refine zj1_e (PJ := (fun v1 S2 => inR v1 → zk Γ (wM cI cZ ad) (RG bsM) S2 [(0, .ref (ad 0)), (1, .int (zI a1)), (2, .int (zI a2)), (3, .int (zI a3))] 52 [.int (zI v1), .ref (ad 0)])) h1 (fun v1 S2 h2 r2 => ?_) (fun j1 J1 h18 => ?_)
  · refine kpX9_thrown F r2 dX9_author_52 h2 (fun S3 h3 => ?_)
    refine k_aload_n F dX9_author_55 rfl 0 rfl ?_
    refine kgX9_thrown F dX9_author_56 h3 (fun x2 r3 h4 => ?_)
    refine k_if_le F r3 (tgt := 64) dX9_author_59 (by decide) h4 (fun h5 => ?_) (fun h6 => ?_)
    · refine k_aload_n F dX9_author_64 rfl 0 rfl ?_
      refine kgX9_years F dX9_author_65 ?_
      refine k_aload_n F dX9_author_68 rfl 0 rfl ?_
      refine kgX9_authorMany F dX9_author_69 h5 (fun x3 r4 h7 => ?_)
      refine k_iload_n F dX9_author_72 rfl 1 rfl ?_
      refine k_iast F rfl 4 (aM_3 cI cZ ad) (sM_3 cI cZ ad) (by decide) r4 ra1 dX9_author_73 h7 (fun S4 h8 => ?_)
      refine k_aload_n F dX9_author_74 rfl 0 rfl ?_
      refine kgX9_schools F dX9_author_75 ?_
      refine k_aload_n F dX9_author_78 rfl 0 rfl ?_
      refine kgX9_authorMany F dX9_author_79 h8 (fun x4 r5 h9 => ?_)
      refine k_iload_n F dX9_author_82 rfl 2 rfl ?_
      refine k_iast F rfl 5 (aM_4 cI cZ ad) (sM_4 cI cZ ad) (by decide) r5 ra2 dX9_author_83 h9 (fun S5 h10 => ?_)
      refine k_aload_n F dX9_author_84 rfl 0 rfl ?_
      refine kgX9_initials F dX9_author_85 ?_
      refine k_aload_n F dX9_author_88 rfl 0 rfl ?_
      refine kgX9_authorMany F dX9_author_89 h10 (fun x5 r6 h11 => ?_)
      refine k_iload_n F dX9_author_92 rfl 3 rfl ?_
      refine k_iast F rfl 6 (aM_5 cI cZ ad) (sM_5 cI cZ ad) (by decide) r6 ra3 dX9_author_93 h11 (fun S6 h12 => ?_)
      refine k_aload_n F dX9_author_94 rfl 0 rfl ?_
      refine k_dup F dX9_author_95 rfl ?_
      refine kgX9_authorMany F dX9_author_96 h12 (fun x6 r7 h13 => ?_)
      refine k_iconst F dX9_author_99 ?_
      refine k_iadd F dX9_author_100 h13 (fun x7 r8 h14 => ?_)
      refine kpX9_authorMany F r8 dX9_author_101 h14 (fun S7 h15 => ?_)
      refine k_aload_n F dX9_author_104 rfl 0 rfl ?_
      refine kgX9_authorMany F dX9_author_105 h15 (fun x8 r9 h16 => ?_)
      refine k_iconst F dX9_author_108 ?_
      refine k_isub F dX9_author_109 h16 (fun x9 r10 h17 => ?_)
      exact k_iret F hQ r10 dX9_author_110 h17
    · refine k_iconst F dX9_author_62 ?_
      exact k_iret F hQ iR_0 dX9_author_63 h6
  · refine zj0_e (PJ := (fun S8 => zk Γ (wM cI cZ ad) (RG bsM) S8 [(0, .ref (ad 0)), (1, .int (zI a1)), (2, .int (zI a2)), (3, .int (zI a3))] 34 [.ref (ad 0)])) h18 (fun S8 h19 => ?_) (fun j2 J2 h20 => ?_)
    · refine k_iconst F dX9_author_34 ?_
      refine k_goto F (tgt := 52) dX9_author_35 (by decide) ?_
      exact k_sub [0, 1, 2, 3] rfl (J1 1 S8 h19 iR_1)
    · refine k_if_eq F r1 (tgt := 34) dX9_author_10 (by decide) h20 (fun h21 => ?_) (fun h22 => ?_)
      · exact k_sub [0, 1, 2, 3] rfl (J2 S1 h21)
      · refine k_aload_n F dX9_author_13 rfl 0 rfl ?_
        refine k_iload_n F dX9_author_14 rfl 2 rfl ?_
        refine k_iconst F dX9_author_15 ?_
        refine k_iconst F dX9_author_16 ?_
        refine k_callVi F cal_X9_between wm_144 (obM_0 cI cZ ad) (fun l D A hD hG x S' h => c_X9_between hD hG ra2 iR_0 iR_3 h) ⟨rfl, rfl, Nat.le_of_ble_eq_true rfl, Nat.le_of_ble_eq_true rfl⟩ rfl rfl (Nat.le_of_ble_eq_true rfl) dX9_author_17 h22 (fun x10 S9 r11 b2 h23 => ?_)
        refine k_if_eq F r11 (tgt := 34) dX9_author_20 (by decide) h23 (fun h24 => ?_) (fun h25 => ?_)
        · exact k_sub [0, 1, 2, 3] rfl (J2 S9 h24)
        · refine k_aload_n F dX9_author_23 rfl 0 rfl ?_
          refine k_iload_n F dX9_author_24 rfl 3 rfl ?_
          refine k_iconst F dX9_author_25 ?_
          refine k_bipush F dX9_author_26 bp_99 ?_
          refine k_callVi F cal_X9_between wm_144 (obM_0 cI cZ ad) (fun l D A hD hG x S' h => c_X9_between hD hG ra3 iR_0 iR_99 h) ⟨rfl, rfl, Nat.le_of_ble_eq_true rfl, Nat.le_of_ble_eq_true rfl⟩ rfl rfl (Nat.le_of_ble_eq_true rfl) dX9_author_28 h25 (fun x11 S10 r12 b3 h26 => ?_)
          refine k_if_ne F r12 (tgt := 38) dX9_author_31 (by decide) h26 (fun h27 => ?_) (fun h28 => ?_)
          · refine k_aload_n F dX9_author_38 rfl 0 rfl ?_
            refine kgX9_authorMany F dX9_author_39 h27 (fun x12 r13 h29 => ?_)
            refine k_bipush F dX9_author_42 bp_12 ?_
            refine k_icmp_ne F r13 iR_12 (tgt := 51) dX9_author_44 (by decide) h29 (fun h30 => ?_) (fun h31 => ?_)
            · refine k_iconst F dX9_author_51 ?_
              exact k_sub [0, 1, 2, 3] rfl (J1 0 S10 h30 iR_0)
            · refine k_iconst F dX9_author_47 ?_
              refine k_goto F (tgt := 52) dX9_author_48 (by decide) ?_
              exact k_sub [0, 1, 2, 3] rfl (J1 2 S10 h31 iR_2)
          · exact k_sub [0, 1, 2, 3] rfl (J2 S10 h28)
set_option maxRecDepth 100000 in
theorem c_X9_meant {l : Launch} {D : va_G} {A : Nat → Prop} {cI cZ : ClassId} {ad : Nat → Nat} (hD : ∀ S, va_D A (wM cI cZ ad S)) {S : zSt} (hG : RG bsM S) {a1 : Int} (ra1 : inR a1) {a2 : Int} (ra2 : inR a2) {x : Int} {S' : zSt} (h : m_X9_meant S a1 a2 = some (x, S')) : zMi l yX9_meant cX9_meant 6 .int { frames := 1, cells := 0, slots := 0, locals := 23 } D cI cZ A (wM cI cZ ad) (RG bsM) [.ref (ad 0), .int (zI a1), .int (zI a2)] S x S' := by
  refine k_start_i (by decide +kernel) hD hG (Nat.le_of_ble_eq_true rfl) (fun Γ F hQ => ?_)
  have F : zF Γ (wM cI cZ ad) cI cZ cX9_meant { frames := 1, cells := 0, slots := 0, locals := 23 } 6 RX9 := F
  refine k_sub [0, 1, 2] (lv' := [(0, .ref (ad 0)), (1, .int (zI a1)), (2, .int (zI a2))]) rfl ?_
  refine k_aload_n F dX9_meant_0 rfl 0 rfl ?_
  refine k_aload_n F dX9_meant_1 rfl 0 rfl ?_
  refine k_iload_n F dX9_meant_2 rfl 1 rfl ?_
  refine k_iconst F dX9_meant_3 ?_
  refine k_bipush F dX9_meant_4 bp_99 ?_
  refine k_callVi F cal_X9_between wm_144 (obM_0 cI cZ ad) (fun l D A hD hG x S' h => c_X9_between hD hG ra1 iR_0 iR_99 h) ⟨rfl, rfl, Nat.le_of_ble_eq_true rfl, Nat.le_of_ble_eq_true rfl⟩ rfl rfl (Nat.le_of_ble_eq_true rfl) dX9_meant_6 h (fun x1 S1 r1 b1 h1 => ?_)
  refine zj1_e (PJ := (fun v1 S2 => inR v1 → zk Γ (wM cI cZ ad) (RG bsM) S2 [(0, .ref (ad 0)), (1, .int (zI a1)), (2, .int (zI a2))] 29 [.int (zI v1), .ref (ad 0)])) h1 (fun v1 S2 h2 r2 => ?_) (fun j7 J7 h41 => ?_)
  · refine kpX9_thrown F r2 dX9_meant_29 h2 (fun S3 h3 => ?_)
    refine k_iconst F dX9_meant_32 ?_
    refine k_istore_n F dX9_meant_33 rfl (by decide) rfl ?_
    refine k_iconst F dX9_meant_34 ?_
    refine k_istore F dX9_meant_35 (by decide) rfl ?_
    refine zj1_e (PJ := (fun v2 S4 => inR v2 → zk Γ (wM cI cZ ad) (RG bsM) S4 [(0, .ref (ad 0)), (3, .int (zI v2))] 121 [])) h3 (fun v2 S4 h4 r3 => ?_) (fun j1 J1 h8 => ?_)
    · refine k_aload_n F dX9_meant_121 rfl 0 rfl ?_
      refine kgX9_thrown F dX9_meant_122 h4 (fun x2 r4 h5 => ?_)
      refine k_if_le F r4 (tgt := 132) dX9_meant_125 (by decide) h5 (fun h6 => ?_) (fun h7 => ?_)
      · refine k_iload_n F dX9_meant_132 rfl 1 rfl ?_
        exact k_iret F hQ r3 dX9_meant_133 h6
      · refine k_iconst F dX9_meant_128 ?_
        refine k_goto F (tgt := 133) dX9_meant_129 (by decide) ?_
        exact k_iret F hQ iR_0 dX9_meant_133 h7
    · refine k_sub [2, 3, 4, 1, 0] rfl (zl2_e (F := (b_X9_meant_37 a1 a2 j1)) (fun v3 v4 S5 => inR v3 → inR v4 → zk Γ (wM cI cZ ad) (RG bsM) S5 [(0, .ref (ad 0)), (1, .int (zI a1)), (2, .int (zI a2)), (3, .int (zI v3)), (4, .int (zI v4))] 37 []) (fun rec1 v3 v4 S5 hrec1 h9 r5 r6 => ?_) 1000 (-1) 0 S3 h8 iR_m1 iR_0)
      refine k_iload F dX9_meant_37 4 rfl ?_
      refine k_aload_n F dX9_meant_39 rfl 0 rfl ?_
      refine kgX9_authorMany F dX9_meant_40 h9 (fun x3 r7 h10 => ?_)
      refine k_icmp_ge F r6 r7 (tgt := 121) dX9_meant_43 (by decide) h10 (fun h11 => ?_) (fun h12 => ?_)
      · exact k_sub [0, 3] rfl (J1 v3 S5 h11 r5)
      · refine k_aload_n F dX9_meant_46 rfl 0 rfl ?_
        refine kgX9_thrown F dX9_meant_47 h12 (fun x4 r8 h13 => ?_)
        refine k_if_ne F r8 (tgt := 121) dX9_meant_50 (by decide) h13 (fun h14 => ?_) (fun h15 => ?_)
        · exact k_sub [0, 3] rfl (J1 v3 S5 h14 r5)
        · refine k_aload_n F dX9_meant_53 rfl 0 rfl ?_
          refine kgX9_initials F dX9_meant_54 ?_
          refine k_iload F dX9_meant_57 4 rfl ?_
          refine k_iald F rfl 6 (aM_5 cI cZ ad) r6 dX9_meant_59 h15 (fun x5 r9 h16 => ?_)
          refine k_iload_n F dX9_meant_60 rfl 1 rfl ?_
          refine zj1_e (PJ := (fun v5 S6 => inR v5 → zk Γ (wM cI cZ ad) (RG bsM) S6 [(0, .ref (ad 0)), (1, .int (zI a1)), (2, .int (zI a2)), (3, .int (zI v3)), (4, .int (zI v4))] 80 [.int (zI v5)])) h16 (fun v5 S6 h17 r10 => ?_) (fun j5 J5 h33 => ?_)
          · refine k_istore F dX9_meant_80 (by decide) rfl ?_
            refine k_iload F dX9_meant_82 0 rfl ?_
            refine zj1_e (PJ := (fun v6 S7 => inR v6 → zk Γ (wM cI cZ ad) (RG bsM) S7 [(0, .ref (ad 0)), (1, .int (zI a1)), (2, .int (zI a2)), (4, .int (zI v4))] 114 [.int (zI v6)])) h17 (fun v6 S7 h18 r11 => ?_) (fun j2 J2 h20 => ?_)
            · refine k_istore_n F dX9_meant_114 rfl (by decide) rfl ?_
              refine k_iinc F (k := 4) (lv' := fun y => [(4, .int (zI y)), (3, .int (zI v6)), (0, .ref (ad 0)), (1, .int (zI a1)), (2, .int (zI a2))]) dX9_meant_115 rfl (by decide) (fun _ => rfl) h18 (fun x6 r12 h19 => ?_)
              refine k_goto F (tgt := 37) dX9_meant_118 (by decide) ?_
              exact k_sub [2, 3, 4, 1, 0] rfl (hrec1 v6 x6 S7 h19 r11 r12)
            · refine zj0_e (PJ := (fun S8 => zk Γ (wM cI cZ ad) (RG bsM) S8 [(0, .ref (ad 0)), (1, .int (zI a1)), (2, .int (zI a2)), (3, .int (zI v3)), (4, .int (zI v4))] 113 [])) h20 (fun S8 h21 => ?_) (fun j3 J3 h22 => ?_)
              · refine k_iload_n F dX9_meant_113 rfl 3 rfl ?_
                exact k_sub [0, 1, 2, 4] rfl (J2 v3 S8 h21 r5)
              · refine k_if_eq F r10 (tgt := 113) dX9_meant_84 (by decide) h22 (fun h23 => ?_) (fun h24 => ?_)
                · exact k_sub [1, 2, 3, 4, 5] rfl (J3 S6 h23)
                · refine k_iload_n F dX9_meant_87 rfl 4 rfl ?_
                  refine k_iconst F dX9_meant_88 ?_
                  refine zj0_e (PJ := (fun S9 => zk Γ (wM cI cZ ad) (RG bsM) S9 [(0, .ref (ad 0)), (1, .int (zI a1)), (2, .int (zI a2)), (4, .int (zI v4))] 108 [])) h24 (fun S9 h25 => ?_) (fun j4 J4 h26 => ?_)
                  · refine k_iload F dX9_meant_108 3 rfl ?_
                    refine k_goto F (tgt := 114) dX9_meant_110 (by decide) ?_
                    exact k_sub [0, 1, 2, 3] rfl (J2 v4 S9 h25 r6)
                  · refine k_icmp_eq F r5 iR_m1 (tgt := 108) dX9_meant_89 (by decide) h26 (fun h27 => ?_) (fun h28 => ?_)
                    · exact k_sub [1, 2, 3, 5] rfl (J4 S6 h27)
                    · refine k_aload_n F dX9_meant_92 rfl 1 rfl ?_
                      refine kgX9_years F dX9_meant_93 ?_
                      refine k_iload F dX9_meant_96 5 rfl ?_
                      refine k_iald F rfl 4 (aM_3 cI cZ ad) r6 dX9_meant_98 h28 (fun x7 r13 h29 => ?_)
                      refine k_aload_n F dX9_meant_99 rfl 1 rfl ?_
                      refine kgX9_years F dX9_meant_100 ?_
                      refine k_iload_n F dX9_meant_103 rfl 4 rfl ?_
                      refine k_iald F rfl 4 (aM_3 cI cZ ad) r5 dX9_meant_104 h29 (fun x8 r14 h30 => ?_)
                      refine k_icmp_le F r13 r14 (tgt := 113) dX9_meant_105 (by decide) h30 (fun h31 => ?_) (fun h32 => ?_)
                      · exact k_sub [1, 2, 3, 4, 5] rfl (J3 S6 h31)
                      · exact k_sub [1, 2, 3, 5] rfl (J4 S6 h32)
          · refine zj0_e (PJ := (fun S10 => zk Γ (wM cI cZ ad) (RG bsM) S10 [(0, .ref (ad 0)), (1, .int (zI a1)), (2, .int (zI a2)), (3, .int (zI v3)), (4, .int (zI v4))] 79 [])) h33 (fun S10 h34 => ?_) (fun j6 J6 h35 => ?_)
            · refine k_iconst F dX9_meant_79 ?_
              exact k_sub [0, 1, 2, 3, 4] rfl (J5 0 S10 h34 iR_0)
            · refine k_icmp_ne F r9 ra1 (tgt := 79) dX9_meant_61 (by decide) h35 (fun h36 => ?_) (fun h37 => ?_)
              · exact k_sub [0, 1, 2, 3, 4] rfl (J6 S5 h36)
              · refine k_aload_n F dX9_meant_64 rfl 0 rfl ?_
                refine kgX9_years F dX9_meant_65 ?_
                refine k_iload F dX9_meant_68 4 rfl ?_
                refine k_iald F rfl 4 (aM_3 cI cZ ad) r6 dX9_meant_70 h37 (fun x9 r15 h38 => ?_)
                refine k_iload_n F dX9_meant_71 rfl 2 rfl ?_
                refine k_icmp_gt F r15 ra2 (tgt := 79) dX9_meant_72 (by decide) h38 (fun h39 => ?_) (fun h40 => ?_)
                · exact k_sub [0, 1, 2, 3, 4] rfl (J6 S5 h39)
                · refine k_iconst F dX9_meant_75 ?_
                  refine k_goto F (tgt := 80) dX9_meant_76 (by decide) ?_
                  exact k_sub [0, 1, 2, 3, 4] rfl (J5 1 S5 h40 iR_1)
  · refine zj0_e (PJ := (fun S11 => zk Γ (wM cI cZ ad) (RG bsM) S11 [(0, .ref (ad 0)), (1, .int (zI a1)), (2, .int (zI a2))] 24 [.ref (ad 0)])) h41 (fun S11 h42 => ?_) (fun j8 J8 h43 => ?_)
    · refine k_iconst F dX9_meant_24 ?_
      refine k_goto F (tgt := 29) dX9_meant_25 (by decide) ?_
      exact k_sub [0, 1, 2] rfl (J7 1 S11 h42 iR_1)
    · refine k_if_eq F r1 (tgt := 24) dX9_meant_9 (by decide) h43 (fun h44 => ?_) (fun h45 => ?_)
      · exact k_sub [0, 1, 2] rfl (J8 S1 h44)
      · refine k_aload_n F dX9_meant_12 rfl 0 rfl ?_
        refine k_iload_n F dX9_meant_13 rfl 2 rfl ?_
        refine k_iconst F dX9_meant_14 ?_
        refine k_sipush F dX9_meant_15 sp_2000 ?_
        refine k_callVi F cal_X9_between wm_144 (obM_0 cI cZ ad) (fun l D A hD hG x S' h => c_X9_between hD hG ra2 iR_0 iR_2000 h) ⟨rfl, rfl, Nat.le_of_ble_eq_true rfl, Nat.le_of_ble_eq_true rfl⟩ rfl rfl (Nat.le_of_ble_eq_true rfl) dX9_meant_18 h45 (fun x10 S12 r16 b2 h46 => ?_)
        refine k_if_ne F r16 (tgt := 28) dX9_meant_21 (by decide) h46 (fun h47 => ?_) (fun h48 => ?_)
        · refine k_iconst F dX9_meant_28 ?_
          exact k_sub [0, 1, 2] rfl (J7 0 S12 h47 iR_0)
        · exact k_sub [0, 1, 2] rfl (J8 S12 h48)
set_option maxRecDepth 100000 in
theorem c_X9_isNote {l : Launch} {D : va_G} {A : Nat → Prop} {cI cZ : ClassId} {ad : Nat → Nat} (hD : ∀ S, va_D A (wM cI cZ ad S)) {S : zSt} (hG : RG bsM S) {a1 : Int} (ra1 : inR a1) {a2 : Int} (ra2 : inR a2) {a3 : Int} (ra3 : inR a3) {x : Int} {S' : zSt} (h : m_X9_isNote S a1 a2 a3 = some (x, S')) : zMi l yX9_isNote cX9_isNote 4 .boolean { frames := 1, cells := 0, slots := 0, locals := 23 } D cI cZ A (wM cI cZ ad) (RG bsM) [.ref (ad 0), .int (zI a1), .int (zI a2), .int (zI a3)] S x S' := by
  refine k_start_i (by decide +kernel) hD hG (Nat.le_of_ble_eq_true rfl) (fun Γ F hQ => ?_)
  have F : zF Γ (wM cI cZ ad) cI cZ cX9_isNote { frames := 1, cells := 0, slots := 0, locals := 23 } 4 RX9 := F
  refine k_sub [0, 1, 2, 3] (lv' := [(0, .ref (ad 0)), (1, .int (zI a1)), (2, .int (zI a2)), (3, .int (zI a3))]) rfl ?_
  refine k_aload_n F dX9_isNote_0 rfl 0 rfl ?_
  refine k_iload_n F dX9_isNote_1 rfl 1 rfl ?_
  refine k_iconst F dX9_isNote_2 ?_
  refine k_iconst F dX9_isNote_3 ?_
  refine k_callVi F cal_X9_between wm_144 (obM_0 cI cZ ad) (fun l D A hD hG x S' h => c_X9_between hD hG ra1 iR_0 iR_4 h) ⟨rfl, rfl, Nat.le_of_ble_eq_true rfl, Nat.le_of_ble_eq_true rfl⟩ rfl rfl (Nat.le_of_ble_eq_true rfl) dX9_isNote_4 h (fun x1 S1 r1 b1 h1 => ?_)
  refine zj0_e (PJ := (fun S2 => zk Γ (wM cI cZ ad) (RG bsM) S2 [] 35 [])) h1 (fun S2 h2 => ?_) (fun j1 J1 h3 => ?_)
  · refine k_iconst F dX9_isNote_35 ?_
    exact k_zret F hQ (Or.inl rfl) dX9_isNote_36 h2
  · refine k_if_eq F r1 (tgt := 35) dX9_isNote_7 (by decide) h3 (fun h4 => ?_) (fun h5 => ?_)
    · exact k_sub [] rfl (J1 S1 h4)
    · refine k_aload_n F dX9_isNote_10 rfl 0 rfl ?_
      refine k_iload_n F dX9_isNote_11 rfl 2 rfl ?_
      refine k_iconst F dX9_isNote_12 ?_
      refine k_bipush F dX9_isNote_13 bp_9 ?_
      refine k_callVi F cal_X9_between wm_144 (obM_0 cI cZ ad) (fun l D A hD hG x S' h => c_X9_between hD hG ra2 iR_1 iR_9 h) ⟨rfl, rfl, Nat.le_of_ble_eq_true rfl, Nat.le_of_ble_eq_true rfl⟩ rfl rfl (Nat.le_of_ble_eq_true rfl) dX9_isNote_15 h5 (fun x2 S3 r2 b2 h6 => ?_)
      refine k_if_eq F r2 (tgt := 35) dX9_isNote_18 (by decide) h6 (fun h7 => ?_) (fun h8 => ?_)
      · exact k_sub [] rfl (J1 S3 h7)
      · refine k_aload_n F dX9_isNote_21 rfl 0 rfl ?_
        refine k_iload_n F dX9_isNote_22 rfl 3 rfl ?_
        refine k_iconst F dX9_isNote_23 ?_
        refine k_iconst F dX9_isNote_24 ?_
        refine k_callVi F cal_X9_between wm_144 (obM_0 cI cZ ad) (fun l D A hD hG x S' h => c_X9_between hD hG ra3 iR_0 iR_1 h) ⟨rfl, rfl, Nat.le_of_ble_eq_true rfl, Nat.le_of_ble_eq_true rfl⟩ rfl rfl (Nat.le_of_ble_eq_true rfl) dX9_isNote_25 h8 (fun x3 S4 r3 b3 h9 => ?_)
        refine k_if_eq F r3 (tgt := 35) dX9_isNote_28 (by decide) h9 (fun h10 => ?_) (fun h11 => ?_)
        · exact k_sub [] rfl (J1 S4 h10)
        · refine k_iconst F dX9_isNote_31 ?_
          refine k_goto F (tgt := 36) dX9_isNote_32 (by decide) ?_
          exact k_zret F hQ (Or.inr rfl) dX9_isNote_36 h11
set_option maxRecDepth 100000 in
theorem c_X9_added {l : Launch} {D : va_G} {A : Nat → Prop} {cI cZ : ClassId} {ad : Nat → Nat} (hD : ∀ S, va_D A (wM cI cZ ad S)) {S : zSt} (hG : RG bsM S) {a1 : Int} (ra1 : inR a1) {a2 : Int} (ra2 : inR a2) {a3 : Int} (ra3 : inR a3) {a4 : Int} (ra4 : inR a4) {x : Int} {S' : zSt} (h : m_X9_added S a1 a2 a3 a4 = some (x, S')) : zMi l yX9_added cX9_added 6 .int { frames := 0, cells := 0, slots := 0, locals := 0 } D cI cZ A (wM cI cZ ad) (RG bsM) [.ref (ad 0), .int (zI a1), .int (zI a2), .int (zI a3), .int (zI a4)] S x S' := by
  refine k_start_i (by decide +kernel) hD hG (Nat.le_of_ble_eq_true rfl) (fun Γ F hQ => ?_)
  have F : zF Γ (wM cI cZ ad) cI cZ cX9_added { frames := 0, cells := 0, slots := 0, locals := 0 } 6 RX9 := F
  refine k_sub [0, 1, 2, 3, 4] (lv' := [(0, .ref (ad 0)), (1, .int (zI a1)), (2, .int (zI a2)), (3, .int (zI a3)), (4, .int (zI a4))]) rfl ?_
  refine k_aload_n F dX9_added_0 rfl 0 rfl ?_
  refine kgX9_commentMany F dX9_added_1 h (fun x1 r1 h1 => ?_)
  refine k_istore F dX9_added_4 (by decide) rfl ?_
  refine k_aload_n F dX9_added_6 rfl 1 rfl ?_
  refine kgX9_by F dX9_added_7 ?_
  refine k_iload F dX9_added_10 0 rfl ?_
  refine k_iload_n F dX9_added_12 rfl 2 rfl ?_
  refine k_iast F rfl 7 (aM_6 cI cZ ad) (sM_6 cI cZ ad) (by decide) r1 ra1 dX9_added_13 h1 (fun S1 h2 => ?_)
  refine k_aload_n F dX9_added_14 rfl 1 rfl ?_
  refine kgX9_kinds F dX9_added_15 ?_
  refine k_iload F dX9_added_18 0 rfl ?_
  refine k_iload_n F dX9_added_20 rfl 3 rfl ?_
  refine k_iast F rfl 8 (aM_7 cI cZ ad) (sM_7 cI cZ ad) (by decide) r1 ra2 dX9_added_21 h2 (fun S2 h3 => ?_)
  refine k_aload_n F dX9_added_22 rfl 1 rfl ?_
  refine kgX9_heights F dX9_added_23 ?_
  refine k_iload F dX9_added_26 0 rfl ?_
  refine k_iload_n F dX9_added_28 rfl 4 rfl ?_
  refine k_iast F rfl 15 (aM_14 cI cZ ad) (sM_14 cI cZ ad) (by decide) r1 ra3 dX9_added_29 h3 (fun S3 h4 => ?_)
  refine k_aload_n F dX9_added_30 rfl 1 rfl ?_
  refine kgX9_margins F dX9_added_31 ?_
  refine k_iload F dX9_added_34 0 rfl ?_
  refine k_iload F dX9_added_36 5 rfl ?_
  refine k_iast F rfl 16 (aM_15 cI cZ ad) (sM_15 cI cZ ad) (by decide) r1 ra4 dX9_added_38 h4 (fun S4 h5 => ?_)
  refine k_aload_n F dX9_added_39 rfl 1 rfl ?_
  refine k_dup F dX9_added_40 rfl ?_
  refine kgX9_commentMany F dX9_added_41 h5 (fun x2 r2 h6 => ?_)
  refine k_iconst F dX9_added_44 ?_
  refine k_iadd F dX9_added_45 h6 (fun x3 r3 h7 => ?_)
  refine kpX9_commentMany F r3 dX9_added_46 h7 (fun S5 h8 => ?_)
  refine k_iload F dX9_added_49 0 rfl ?_
  exact k_iret F hQ r1 dX9_added_51 h8
set_option maxRecDepth 100000 in
theorem c_X9_comment {l : Launch} {D : va_G} {A : Nat → Prop} {cI cZ : ClassId} {ad : Nat → Nat} (hD : ∀ S, va_D A (wM cI cZ ad S)) {S : zSt} (hG : RG bsM S) {a1 : Int} (ra1 : inR a1) {a2 : Int} (ra2 : inR a2) {a3 : Int} (ra3 : inR a3) {a4 : Int} (ra4 : inR a4) {a5 : Int} (ra5 : inR a5) {a6 : Int} (ra6 : inR a6) {a7 : Int} (ra7 : inR a7) {x : Int} {S' : zSt} (h : m_X9_comment S a1 a2 a3 a4 a5 a6 a7 = some (x, S')) : zMi l yX9_comment cX9_comment 11 .int { frames := 2, cells := 0, slots := 0, locals := 46 } D cI cZ A (wM cI cZ ad) (RG bsM) [.ref (ad 0), .int (zI a1), .int (zI a2), .int (zI a3), .int (zI a4), .int (zI a5), .int (zI a6), .int (zI a7)] S x S' := by
  refine k_start_i (by decide +kernel) hD hG (Nat.le_of_ble_eq_true rfl) (fun Γ F hQ => ?_)
  have F : zF Γ (wM cI cZ ad) cI cZ cX9_comment { frames := 2, cells := 0, slots := 0, locals := 46 } 11 RX9 := F
  refine k_sub [0, 1, 2, 3, 4, 5, 6, 7] (lv' := [(0, .ref (ad 0)), (1, .int (zI a1)), (2, .int (zI a2)), (3, .int (zI a3)), (4, .int (zI a4)), (5, .int (zI a5)), (6, .int (zI a6)), (7, .int (zI a7))]) rfl ?_
  refine k_aload_n F dX9_comment_0 rfl 0 rfl ?_
  refine k_aload_n F dX9_comment_1 rfl 0 rfl ?_
  refine k_iload_n F dX9_comment_2 rfl 1 rfl ?_
  refine k_callVi F cal_X9_isAuthor wm_159 (obM_0 cI cZ ad) (fun l D A hD hG x S' h => c_X9_isAuthor hD hG ra1 h) ⟨rfl, rfl, Nat.le_of_ble_eq_true rfl, Nat.le_of_ble_eq_true rfl⟩ rfl rfl (Nat.le_of_ble_eq_true rfl) dX9_comment_3 h (fun x1 S1 r1 b1 h1 => ?_)
  refine zj1_e (PJ := (fun v1 S2 => inR v1 → zk Γ (wM cI cZ ad) (RG bsM) S2 [(0, .ref (ad 0)), (1, .int (zI a1)), (2, .int (zI a2)), (3, .int (zI a3)), (4, .int (zI a4)), (5, .int (zI a5)), (6, .int (zI a6)), (7, .int (zI a7))] 62 [.int (zI v1), .ref (ad 0)])) h1 (fun v1 S2 h2 r2 => ?_) (fun j7 J7 h52 => ?_)
  · refine kpX9_thrown F r2 dX9_comment_62 h2 (fun S3 h3 => ?_)
    refine k_aload_n F dX9_comment_65 rfl 0 rfl ?_
    refine kgX9_thrown F dX9_comment_66 h3 (fun x2 r3 h4 => ?_)
    refine k_if_le F r3 (tgt := 74) dX9_comment_69 (by decide) h4 (fun h5 => ?_) (fun h6 => ?_)
    · refine k_iconst F dX9_comment_74 ?_
      refine k_istore F dX9_comment_75 (by decide) rfl ?_
      refine k_iconst F dX9_comment_77 ?_
      refine k_istore F dX9_comment_78 (by decide) rfl ?_
      refine k_iconst F dX9_comment_80 ?_
      refine k_istore F dX9_comment_81 (by decide) rfl ?_
      refine zj1_e (PJ := (fun v2 S4 => inR v2 → zk Γ (wM cI cZ ad) (RG bsM) S4 [(0, .ref (ad 0)), (1, .int (zI a1)), (2, .int (zI a2)), (3, .int (zI a3)), (4, .int (zI a4)), (6, .int (zI a6)), (7, .int (zI a7)), (8, .int (zI v2))] 160 [])) h5 (fun v2 S4 h7 r4 => ?_) (fun j3 J3 h27 => ?_)
      · refine k_aload_n F dX9_comment_160 rfl 0 rfl ?_
        refine k_aload_n F dX9_comment_161 rfl 0 rfl ?_
        refine kgX9_commentMany F dX9_comment_162 h7 (fun x3 r5 h8 => ?_)
        refine k_bipush F dX9_comment_165 bp_60 ?_
        refine zj1_e (PJ := (fun v3 S5 => inR v3 → zk Γ (wM cI cZ ad) (RG bsM) S5 [(0, .ref (ad 0)), (1, .int (zI a1)), (2, .int (zI a2)), (3, .int (zI a3)), (4, .int (zI a4)), (6, .int (zI a6)), (7, .int (zI a7)), (8, .int (zI v2))] 181 [.int (zI v3), .ref (ad 0)])) h8 (fun v3 S5 h9 r6 => ?_) (fun j1 J1 h20 => ?_)
        · refine kpX9_thrown F r6 dX9_comment_181 h9 (fun S6 h10 => ?_)
          refine k_aload_n F dX9_comment_184 rfl 0 rfl ?_
          refine kgX9_thrown F dX9_comment_185 h10 (fun x4 r7 h11 => ?_)
          refine k_if_le F r7 (tgt := 193) dX9_comment_188 (by decide) h11 (fun h12 => ?_) (fun h13 => ?_)
          · refine k_aload_n F dX9_comment_193 rfl 0 rfl ?_
            refine k_iload_n F dX9_comment_194 rfl 1 rfl ?_
            refine k_iload_n F dX9_comment_195 rfl 3 rfl ?_
            refine k_iload F dX9_comment_196 5 rfl ?_
            refine k_iload F dX9_comment_198 6 rfl ?_
            refine k_callVi F cal_X9_added wm_163 (obM_0 cI cZ ad) (fun l D A hD hG x S' h => c_X9_added hD hG ra1 ra3 ra6 ra7 h) ⟨rfl, rfl, Nat.le_of_ble_eq_true rfl, Nat.le_of_ble_eq_true rfl⟩ rfl rfl (Nat.le_of_ble_eq_true rfl) dX9_comment_200 h12 (fun x5 S7 r8 b2 h14 => ?_)
            refine k_istore F dX9_comment_203 (by decide) rfl ?_
            refine k_aload_n F dX9_comment_205 rfl 1 rfl ?_
            refine kgX9_on F dX9_comment_206 ?_
            refine k_iload F dX9_comment_209 0 rfl ?_
            refine k_iconst F dX9_comment_211 ?_
            refine k_iast F rfl 9 (aM_8 cI cZ ad) (sM_8 cI cZ ad) (by decide) r8 iR_m1 dX9_comment_212 h14 (fun S8 h15 => ?_)
            refine k_aload_n F dX9_comment_213 rfl 1 rfl ?_
            refine kgX9_roots F dX9_comment_214 ?_
            refine k_iload F dX9_comment_217 0 rfl ?_
            refine k_iload F dX9_comment_219 0 rfl ?_
            refine k_iast F rfl 10 (aM_9 cI cZ ad) (sM_9 cI cZ ad) (by decide) r8 r8 dX9_comment_221 h15 (fun S9 h16 => ?_)
            refine k_aload_n F dX9_comment_222 rfl 1 rfl ?_
            refine kgX9_units F dX9_comment_223 ?_
            refine k_iload F dX9_comment_226 0 rfl ?_
            refine k_iload_n F dX9_comment_228 rfl 3 rfl ?_
            refine k_iast F rfl 11 (aM_10 cI cZ ad) (sM_10 cI cZ ad) (by decide) r8 ra2 dX9_comment_229 h16 (fun S10 h17 => ?_)
            refine k_aload_n F dX9_comment_230 rfl 1 rfl ?_
            refine kgX9_words F dX9_comment_231 ?_
            refine k_iload F dX9_comment_234 0 rfl ?_
            refine k_iload F dX9_comment_236 5 rfl ?_
            refine k_iast F rfl 12 (aM_11 cI cZ ad) (sM_11 cI cZ ad) (by decide) r8 ra4 dX9_comment_238 h17 (fun S11 h18 => ?_)
            refine k_aload_n F dX9_comment_239 rfl 1 rfl ?_
            refine kgX9_places F dX9_comment_240 ?_
            refine k_iload F dX9_comment_243 0 rfl ?_
            refine k_iload F dX9_comment_245 8 rfl ?_
            refine k_iast F rfl 13 (aM_12 cI cZ ad) (sM_12 cI cZ ad) (by decide) r8 r4 dX9_comment_247 h18 (fun S12 h19 => ?_)
            refine k_iload F dX9_comment_248 0 rfl ?_
            exact k_iret F hQ r8 dX9_comment_250 h19
          · refine k_iconst F dX9_comment_191 ?_
            exact k_iret F hQ iR_0 dX9_comment_192 h13
        · refine zj0_e (PJ := (fun S13 => zk Γ (wM cI cZ ad) (RG bsM) S13 [(0, .ref (ad 0)), (1, .int (zI a1)), (2, .int (zI a2)), (3, .int (zI a3)), (4, .int (zI a4)), (6, .int (zI a6)), (7, .int (zI a7)), (8, .int (zI v2))] 176 [.ref (ad 0)])) h20 (fun S13 h21 => ?_) (fun j2 J2 h22 => ?_)
          · refine k_iconst F dX9_comment_176 ?_
            refine k_goto F (tgt := 181) dX9_comment_177 (by decide) ?_
            exact k_sub [0, 1, 2, 3, 4, 5, 6, 7] rfl (J1 3 S13 h21 iR_3)
          · refine k_icmp_eq F r5 iR_60 (tgt := 176) dX9_comment_167 (by decide) h22 (fun h23 => ?_) (fun h24 => ?_)
            · exact k_sub [0, 1, 2, 3, 4, 5, 6, 7] rfl (J2 S4 h23)
            · refine k_iload F dX9_comment_170 7 rfl ?_
              refine k_iconst F dX9_comment_172 ?_
              refine k_icmp_ne F r4 iR_m1 (tgt := 180) dX9_comment_173 (by decide) h24 (fun h25 => ?_) (fun h26 => ?_)
              · refine k_iconst F dX9_comment_180 ?_
                exact k_sub [0, 1, 2, 3, 4, 5, 6, 7] rfl (J1 0 S4 h25 iR_0)
              · exact k_sub [0, 1, 2, 3, 4, 5, 6, 7] rfl (J2 S4 h26)
      · refine k_sub [3, 4, 5, 6, 7, 8, 9, 10, 2, 1, 0] rfl (zl3_e (F := (b_X9_comment_83 a2 a4 a5 j3)) (fun v4 v5 v6 S14 => inR v4 → inR v5 → inR v6 → zk Γ (wM cI cZ ad) (RG bsM) S14 [(0, .ref (ad 0)), (1, .int (zI a1)), (2, .int (zI a2)), (3, .int (zI a3)), (4, .int (zI a4)), (5, .int (zI a5)), (6, .int (zI a6)), (7, .int (zI a7)), (8, .int (zI v4)), (9, .int (zI v5)), (10, .int (zI v6))] 83 []) (fun rec1 v4 v5 v6 S14 hrec1 h28 r9 r10 r11 => ?_) 1000 (-1) 0 0 S3 h27 iR_m1 iR_0 iR_0)
        refine k_iload F dX9_comment_83 10 rfl ?_
        refine k_aload_n F dX9_comment_85 rfl 0 rfl ?_
        refine kgX9_lengths F dX9_comment_86 ?_
        refine k_iload_n F dX9_comment_89 rfl 2 rfl ?_
        refine k_iald F rfl 3 (aM_2 cI cZ ad) ra2 dX9_comment_90 h28 (fun x6 r12 h29 => ?_)
        refine k_icmp_ge F r11 r12 (tgt := 160) dX9_comment_91 (by decide) h29 (fun h30 => ?_) (fun h31 => ?_)
        · exact k_sub [0, 1, 2, 3, 4, 6, 7, 8] rfl (J3 v4 S14 h30 r9)
        · refine k_iload F dX9_comment_94 9 rfl ?_
          refine k_aload_n F dX9_comment_96 rfl 0 rfl ?_
          refine kgX9_texts F dX9_comment_97 ?_
          refine k_bipush F dX9_comment_100 bp_12 ?_
          refine k_iload_n F dX9_comment_102 rfl 2 rfl ?_
          refine k_imul F dX9_comment_103 h31 (fun x7 r13 h32 => ?_)
          refine k_iload F dX9_comment_104 10 rfl ?_
          refine k_iadd F dX9_comment_106 h32 (fun x8 r14 h33 => ?_)
          refine k_iald F rfl 2 (aM_1 cI cZ ad) r14 dX9_comment_107 h33 (fun x9 r15 h34 => ?_)
          refine k_iload F dX9_comment_108 4 rfl ?_
          refine zj1_e (PJ := (fun v7 S15 => inR v7 → zk Γ (wM cI cZ ad) (RG bsM) S15 [(0, .ref (ad 0)), (1, .int (zI a1)), (2, .int (zI a2)), (3, .int (zI a3)), (4, .int (zI a4)), (5, .int (zI a5)), (6, .int (zI a6)), (7, .int (zI a7)), (8, .int (zI v4)), (10, .int (zI v6))] 118 [.int (zI v7), .int (zI v5)])) h34 (fun v7 S15 h35 r16 => ?_) (fun j6 J6 h49 => ?_)
          · refine k_iadd F dX9_comment_118 h35 (fun x10 r17 h36 => ?_)
            refine k_istore F dX9_comment_119 (by decide) rfl ?_
            refine k_aload_n F dX9_comment_121 rfl 1 rfl ?_
            refine kgX9_texts F dX9_comment_122 ?_
            refine k_bipush F dX9_comment_125 bp_12 ?_
            refine k_iload_n F dX9_comment_127 rfl 3 rfl ?_
            refine k_imul F dX9_comment_128 h36 (fun x11 r18 h37 => ?_)
            refine k_iload F dX9_comment_129 10 rfl ?_
            refine k_iadd F dX9_comment_131 h37 (fun x12 r19 h38 => ?_)
            refine k_iald F rfl 2 (aM_1 cI cZ ad) r19 dX9_comment_132 h38 (fun x13 r20 h39 => ?_)
            refine k_iload F dX9_comment_133 5 rfl ?_
            refine zj1_e (PJ := (fun v8 S16 => inR v8 → zk Γ (wM cI cZ ad) (RG bsM) S16 [(0, .ref (ad 0)), (1, .int (zI a1)), (2, .int (zI a2)), (3, .int (zI a3)), (4, .int (zI a4)), (5, .int (zI a5)), (6, .int (zI a6)), (7, .int (zI a7)), (9, .int (zI x10)), (10, .int (zI v6))] 152 [.int (zI v8)])) h39 (fun v8 S16 h40 r21 => ?_) (fun j4 J4 h42 => ?_)
            · refine k_istore F dX9_comment_152 (by decide) rfl ?_
              refine k_iinc F (k := 10) (lv' := fun y => [(10, .int (zI y)), (8, .int (zI v8)), (0, .ref (ad 0)), (1, .int (zI a1)), (2, .int (zI a2)), (3, .int (zI a3)), (4, .int (zI a4)), (5, .int (zI a5)), (6, .int (zI a6)), (7, .int (zI a7)), (9, .int (zI x10))]) dX9_comment_154 rfl (by decide) (fun _ => rfl) h40 (fun x14 r22 h41 => ?_)
              refine k_goto F (tgt := 83) dX9_comment_157 (by decide) ?_
              exact k_sub [2, 3, 4, 5, 6, 7, 8, 9, 1, 10, 0] rfl (hrec1 v8 x10 x14 S16 h41 r21 r17 r22)
            · refine zj0_e (PJ := (fun S17 => zk Γ (wM cI cZ ad) (RG bsM) S17 [(0, .ref (ad 0)), (1, .int (zI a1)), (2, .int (zI a2)), (3, .int (zI a3)), (4, .int (zI a4)), (5, .int (zI a5)), (6, .int (zI a6)), (7, .int (zI a7)), (8, .int (zI v4)), (9, .int (zI x10)), (10, .int (zI v6))] 150 [])) h42 (fun S17 h43 => ?_) (fun j5 J5 h44 => ?_)
              · refine k_iload F dX9_comment_150 8 rfl ?_
                exact k_sub [0, 1, 2, 3, 4, 5, 6, 7, 9, 10] rfl (J4 v4 S17 h43 r9)
              · refine k_icmp_ne F r20 ra4 (tgt := 150) dX9_comment_135 (by decide) h44 (fun h45 => ?_) (fun h46 => ?_)
                · exact k_sub [1, 2, 3, 4, 5, 6, 7, 8, 9, 0, 10] rfl (J5 S15 h45)
                · refine k_iload F dX9_comment_138 0 rfl ?_
                  refine k_iload F dX9_comment_140 6 rfl ?_
                  refine k_icmp_ne F r17 ra5 (tgt := 150) dX9_comment_142 (by decide) h46 (fun h47 => ?_) (fun h48 => ?_)
                  · exact k_sub [1, 2, 3, 4, 5, 6, 7, 8, 9, 0, 10] rfl (J5 S15 h47)
                  · refine k_iload F dX9_comment_145 10 rfl ?_
                    refine k_goto F (tgt := 152) dX9_comment_147 (by decide) ?_
                    exact k_sub [1, 2, 3, 4, 5, 6, 7, 8, 0, 10] rfl (J4 v6 S15 h48 r11)
          · refine k_icmp_ne F r15 ra4 (tgt := 117) dX9_comment_110 (by decide) h49 (fun h50 => ?_) (fun h51 => ?_)
            · refine k_iconst F dX9_comment_117 ?_
              exact k_sub [0, 1, 2, 3, 4, 5, 6, 7, 8, 10] rfl (J6 0 S14 h50 iR_0)
            · refine k_iconst F dX9_comment_113 ?_
              refine k_goto F (tgt := 118) dX9_comment_114 (by decide) ?_
              exact k_sub [0, 1, 2, 3, 4, 5, 6, 7, 8, 10] rfl (J6 1 S14 h51 iR_1)
    · refine k_iconst F dX9_comment_72 ?_
      exact k_iret F hQ iR_0 dX9_comment_73 h6
  · refine zj0_e (PJ := (fun S18 => zk Γ (wM cI cZ ad) (RG bsM) S18 [(0, .ref (ad 0)), (1, .int (zI a1)), (2, .int (zI a2)), (3, .int (zI a3)), (4, .int (zI a4)), (5, .int (zI a5)), (6, .int (zI a6)), (7, .int (zI a7))] 17 [.ref (ad 0)])) h52 (fun S18 h53 => ?_) (fun j8 J8 h54 => ?_)
    · refine k_iconst F dX9_comment_17 ?_
      refine k_goto F (tgt := 62) dX9_comment_18 (by decide) ?_
      exact k_sub [0, 1, 2, 3, 4, 5, 6, 7] rfl (J7 1 S18 h53 iR_1)
    · refine k_if_eq F r1 (tgt := 17) dX9_comment_6 (by decide) h54 (fun h55 => ?_) (fun h56 => ?_)
      · exact k_sub [0, 1, 2, 3, 4, 5, 6, 7] rfl (J8 S1 h55)
      · refine k_aload_n F dX9_comment_9 rfl 0 rfl ?_
        refine k_iload_n F dX9_comment_10 rfl 2 rfl ?_
        refine k_callVi F cal_X9_isUnit wm_151 (obM_0 cI cZ ad) (fun l D A hD hG x S' h => c_X9_isUnit hD hG ra2 h) ⟨rfl, rfl, Nat.le_of_ble_eq_true rfl, Nat.le_of_ble_eq_true rfl⟩ rfl rfl (Nat.le_of_ble_eq_true rfl) dX9_comment_11 h56 (fun x15 S19 r23 b3 h57 => ?_)
        refine k_if_ne F r23 (tgt := 21) dX9_comment_14 (by decide) h57 (fun h58 => ?_) (fun h59 => ?_)
        · refine k_aload_n F dX9_comment_21 rfl 0 rfl ?_
          refine k_iload_n F dX9_comment_22 rfl 3 rfl ?_
          refine k_iload F dX9_comment_23 6 rfl ?_
          refine k_iload F dX9_comment_25 7 rfl ?_
          refine k_callVi F cal_X9_isNote wm_167 (obM_0 cI cZ ad) (fun l D A hD hG x S' h => c_X9_isNote hD hG ra3 ra6 ra7 h) ⟨rfl, rfl, Nat.le_of_ble_eq_true rfl, Nat.le_of_ble_eq_true rfl⟩ rfl rfl (Nat.le_of_ble_eq_true rfl) dX9_comment_27 h58 (fun x16 S20 r24 b4 h60 => ?_)
          refine zj0_e (PJ := (fun S21 => zk Γ (wM cI cZ ad) (RG bsM) S21 [(0, .ref (ad 0)), (1, .int (zI a1)), (2, .int (zI a2)), (3, .int (zI a3)), (4, .int (zI a4)), (5, .int (zI a5)), (6, .int (zI a6)), (7, .int (zI a7))] 57 [.ref (ad 0)])) h60 (fun S21 h61 => ?_) (fun j9 J9 h62 => ?_)
          · refine k_iconst F dX9_comment_57 ?_
            refine k_goto F (tgt := 62) dX9_comment_58 (by decide) ?_
            exact k_sub [0, 1, 2, 3, 4, 5, 6, 7] rfl (J7 2 S21 h61 iR_2)
          · refine k_if_eq F r24 (tgt := 57) dX9_comment_30 (by decide) h62 (fun h63 => ?_) (fun h64 => ?_)
            · exact k_sub [0, 1, 2, 3, 4, 5, 6, 7] rfl (J9 S20 h63)
            · refine k_aload_n F dX9_comment_33 rfl 0 rfl ?_
              refine k_iload F dX9_comment_34 4 rfl ?_
              refine k_iconst F dX9_comment_36 ?_
              refine k_bipush F dX9_comment_37 bp_59 ?_
              refine k_callVi F cal_X9_between wm_144 (obM_0 cI cZ ad) (fun l D A hD hG x S' h => c_X9_between hD hG ra4 iR_0 iR_59 h) ⟨rfl, rfl, Nat.le_of_ble_eq_true rfl, Nat.le_of_ble_eq_true rfl⟩ rfl rfl (Nat.le_of_ble_eq_true rfl) dX9_comment_39 h64 (fun x17 S22 r25 b5 h65 => ?_)
              refine k_if_eq F r25 (tgt := 57) dX9_comment_42 (by decide) h65 (fun h66 => ?_) (fun h67 => ?_)
              · exact k_sub [0, 1, 2, 3, 4, 5, 6, 7] rfl (J9 S22 h66)
              · refine k_aload_n F dX9_comment_45 rfl 0 rfl ?_
                refine k_iload F dX9_comment_46 5 rfl ?_
                refine k_iconst F dX9_comment_48 ?_
                refine k_bipush F dX9_comment_49 bp_12 ?_
                refine k_callVi F cal_X9_between wm_144 (obM_0 cI cZ ad) (fun l D A hD hG x S' h => c_X9_between hD hG ra5 iR_1 iR_12 h) ⟨rfl, rfl, Nat.le_of_ble_eq_true rfl, Nat.le_of_ble_eq_true rfl⟩ rfl rfl (Nat.le_of_ble_eq_true rfl) dX9_comment_51 h67 (fun x18 S23 r26 b6 h68 => ?_)
                refine k_if_ne F r26 (tgt := 61) dX9_comment_54 (by decide) h68 (fun h69 => ?_) (fun h70 => ?_)
                · refine k_iconst F dX9_comment_61 ?_
                  exact k_sub [0, 1, 2, 3, 4, 5, 6, 7] rfl (J7 0 S23 h69 iR_0)
                · exact k_sub [0, 1, 2, 3, 4, 5, 6, 7] rfl (J9 S23 h70)
        · exact k_sub [0, 1, 2, 3, 4, 5, 6, 7] rfl (J8 S19 h59)
