set_option maxRecDepth 100000 in
theorem c_X9_holds {l : Launch} {D : va_G} {A : Nat → Prop} {cI cZ : ClassId} {ad : Nat → Nat} (hD : ∀ S, va_D A (wM cI cZ ad S)) {S : zSt} (hG : RG bsM S) {a1 : Int} (ra1 : inR a1) {x : Int} {S' : zSt} (h : m_X9_holds S a1 = some (x, S')) : zMi l yX9_holds cX9_holds 6 .int { frames := 2, cells := 0, slots := 0, locals := 44 } D cI cZ A (wM cI cZ ad) (RG bsM) [.ref (ad 0), .int (zI a1)] S x S' := by
  refine k_start_i (by decide +kernel) hD hG (Nat.le_of_ble_eq_true rfl) (fun Γ F hQ => ?_)
  have F : zF Γ (wM cI cZ ad) cI cZ cX9_holds { frames := 2, cells := 0, slots := 0, locals := 44 } 6 RX9 := F
  refine k_sub [0, 1] (lv' := [(0, .ref (ad 0)), (1, .int (zI a1))]) rfl ?_
  refine k_aload_n F dX9_holds_0 rfl 0 rfl ?_
  refine k_aload_n F dX9_holds_1 rfl 0 rfl ?_
  refine k_iload_n F dX9_holds_2 rfl 1 rfl ?_
  refine k_callVi F cal_X9_isEdition wm_210 (obM_0 cI cZ ad) (fun l D A hD hG x S' h => c_X9_isEdition hD hG ra1 h) ⟨rfl, rfl, Nat.le_of_ble_eq_true rfl, Nat.le_of_ble_eq_true rfl⟩ rfl rfl (Nat.le_of_ble_eq_true rfl) dX9_holds_3 h (fun x1 S1 r1 b1 h1 => ?_)
  refine zj1_e (PJ := (fun v1 S2 => inR v1 → zk Γ (wM cI cZ ad) (RG bsM) S2 [(0, .ref (ad 0)), (1, .int (zI a1))] 14 [.int (zI v1), .ref (ad 0)])) h1 (fun v1 S2 h2 r2 => ?_) (fun j4 J4 h30 => ?_)
  · refine kpX9_thrown F r2 dX9_holds_14 h2 (fun S3 h3 => ?_)
    refine k_iconst F dX9_holds_17 ?_
    refine k_istore_n F dX9_holds_18 rfl (by decide) rfl ?_
    refine k_iconst F dX9_holds_19 ?_
    refine k_istore_n F dX9_holds_20 rfl (by decide) rfl ?_
    refine zj1_e (PJ := (fun v2 S4 => inR v2 → zk Γ (wM cI cZ ad) (RG bsM) S4 [(2, .int (zI v2))] 94 [])) h3 (fun v2 S4 h4 r3 => ?_) (fun j1 J1 h5 => ?_)
    · refine k_iload_n F dX9_holds_94 rfl 0 rfl ?_
      exact k_iret F hQ r3 dX9_holds_95 h4
    · refine k_sub [2, 3, 1, 0] rfl (zl2_e (F := (b_X9_holds_21 a1 j1)) (fun v3 v4 S5 => inR v3 → inR v4 → zk Γ (wM cI cZ ad) (RG bsM) S5 [(0, .ref (ad 0)), (1, .int (zI a1)), (2, .int (zI v3)), (3, .int (zI v4))] 21 []) (fun rec1 v3 v4 S5 hrec1 h6 r4 r5 => ?_) 1000 0 0 S3 h5 iR_0 iR_0)
      refine k_iload_n F dX9_holds_21 rfl 3 rfl ?_
      refine k_bipush F dX9_holds_22 bp_20 ?_
      refine k_icmp_ge F r5 iR_20 (tgt := 94) dX9_holds_24 (by decide) h6 (fun h7 => ?_) (fun h8 => ?_)
      · exact k_sub [2] rfl (J1 v3 S5 h7 r4)
      · refine k_aload_n F dX9_holds_27 rfl 0 rfl ?_
        refine kgX9_thrown F dX9_holds_28 h8 (fun x2 r6 h9 => ?_)
        refine k_if_ne F r6 (tgt := 94) dX9_holds_31 (by decide) h9 (fun h10 => ?_) (fun h11 => ?_)
        · exact k_sub [2] rfl (J1 v3 S5 h10 r4)
        · refine k_aload_n F dX9_holds_34 rfl 0 rfl ?_
          refine kgX9_addresses F dX9_holds_35 ?_
          refine k_bipush F dX9_holds_38 bp_20 ?_
          refine k_iload_n F dX9_holds_40 rfl 1 rfl ?_
          refine k_imul F dX9_holds_41 h11 (fun x3 r7 h12 => ?_)
          refine k_iload_n F dX9_holds_42 rfl 3 rfl ?_
          refine k_iadd F dX9_holds_43 h12 (fun x4 r8 h13 => ?_)
          refine k_iald F rfl 23 (aM_22 cI cZ ad) r8 dX9_holds_44 h13 (fun x5 r9 h14 => ?_)
          refine k_istore F dX9_holds_45 (by decide) rfl ?_
          refine k_aload_n F dX9_holds_47 rfl 1 rfl ?_
          refine kgX9_addresses F dX9_holds_48 ?_
          refine k_iload_n F dX9_holds_51 rfl 4 rfl ?_
          refine k_iald F rfl 23 (aM_22 cI cZ ad) r5 dX9_holds_52 h14 (fun x6 r10 h15 => ?_)
          refine k_istore F dX9_holds_53 (by decide) rfl ?_
          refine k_iload_n F dX9_holds_55 rfl 4 rfl ?_
          refine k_iload F dX9_holds_56 1 rfl ?_
          refine k_iconst F dX9_holds_58 ?_
          refine zj1_e (PJ := (fun v5 S6 => inR v5 → zk Γ (wM cI cZ ad) (RG bsM) S6 [(0, .ref (ad 0)), (1, .int (zI a1)), (3, .int (zI v4))] 86 [.int (zI v5), .int (zI v3)])) h15 (fun v5 S6 h16 r11 => ?_) (fun j2 J2 h19 => ?_)
          · refine k_iadd F dX9_holds_86 h16 (fun x7 r12 h17 => ?_)
            refine k_istore_n F dX9_holds_87 rfl (by decide) rfl ?_
            refine k_iinc F (k := 3) (lv' := fun y => [(3, .int (zI y)), (2, .int (zI x7)), (0, .ref (ad 0)), (1, .int (zI a1))]) dX9_holds_88 rfl (by decide) (fun _ => rfl) h17 (fun x8 r13 h18 => ?_)
            refine k_goto F (tgt := 21) dX9_holds_91 (by decide) ?_
            exact k_sub [2, 3, 1, 0] rfl (hrec1 x7 x8 S6 h18 r12 r13)
          · refine zj0_e (PJ := (fun S7 => zk Γ (wM cI cZ ad) (RG bsM) S7 [(0, .ref (ad 0)), (1, .int (zI a1)), (3, .int (zI v4))] 85 [.int (zI v3)])) h19 (fun S7 h20 => ?_) (fun j3 J3 h21 => ?_)
            · refine k_iconst F dX9_holds_85 ?_
              exact k_sub [0, 1, 2] rfl (J2 0 S7 h20 iR_0)
            · refine k_icmp_eq F r9 iR_m1 (tgt := 85) dX9_holds_59 (by decide) h21 (fun h22 => ?_) (fun h23 => ?_)
              · exact k_sub [2, 3, 5] rfl (J3 S5 h22)
              · refine k_iload F dX9_holds_62 0 rfl ?_
                refine k_iconst F dX9_holds_64 ?_
                refine k_icmp_eq F r10 iR_m1 (tgt := 85) dX9_holds_65 (by decide) h23 (fun h24 => ?_) (fun h25 => ?_)
                · exact k_sub [2, 3, 5] rfl (J3 S5 h24)
                · refine k_iload F dX9_holds_68 1 rfl ?_
                  refine k_bipush F dX9_holds_70 bp_100 ?_
                  refine k_idiv F r9 iR_100 dX9_holds_72 h25 (fun x9 r14 h26 => ?_)
                  refine k_iload F dX9_holds_73 0 rfl ?_
                  refine k_bipush F dX9_holds_75 bp_100 ?_
                  refine k_idiv F r10 iR_100 dX9_holds_77 h26 (fun x10 r15 h27 => ?_)
                  refine k_icmp_ne F r14 r15 (tgt := 85) dX9_holds_78 (by decide) h27 (fun h28 => ?_) (fun h29 => ?_)
                  · exact k_sub [2, 3, 5] rfl (J3 S5 h28)
                  · refine k_iconst F dX9_holds_81 ?_
                    refine k_goto F (tgt := 86) dX9_holds_82 (by decide) ?_
                    exact k_sub [2, 3, 5] rfl (J2 1 S5 h29 iR_1)
  · refine k_if_ne F r1 (tgt := 13) dX9_holds_6 (by decide) h30 (fun h31 => ?_) (fun h32 => ?_)
    · refine k_iconst F dX9_holds_13 ?_
      exact k_sub [0, 1] rfl (J4 0 S1 h31 iR_0)
    · refine k_iconst F dX9_holds_9 ?_
      refine k_goto F (tgt := 14) dX9_holds_10 (by decide) ?_
      exact k_sub [0, 1] rfl (J4 1 S1 h32 iR_1)
set_option maxRecDepth 100000 in
theorem c_X9_daily {l : Launch} {D : va_G} {A : Nat → Prop} {cI cZ : ClassId} {ad : Nat → Nat} (hD : ∀ S, va_D A (wM cI cZ ad S)) {S : zSt} (hG : RG bsM S) {a1 : Int} (ra1 : inR a1) {x : Int} {S' : zSt} (h : m_X9_daily S a1 = some (x, S')) : zMi l yX9_daily cX9_daily 7 .int { frames := 1, cells := 0, slots := 0, locals := 23 } D cI cZ A (wM cI cZ ad) (RG bsM) [.ref (ad 0), .int (zI a1)] S x S' := by
  refine k_start_i (by decide +kernel) hD hG (Nat.le_of_ble_eq_true rfl) (fun Γ F hQ => ?_)
  have F : zF Γ (wM cI cZ ad) cI cZ cX9_daily { frames := 1, cells := 0, slots := 0, locals := 23 } 7 RX9 := F
  refine k_sub [0, 1] (lv' := [(0, .ref (ad 0)), (1, .int (zI a1))]) rfl ?_
  refine k_aload_n F dX9_daily_0 rfl 0 rfl ?_
  refine k_aload_n F dX9_daily_1 rfl 0 rfl ?_
  refine k_iload_n F dX9_daily_2 rfl 1 rfl ?_
  refine k_iconst F dX9_daily_3 ?_
  refine k_ldc F (n := 100000) wm_211 (by decide) dX9_daily_4 ?_
  refine k_callVi F cal_X9_between wm_144 (obM_0 cI cZ ad) (fun l D A hD hG x S' h => c_X9_between hD hG ra1 iR_0 iR_100000 h) ⟨rfl, rfl, Nat.le_of_ble_eq_true rfl, Nat.le_of_ble_eq_true rfl⟩ rfl rfl (Nat.le_of_ble_eq_true rfl) dX9_daily_6 h (fun x1 S1 r1 b1 h1 => ?_)
  refine zj1_e (PJ := (fun v1 S2 => inR v1 → zk Γ (wM cI cZ ad) (RG bsM) S2 [(0, .ref (ad 0)), (1, .int (zI a1))] 17 [.int (zI v1), .ref (ad 0)])) h1 (fun v1 S2 h2 r2 => ?_) (fun j5 J5 h36 => ?_)
  · refine kpX9_thrown F r2 dX9_daily_17 h2 (fun S3 h3 => ?_)
    refine k_aload_n F dX9_daily_20 rfl 0 rfl ?_
    refine kgX9_thrown F dX9_daily_21 h3 (fun x2 r3 h4 => ?_)
    refine zj0_e (PJ := (fun S4 => zk Γ (wM cI cZ ad) (RG bsM) S4 [] 34 [])) h4 (fun S4 h5 => ?_) (fun j1 J1 h6 => ?_)
    · refine k_iconst F dX9_daily_34 ?_
      exact k_iret F hQ iR_0 dX9_daily_35 h5
    · refine k_if_gt F r3 (tgt := 34) dX9_daily_24 (by decide) h6 (fun h7 => ?_) (fun h8 => ?_)
      · exact k_sub [] rfl (J1 S3 h7)
      · refine k_aload_n F dX9_daily_27 rfl 0 rfl ?_
        refine kgX9_editionMany F dX9_daily_28 h8 (fun x3 r4 h9 => ?_)
        refine k_if_ne F r4 (tgt := 36) dX9_daily_31 (by decide) h9 (fun h10 => ?_) (fun h11 => ?_)
        · refine k_aload_n F dX9_daily_36 rfl 0 rfl ?_
          refine kgX9_editionMany F dX9_daily_37 h10 (fun x4 r5 h12 => ?_)
          refine k_iconst F dX9_daily_40 ?_
          refine k_isub F dX9_daily_41 h12 (fun x5 r6 h13 => ?_)
          refine k_istore_n F dX9_daily_42 rfl (by decide) rfl ?_
          refine k_iload_n F dX9_daily_43 rfl 2 rfl ?_
          refine k_aload_n F dX9_daily_44 rfl 1 rfl ?_
          refine kgX9_pageMany F dX9_daily_45 ?_
          refine k_iload_n F dX9_daily_48 rfl 0 rfl ?_
          refine k_iald F rfl 22 (aM_21 cI cZ ad) r6 dX9_daily_49 h13 (fun x6 r7 h14 => ?_)
          refine k_irem F ra1 r7 dX9_daily_50 h14 (fun x7 r8 h15 => ?_)
          refine k_istore_n F dX9_daily_51 rfl (by decide) rfl ?_
          refine k_iconst F dX9_daily_52 ?_
          refine k_istore F dX9_daily_53 (by decide) rfl ?_
          refine k_iconst F dX9_daily_55 ?_
          refine k_istore F dX9_daily_56 (by decide) rfl ?_
          refine zj1_e (PJ := (fun v2 S5 => inR v2 → zk Γ (wM cI cZ ad) (RG bsM) S5 [(4, .int (zI v2))] 114 [])) h15 (fun v2 S5 h16 r9 => ?_) (fun j2 J2 h17 => ?_)
          · refine k_iload F dX9_daily_114 0 rfl ?_
            exact k_iret F hQ r9 dX9_daily_116 h16
          · refine k_sub [4, 3, 2, 1, 0] rfl (zl2_e (F := (b_X9_daily_58 j2 x5 x7)) (fun v3 v4 S6 => inR v3 → inR v4 → zk Γ (wM cI cZ ad) (RG bsM) S6 [(0, .ref (ad 0)), (2, .int (zI x5)), (3, .int (zI x7)), (4, .int (zI v3)), (5, .int (zI v4))] 58 []) (fun rec1 v3 v4 S6 hrec1 h18 r10 r11 => ?_) 1000 0 0 S3 h17 iR_0 iR_0)
            refine k_iload F dX9_daily_58 4 rfl ?_
            refine k_bipush F dX9_daily_60 bp_20 ?_
            refine k_icmp_ge F r11 iR_20 (tgt := 114) dX9_daily_62 (by decide) h18 (fun h19 => ?_) (fun h20 => ?_)
            · exact k_sub [3] rfl (J2 v3 S6 h19 r10)
            · refine k_aload_n F dX9_daily_65 rfl 0 rfl ?_
              refine kgX9_addresses F dX9_daily_66 ?_
              refine k_bipush F dX9_daily_69 bp_20 ?_
              refine k_iload_n F dX9_daily_71 rfl 1 rfl ?_
              refine k_imul F dX9_daily_72 h20 (fun x8 r12 h21 => ?_)
              refine k_iload F dX9_daily_73 4 rfl ?_
              refine k_iadd F dX9_daily_75 h21 (fun x9 r13 h22 => ?_)
              refine k_iald F rfl 23 (aM_22 cI cZ ad) r13 dX9_daily_76 h22 (fun x10 r14 h23 => ?_)
              refine k_istore F dX9_daily_77 (by decide) rfl ?_
              refine k_iload F dX9_daily_79 0 rfl ?_
              refine k_iconst F dX9_daily_81 ?_
              refine zj1_e (PJ := (fun v5 S7 => inR v5 → zk Γ (wM cI cZ ad) (RG bsM) S7 [(0, .ref (ad 0)), (2, .int (zI x5)), (3, .int (zI x7)), (5, .int (zI v4))] 106 [.int (zI v5)])) h23 (fun v5 S7 h24 r15 => ?_) (fun j3 J3 h26 => ?_)
              · refine k_istore F dX9_daily_106 (by decide) rfl ?_
                refine k_iinc F (k := 4) (lv' := fun y => [(5, .int (zI y)), (4, .int (zI v5)), (0, .ref (ad 0)), (2, .int (zI x5)), (3, .int (zI x7))]) dX9_daily_108 rfl (by decide) (fun _ => rfl) h24 (fun x11 r16 h25 => ?_)
                refine k_goto F (tgt := 58) dX9_daily_111 (by decide) ?_
                exact k_sub [2, 3, 4, 1, 0] rfl (hrec1 v5 x11 S7 h25 r15 r16)
              · refine zj0_e (PJ := (fun S8 => zk Γ (wM cI cZ ad) (RG bsM) S8 [(0, .ref (ad 0)), (2, .int (zI x5)), (3, .int (zI x7)), (4, .int (zI v3)), (5, .int (zI v4))] 104 [])) h26 (fun S8 h27 => ?_) (fun j4 J4 h28 => ?_)
                · refine k_iload F dX9_daily_104 3 rfl ?_
                  exact k_sub [0, 1, 2, 4] rfl (J3 v3 S8 h27 r10)
                · refine k_icmp_eq F r14 iR_m1 (tgt := 104) dX9_daily_82 (by decide) h28 (fun h29 => ?_) (fun h30 => ?_)
                  · exact k_sub [1, 2, 3, 4, 5] rfl (J4 S6 h29)
                  · refine k_iload F dX9_daily_85 0 rfl ?_
                    refine k_bipush F dX9_daily_87 bp_100 ?_
                    refine k_idiv F r14 iR_100 dX9_daily_89 h30 (fun x12 r17 h31 => ?_)
                    refine k_iload_n F dX9_daily_90 rfl 3 rfl ?_
                    refine k_icmp_ne F r17 r8 (tgt := 104) dX9_daily_91 (by decide) h31 (fun h32 => ?_) (fun h33 => ?_)
                    · exact k_sub [1, 2, 3, 4, 5] rfl (J4 S6 h32)
                    · refine k_iload F dX9_daily_94 4 rfl ?_
                      refine k_iconst F dX9_daily_96 ?_
                      refine k_iload F dX9_daily_97 5 rfl ?_
                      refine k_ishl F iR_1 r11 dX9_daily_99 h33 (fun x13 r18 h34 => ?_)
                      refine k_ior F r10 r18 dX9_daily_100 h34 (fun x14 r19 h35 => ?_)
                      refine k_goto F (tgt := 106) dX9_daily_101 (by decide) ?_
                      exact k_sub [1, 2, 3, 5] rfl (J3 x14 S6 h35 r19)
        · exact k_sub [] rfl (J1 S3 h11)
  · refine k_if_ne F r1 (tgt := 16) dX9_daily_9 (by decide) h36 (fun h37 => ?_) (fun h38 => ?_)
    · refine k_iconst F dX9_daily_16 ?_
      exact k_sub [0, 1] rfl (J5 0 S1 h37 iR_0)
    · refine k_iconst F dX9_daily_12 ?_
      refine k_goto F (tgt := 17) dX9_daily_13 (by decide) ?_
      exact k_sub [0, 1] rfl (J5 1 S1 h38 iR_1)
