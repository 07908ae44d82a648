set_option maxRecDepth 100000 in
theorem c_X9_unfollow {l : Launch} {D : va_G} {A : Nat → Prop} {cI cZ : ClassId} {ad : Nat → Nat} (hD : ∀ S, va_D A (wM cI cZ ad S)) {S : zSt} (hG : RG bsM S) {a1 : Int} (ra1 : inR a1) {x : Int} {S' : zSt} (h : m_X9_unfollow S a1 = some (x, S')) : zMi l yX9_unfollow cX9_unfollow 4 .int { frames := 1, cells := 0, slots := 0, locals := 23 } D cI cZ A (wM cI cZ ad) (RG bsM) [.ref (ad 0), .int (zI a1)] S x S' := by
  refine k_start_i (by decide +kernel) hD hG (Nat.le_of_ble_eq_true rfl) (fun Γ F hQ => ?_)
  have F : zF Γ (wM cI cZ ad) cI cZ cX9_unfollow { frames := 1, cells := 0, slots := 0, locals := 23 } 4 RX9 := F
  refine k_sub [0, 1] (lv' := [(0, .ref (ad 0)), (1, .int (zI a1))]) rfl ?_
  refine k_aload_n F dX9_unfollow_0 rfl 0 rfl ?_
  refine k_aload_n F dX9_unfollow_1 rfl 0 rfl ?_
  refine k_iload_n F dX9_unfollow_2 rfl 1 rfl ?_
  refine k_iconst F dX9_unfollow_3 ?_
  refine k_aload_n F dX9_unfollow_4 rfl 0 rfl ?_
  refine kgX9_ruleMany F dX9_unfollow_5 h (fun x1 r1 h1 => ?_)
  refine k_iconst F dX9_unfollow_8 ?_
  refine k_isub F dX9_unfollow_9 h1 (fun x2 r2 h2 => ?_)
  refine k_callVi F cal_X9_between wm_144 (obM_0 cI cZ ad) (fun l D A hD hG x S' h => c_X9_between hD hG ra1 iR_0 r2 h) ⟨rfl, rfl, Nat.le_of_ble_eq_true rfl, Nat.le_of_ble_eq_true rfl⟩ rfl rfl (Nat.le_of_ble_eq_true rfl) dX9_unfollow_10 h2 (fun x3 S1 r3 b1 h3 => ?_)
  refine zj1_e (PJ := (fun v1 S2 => inR v1 → zk Γ (wM cI cZ ad) (RG bsM) S2 [(0, .ref (ad 0)), (1, .int (zI a1))] 21 [.int (zI v1), .ref (ad 0)])) h3 (fun v1 S2 h4 r4 => ?_) (fun j2 J2 h27 => ?_)
  · refine kpX9_thrown F r4 dX9_unfollow_21 h4 (fun S3 h5 => ?_)
    refine k_aload_n F dX9_unfollow_24 rfl 0 rfl ?_
    refine kgX9_thrown F dX9_unfollow_25 h5 (fun x4 r5 h6 => ?_)
    refine k_if_le F r5 (tgt := 33) dX9_unfollow_28 (by decide) h6 (fun h7 => ?_) (fun h8 => ?_)
    · refine k_aload_n F dX9_unfollow_33 rfl 0 rfl ?_
      refine kgX9_ruleKinds F dX9_unfollow_34 ?_
      refine k_iload_n F dX9_unfollow_37 rfl 1 rfl ?_
      refine k_iald F rfl 19 (aM_18 cI cZ ad) ra1 dX9_unfollow_38 h7 (fun x5 r6 h9 => ?_)
      refine k_istore_n F dX9_unfollow_39 rfl (by decide) rfl ?_
      refine k_iload_n F dX9_unfollow_40 rfl 2 rfl ?_
      refine k_istore_n F dX9_unfollow_41 rfl (by decide) rfl ?_
      refine zj0_e (PJ := (fun S4 => zk Γ (wM cI cZ ad) (RG bsM) S4 [(0, .ref (ad 0)), (2, .int (zI x5))] 86 [])) h9 (fun S4 h10 => ?_) (fun j1 J1 h14 => ?_)
      · refine k_aload_n F dX9_unfollow_86 rfl 0 rfl ?_
        refine k_dup F dX9_unfollow_87 rfl ?_
        refine kgX9_ruleMany F dX9_unfollow_88 h10 (fun x6 r7 h11 => ?_)
        refine k_iconst F dX9_unfollow_91 ?_
        refine k_isub F dX9_unfollow_92 h11 (fun x7 r8 h12 => ?_)
        refine kpX9_ruleMany F r8 dX9_unfollow_93 h12 (fun S5 h13 => ?_)
        refine k_iload_n F dX9_unfollow_96 rfl 1 rfl ?_
        exact k_iret F hQ r6 dX9_unfollow_97 h13
      · refine k_sub [2, 1, 0] rfl (zl1_e (F := (b_X9_unfollow_42 j1)) (fun v2 S6 => inR v2 → zk Γ (wM cI cZ ad) (RG bsM) S6 [(0, .ref (ad 0)), (2, .int (zI x5)), (3, .int (zI v2))] 42 []) (fun rec1 v2 S6 hrec1 h15 r9 => ?_) 1000 a1 S3 h14 ra1)
        refine k_iload_n F dX9_unfollow_42 rfl 2 rfl ?_
        refine k_aload_n F dX9_unfollow_43 rfl 0 rfl ?_
        refine kgX9_ruleMany F dX9_unfollow_44 h15 (fun x8 r10 h16 => ?_)
        refine k_iconst F dX9_unfollow_47 ?_
        refine k_isub F dX9_unfollow_48 h16 (fun x9 r11 h17 => ?_)
        refine k_icmp_ge F r9 r11 (tgt := 86) dX9_unfollow_49 (by decide) h17 (fun h18 => ?_) (fun h19 => ?_)
        · exact k_sub [0, 1] rfl (J1 S6 h18)
        · refine k_aload_n F dX9_unfollow_52 rfl 0 rfl ?_
          refine kgX9_ruleKinds F dX9_unfollow_53 ?_
          refine k_iload_n F dX9_unfollow_56 rfl 2 rfl ?_
          refine k_aload_n F dX9_unfollow_57 rfl 0 rfl ?_
          refine kgX9_ruleKinds F dX9_unfollow_58 ?_
          refine k_iload_n F dX9_unfollow_61 rfl 2 rfl ?_
          refine k_iconst F dX9_unfollow_62 ?_
          refine k_iadd F dX9_unfollow_63 h19 (fun x10 r12 h20 => ?_)
          refine k_iald F rfl 19 (aM_18 cI cZ ad) r12 dX9_unfollow_64 h20 (fun x11 r13 h21 => ?_)
          refine k_iast F rfl 19 (aM_18 cI cZ ad) (sM_18 cI cZ ad) (by decide) r9 r13 dX9_unfollow_65 h21 (fun S7 h22 => ?_)
          refine k_aload_n F dX9_unfollow_66 rfl 0 rfl ?_
          refine kgX9_ruleWhats F dX9_unfollow_67 ?_
          refine k_iload_n F dX9_unfollow_70 rfl 2 rfl ?_
          refine k_aload_n F dX9_unfollow_71 rfl 0 rfl ?_
          refine kgX9_ruleWhats F dX9_unfollow_72 ?_
          refine k_iload_n F dX9_unfollow_75 rfl 2 rfl ?_
          refine k_iconst F dX9_unfollow_76 ?_
          refine k_iadd F dX9_unfollow_77 h22 (fun x12 r14 h23 => ?_)
          refine k_iald F rfl 20 (aM_19 cI cZ ad) r14 dX9_unfollow_78 h23 (fun x13 r15 h24 => ?_)
          refine k_iast F rfl 20 (aM_19 cI cZ ad) (sM_19 cI cZ ad) (by decide) r9 r15 dX9_unfollow_79 h24 (fun S8 h25 => ?_)
          refine k_iinc F (k := 2) (lv' := fun y => [(3, .int (zI y)), (0, .ref (ad 0)), (2, .int (zI x5))]) dX9_unfollow_80 rfl (by decide) (fun _ => rfl) h25 (fun x14 r16 h26 => ?_)
          refine k_goto F (tgt := 42) dX9_unfollow_83 (by decide) ?_
          exact k_sub [1, 2, 0] rfl (hrec1 x14 S8 h26 r16)
    · refine k_iconst F dX9_unfollow_31 ?_
      exact k_iret F hQ iR_0 dX9_unfollow_32 h8
  · refine k_if_ne F r3 (tgt := 20) dX9_unfollow_13 (by decide) h27 (fun h28 => ?_) (fun h29 => ?_)
    · refine k_iconst F dX9_unfollow_20 ?_
      exact k_sub [0, 1] rfl (J2 0 S1 h28 iR_0)
    · refine k_iconst F dX9_unfollow_16 ?_
      refine k_goto F (tgt := 21) dX9_unfollow_17 (by decide) ?_
      exact k_sub [0, 1] rfl (J2 1 S1 h29 iR_1)
set_option maxRecDepth 100000 in
theorem c_X9_latestRuling {l : Launch} {D : va_G} {A : Nat → Prop} {cI cZ : ClassId} {ad : Nat → Nat} (hD : ∀ S, va_D A (wM cI cZ ad S)) {S : zSt} (hG : RG bsM S) {a1 : Int} (ra1 : inR a1) {a2 : Int} (ra2 : inR a2) {x : Int} {S' : zSt} (h : m_X9_latestRuling S a1 a2 = some (x, S')) : zMi l yX9_latestRuling cX9_latestRuling 6 .int { frames := 0, cells := 0, slots := 0, locals := 0 } D cI cZ A (wM cI cZ ad) (RG bsM) [.ref (ad 0), .int (zI a1), .int (zI a2)] S x S' := by
  refine k_start_i (by decide +kernel) hD hG (Nat.le_of_ble_eq_true rfl) (fun Γ F hQ => ?_)
  have F : zF Γ (wM cI cZ ad) cI cZ cX9_latestRuling { frames := 0, cells := 0, slots := 0, locals := 0 } 6 RX9 := F
  refine k_sub [0, 1, 2] (lv' := [(0, .ref (ad 0)), (1, .int (zI a1)), (2, .int (zI a2))]) rfl ?_
  refine k_iconst F dX9_latestRuling_0 ?_
  refine k_istore_n F dX9_latestRuling_1 rfl (by decide) rfl ?_
  refine k_iconst F dX9_latestRuling_2 ?_
  refine k_istore F dX9_latestRuling_3 (by decide) rfl ?_
  refine zj1_e (PJ := (fun v1 S1 => inR v1 → zk Γ (wM cI cZ ad) (RG bsM) S1 [(0, .ref (ad 0)), (2, .int (zI a2)), (3, .int (zI v1))] 92 [])) h (fun v1 S1 h1 r1 => ?_) (fun j1 J1 h7 => ?_)
  · refine k_iload_n F dX9_latestRuling_92 rfl 2 rfl ?_
    refine k_iconst F dX9_latestRuling_93 ?_
    refine k_icmp_ne F r1 iR_m1 (tgt := 101) dX9_latestRuling_94 (by decide) h1 (fun h2 => ?_) (fun h3 => ?_)
    · refine k_aload_n F dX9_latestRuling_101 rfl 0 rfl ?_
      refine kgX9_ruled F dX9_latestRuling_102 ?_
      refine k_bipush F dX9_latestRuling_105 bp_10 ?_
      refine k_iload_n F dX9_latestRuling_107 rfl 2 rfl ?_
      refine k_imul F dX9_latestRuling_108 h2 (fun x1 r2 h4 => ?_)
      refine k_iload_n F dX9_latestRuling_109 rfl 1 rfl ?_
      refine k_iadd F dX9_latestRuling_110 h4 (fun x2 r3 h5 => ?_)
      refine k_iald F rfl 18 (aM_17 cI cZ ad) r3 dX9_latestRuling_111 h5 (fun x3 r4 h6 => ?_)
      exact k_iret F hQ r4 dX9_latestRuling_112 h6
    · refine k_iconst F dX9_latestRuling_97 ?_
      refine k_goto F (tgt := 112) dX9_latestRuling_98 (by decide) ?_
      exact k_iret F hQ iR_m1 dX9_latestRuling_112 h3
  · refine k_sub [2, 3, 4, 1, 0] rfl (zl2_e (F := (b_X9_latestRuling_5 a1 a2 j1)) (fun v2 v3 S2 => inR v2 → inR v3 → zk Γ (wM cI cZ ad) (RG bsM) S2 [(0, .ref (ad 0)), (1, .int (zI a1)), (2, .int (zI a2)), (3, .int (zI v2)), (4, .int (zI v3))] 5 []) (fun rec1 v2 v3 S2 hrec1 h8 r5 r6 => ?_) 1000 (-1) 0 S h7 iR_m1 iR_0)
    refine k_iload F dX9_latestRuling_5 4 rfl ?_
    refine k_aload_n F dX9_latestRuling_7 rfl 0 rfl ?_
    refine kgX9_authorMany F dX9_latestRuling_8 h8 (fun x4 r7 h9 => ?_)
    refine k_icmp_ge F r6 r7 (tgt := 92) dX9_latestRuling_11 (by decide) h9 (fun h10 => ?_) (fun h11 => ?_)
    · exact k_sub [0, 2, 3] rfl (J1 v2 S2 h10 r5)
    · refine k_aload_n F dX9_latestRuling_14 rfl 0 rfl ?_
      refine kgX9_ruled F dX9_latestRuling_15 ?_
      refine k_bipush F dX9_latestRuling_18 bp_10 ?_
      refine k_iload F dX9_latestRuling_20 4 rfl ?_
      refine k_imul F dX9_latestRuling_22 h11 (fun x5 r8 h12 => ?_)
      refine k_iload_n F dX9_latestRuling_23 rfl 2 rfl ?_
      refine k_iadd F dX9_latestRuling_24 h12 (fun x6 r9 h13 => ?_)
      refine k_iald F rfl 18 (aM_17 cI cZ ad) r9 dX9_latestRuling_25 h13 (fun x7 r10 h14 => ?_)
      refine k_iconst F dX9_latestRuling_26 ?_
      refine zj1_e (PJ := (fun v4 S3 => inR v4 → zk Γ (wM cI cZ ad) (RG bsM) S3 [(0, .ref (ad 0)), (1, .int (zI a1)), (2, .int (zI a2)), (3, .int (zI v2)), (4, .int (zI v3))] 51 [.int (zI v4)])) h14 (fun v4 S3 h15 r11 => ?_) (fun j5 J5 h31 => ?_)
      · refine k_istore F dX9_latestRuling_51 (by decide) rfl ?_
        refine k_iload F dX9_latestRuling_53 0 rfl ?_
        refine zj1_e (PJ := (fun v5 S4 => inR v5 → zk Γ (wM cI cZ ad) (RG bsM) S4 [(0, .ref (ad 0)), (1, .int (zI a1)), (2, .int (zI a2)), (4, .int (zI v3))] 85 [.int (zI v5)])) h15 (fun v5 S4 h16 r12 => ?_) (fun j2 J2 h18 => ?_)
        · refine k_istore_n F dX9_latestRuling_85 rfl (by decide) rfl ?_
          refine k_iinc F (k := 4) (lv' := fun y => [(4, .int (zI y)), (3, .int (zI v5)), (0, .ref (ad 0)), (1, .int (zI a1)), (2, .int (zI a2))]) dX9_latestRuling_86 rfl (by decide) (fun _ => rfl) h16 (fun x8 r13 h17 => ?_)
          refine k_goto F (tgt := 5) dX9_latestRuling_89 (by decide) ?_
          exact k_sub [2, 3, 4, 1, 0] rfl (hrec1 v5 x8 S4 h17 r12 r13)
        · refine zj0_e (PJ := (fun S5 => zk Γ (wM cI cZ ad) (RG bsM) S5 [(0, .ref (ad 0)), (1, .int (zI a1)), (2, .int (zI a2)), (3, .int (zI v2)), (4, .int (zI v3))] 84 [])) h18 (fun S5 h19 => ?_) (fun j3 J3 h20 => ?_)
          · refine k_iload_n F dX9_latestRuling_84 rfl 3 rfl ?_
            exact k_sub [0, 1, 2, 4] rfl (J2 v2 S5 h19 r5)
          · refine k_if_eq F r11 (tgt := 84) dX9_latestRuling_55 (by decide) h20 (fun h21 => ?_) (fun h22 => ?_)
            · exact k_sub [1, 2, 3, 4, 5] rfl (J3 S3 h21)
            · refine k_iload_n F dX9_latestRuling_58 rfl 4 rfl ?_
              refine k_iconst F dX9_latestRuling_59 ?_
              refine zj0_e (PJ := (fun S6 => zk Γ (wM cI cZ ad) (RG bsM) S6 [(0, .ref (ad 0)), (1, .int (zI a1)), (2, .int (zI a2)), (4, .int (zI v3))] 79 [])) h22 (fun S6 h23 => ?_) (fun j4 J4 h24 => ?_)
              · refine k_iload F dX9_latestRuling_79 3 rfl ?_
                refine k_goto F (tgt := 85) dX9_latestRuling_81 (by decide) ?_
                exact k_sub [0, 1, 2, 3] rfl (J2 v3 S6 h23 r6)
              · refine k_icmp_eq F r5 iR_m1 (tgt := 79) dX9_latestRuling_60 (by decide) h24 (fun h25 => ?_) (fun h26 => ?_)
                · exact k_sub [1, 2, 3, 5] rfl (J4 S3 h25)
                · refine k_aload_n F dX9_latestRuling_63 rfl 1 rfl ?_
                  refine kgX9_years F dX9_latestRuling_64 ?_
                  refine k_iload F dX9_latestRuling_67 5 rfl ?_
                  refine k_iald F rfl 4 (aM_3 cI cZ ad) r6 dX9_latestRuling_69 h26 (fun x9 r14 h27 => ?_)
                  refine k_aload_n F dX9_latestRuling_70 rfl 1 rfl ?_
                  refine kgX9_years F dX9_latestRuling_71 ?_
                  refine k_iload_n F dX9_latestRuling_74 rfl 4 rfl ?_
                  refine k_iald F rfl 4 (aM_3 cI cZ ad) r5 dX9_latestRuling_75 h27 (fun x10 r15 h28 => ?_)
                  refine k_icmp_le F r14 r15 (tgt := 84) dX9_latestRuling_76 (by decide) h28 (fun h29 => ?_) (fun h30 => ?_)
                  · exact k_sub [1, 2, 3, 4, 5] rfl (J3 S3 h29)
                  · exact k_sub [1, 2, 3, 5] rfl (J4 S3 h30)
      · refine zj0_e (PJ := (fun S7 => zk Γ (wM cI cZ ad) (RG bsM) S7 [(0, .ref (ad 0)), (1, .int (zI a1)), (2, .int (zI a2)), (3, .int (zI v2)), (4, .int (zI v3))] 50 [])) h31 (fun S7 h32 => ?_) (fun j6 J6 h33 => ?_)
        · refine k_iconst F dX9_latestRuling_50 ?_
          exact k_sub [0, 1, 2, 3, 4] rfl (J5 0 S7 h32 iR_0)
        · refine k_icmp_eq F r10 iR_m1 (tgt := 50) dX9_latestRuling_27 (by decide) h33 (fun h34 => ?_) (fun h35 => ?_)
          · exact k_sub [0, 1, 2, 3, 4] rfl (J6 S2 h34)
          · refine k_iload_n F dX9_latestRuling_30 rfl 1 rfl ?_
            refine k_iconst F dX9_latestRuling_31 ?_
            refine zj0_e (PJ := (fun S8 => zk Γ (wM cI cZ ad) (RG bsM) S8 [(0, .ref (ad 0)), (1, .int (zI a1)), (2, .int (zI a2)), (3, .int (zI v2)), (4, .int (zI v3))] 46 [])) h35 (fun S8 h36 => ?_) (fun j7 J7 h37 => ?_)
            · refine k_iconst F dX9_latestRuling_46 ?_
              refine k_goto F (tgt := 51) dX9_latestRuling_47 (by decide) ?_
              exact k_sub [0, 1, 2, 3, 4] rfl (J5 1 S8 h36 iR_1)
            · refine k_icmp_eq F ra1 iR_m1 (tgt := 46) dX9_latestRuling_32 (by decide) h37 (fun h38 => ?_) (fun h39 => ?_)
              · exact k_sub [0, 1, 2, 3, 4] rfl (J7 S2 h38)
              · refine k_aload_n F dX9_latestRuling_35 rfl 0 rfl ?_
                refine kgX9_schools F dX9_latestRuling_36 ?_
                refine k_iload F dX9_latestRuling_39 4 rfl ?_
                refine k_iald F rfl 5 (aM_4 cI cZ ad) r6 dX9_latestRuling_41 h39 (fun x11 r16 h40 => ?_)
                refine k_iload_n F dX9_latestRuling_42 rfl 1 rfl ?_
                refine k_icmp_ne F r16 ra1 (tgt := 50) dX9_latestRuling_43 (by decide) h40 (fun h41 => ?_) (fun h42 => ?_)
                · exact k_sub [0, 1, 2, 3, 4] rfl (J6 S2 h41)
                · exact k_sub [0, 1, 2, 3, 4] rfl (J7 S2 h42)
set_option maxRecDepth 100000 in
theorem c_X9_tells {l : Launch} {D : va_G} {A : Nat → Prop} {cI cZ : ClassId} {ad : Nat → Nat} (hD : ∀ S, va_D A (wM cI cZ ad S)) {S : zSt} (hG : RG bsM S) {a1 : Int} (ra1 : inR a1) {a2 : Int} (ra2 : inR a2) {x : Int} {S' : zSt} (h : m_X9_tells S a1 a2 = some (x, S')) : zMi l yX9_tells cX9_tells 7 .int { frames := 1, cells := 0, slots := 0, locals := 25 } D cI cZ A (wM cI cZ ad) (RG bsM) [.ref (ad 0), .int (zI a1), .int (zI a2)] S x S' := by
  refine k_start_i (by decide +kernel) hD hG (Nat.le_of_ble_eq_true rfl) (fun Γ F hQ => ?_)
  have F : zF Γ (wM cI cZ ad) cI cZ cX9_tells { frames := 1, cells := 0, slots := 0, locals := 25 } 7 RX9 := F
  refine k_sub [0, 1, 2] (lv' := [(0, .ref (ad 0)), (1, .int (zI a1)), (2, .int (zI a2))]) rfl ?_
  refine k_aload_n F dX9_tells_0 rfl 0 rfl ?_
  refine kgX9_ruleKinds F dX9_tells_1 ?_
  refine k_iload_n F dX9_tells_4 rfl 1 rfl ?_
  refine k_iald F rfl 19 (aM_18 cI cZ ad) ra1 dX9_tells_5 h (fun x1 r1 h1 => ?_)
  refine k_istore_n F dX9_tells_6 rfl (by decide) rfl ?_
  refine k_iload_n F dX9_tells_7 rfl 0 rfl ?_
  refine zj0_e (PJ := (fun S1 => zk Γ (wM cI cZ ad) (RG bsM) S1 [(0, .ref (ad 0)), (1, .int (zI a1)), (2, .int (zI a2)), (3, .int (zI x1))] 16 [])) h1 (fun S1 h2 => ?_) (fun j2 J2 h9 => ?_)
  · refine k_aload_n F dX9_tells_16 rfl 0 rfl ?_
    refine k_iload_n F dX9_tells_17 rfl 3 rfl ?_
    refine zj1_e (PJ := (fun v1 S2 => inR v1 → zk Γ (wM cI cZ ad) (RG bsM) S2 [(2, .int (zI a2))] 31 [.int (zI v1), .ref (ad 0)])) h2 (fun v1 S2 h3 r2 => ?_) (fun j1 J1 h5 => ?_)
    · refine k_iload_n F dX9_tells_31 rfl 0 rfl ?_
      refine k_callVi F cal_X9_latestRuling wm_192 (obM_0 cI cZ ad) (fun l D A hD hG x S' h => c_X9_latestRuling hD hG r2 ra2 h) ⟨rfl, rfl, Nat.le_of_ble_eq_true rfl, Nat.le_of_ble_eq_true rfl⟩ rfl rfl (Nat.le_of_ble_eq_true rfl) dX9_tells_32 h3 (fun x2 S3 r3 b1 h4 => ?_)
      exact k_iret F hQ r3 dX9_tells_35 h4
    · refine k_if_ne F r1 (tgt := 30) dX9_tells_18 (by decide) h5 (fun h6 => ?_) (fun h7 => ?_)
      · refine k_iconst F dX9_tells_30 ?_
        exact k_sub [2] rfl (J1 (-1) S1 h6 iR_m1)
      · refine k_aload_n F dX9_tells_21 rfl 0 rfl ?_
        refine kgX9_ruleWhats F dX9_tells_22 ?_
        refine k_iload_n F dX9_tells_25 rfl 1 rfl ?_
        refine k_iald F rfl 20 (aM_19 cI cZ ad) ra1 dX9_tells_26 h7 (fun x3 r4 h8 => ?_)
        refine k_goto F (tgt := 31) dX9_tells_27 (by decide) ?_
        exact k_sub [2] rfl (J1 x3 S1 h8 r4)
  · refine k_if_eq F r1 (tgt := 16) dX9_tells_8 (by decide) h9 (fun h10 => ?_) (fun h11 => ?_)
    · exact k_sub [1, 2, 3, 0] rfl (J2 S h10)
    · refine k_iload_n F dX9_tells_11 rfl 0 rfl ?_
      refine k_iconst F dX9_tells_12 ?_
      refine k_icmp_ne F r1 iR_1 (tgt := 36) dX9_tells_13 (by decide) h11 (fun h12 => ?_) (fun h13 => ?_)
      · refine k_iload_n F dX9_tells_36 rfl 0 rfl ?_
        refine k_iconst F dX9_tells_37 ?_
        refine k_icmp_ne F r1 iR_3 (tgt := 66) dX9_tells_38 (by decide) h12 (fun h14 => ?_) (fun h15 => ?_)
        · refine k_iconst F dX9_tells_66 ?_
          refine k_istore F dX9_tells_67 (by decide) rfl ?_
          refine k_iconst F dX9_tells_69 ?_
          refine k_istore F dX9_tells_70 (by decide) rfl ?_
          refine zj1_e (PJ := (fun v2 S4 => inR v2 → zk Γ (wM cI cZ ad) (RG bsM) S4 [(4, .int (zI v2))] 126 [])) h14 (fun v2 S4 h16 r5 => ?_) (fun j3 J3 h21 => ?_)
          · refine k_iload F dX9_tells_126 0 rfl ?_
            refine k_if_le F r5 (tgt := 135) dX9_tells_128 (by decide) h16 (fun h17 => ?_) (fun h18 => ?_)
            · refine k_iload F dX9_tells_135 0 rfl ?_
              refine k_if_ge F r5 (tgt := 144) dX9_tells_137 (by decide) h17 (fun h19 => ?_) (fun h20 => ?_)
              · refine k_iconst F dX9_tells_144 ?_
                exact k_iret F hQ iR_m1 dX9_tells_145 h19
              · refine k_iconst F dX9_tells_140 ?_
                refine k_goto F (tgt := 145) dX9_tells_141 (by decide) ?_
                exact k_iret F hQ iR_0 dX9_tells_145 h20
            · refine k_iconst F dX9_tells_131 ?_
              refine k_goto F (tgt := 145) dX9_tells_132 (by decide) ?_
              exact k_iret F hQ iR_1 dX9_tells_145 h18
          · refine k_sub [3, 5, 1, 0] rfl (zl2_e (F := (b_X9_tells_72 a2 j3)) (fun v3 v4 S5 => inR v3 → inR v4 → zk Γ (wM cI cZ ad) (RG bsM) S5 [(0, .ref (ad 0)), (2, .int (zI a2)), (4, .int (zI v3)), (5, .int (zI v4))] 72 []) (fun rec1 v3 v4 S5 hrec1 h22 r6 r7 => ?_) 1000 0 0 S h21 iR_0 iR_0)
            refine k_iload F dX9_tells_72 3 rfl ?_
            refine k_aload_n F dX9_tells_74 rfl 0 rfl ?_
            refine kgX9_authorMany F dX9_tells_75 h22 (fun x4 r8 h23 => ?_)
            refine k_icmp_ge F r7 r8 (tgt := 126) dX9_tells_78 (by decide) h23 (fun h24 => ?_) (fun h25 => ?_)
            · exact k_sub [2] rfl (J3 v3 S5 h24 r6)
            · refine k_aload_n F dX9_tells_81 rfl 0 rfl ?_
              refine kgX9_ruled F dX9_tells_82 ?_
              refine k_bipush F dX9_tells_85 bp_10 ?_
              refine k_iload F dX9_tells_87 3 rfl ?_
              refine k_imul F dX9_tells_89 h25 (fun x5 r9 h26 => ?_)
              refine k_iload_n F dX9_tells_90 rfl 1 rfl ?_
              refine k_iadd F dX9_tells_91 h26 (fun x6 r10 h27 => ?_)
              refine k_iald F rfl 18 (aM_17 cI cZ ad) r10 dX9_tells_92 h27 (fun x7 r11 h28 => ?_)
              refine k_istore F dX9_tells_93 (by decide) rfl ?_
              refine k_iload F dX9_tells_95 3 rfl ?_
              refine k_iload F dX9_tells_97 0 rfl ?_
              refine k_iconst F dX9_tells_99 ?_
              refine zj1_e (PJ := (fun v5 S6 => inR v5 → zk Γ (wM cI cZ ad) (RG bsM) S6 [(0, .ref (ad 0)), (2, .int (zI a2)), (5, .int (zI v4))] 117 [.int (zI v5), .int (zI v3)])) h28 (fun v5 S6 h29 r12 => ?_) (fun j4 J4 h32 => ?_)
              · refine k_iadd F dX9_tells_117 h29 (fun x8 r13 h30 => ?_)
                refine k_istore F dX9_tells_118 (by decide) rfl ?_
                refine k_iinc F (k := 3) (lv' := fun y => [(5, .int (zI y)), (4, .int (zI x8)), (0, .ref (ad 0)), (2, .int (zI a2))]) dX9_tells_120 rfl (by decide) (fun _ => rfl) h30 (fun x9 r14 h31 => ?_)
                refine k_goto F (tgt := 72) dX9_tells_123 (by decide) ?_
                exact k_sub [2, 3, 1, 0] rfl (hrec1 x8 x9 S6 h31 r13 r14)
              · refine k_icmp_ne F r11 iR_1 (tgt := 107) dX9_tells_100 (by decide) h32 (fun h33 => ?_) (fun h34 => ?_)
                · refine k_iload F dX9_tells_107 0 rfl ?_
                  refine k_if_ne F r11 (tgt := 116) dX9_tells_109 (by decide) h33 (fun h35 => ?_) (fun h36 => ?_)
                  · refine k_iconst F dX9_tells_116 ?_
                    exact k_sub [1, 2, 4] rfl (J4 0 S5 h35 iR_0)
                  · refine k_iconst F dX9_tells_112 ?_
                    refine k_goto F (tgt := 117) dX9_tells_113 (by decide) ?_
                    exact k_sub [1, 2, 4] rfl (J4 (-1) S5 h36 iR_m1)
                · refine k_iconst F dX9_tells_103 ?_
                  refine k_goto F (tgt := 117) dX9_tells_104 (by decide) ?_
                  exact k_sub [1, 2, 4] rfl (J4 1 S5 h34 iR_1)
        · refine k_aload_n F dX9_tells_41 rfl 1 rfl ?_
          refine kgX9_ruleWhats F dX9_tells_42 ?_
          refine k_iload_n F dX9_tells_45 rfl 2 rfl ?_
          refine k_iald F rfl 20 (aM_19 cI cZ ad) ra1 dX9_tells_46 h15 (fun x10 r15 h37 => ?_)
          refine k_iconst F dX9_tells_47 ?_
          refine k_idiv F r15 iR_2 dX9_tells_48 h37 (fun x11 r16 h38 => ?_)
          refine k_iload_n F dX9_tells_49 rfl 3 rfl ?_
          refine k_icmp_ne F r16 ra2 (tgt := 64) dX9_tells_50 (by decide) h38 (fun h39 => ?_) (fun h40 => ?_)
          · refine k_iconst F dX9_tells_64 ?_
            exact k_iret F hQ iR_m1 dX9_tells_65 h39
          · refine k_aload_n F dX9_tells_53 rfl 1 rfl ?_
            refine kgX9_ruleWhats F dX9_tells_54 ?_
            refine k_iload_n F dX9_tells_57 rfl 2 rfl ?_
            refine k_iald F rfl 20 (aM_19 cI cZ ad) ra1 dX9_tells_58 h40 (fun x12 r17 h41 => ?_)
            refine k_iconst F dX9_tells_59 ?_
            refine k_irem F r17 iR_2 dX9_tells_60 h41 (fun x13 r18 h42 => ?_)
            refine k_goto F (tgt := 65) dX9_tells_61 (by decide) ?_
            exact k_iret F hQ r18 dX9_tells_65 h42
      · exact k_sub [1, 2, 3, 0] rfl (J2 S h13)
set_option maxRecDepth 100000 in
theorem c_X9_decided {l : Launch} {D : va_G} {A : Nat → Prop} {cI cZ : ClassId} {ad : Nat → Nat} (hD : ∀ S, va_D A (wM cI cZ ad S)) {S : zSt} (hG : RG bsM S) {a1 : Int} (ra1 : inR a1) {x : Int} {S' : zSt} (h : m_X9_decided S a1 = some (x, S')) : zMi l yX9_decided cX9_decided 4 .int { frames := 2, cells := 0, slots := 0, locals := 51 } D cI cZ A (wM cI cZ ad) (RG bsM) [.ref (ad 0), .int (zI a1)] S x S' := by
  refine k_start_i (by decide +kernel) hD hG (Nat.le_of_ble_eq_true rfl) (fun Γ F hQ => ?_)
  have F : zF Γ (wM cI cZ ad) cI cZ cX9_decided { frames := 2, cells := 0, slots := 0, locals := 51 } 4 RX9 := F
  refine k_sub [0, 1] (lv' := [(0, .ref (ad 0)), (1, .int (zI a1))]) rfl ?_
  refine k_aload_n F dX9_decided_0 rfl 0 rfl ?_
  refine k_aload_n F dX9_decided_1 rfl 0 rfl ?_
  refine k_iload_n F dX9_decided_2 rfl 1 rfl ?_
  refine k_iconst F dX9_decided_3 ?_
  refine k_bipush F dX9_decided_4 bp_9 ?_
  refine k_callVi F cal_X9_between wm_144 (obM_0 cI cZ ad) (fun l D A hD hG x S' h => c_X9_between hD hG ra1 iR_0 iR_9 h) ⟨rfl, rfl, Nat.le_of_ble_eq_true rfl, Nat.le_of_ble_eq_true rfl⟩ rfl rfl (Nat.le_of_ble_eq_true rfl) dX9_decided_6 h (fun x1 S1 r1 b1 h1 => ?_)
  refine zj1_e (PJ := (fun v1 S2 => inR v1 → zk Γ (wM cI cZ ad) (RG bsM) S2 [(0, .ref (ad 0)), (1, .int (zI a1))] 17 [.int (zI v1), .ref (ad 0)])) h1 (fun v1 S2 h2 r2 => ?_) (fun j2 J2 h19 => ?_)
  · refine kpX9_thrown F r2 dX9_decided_17 h2 (fun S3 h3 => ?_)
    refine k_aload_n F dX9_decided_20 rfl 0 rfl ?_
    refine kgX9_thrown F dX9_decided_21 h3 (fun x2 r3 h4 => ?_)
    refine k_if_le F r3 (tgt := 29) dX9_decided_24 (by decide) h4 (fun h5 => ?_) (fun h6 => ?_)
    · refine k_iconst F dX9_decided_29 ?_
      refine k_istore_n F dX9_decided_30 rfl (by decide) rfl ?_
      refine zj0_e (PJ := (fun S4 => zk Γ (wM cI cZ ad) (RG bsM) S4 [] 64 [])) h5 (fun S4 h7 => ?_) (fun j1 J1 h8 => ?_)
      · refine k_iconst F dX9_decided_64 ?_
        exact k_iret F hQ iR_m1 dX9_decided_65 h7
      · refine k_sub [1, 2, 0] rfl (zl1_e (F := (b_X9_decided_31 a1 j1)) (fun v2 S5 => inR v2 → zk Γ (wM cI cZ ad) (RG bsM) S5 [(0, .ref (ad 0)), (1, .int (zI a1)), (2, .int (zI v2))] 31 []) (fun rec1 v2 S5 hrec1 h9 r4 => ?_) 1000 0 S3 h8 iR_0)
        refine k_iload_n F dX9_decided_31 rfl 2 rfl ?_
        refine k_aload_n F dX9_decided_32 rfl 0 rfl ?_
        refine kgX9_ruleMany F dX9_decided_33 h9 (fun x3 r5 h10 => ?_)
        refine k_icmp_ge F r4 r5 (tgt := 64) dX9_decided_36 (by decide) h10 (fun h11 => ?_) (fun h12 => ?_)
        · exact k_sub [] rfl (J1 S5 h11)
        · refine k_aload_n F dX9_decided_39 rfl 0 rfl ?_
          refine k_iload_n F dX9_decided_40 rfl 2 rfl ?_
          refine k_iload_n F dX9_decided_41 rfl 1 rfl ?_
          refine k_callVi F cal_X9_tells wm_196 (obM_0 cI cZ ad) (fun l D A hD hG x S' h => c_X9_tells hD hG r4 ra1 h) ⟨rfl, rfl, Nat.le_of_ble_eq_true rfl, Nat.le_of_ble_eq_true rfl⟩ rfl rfl (Nat.le_of_ble_eq_true rfl) dX9_decided_42 h12 (fun x4 S6 r6 b2 h13 => ?_)
          refine k_istore_n F dX9_decided_45 rfl (by decide) rfl ?_
          refine k_iload_n F dX9_decided_46 rfl 0 rfl ?_
          refine k_iconst F dX9_decided_47 ?_
          refine k_icmp_eq F r6 iR_m1 (tgt := 58) dX9_decided_48 (by decide) h13 (fun h14 => ?_) (fun h15 => ?_)
          · refine k_iinc F (k := 3) (lv' := fun y => [(2, .int (zI y)), (3, .int (zI x4)), (0, .ref (ad 0)), (1, .int (zI a1))]) dX9_decided_58 rfl (by decide) (fun _ => rfl) h14 (fun x5 r7 h16 => ?_)
            refine k_goto F (tgt := 31) dX9_decided_61 (by decide) ?_
            exact k_sub [2, 3, 0] rfl (hrec1 x5 S6 h16 r7)
          · refine k_bipush F dX9_decided_51 bp_10 ?_
            refine k_iload_n F dX9_decided_53 rfl 3 rfl ?_
            refine k_imul F dX9_decided_54 h15 (fun x6 r8 h17 => ?_)
            refine k_iload_n F dX9_decided_55 rfl 0 rfl ?_
            refine k_iadd F dX9_decided_56 h17 (fun x7 r9 h18 => ?_)
            exact k_iret F hQ r9 dX9_decided_57 h18
    · refine k_iconst F dX9_decided_27 ?_
      exact k_iret F hQ iR_0 dX9_decided_28 h6
  · refine k_if_ne F r1 (tgt := 16) dX9_decided_9 (by decide) h19 (fun h20 => ?_) (fun h21 => ?_)
    · refine k_iconst F dX9_decided_16 ?_
      exact k_sub [0, 1] rfl (J2 0 S1 h20 iR_0)
    · refine k_iconst F dX9_decided_12 ?_
      refine k_goto F (tgt := 17) dX9_decided_13 (by decide) ?_
      exact k_sub [0, 1] rfl (J2 1 S1 h21 iR_1)
set_option maxRecDepth 100000 in
theorem c_X9_isIn {l : Launch} {D : va_G} {A : Nat → Prop} {cI cZ : ClassId} {ad : Nat → Nat} (hD : ∀ S, va_D A (wM cI cZ ad S)) {S : zSt} (hG : RG bsM S) {a1 : Int} (ra1 : inR a1) {a2 : Int} (ra2 : inR a2) {a3 : Int} (ra3 : inR a3) {a4 : Int} (ra4 : inR a4) {x : Int} {S' : zSt} (h : m_X9_isIn S a1 a2 a3 a4 = some (x, S')) : zMi l yX9_isIn cX9_isIn 6 .boolean { frames := 1, cells := 0, slots := 0, locals := 23 } D cI cZ A (wM cI cZ ad) (RG bsM) [.ref (ad 0), .int (zI a1), .int (zI a2), .int (zI a3), .int (zI a4)] S x S' := by
  refine k_start_i (by decide +kernel) hD hG (Nat.le_of_ble_eq_true rfl) (fun Γ F hQ => ?_)
  have F : zF Γ (wM cI cZ ad) cI cZ cX9_isIn { frames := 1, cells := 0, slots := 0, locals := 23 } 6 RX9 := F
  refine k_sub [0, 1, 2, 3, 4] (lv' := [(0, .ref (ad 0)), (1, .int (zI a1)), (2, .int (zI a2)), (3, .int (zI a3)), (4, .int (zI a4))]) rfl ?_
  refine k_aload_n F dX9_isIn_0 rfl 0 rfl ?_
  refine kgX9_roots F dX9_isIn_1 ?_
  refine k_iload_n F dX9_isIn_4 rfl 1 rfl ?_
  refine k_iald F rfl 10 (aM_9 cI cZ ad) ra1 dX9_isIn_5 h (fun x1 r1 h1 => ?_)
  refine k_istore F dX9_isIn_6 (by decide) rfl ?_
  refine k_aload_n F dX9_isIn_8 rfl 1 rfl ?_
  refine kgX9_units F dX9_isIn_9 ?_
  refine k_iload_n F dX9_isIn_12 rfl 2 rfl ?_
  refine k_iald F rfl 11 (aM_10 cI cZ ad) ra1 dX9_isIn_13 h1 (fun x2 r2 h2 => ?_)
  refine k_iload_n F dX9_isIn_14 rfl 3 rfl ?_
  refine zj0_e (PJ := (fun S1 => zk Γ (wM cI cZ ad) (RG bsM) S1 [] 49 [])) h2 (fun S1 h3 => ?_) (fun j1 J1 h4 => ?_)
  · refine k_iconst F dX9_isIn_49 ?_
    exact k_zret F hQ (Or.inl rfl) dX9_isIn_50 h3
  · refine k_icmp_ne F r2 ra2 (tgt := 49) dX9_isIn_15 (by decide) h4 (fun h5 => ?_) (fun h6 => ?_)
    · exact k_sub [] rfl (J1 S h5)
    · refine k_aload_n F dX9_isIn_18 rfl 1 rfl ?_
      refine kgX9_lost F dX9_isIn_19 ?_
      refine k_iload F dX9_isIn_22 0 rfl ?_
      refine k_zald01 F rfl 14 (by decide) (aM_13 cI cZ ad) r1 dX9_isIn_24 h6 (fun x3 r3 z1 h7 => ?_)
      refine k_if_ne F r3 (tgt := 49) dX9_isIn_25 (by decide) h7 (fun h8 => ?_) (fun h9 => ?_)
      · exact k_sub [] rfl (J1 S h8)
      · refine k_aload_n F dX9_isIn_28 rfl 1 rfl ?_
        refine k_aload_n F dX9_isIn_29 rfl 1 rfl ?_
        refine kgX9_places F dX9_isIn_30 ?_
        refine k_iload F dX9_isIn_33 0 rfl ?_
        refine k_iald F rfl 13 (aM_12 cI cZ ad) r1 dX9_isIn_35 h9 (fun x4 r4 h10 => ?_)
        refine k_iload_n F dX9_isIn_36 rfl 4 rfl ?_
        refine k_iload F dX9_isIn_37 5 rfl ?_
        refine k_callVi F cal_X9_between wm_144 (obM_0 cI cZ ad) (fun l D A hD hG x S' h => c_X9_between hD hG r4 ra3 ra4 h) ⟨rfl, rfl, Nat.le_of_ble_eq_true rfl, Nat.le_of_ble_eq_true rfl⟩ rfl rfl (Nat.le_of_ble_eq_true rfl) dX9_isIn_39 h10 (fun x5 S2 r5 b1 h11 => ?_)
        refine k_if_eq F r5 (tgt := 49) dX9_isIn_42 (by decide) h11 (fun h12 => ?_) (fun h13 => ?_)
        · exact k_sub [] rfl (J1 S2 h12)
        · refine k_iconst F dX9_isIn_45 ?_
          refine k_goto F (tgt := 50) dX9_isIn_46 (by decide) ?_
          exact k_zret F hQ (Or.inr rfl) dX9_isIn_50 h13
set_option maxRecDepth 100000 in
theorem c_X9_set {l : Launch} {D : va_G} {A : Nat → Prop} {cI cZ : ClassId} {ad : Nat → Nat} (hD : ∀ S, va_D A (wM cI cZ ad S)) {S : zSt} (hG : RG bsM S) {a1 : Int} (ra1 : inR a1) {x : Int} {S' : zSt} (h : m_X9_set S a1 = some (x, S')) : zMv l yX9_set cX9_set 12 { frames := 2, cells := 0, slots := 0, locals := 48 } D cI cZ A (wM cI cZ ad) (RG bsM) [.ref (ad 0), .int (zI a1)] S S' := by
  refine k_start_v (by decide +kernel) hD hG (Nat.le_of_ble_eq_true rfl) (fun Γ F hQ => ?_)
  have F : zF Γ (wM cI cZ ad) cI cZ cX9_set { frames := 2, cells := 0, slots := 0, locals := 48 } 12 RX9 := F
  refine k_sub [0, 1] (lv' := [(0, .ref (ad 0)), (1, .int (zI a1))]) rfl ?_
  refine k_iconst F dX9_set_0 ?_
  refine k_istore_n F dX9_set_1 rfl (by decide) rfl ?_
  refine k_iconst F dX9_set_2 ?_
  refine k_istore_n F dX9_set_3 rfl (by decide) rfl ?_
  refine k_iconst F dX9_set_4 ?_
  refine k_istore F dX9_set_5 (by decide) rfl ?_
  refine k_aload_n F dX9_set_7 rfl 3 rfl ?_
  refine k_iconst F dX9_set_8 ?_
  refine kpX9_lastRow F iR_0 dX9_set_9 h (fun S1 h1 => ?_)
  refine k_iconst F dX9_set_12 ?_
  refine k_istore F dX9_set_13 (by decide) rfl ?_
  refine zj2_e (PJ := (fun v1 v2 S2 => inR v1 → inR v2 → zk Γ (wM cI cZ ad) (RG bsM) S2 [(0, .ref (ad 0)), (3, .int (zI v1)), (4, .int (zI v2))] 366 [])) h1 (fun v1 v2 S2 h2 r1 r2 => ?_) (fun j3 J3 h21 => ?_)
  · refine k_aload_n F dX9_set_366 rfl 0 rfl ?_
    refine k_iload_n F dX9_set_367 rfl 1 rfl ?_
    refine k_iconst F dX9_set_368 ?_
    refine k_isub F dX9_set_369 h2 (fun x1 r3 h3 => ?_)
    refine k_aload_n F dX9_set_370 rfl 0 rfl ?_
    refine kgX9_lastRow F dX9_set_371 h3 (fun x2 r4 h4 => ?_)
    refine zj1_e (PJ := (fun v3 S3 => inR v3 → zk Γ (wM cI cZ ad) (RG bsM) S3 [(0, .ref (ad 0)), (4, .int (zI v2))] 387 [.int (zI v3), .ref (ad 0)])) h4 (fun v3 S3 h5 r5 => ?_) (fun j2 J2 h16 => ?_)
    · refine kpX9_lastRow F r5 dX9_set_387 h5 (fun S4 h6 => ?_)
      refine k_aload_n F dX9_set_390 rfl 0 rfl ?_
      refine k_iload F dX9_set_391 1 rfl ?_
      refine k_iconst F dX9_set_393 ?_
      refine k_isub F dX9_set_394 h6 (fun x3 r6 h7 => ?_)
      refine k_aload_n F dX9_set_395 rfl 0 rfl ?_
      refine kgX9_lastRow F dX9_set_396 h7 (fun x4 r7 h8 => ?_)
      refine zj1_e (PJ := (fun v4 S5 => inR v4 → zk Γ (wM cI cZ ad) (RG bsM) S5 [] 413 [.int (zI v4), .ref (ad 0)])) h8 (fun v4 S5 h9 r8 => ?_) (fun j1 J1 h11 => ?_)
      · refine kpX9_lastRow F r8 dX9_set_413 h9 (fun S6 h10 => ?_)
        exact k_vret F hQ dX9_set_416 h10
      · refine k_icmp_le F r6 r7 (tgt := 409) dX9_set_399 (by decide) h11 (fun h12 => ?_) (fun h13 => ?_)
        · refine k_aload_n F dX9_set_409 rfl 0 rfl ?_
          refine kgX9_lastRow F dX9_set_410 h12 (fun x5 r9 h14 => ?_)
          exact k_sub [] rfl (J1 x5 S4 h14 r9)
        · refine k_iload F dX9_set_402 1 rfl ?_
          refine k_iconst F dX9_set_404 ?_
          refine k_isub F dX9_set_405 h13 (fun x6 r10 h15 => ?_)
          refine k_goto F (tgt := 413) dX9_set_406 (by decide) ?_
          exact k_sub [] rfl (J1 x6 S4 h15 r10)
    · refine k_icmp_le F r3 r4 (tgt := 383) dX9_set_374 (by decide) h16 (fun h17 => ?_) (fun h18 => ?_)
      · refine k_aload_n F dX9_set_383 rfl 0 rfl ?_
        refine kgX9_lastRow F dX9_set_384 h17 (fun x7 r11 h19 => ?_)
        exact k_sub [0, 2] rfl (J2 x7 S2 h19 r11)
      · refine k_iload_n F dX9_set_377 rfl 1 rfl ?_
        refine k_iconst F dX9_set_378 ?_
        refine k_isub F dX9_set_379 h18 (fun x8 r12 h20 => ?_)
        refine k_goto F (tgt := 387) dX9_set_380 (by decide) ?_
        exact k_sub [0, 2] rfl (J2 x8 S2 h20 r12)
  · refine k_sub [4, 5, 3, 2, 1, 0] rfl (zl4_e (F := (b_X9_set_15 a1 j3)) (fun v5 v6 v7 v8 S7 => inR v5 → inR v6 → inR v7 → inR v8 → zk Γ (wM cI cZ ad) (RG bsM) S7 [(0, .ref (ad 0)), (1, .int (zI a1)), (2, .int (zI v5)), (3, .int (zI v6)), (4, .int (zI v7)), (5, .int (zI v8))] 15 []) (fun rec1 v5 v6 v7 v8 S7 hrec1 h22 r13 r14 r15 r16 => ?_) 1000 (-1) 0 0 0 S1 h21 iR_m1 iR_0 iR_0 iR_0)
    refine k_iload F dX9_set_15 5 rfl ?_
    refine k_aload_n F dX9_set_17 rfl 0 rfl ?_
    refine kgX9_unitMany F dX9_set_18 h22 (fun x9 r17 h23 => ?_)
    refine k_icmp_ge F r16 r17 (tgt := 366) dX9_set_21 (by decide) h23 (fun h24 => ?_) (fun h25 => ?_)
    · exact k_sub [0, 3, 4] rfl (J3 v6 v7 S7 h24 r14 r15)
    · refine k_iconst F dX9_set_24 ?_
      refine k_istore F dX9_set_25 (by decide) rfl ?_
      refine zj3_e (PJ := (fun v9 v10 v11 S8 => inR v9 → inR v10 → inR v11 → zk Γ (wM cI cZ ad) (RG bsM) S8 [(0, .ref (ad 0)), (1, .int (zI a1)), (2, .int (zI v9)), (3, .int (zI v10)), (4, .int (zI v11)), (5, .int (zI v8))] 360 [])) h25 (fun v9 v10 v11 S8 h26 r18 r19 r20 => ?_) (fun j4 J4 h28 => ?_)
      · refine k_iinc F (k := 5) (lv' := fun y => [(5, .int (zI y)), (0, .ref (ad 0)), (1, .int (zI a1)), (2, .int (zI v9)), (3, .int (zI v10)), (4, .int (zI v11))]) dX9_set_360 rfl (by decide) (fun _ => rfl) h26 (fun x10 r21 h27 => ?_)
        refine k_goto F (tgt := 15) dX9_set_363 (by decide) ?_
        exact k_sub [1, 2, 3, 4, 5, 0] rfl (hrec1 v9 v10 v11 x10 S8 h27 r18 r19 r20 r21)
      · refine k_sub [1, 2, 3, 4, 5, 6, 0] rfl (zl4_e (F := (b_X9_set_27 a1 j4 v8)) (fun v12 v13 v14 v15 S9 => inR v12 → inR v13 → inR v14 → inR v15 → zk Γ (wM cI cZ ad) (RG bsM) S9 [(0, .ref (ad 0)), (1, .int (zI a1)), (2, .int (zI v12)), (3, .int (zI v13)), (4, .int (zI v14)), (5, .int (zI v8)), (6, .int (zI v15))] 27 []) (fun rec2 v12 v13 v14 v15 S9 hrec2 h29 r22 r23 r24 r25 => ?_) 1000 v5 v6 v7 0 S7 h28 r13 r14 r15 iR_0)
        refine k_iload F dX9_set_27 6 rfl ?_
        refine k_aload_n F dX9_set_29 rfl 0 rfl ?_
        refine kgX9_lengths F dX9_set_30 ?_
        refine k_iload F dX9_set_33 5 rfl ?_
        refine k_iald F rfl 3 (aM_2 cI cZ ad) r16 dX9_set_35 h29 (fun x11 r26 h30 => ?_)
        refine k_icmp_ge F r25 r26 (tgt := 360) dX9_set_36 (by decide) h30 (fun h31 => ?_) (fun h32 => ?_)
        · exact k_sub [0, 1, 2, 3, 4, 5] rfl (J4 v12 v13 v14 S9 h31 r22 r23 r24)
        · refine k_iload F dX9_set_39 6 rfl ?_
          refine k_iload_n F dX9_set_41 rfl 1 rfl ?_
          refine k_iadd F dX9_set_42 h32 (fun x12 r27 h33 => ?_)
          refine k_iconst F dX9_set_43 ?_
          refine k_isub F dX9_set_44 h33 (fun x13 r28 h34 => ?_)
          refine k_istore F dX9_set_45 (by decide) rfl ?_
          refine k_iconst F dX9_set_47 ?_
          refine k_istore F dX9_set_48 (by decide) rfl ?_
          refine k_iconst F dX9_set_50 ?_
          refine k_istore F dX9_set_51 (by decide) rfl ?_
          refine k_iconst F dX9_set_53 ?_
          refine k_istore F dX9_set_54 (by decide) rfl ?_
          refine zj2_e (PJ := (fun v16 v17 S10 => inR v16 → inR v17 → zk Γ (wM cI cZ ad) (RG bsM) S10 [(0, .ref (ad 0)), (1, .int (zI a1)), (2, .int (zI v12)), (3, .int (zI v13)), (4, .int (zI v14)), (5, .int (zI v8)), (6, .int (zI v15)), (7, .int (zI x13)), (8, .int (zI v16)), (9, .int (zI v17))] 140 [])) h34 (fun v16 v17 S10 h35 r29 r30 => ?_) (fun j18 J18 h107 => ?_)
          · refine k_iinc F (k := 2) (lv' := fun y => [(2, .int (zI y)), (0, .ref (ad 0)), (1, .int (zI a1)), (3, .int (zI v13)), (4, .int (zI v14)), (5, .int (zI v8)), (6, .int (zI v15)), (7, .int (zI x13)), (8, .int (zI v16)), (9, .int (zI v17))]) dX9_set_140 rfl (by decide) (fun _ => rfl) h35 (fun x14 r31 h36 => ?_)
            refine k_iload F dX9_set_143 8 rfl ?_
            refine zj1_e (PJ := (fun v18 S11 => inR v18 → zk Γ (wM cI cZ ad) (RG bsM) S11 [(0, .ref (ad 0)), (1, .int (zI a1)), (3, .int (zI v13)), (4, .int (zI v14)), (5, .int (zI v8)), (6, .int (zI v15)), (7, .int (zI x13)), (8, .int (zI v16)), (9, .int (zI v17))] 158 [.int (zI v18)])) h36 (fun v18 S11 h37 r32 => ?_) (fun j16 J16 h100 => ?_)
            · refine k_istore_n F dX9_set_158 rfl (by decide) rfl ?_
              refine k_iload F dX9_set_159 9 rfl ?_
              refine zj1_e (PJ := (fun v19 S12 => inR v19 → zk Γ (wM cI cZ ad) (RG bsM) S12 [(0, .ref (ad 0)), (1, .int (zI a1)), (3, .int (zI v13)), (4, .int (zI v14)), (5, .int (zI v8)), (6, .int (zI v15)), (7, .int (zI x13)), (8, .int (zI v16)), (9, .int (zI v17))] 176 [.int (zI v19)])) h37 (fun v19 S12 h38 r33 => ?_) (fun j14 J14 h93 => ?_)
              · refine k_istore_n F dX9_set_176 rfl (by decide) rfl ?_
                refine k_aload_n F dX9_set_177 rfl 1 rfl ?_
                refine kgX9_unitRows F dX9_set_178 ?_
                refine k_iload F dX9_set_181 5 rfl ?_
                refine k_iload F dX9_set_183 6 rfl ?_
                refine zj1_e (PJ := (fun v20 S13 => inR v20 → zk Γ (wM cI cZ ad) (RG bsM) S13 [(0, .ref (ad 0)), (1, .int (zI a1)), (2, .int (zI v19)), (3, .int (zI v13)), (4, .int (zI v14)), (5, .int (zI v8)), (6, .int (zI v15)), (7, .int (zI x13)), (8, .int (zI v16)), (9, .int (zI v17))] 199 [.int (zI v20), .int (zI v8), .ref (ad 24)])) h38 (fun v20 S13 h39 r34 => ?_) (fun j13 J13 h89 => ?_)
                · refine k_iast F rfl 24 (aM_23 cI cZ ad) (sM_23 cI cZ ad) (by decide) r16 r34 dX9_set_199 h39 (fun S14 h40 => ?_)
                  refine k_iload F dX9_set_200 8 rfl ?_
                  refine zj1_e (PJ := (fun v21 S15 => inR v21 → zk Γ (wM cI cZ ad) (RG bsM) S15 [(0, .ref (ad 0)), (1, .int (zI a1)), (2, .int (zI v19)), (4, .int (zI v14)), (5, .int (zI v8)), (6, .int (zI v15)), (7, .int (zI x13)), (9, .int (zI v17))] 210 [.int (zI v21)])) h40 (fun v21 S15 h41 r35 => ?_) (fun j12 J12 h86 => ?_)
                  · refine k_istore_n F dX9_set_210 rfl (by decide) rfl ?_
                    refine k_iload F dX9_set_211 8 rfl ?_
                    refine zj1_e (PJ := (fun v22 S16 => inR v22 → zk Γ (wM cI cZ ad) (RG bsM) S16 [(0, .ref (ad 0)), (1, .int (zI a1)), (2, .int (zI v19)), (3, .int (zI v21)), (5, .int (zI v8)), (6, .int (zI v15)), (7, .int (zI x13))] 222 [.int (zI v22)])) h41 (fun v22 S16 h42 r36 => ?_) (fun j11 J11 h83 => ?_)
                    · refine k_istore F dX9_set_222 (by decide) rfl ?_
                      refine k_iconst F dX9_set_224 ?_
                      refine k_istore F dX9_set_225 (by decide) rfl ?_
                      refine zj2_e (PJ := (fun v23 v24 S17 => inR v23 → inR v24 → zk Γ (wM cI cZ ad) (RG bsM) S17 [(0, .ref (ad 0)), (1, .int (zI a1)), (2, .int (zI v19)), (3, .int (zI v23)), (4, .int (zI v24)), (5, .int (zI v8)), (6, .int (zI v15))] 331 [])) h42 (fun v23 v24 S17 h43 r37 r38 => ?_) (fun j6 J6 h52 => ?_)
                      · refine k_aload_n F dX9_set_331 rfl 0 rfl ?_
                        refine k_iload_n F dX9_set_332 rfl 2 rfl ?_
                        refine k_aload_n F dX9_set_333 rfl 0 rfl ?_
                        refine kgX9_lastRow F dX9_set_334 h43 (fun x15 r39 h44 => ?_)
                        refine zj1_e (PJ := (fun v25 S18 => inR v25 → zk Γ (wM cI cZ ad) (RG bsM) S18 [(0, .ref (ad 0)), (1, .int (zI a1)), (2, .int (zI v19)), (3, .int (zI v23)), (4, .int (zI v24)), (5, .int (zI v8)), (6, .int (zI v15))] 348 [.int (zI v25), .ref (ad 0)])) h44 (fun v25 S18 h45 r40 => ?_) (fun j5 J5 h48 => ?_)
                        · refine kpX9_lastRow F r40 dX9_set_348 h45 (fun S19 h46 => ?_)
                          refine k_iload F dX9_set_351 6 rfl ?_
                          refine k_iload_n F dX9_set_353 rfl 1 rfl ?_
                          refine k_iadd F dX9_set_354 h46 (fun x16 r41 h47 => ?_)
                          refine k_istore F dX9_set_355 (by decide) rfl ?_
                          refine k_goto F (tgt := 27) dX9_set_357 (by decide) ?_
                          exact k_sub [1, 2, 3, 4, 5, 6, 0] rfl (hrec2 v19 v23 v24 x16 S19 h47 r33 r37 r38 r41)
                        · refine k_icmp_le F r33 r39 (tgt := 344) dX9_set_337 (by decide) h48 (fun h49 => ?_) (fun h50 => ?_)
                          · refine k_aload_n F dX9_set_344 rfl 0 rfl ?_
                            refine kgX9_lastRow F dX9_set_345 h49 (fun x17 r42 h51 => ?_)
                            exact k_sub [0, 1, 2, 3, 4, 5, 6] rfl (J5 x17 S17 h51 r42)
                          · refine k_iload_n F dX9_set_340 rfl 2 rfl ?_
                            refine k_goto F (tgt := 348) dX9_set_341 (by decide) ?_
                            exact k_sub [0, 1, 2, 3, 4, 5, 6] rfl (J5 v19 S17 h50 r33)
                      · refine k_sub [2, 3, 4, 5, 1, 6, 7, 8, 0] rfl (zl3_e (F := (b_X9_set_227 j6 v15 v8 x13)) (fun v26 v27 v28 S20 => inR v26 → inR v27 → inR v28 → zk Γ (wM cI cZ ad) (RG bsM) S20 [(0, .ref (ad 0)), (1, .int (zI a1)), (2, .int (zI v19)), (3, .int (zI v26)), (4, .int (zI v27)), (5, .int (zI v8)), (6, .int (zI v15)), (7, .int (zI x13)), (10, .int (zI v28))] 227 []) (fun rec3 v26 v27 v28 S20 hrec3 h53 r43 r44 r45 => ?_) 1000 v21 v22 0 S16 h52 r35 r36 iR_0)
                        refine k_iload F dX9_set_227 8 rfl ?_
                        refine k_aload_n F dX9_set_229 rfl 0 rfl ?_
                        refine kgX9_commentMany F dX9_set_230 h53 (fun x18 r46 h54 => ?_)
                        refine k_icmp_ge F r45 r46 (tgt := 331) dX9_set_233 (by decide) h54 (fun h55 => ?_) (fun h56 => ?_)
                        · exact k_sub [0, 1, 2, 3, 4, 5, 6] rfl (J6 v26 v27 S20 h55 r43 r44)
                        · refine k_aload_n F dX9_set_236 rfl 0 rfl ?_
                          refine k_iload F dX9_set_237 8 rfl ?_
                          refine k_iload F dX9_set_239 5 rfl ?_
                          refine k_iload F dX9_set_241 6 rfl ?_
                          refine k_iload F dX9_set_243 7 rfl ?_
                          refine k_callVi F cal_X9_isIn wm_201 (obM_0 cI cZ ad) (fun l D A hD hG x S' h => c_X9_isIn hD hG r45 r16 r25 r28 h) ⟨rfl, rfl, Nat.le_of_ble_eq_true rfl, Nat.le_of_ble_eq_true rfl⟩ rfl rfl (Nat.le_of_ble_eq_true rfl) dX9_set_245 h56 (fun x19 S21 r47 b1 h57 => ?_)
                          refine zj2_e (PJ := (fun v29 v30 S22 => inR v29 → inR v30 → zk Γ (wM cI cZ ad) (RG bsM) S22 [(0, .ref (ad 0)), (1, .int (zI a1)), (2, .int (zI v19)), (3, .int (zI v29)), (4, .int (zI v30)), (5, .int (zI v8)), (6, .int (zI v15)), (7, .int (zI x13)), (10, .int (zI v28))] 325 [])) h57 (fun v29 v30 S22 h58 r48 r49 => ?_) (fun j7 J7 h60 => ?_)
                          · refine k_iinc F (k := 8) (lv' := fun y => [(10, .int (zI y)), (0, .ref (ad 0)), (1, .int (zI a1)), (2, .int (zI v19)), (3, .int (zI v29)), (4, .int (zI v30)), (5, .int (zI v8)), (6, .int (zI v15)), (7, .int (zI x13))]) dX9_set_325 rfl (by decide) (fun _ => rfl) h58 (fun x20 r50 h59 => ?_)
                            refine k_goto F (tgt := 227) dX9_set_328 (by decide) ?_
                            exact k_sub [1, 2, 3, 4, 5, 6, 7, 8, 0] rfl (hrec3 v29 v30 x20 S22 h59 r48 r49 r50)
                          · refine k_if_eq F r47 (tgt := 325) dX9_set_248 (by decide) h60 (fun h61 => ?_) (fun h62 => ?_)
                            · exact k_sub [0, 1, 2, 3, 4, 5, 6, 7, 8] rfl (J7 v26 v27 S21 h61 r43 r44)
                            · refine k_aload_n F dX9_set_251 rfl 0 rfl ?_
                              refine kgX9_noteRows F dX9_set_252 ?_
                              refine k_iload F dX9_set_255 8 rfl ?_
                              refine k_aload_n F dX9_set_257 rfl 0 rfl ?_
                              refine kgX9_margins F dX9_set_258 ?_
                              refine k_iload F dX9_set_261 8 rfl ?_
                              refine k_iald F rfl 16 (aM_15 cI cZ ad) r45 dX9_set_263 h62 (fun x21 r51 h63 => ?_)
                              refine zj1_e (PJ := (fun v31 S23 => inR v31 → zk Γ (wM cI cZ ad) (RG bsM) S23 [(0, .ref (ad 0)), (1, .int (zI a1)), (2, .int (zI v19)), (3, .int (zI v26)), (4, .int (zI v27)), (5, .int (zI v8)), (6, .int (zI v15)), (7, .int (zI x13)), (10, .int (zI v28))] 273 [.int (zI v31), .int (zI v28), .ref (ad 25)])) h63 (fun v31 S23 h64 r52 => ?_) (fun j10 J10 h80 => ?_)
                              · refine k_iast F rfl 25 (aM_24 cI cZ ad) (sM_24 cI cZ ad) (by decide) r45 r52 dX9_set_273 h64 (fun S24 h65 => ?_)
                                refine k_iload_n F dX9_set_274 rfl 3 rfl ?_
                                refine k_aload_n F dX9_set_275 rfl 0 rfl ?_
                                refine kgX9_margins F dX9_set_276 ?_
                                refine k_iload F dX9_set_279 8 rfl ?_
                                refine k_iald F rfl 16 (aM_15 cI cZ ad) r45 dX9_set_281 h65 (fun x22 r53 h66 => ?_)
                                refine zj1_e (PJ := (fun v32 S25 => inR v32 → zk Γ (wM cI cZ ad) (RG bsM) S25 [(0, .ref (ad 0)), (1, .int (zI a1)), (2, .int (zI v19)), (4, .int (zI v27)), (5, .int (zI v8)), (6, .int (zI v15)), (7, .int (zI x13)), (10, .int (zI v28))] 296 [.int (zI v32), .int (zI v26)])) h66 (fun v32 S25 h67 r54 => ?_) (fun j9 J9 h76 => ?_)
                                · refine k_iadd F dX9_set_296 h67 (fun x23 r55 h68 => ?_)
                                  refine k_istore_n F dX9_set_297 rfl (by decide) rfl ?_
                                  refine k_iload F dX9_set_298 4 rfl ?_
                                  refine k_aload_n F dX9_set_300 rfl 1 rfl ?_
                                  refine kgX9_margins F dX9_set_301 ?_
                                  refine k_iload F dX9_set_304 8 rfl ?_
                                  refine k_iald F rfl 16 (aM_15 cI cZ ad) r45 dX9_set_306 h68 (fun x24 r56 h69 => ?_)
                                  refine k_iconst F dX9_set_307 ?_
                                  refine zj1_e (PJ := (fun v33 S26 => inR v33 → zk Γ (wM cI cZ ad) (RG bsM) S26 [(0, .ref (ad 0)), (1, .int (zI a1)), (2, .int (zI v19)), (3, .int (zI x23)), (5, .int (zI v8)), (6, .int (zI v15)), (7, .int (zI x13)), (10, .int (zI v28))] 322 [.int (zI v33), .int (zI v27)])) h69 (fun v33 S26 h70 r57 => ?_) (fun j8 J8 h72 => ?_)
                                  · refine k_iadd F dX9_set_322 h70 (fun x25 r58 h71 => ?_)
                                    refine k_istore F dX9_set_323 (by decide) rfl ?_
                                    exact k_sub [1, 2, 3, 4, 0, 5, 6, 7, 8] rfl (J7 x23 x25 S26 h71 r55 r58)
                                  · refine k_icmp_ne F r56 iR_1 (tgt := 321) dX9_set_308 (by decide) h72 (fun h73 => ?_) (fun h74 => ?_)
                                    · refine k_iconst F dX9_set_321 ?_
                                      exact k_sub [1, 2, 3, 0, 5, 6, 7, 8] rfl (J8 0 S25 h73 iR_0)
                                    · refine k_aload_n F dX9_set_311 rfl 1 rfl ?_
                                      refine kgX9_heights F dX9_set_312 ?_
                                      refine k_iload F dX9_set_315 8 rfl ?_
                                      refine k_iald F rfl 15 (aM_14 cI cZ ad) r45 dX9_set_317 h74 (fun x26 r59 h75 => ?_)
                                      refine k_goto F (tgt := 322) dX9_set_318 (by decide) ?_
                                      exact k_sub [1, 2, 3, 0, 5, 6, 7, 8] rfl (J8 x26 S25 h75 r59)
                                · refine k_if_ne F r53 (tgt := 295) dX9_set_282 (by decide) h76 (fun h77 => ?_) (fun h78 => ?_)
                                  · refine k_iconst F dX9_set_295 ?_
                                    exact k_sub [0, 1, 2, 4, 5, 6, 7, 8] rfl (J9 0 S24 h77 iR_0)
                                  · refine k_aload_n F dX9_set_285 rfl 0 rfl ?_
                                    refine kgX9_heights F dX9_set_286 ?_
                                    refine k_iload F dX9_set_289 8 rfl ?_
                                    refine k_iald F rfl 15 (aM_14 cI cZ ad) r45 dX9_set_291 h78 (fun x27 r60 h79 => ?_)
                                    refine k_goto F (tgt := 296) dX9_set_292 (by decide) ?_
                                    exact k_sub [0, 1, 2, 4, 5, 6, 7, 8] rfl (J9 x27 S24 h79 r60)
                              · refine k_if_ne F r51 (tgt := 271) dX9_set_264 (by decide) h80 (fun h81 => ?_) (fun h82 => ?_)
                                · refine k_iload F dX9_set_271 4 rfl ?_
                                  exact k_sub [0, 1, 2, 3, 4, 5, 6, 7, 8] rfl (J10 v27 S21 h81 r44)
                                · refine k_iload_n F dX9_set_267 rfl 3 rfl ?_
                                  refine k_goto F (tgt := 273) dX9_set_268 (by decide) ?_
                                  exact k_sub [0, 1, 2, 3, 4, 5, 6, 7, 8] rfl (J10 v26 S21 h82 r43)
                    · refine k_if_eq F r30 (tgt := 220) dX9_set_213 (by decide) h83 (fun h84 => ?_) (fun h85 => ?_)
                      · refine k_iload F dX9_set_220 4 rfl ?_
                        exact k_sub [1, 2, 3, 0, 5, 6, 7] rfl (J11 v14 S15 h84 r24)
                      · refine k_iload_n F dX9_set_216 rfl 3 rfl ?_
                        refine k_goto F (tgt := 222) dX9_set_217 (by decide) ?_
                        exact k_sub [1, 2, 3, 0, 5, 6, 7] rfl (J11 v19 S15 h85 r33)
                  · refine k_if_eq F r29 (tgt := 209) dX9_set_202 (by decide) h86 (fun h87 => ?_) (fun h88 => ?_)
                    · refine k_iload_n F dX9_set_209 rfl 3 rfl ?_
                      exact k_sub [0, 1, 2, 4, 5, 6, 7, 9] rfl (J12 v13 S14 h87 r23)
                    · refine k_iload_n F dX9_set_205 rfl 2 rfl ?_
                      refine k_goto F (tgt := 210) dX9_set_206 (by decide) ?_
                      exact k_sub [0, 1, 2, 4, 5, 6, 7, 9] rfl (J12 v19 S14 h88 r33)
                · refine k_if_ne F r25 (tgt := 192) dX9_set_185 (by decide) h89 (fun h90 => ?_) (fun h91 => ?_)
                  · refine k_aload_n F dX9_set_192 rfl 1 rfl ?_
                    refine kgX9_unitRows F dX9_set_193 ?_
                    refine k_iload F dX9_set_196 5 rfl ?_
                    refine k_iald F rfl 24 (aM_23 cI cZ ad) r16 dX9_set_198 h90 (fun x28 r61 h92 => ?_)
                    exact k_sub [1, 2, 0, 3, 4, 5, 6, 7, 8, 9] rfl (J13 x28 S12 h92 r61)
                  · refine k_iload_n F dX9_set_188 rfl 0 rfl ?_
                    refine k_goto F (tgt := 199) dX9_set_189 (by decide) ?_
                    exact k_sub [1, 2, 0, 3, 4, 5, 6, 7, 8, 9] rfl (J13 v19 S12 h91 r33)
              · refine zj0_e (PJ := (fun S27 => zk Γ (wM cI cZ ad) (RG bsM) S27 [(0, .ref (ad 0)), (1, .int (zI a1)), (2, .int (zI v18)), (3, .int (zI v13)), (4, .int (zI v14)), (5, .int (zI v8)), (6, .int (zI v15)), (7, .int (zI x13)), (8, .int (zI v16)), (9, .int (zI v17))] 175 [])) h93 (fun S27 h94 => ?_) (fun j15 J15 h95 => ?_)
                · refine k_iload_n F dX9_set_175 rfl 2 rfl ?_
                  exact k_sub [0, 1, 3, 4, 5, 6, 7, 8, 9] rfl (J14 v18 S27 h94 r32)
                · refine k_if_eq F r30 (tgt := 175) dX9_set_161 (by decide) h95 (fun h96 => ?_) (fun h97 => ?_)
                  · exact k_sub [1, 2, 0, 3, 4, 5, 6, 7, 8, 9] rfl (J15 S11 h96)
                  · refine k_iload F dX9_set_164 4 rfl ?_
                    refine k_iload_n F dX9_set_166 rfl 0 rfl ?_
                    refine k_icmp_le F r24 r32 (tgt := 175) dX9_set_167 (by decide) h97 (fun h98 => ?_) (fun h99 => ?_)
                    · exact k_sub [1, 2, 0, 3, 4, 5, 6, 7, 8, 9] rfl (J15 S11 h98)
                    · refine k_iload F dX9_set_170 4 rfl ?_
                      refine k_goto F (tgt := 176) dX9_set_172 (by decide) ?_
                      exact k_sub [1, 2, 3, 4, 5, 6, 7, 8, 9] rfl (J14 v14 S11 h99 r24)
            · refine zj0_e (PJ := (fun S28 => zk Γ (wM cI cZ ad) (RG bsM) S28 [(0, .ref (ad 0)), (1, .int (zI a1)), (2, .int (zI x14)), (3, .int (zI v13)), (4, .int (zI v14)), (5, .int (zI v8)), (6, .int (zI v15)), (7, .int (zI x13)), (8, .int (zI v16)), (9, .int (zI v17))] 157 [])) h100 (fun S28 h101 => ?_) (fun j17 J17 h102 => ?_)
              · refine k_iload_n F dX9_set_157 rfl 2 rfl ?_
                exact k_sub [0, 1, 3, 4, 5, 6, 7, 8, 9] rfl (J16 x14 S28 h101 r31)
              · refine k_if_eq F r29 (tgt := 157) dX9_set_145 (by decide) h102 (fun h103 => ?_) (fun h104 => ?_)
                · exact k_sub [1, 2, 0, 3, 4, 5, 6, 7, 8, 9] rfl (J17 S10 h103)
                · refine k_iload_n F dX9_set_148 rfl 3 rfl ?_
                  refine k_iload_n F dX9_set_149 rfl 0 rfl ?_
                  refine k_icmp_le F r23 r31 (tgt := 157) dX9_set_150 (by decide) h104 (fun h105 => ?_) (fun h106 => ?_)
                  · exact k_sub [1, 2, 0, 3, 4, 5, 6, 7, 8, 9] rfl (J17 S10 h105)
                  · refine k_iload_n F dX9_set_153 rfl 3 rfl ?_
                    refine k_goto F (tgt := 158) dX9_set_154 (by decide) ?_
                    exact k_sub [1, 2, 3, 4, 5, 6, 7, 8, 9] rfl (J16 v13 S10 h106 r23)
          · refine k_sub [4, 5, 6, 7, 8, 9, 10, 3, 2, 1, 0] rfl (zl3_e (F := (b_X9_set_56 j18 v15 v8 x13)) (fun v34 v35 v36 S29 => inR v34 → inR v35 → inR v36 → zk Γ (wM cI cZ ad) (RG bsM) S29 [(0, .ref (ad 0)), (1, .int (zI a1)), (2, .int (zI v12)), (3, .int (zI v13)), (4, .int (zI v14)), (5, .int (zI v8)), (6, .int (zI v15)), (7, .int (zI x13)), (8, .int (zI v34)), (9, .int (zI v35)), (10, .int (zI v36))] 56 []) (fun rec4 v34 v35 v36 S29 hrec4 h108 r62 r63 r64 => ?_) 1000 0 0 0 S9 h107 iR_0 iR_0 iR_0)
            refine k_iload F dX9_set_56 10 rfl ?_
            refine k_aload_n F dX9_set_58 rfl 0 rfl ?_
            refine kgX9_commentMany F dX9_set_59 h108 (fun x29 r65 h109 => ?_)
            refine k_icmp_ge F r64 r65 (tgt := 140) dX9_set_62 (by decide) h109 (fun h110 => ?_) (fun h111 => ?_)
            · exact k_sub [0, 1, 2, 3, 4, 5, 6, 7, 8, 9] rfl (J18 v34 v35 S29 h110 r62 r63)
            · refine k_aload_n F dX9_set_65 rfl 0 rfl ?_
              refine k_iload F dX9_set_66 10 rfl ?_
              refine k_iload F dX9_set_68 5 rfl ?_
              refine k_iload F dX9_set_70 6 rfl ?_
              refine k_iload F dX9_set_72 7 rfl ?_
              refine k_callVi F cal_X9_isIn wm_201 (obM_0 cI cZ ad) (fun l D A hD hG x S' h => c_X9_isIn hD hG r64 r16 r25 r28 h) ⟨rfl, rfl, Nat.le_of_ble_eq_true rfl, Nat.le_of_ble_eq_true rfl⟩ rfl rfl (Nat.le_of_ble_eq_true rfl) dX9_set_74 h111 (fun x30 S30 r66 b2 h112 => ?_)
              refine k_istore F dX9_set_77 (by decide) rfl ?_
              refine k_iload F dX9_set_79 9 rfl ?_
              refine zj1_e (PJ := (fun v37 S31 => inR v37 → zk Γ (wM cI cZ ad) (RG bsM) S31 [(0, .ref (ad 0)), (1, .int (zI a1)), (2, .int (zI v12)), (3, .int (zI v13)), (4, .int (zI v14)), (5, .int (zI v8)), (6, .int (zI v15)), (7, .int (zI x13)), (9, .int (zI v35)), (10, .int (zI v36)), (11, .int (zI x30))] 104 [.int (zI v37)])) h112 (fun v37 S31 h113 r67 => ?_) (fun j22 J22 h128 => ?_)
              · refine k_istore F dX9_set_104 (by decide) rfl ?_
                refine k_iload F dX9_set_106 9 rfl ?_
                refine zj1_e (PJ := (fun v38 S32 => inR v38 → zk Γ (wM cI cZ ad) (RG bsM) S32 [(0, .ref (ad 0)), (1, .int (zI a1)), (2, .int (zI v12)), (3, .int (zI v13)), (4, .int (zI v14)), (5, .int (zI v8)), (6, .int (zI v15)), (7, .int (zI x13)), (8, .int (zI v37)), (10, .int (zI v36))] 132 [.int (zI v38)])) h113 (fun v38 S32 h114 r68 => ?_) (fun j19 J19 h116 => ?_)
                · refine k_istore F dX9_set_132 (by decide) rfl ?_
                  refine k_iinc F (k := 10) (lv' := fun y => [(10, .int (zI y)), (9, .int (zI v38)), (0, .ref (ad 0)), (1, .int (zI a1)), (2, .int (zI v12)), (3, .int (zI v13)), (4, .int (zI v14)), (5, .int (zI v8)), (6, .int (zI v15)), (7, .int (zI x13)), (8, .int (zI v37))]) dX9_set_134 rfl (by decide) (fun _ => rfl) h114 (fun x31 r69 h115 => ?_)
                  refine k_goto F (tgt := 56) dX9_set_137 (by decide) ?_
                  exact k_sub [2, 3, 4, 5, 6, 7, 8, 9, 10, 1, 0] rfl (hrec4 v37 v38 x31 S32 h115 r67 r68 r69)
                · refine zj0_e (PJ := (fun S33 => zk Γ (wM cI cZ ad) (RG bsM) S33 [(0, .ref (ad 0)), (1, .int (zI a1)), (2, .int (zI v12)), (3, .int (zI v13)), (4, .int (zI v14)), (5, .int (zI v8)), (6, .int (zI v15)), (7, .int (zI x13)), (8, .int (zI v37)), (10, .int (zI v36))] 127 [])) h116 (fun S33 h117 => ?_) (fun j20 J20 h118 => ?_)
                  · refine k_iconst F dX9_set_127 ?_
                    refine k_goto F (tgt := 132) dX9_set_128 (by decide) ?_
                    exact k_sub [0, 1, 2, 3, 4, 5, 6, 7, 8, 9] rfl (J19 1 S33 h117 iR_1)
                  · refine k_if_ne F r63 (tgt := 127) dX9_set_108 (by decide) h118 (fun h119 => ?_) (fun h120 => ?_)
                    · exact k_sub [1, 2, 3, 4, 5, 6, 7, 8, 0, 10] rfl (J20 S31 h119)
                    · refine k_iload F dX9_set_111 11 rfl ?_
                      refine zj0_e (PJ := (fun S34 => zk Γ (wM cI cZ ad) (RG bsM) S34 [(0, .ref (ad 0)), (1, .int (zI a1)), (2, .int (zI v12)), (3, .int (zI v13)), (4, .int (zI v14)), (5, .int (zI v8)), (6, .int (zI v15)), (7, .int (zI x13)), (8, .int (zI v37)), (10, .int (zI v36))] 131 [])) h120 (fun S34 h121 => ?_) (fun j21 J21 h122 => ?_)
                      · refine k_iconst F dX9_set_131 ?_
                        exact k_sub [0, 1, 2, 3, 4, 5, 6, 7, 8, 9] rfl (J19 0 S34 h121 iR_0)
                      · refine k_if_eq F r66 (tgt := 131) dX9_set_113 (by decide) h122 (fun h123 => ?_) (fun h124 => ?_)
                        · exact k_sub [1, 2, 3, 4, 5, 6, 7, 8, 0, 10] rfl (J21 S31 h123)
                        · refine k_aload_n F dX9_set_116 rfl 1 rfl ?_
                          refine kgX9_margins F dX9_set_117 ?_
                          refine k_iload F dX9_set_120 10 rfl ?_
                          refine k_iald F rfl 16 (aM_15 cI cZ ad) r64 dX9_set_122 h124 (fun x32 r70 h125 => ?_)
                          refine k_iconst F dX9_set_123 ?_
                          refine k_icmp_ne F r70 iR_1 (tgt := 131) dX9_set_124 (by decide) h125 (fun h126 => ?_) (fun h127 => ?_)
                          · exact k_sub [1, 2, 3, 4, 5, 6, 7, 8, 0, 10] rfl (J21 S31 h126)
                          · exact k_sub [1, 2, 3, 4, 5, 6, 7, 8, 0, 10] rfl (J20 S31 h127)
              · refine zj0_e (PJ := (fun S35 => zk Γ (wM cI cZ ad) (RG bsM) S35 [(0, .ref (ad 0)), (1, .int (zI a1)), (2, .int (zI v12)), (3, .int (zI v13)), (4, .int (zI v14)), (5, .int (zI v8)), (6, .int (zI v15)), (7, .int (zI x13)), (9, .int (zI v35)), (10, .int (zI v36)), (11, .int (zI x30))] 99 [])) h128 (fun S35 h129 => ?_) (fun j23 J23 h130 => ?_)
                · refine k_iconst F dX9_set_99 ?_
                  refine k_goto F (tgt := 104) dX9_set_100 (by decide) ?_
                  exact k_sub [0, 1, 2, 3, 4, 5, 6, 7, 8, 9, 10] rfl (J22 1 S35 h129 iR_1)
                · refine k_if_ne F r62 (tgt := 99) dX9_set_81 (by decide) h130 (fun h131 => ?_) (fun h132 => ?_)
                  · exact k_sub [1, 2, 3, 4, 5, 6, 7, 8, 10, 11, 0] rfl (J23 S30 h131)
                  · refine k_iload F dX9_set_84 0 rfl ?_
                    refine zj0_e (PJ := (fun S36 => zk Γ (wM cI cZ ad) (RG bsM) S36 [(0, .ref (ad 0)), (1, .int (zI a1)), (2, .int (zI v12)), (3, .int (zI v13)), (4, .int (zI v14)), (5, .int (zI v8)), (6, .int (zI v15)), (7, .int (zI x13)), (9, .int (zI v35)), (10, .int (zI v36)), (11, .int (zI x30))] 103 [])) h132 (fun S36 h133 => ?_) (fun j24 J24 h134 => ?_)
                    · refine k_iconst F dX9_set_103 ?_
                      exact k_sub [0, 1, 2, 3, 4, 5, 6, 7, 8, 9, 10] rfl (J22 0 S36 h133 iR_0)
                    · refine k_if_eq F r66 (tgt := 103) dX9_set_86 (by decide) h134 (fun h135 => ?_) (fun h136 => ?_)
                      · exact k_sub [1, 2, 3, 4, 5, 6, 7, 8, 10, 11, 0] rfl (J24 S30 h135)
                      · refine k_aload_n F dX9_set_89 rfl 1 rfl ?_
                        refine kgX9_margins F dX9_set_90 ?_
                        refine k_iload F dX9_set_93 11 rfl ?_
                        refine k_iald F rfl 16 (aM_15 cI cZ ad) r64 dX9_set_95 h136 (fun x33 r71 h137 => ?_)
                        refine k_if_ne F r71 (tgt := 103) dX9_set_96 (by decide) h137 (fun h138 => ?_) (fun h139 => ?_)
                        · exact k_sub [1, 2, 3, 4, 5, 6, 7, 8, 10, 11, 0] rfl (J24 S30 h138)
                        · exact k_sub [1, 2, 3, 4, 5, 6, 7, 8, 10, 11, 0] rfl (J23 S30 h139)
set_option maxRecDepth 100000 in
theorem c_X9_edition {l : Launch} {D : va_G} {A : Nat → Prop} {cI cZ : ClassId} {ad : Nat → Nat} (hD : ∀ S, va_D A (wM cI cZ ad S)) {S : zSt} (hG : RG bsM S) {a1 : Int} (ra1 : inR a1) {a2 : Int} (ra2 : inR a2) {x : Int} {S' : zSt} (h : m_X9_edition S a1 a2 = some (x, S')) : zMi l yX9_edition cX9_edition 5 .int { frames := 3, cells := 0, slots := 0, locals := 79 } D cI cZ A (wM cI cZ ad) (RG bsM) [.ref (ad 0), .int (zI a1), .int (zI a2)] S x S' := by
  refine k_start_i (by decide +kernel) hD hG (Nat.le_of_ble_eq_true rfl) (fun Γ F hQ => ?_)
  have F : zF Γ (wM cI cZ ad) cI cZ cX9_edition { frames := 3, cells := 0, slots := 0, locals := 79 } 5 RX9 := F
  refine k_sub [0, 1, 2] (lv' := [(0, .ref (ad 0)), (1, .int (zI a1)), (2, .int (zI a2))]) rfl ?_
  refine k_aload_n F dX9_edition_0 rfl 0 rfl ?_
  refine k_aload_n F dX9_edition_1 rfl 0 rfl ?_
  refine k_iload_n F dX9_edition_2 rfl 1 rfl ?_
  refine k_iconst F dX9_edition_3 ?_
  refine k_bipush F dX9_edition_4 bp_12 ?_
  refine k_callVi F cal_X9_between wm_144 (obM_0 cI cZ ad) (fun l D A hD hG x S' h => c_X9_between hD hG ra1 iR_1 iR_12 h) ⟨rfl, rfl, Nat.le_of_ble_eq_true rfl, Nat.le_of_ble_eq_true rfl⟩ rfl rfl (Nat.le_of_ble_eq_true rfl) dX9_edition_6 h (fun x1 S1 r1 b1 h1 => ?_)
  refine zj1_e (PJ := (fun v1 S2 => inR v1 → zk Γ (wM cI cZ ad) (RG bsM) S2 [(0, .ref (ad 0)), (1, .int (zI a1)), (2, .int (zI a2))] 48 [.int (zI v1), .ref (ad 0)])) h1 (fun v1 S2 h2 r2 => ?_) (fun j3 J3 h37 => ?_)
  · refine kpX9_thrown F r2 dX9_edition_48 h2 (fun S3 h3 => ?_)
    refine k_aload_n F dX9_edition_51 rfl 0 rfl ?_
    refine kgX9_thrown F dX9_edition_52 h3 (fun x2 r3 h4 => ?_)
    refine k_if_le F r3 (tgt := 60) dX9_edition_55 (by decide) h4 (fun h5 => ?_) (fun h6 => ?_)
    · refine k_aload_n F dX9_edition_60 rfl 0 rfl ?_
      refine k_iload_n F dX9_edition_61 rfl 1 rfl ?_
      refine k_callVv F cal_X9_set wm_205 (obM_0 cI cZ ad) (fun l D A hD hG x S' h => c_X9_set hD hG ra1 h) ⟨rfl, rfl, Nat.le_of_ble_eq_true rfl, Nat.le_of_ble_eq_true rfl⟩ rfl rfl (Nat.le_of_ble_eq_true rfl) dX9_edition_62 h5 (fun x3 S4 h7 => ?_)
      refine k_aload_n F dX9_edition_65 rfl 0 rfl ?_
      refine kgX9_editionMany F dX9_edition_66 h7 (fun x4 r5 h8 => ?_)
      refine k_istore_n F dX9_edition_69 rfl (by decide) rfl ?_
      refine k_aload_n F dX9_edition_70 rfl 1 rfl ?_
      refine kgX9_widths F dX9_edition_71 ?_
      refine k_iload_n F dX9_edition_74 rfl 0 rfl ?_
      refine k_iload_n F dX9_edition_75 rfl 2 rfl ?_
      refine k_iast F rfl 21 (aM_20 cI cZ ad) (sM_20 cI cZ ad) (by decide) r5 ra1 dX9_edition_76 h8 (fun S5 h9 => ?_)
      refine k_aload_n F dX9_edition_77 rfl 1 rfl ?_
      refine kgX9_pageMany F dX9_edition_78 ?_
      refine k_iload_n F dX9_edition_81 rfl 0 rfl ?_
      refine k_aload_n F dX9_edition_82 rfl 1 rfl ?_
      refine kgX9_lastRow F dX9_edition_83 h9 (fun x5 r6 h10 => ?_)
      refine k_iload_n F dX9_edition_86 rfl 3 rfl ?_
      refine k_idiv F r6 ra2 dX9_edition_87 h10 (fun x6 r7 h11 => ?_)
      refine k_iconst F dX9_edition_88 ?_
      refine k_iadd F dX9_edition_89 h11 (fun x7 r8 h12 => ?_)
      refine k_iast F rfl 22 (aM_21 cI cZ ad) (sM_21 cI cZ ad) (by decide) r5 r8 dX9_edition_90 h12 (fun S6 h13 => ?_)
      refine k_iconst F dX9_edition_91 ?_
      refine k_istore F dX9_edition_92 (by decide) rfl ?_
      refine zj0_e (PJ := (fun S7 => zk Γ (wM cI cZ ad) (RG bsM) S7 [(0, .ref (ad 0)), (3, .int (zI x4))] 154 [])) h13 (fun S7 h14 => ?_) (fun j1 J1 h18 => ?_)
      · refine k_aload_n F dX9_edition_154 rfl 0 rfl ?_
        refine k_dup F dX9_edition_155 rfl ?_
        refine kgX9_editionMany F dX9_edition_156 h14 (fun x8 r9 h15 => ?_)
        refine k_iconst F dX9_edition_159 ?_
        refine k_iadd F dX9_edition_160 h15 (fun x9 r10 h16 => ?_)
        refine kpX9_editionMany F r10 dX9_edition_161 h16 (fun S8 h17 => ?_)
        refine k_iload_n F dX9_edition_164 rfl 1 rfl ?_
        exact k_iret F hQ r5 dX9_edition_165 h17
      · refine k_sub [2, 4, 1, 0] rfl (zl1_e (F := (b_X9_edition_94 a2 j1 x4)) (fun v2 S9 => inR v2 → zk Γ (wM cI cZ ad) (RG bsM) S9 [(0, .ref (ad 0)), (2, .int (zI a2)), (3, .int (zI x4)), (4, .int (zI v2))] 94 []) (fun rec1 v2 S9 hrec1 h19 r11 => ?_) 1000 0 S6 h18 iR_0)
        refine k_iload F dX9_edition_94 3 rfl ?_
        refine k_bipush F dX9_edition_96 bp_20 ?_
        refine k_icmp_ge F r11 iR_20 (tgt := 154) dX9_edition_98 (by decide) h19 (fun h20 => ?_) (fun h21 => ?_)
        · exact k_sub [0, 2] rfl (J1 S9 h20)
        · refine k_aload_n F dX9_edition_101 rfl 0 rfl ?_
          refine kgX9_addresses F dX9_edition_102 ?_
          refine k_bipush F dX9_edition_105 bp_20 ?_
          refine k_iload_n F dX9_edition_107 rfl 2 rfl ?_
          refine k_imul F dX9_edition_108 h21 (fun x10 r12 h22 => ?_)
          refine k_iload F dX9_edition_109 3 rfl ?_
          refine k_iadd F dX9_edition_111 h22 (fun x11 r13 h23 => ?_)
          refine k_iload F dX9_edition_112 3 rfl ?_
          refine k_aload_n F dX9_edition_114 rfl 0 rfl ?_
          refine kgX9_unitMany F dX9_edition_115 h23 (fun x12 r14 h24 => ?_)
          refine zj1_e (PJ := (fun v3 S10 => inR v3 → zk Γ (wM cI cZ ad) (RG bsM) S10 [(0, .ref (ad 0)), (2, .int (zI a2)), (3, .int (zI x4)), (4, .int (zI v2))] 147 [.int (zI v3), .int (zI x11), .ref (ad 23)])) h24 (fun v3 S10 h25 r15 => ?_) (fun j2 J2 h28 => ?_)
          · refine k_iast F rfl 23 (aM_22 cI cZ ad) (sM_22 cI cZ ad) (by decide) r13 r15 dX9_edition_147 h25 (fun S11 h26 => ?_)
            refine k_iinc F (k := 3) (lv' := fun y => [(4, .int (zI y)), (0, .ref (ad 0)), (2, .int (zI a2)), (3, .int (zI x4))]) dX9_edition_148 rfl (by decide) (fun _ => rfl) h26 (fun x13 r16 h27 => ?_)
            refine k_goto F (tgt := 94) dX9_edition_151 (by decide) ?_
            exact k_sub [1, 2, 3, 0] rfl (hrec1 x13 S11 h27 r16)
          · refine k_icmp_ge F r11 r14 (tgt := 146) dX9_edition_118 (by decide) h28 (fun h29 => ?_) (fun h30 => ?_)
            · refine k_iconst F dX9_edition_146 ?_
              exact k_sub [0, 1, 2, 3] rfl (J2 (-1) S9 h29 iR_m1)
            · refine k_bipush F dX9_edition_121 bp_100 ?_
              refine k_aload_n F dX9_edition_123 rfl 0 rfl ?_
              refine kgX9_unitRows F dX9_edition_124 ?_
              refine k_iload F dX9_edition_127 3 rfl ?_
              refine k_iald F rfl 24 (aM_23 cI cZ ad) r11 dX9_edition_129 h30 (fun x14 r17 h31 => ?_)
              refine k_iload_n F dX9_edition_130 rfl 1 rfl ?_
              refine k_idiv F r17 ra2 dX9_edition_131 h31 (fun x15 r18 h32 => ?_)
              refine k_imul F dX9_edition_132 h32 (fun x16 r19 h33 => ?_)
              refine k_aload_n F dX9_edition_133 rfl 0 rfl ?_
              refine kgX9_unitRows F dX9_edition_134 ?_
              refine k_iload F dX9_edition_137 3 rfl ?_
              refine k_iald F rfl 24 (aM_23 cI cZ ad) r11 dX9_edition_139 h33 (fun x17 r20 h34 => ?_)
              refine k_iload_n F dX9_edition_140 rfl 1 rfl ?_
              refine k_irem F r20 ra2 dX9_edition_141 h34 (fun x18 r21 h35 => ?_)
              refine k_iadd F dX9_edition_142 h35 (fun x19 r22 h36 => ?_)
              refine k_goto F (tgt := 147) dX9_edition_143 (by decide) ?_
              exact k_sub [0, 1, 2, 3] rfl (J2 x19 S9 h36 r22)
    · refine k_iconst F dX9_edition_58 ?_
      exact k_iret F hQ iR_0 dX9_edition_59 h6
  · refine zj0_e (PJ := (fun S12 => zk Γ (wM cI cZ ad) (RG bsM) S12 [(0, .ref (ad 0)), (1, .int (zI a1)), (2, .int (zI a2))] 23 [.ref (ad 0)])) h37 (fun S12 h38 => ?_) (fun j4 J4 h39 => ?_)
    · refine k_iconst F dX9_edition_23 ?_
      refine k_goto F (tgt := 48) dX9_edition_24 (by decide) ?_
      exact k_sub [0, 1, 2] rfl (J3 1 S12 h38 iR_1)
    · refine k_if_eq F r1 (tgt := 23) dX9_edition_9 (by decide) h39 (fun h40 => ?_) (fun h41 => ?_)
      · exact k_sub [0, 1, 2] rfl (J4 S1 h40)
      · refine k_aload_n F dX9_edition_12 rfl 0 rfl ?_
        refine k_iload_n F dX9_edition_13 rfl 2 rfl ?_
        refine k_iconst F dX9_edition_14 ?_
        refine k_bipush F dX9_edition_15 bp_60 ?_
        refine k_callVi F cal_X9_between wm_144 (obM_0 cI cZ ad) (fun l D A hD hG x S' h => c_X9_between hD hG ra2 iR_1 iR_60 h) ⟨rfl, rfl, Nat.le_of_ble_eq_true rfl, Nat.le_of_ble_eq_true rfl⟩ rfl rfl (Nat.le_of_ble_eq_true rfl) dX9_edition_17 h41 (fun x20 S13 r23 b3 h42 => ?_)
        refine k_if_ne F r23 (tgt := 27) dX9_edition_20 (by decide) h42 (fun h43 => ?_) (fun h44 => ?_)
        · refine k_aload_n F dX9_edition_27 rfl 0 rfl ?_
          refine kgX9_unitMany F dX9_edition_28 h43 (fun x21 r24 h45 => ?_)
          refine zj0_e (PJ := (fun S14 => zk Γ (wM cI cZ ad) (RG bsM) S14 [(0, .ref (ad 0)), (1, .int (zI a1)), (2, .int (zI a2))] 43 [.ref (ad 0)])) h45 (fun S14 h46 => ?_) (fun j5 J5 h47 => ?_)
          · refine k_iconst F dX9_edition_43 ?_
            refine k_goto F (tgt := 48) dX9_edition_44 (by decide) ?_
            exact k_sub [0, 1, 2] rfl (J3 2 S14 h46 iR_2)
          · refine k_if_eq F r24 (tgt := 43) dX9_edition_31 (by decide) h47 (fun h48 => ?_) (fun h49 => ?_)
            · exact k_sub [0, 1, 2] rfl (J5 S13 h48)
            · refine k_aload_n F dX9_edition_34 rfl 0 rfl ?_
              refine kgX9_editionMany F dX9_edition_35 h49 (fun x22 r25 h50 => ?_)
              refine k_bipush F dX9_edition_38 bp_8 ?_
              refine k_icmp_ne F r25 iR_8 (tgt := 47) dX9_edition_40 (by decide) h50 (fun h51 => ?_) (fun h52 => ?_)
              · refine k_iconst F dX9_edition_47 ?_
                exact k_sub [0, 1, 2] rfl (J3 0 S13 h51 iR_0)
              · exact k_sub [0, 1, 2] rfl (J5 S13 h52)
        · exact k_sub [0, 1, 2] rfl (J4 S13 h44)
set_option maxRecDepth 100000 in
theorem c_X9_isEdition {l : Launch} {D : va_G} {A : Nat → Prop} {cI cZ : ClassId} {ad : Nat → Nat} (hD : ∀ S, va_D A (wM cI cZ ad S)) {S : zSt} (hG : RG bsM S) {a1 : Int} (ra1 : inR a1) {x : Int} {S' : zSt} (h : m_X9_isEdition S a1 = some (x, S')) : zMi l yX9_isEdition cX9_isEdition 2 .boolean { frames := 1, cells := 0, slots := 0, locals := 23 } D cI cZ A (wM cI cZ ad) (RG bsM) [.ref (ad 0), .int (zI a1)] S x S' := by
  refine k_start_i (by decide +kernel) hD hG (Nat.le_of_ble_eq_true rfl) (fun Γ F hQ => ?_)
  have F : zF Γ (wM cI cZ ad) cI cZ cX9_isEdition { frames := 1, cells := 0, slots := 0, locals := 23 } 2 RX9 := F
  refine k_sub [0, 1] (lv' := [(0, .ref (ad 0)), (1, .int (zI a1))]) rfl ?_
  refine k_aload_n F dX9_isEdition_0 rfl 0 rfl ?_
  refine k_iload_n F dX9_isEdition_1 rfl 1 rfl ?_
  refine k_iconst F dX9_isEdition_2 ?_
  refine k_aload_n F dX9_isEdition_3 rfl 0 rfl ?_
  refine kgX9_editionMany F dX9_isEdition_4 h (fun x1 r1 h1 => ?_)
  refine k_iconst F dX9_isEdition_7 ?_
  refine k_isub F dX9_isEdition_8 h1 (fun x2 r2 h2 => ?_)
  refine k_callVi F cal_X9_between wm_144 (obM_0 cI cZ ad) (fun l D A hD hG x S' h => c_X9_between hD hG ra1 iR_0 r2 h) ⟨rfl, rfl, Nat.le_of_ble_eq_true rfl, Nat.le_of_ble_eq_true rfl⟩ rfl rfl (Nat.le_of_ble_eq_true rfl) dX9_isEdition_9 h2 (fun x3 S1 r3 b1 h3 => ?_)
  exact k_zret F hQ (b1 rfl) dX9_isEdition_12 h3
set_option maxRecDepth 100000 in
theorem c_X9_address {l : Launch} {D : va_G} {A : Nat → Prop} {cI cZ : ClassId} {ad : Nat → Nat} (hD : ∀ S, va_D A (wM cI cZ ad S)) {S : zSt} (hG : RG bsM S) {a1 : Int} (ra1 : inR a1) {a2 : Int} (ra2 : inR a2) {x : Int} {S' : zSt} (h : m_X9_address S a1 a2 = some (x, S')) : zMi l yX9_address cX9_address 3 .int { frames := 2, cells := 0, slots := 0, locals := 44 } D cI cZ A (wM cI cZ ad) (RG bsM) [.ref (ad 0), .int (zI a1), .int (zI a2)] S x S' := by
  refine k_start_i (by decide +kernel) hD hG (Nat.le_of_ble_eq_true rfl) (fun Γ F hQ => ?_)
  have F : zF Γ (wM cI cZ ad) cI cZ cX9_address { frames := 2, cells := 0, slots := 0, locals := 44 } 3 RX9 := F
  refine k_sub [0, 1, 2] (lv' := [(0, .ref (ad 0)), (1, .int (zI a1)), (2, .int (zI a2))]) rfl ?_
  refine k_aload_n F dX9_address_0 rfl 0 rfl ?_
  refine k_aload_n F dX9_address_1 rfl 0 rfl ?_
  refine k_iload_n F dX9_address_2 rfl 1 rfl ?_
  refine k_callVi F cal_X9_isEdition wm_210 (obM_0 cI cZ ad) (fun l D A hD hG x S' h => c_X9_isEdition hD hG ra1 h) ⟨rfl, rfl, Nat.le_of_ble_eq_true rfl, Nat.le_of_ble_eq_true rfl⟩ rfl rfl (Nat.le_of_ble_eq_true rfl) dX9_address_3 h (fun x1 S1 r1 b1 h1 => ?_)
  refine zj1_e (PJ := (fun v1 S2 => inR v1 → zk Γ (wM cI cZ ad) (RG bsM) S2 [(0, .ref (ad 0)), (1, .int (zI a1)), (2, .int (zI a2))] 22 [.int (zI v1), .ref (ad 0)])) h1 (fun v1 S2 h2 r2 => ?_) (fun j1 J1 h10 => ?_)
  · refine kpX9_thrown F r2 dX9_address_22 h2 (fun S3 h3 => ?_)
    refine k_aload_n F dX9_address_25 rfl 0 rfl ?_
    refine kgX9_thrown F dX9_address_26 h3 (fun x2 r3 h4 => ?_)
    refine k_if_le F r3 (tgt := 36) dX9_address_29 (by decide) h4 (fun h5 => ?_) (fun h6 => ?_)
    · refine k_aload_n F dX9_address_36 rfl 0 rfl ?_
      refine kgX9_addresses F dX9_address_37 ?_
      refine k_bipush F dX9_address_40 bp_20 ?_
      refine k_iload_n F dX9_address_42 rfl 1 rfl ?_
      refine k_imul F dX9_address_43 h5 (fun x3 r4 h7 => ?_)
      refine k_iload_n F dX9_address_44 rfl 2 rfl ?_
      refine k_iadd F dX9_address_45 h7 (fun x4 r5 h8 => ?_)
      refine k_iald F rfl 23 (aM_22 cI cZ ad) r5 dX9_address_46 h8 (fun x5 r6 h9 => ?_)
      exact k_iret F hQ r6 dX9_address_47 h9
    · refine k_iconst F dX9_address_32 ?_
      refine k_goto F (tgt := 47) dX9_address_33 (by decide) ?_
      exact k_iret F hQ iR_0 dX9_address_47 h6
  · refine zj0_e (PJ := (fun S4 => zk Γ (wM cI cZ ad) (RG bsM) S4 [(0, .ref (ad 0)), (1, .int (zI a1)), (2, .int (zI a2))] 17 [.ref (ad 0)])) h10 (fun S4 h11 => ?_) (fun j2 J2 h12 => ?_)
    · refine k_iconst F dX9_address_17 ?_
      refine k_goto F (tgt := 22) dX9_address_18 (by decide) ?_
      exact k_sub [0, 1, 2] rfl (J1 1 S4 h11 iR_1)
    · refine k_if_eq F r1 (tgt := 17) dX9_address_6 (by decide) h12 (fun h13 => ?_) (fun h14 => ?_)
      · exact k_sub [0, 1, 2] rfl (J2 S1 h13)
      · refine k_aload_n F dX9_address_9 rfl 0 rfl ?_
        refine k_iload_n F dX9_address_10 rfl 2 rfl ?_
        refine k_callVi F cal_X9_isUnit wm_151 (obM_0 cI cZ ad) (fun l D A hD hG x S' h => c_X9_isUnit hD hG ra2 h) ⟨rfl, rfl, Nat.le_of_ble_eq_true rfl, Nat.le_of_ble_eq_true rfl⟩ rfl rfl (Nat.le_of_ble_eq_true rfl) dX9_address_11 h14 (fun x6 S5 r7 b2 h15 => ?_)
        refine k_if_ne F r7 (tgt := 21) dX9_address_14 (by decide) h15 (fun h16 => ?_) (fun h17 => ?_)
        · refine k_iconst F dX9_address_21 ?_
          exact k_sub [0, 1, 2] rfl (J1 0 S5 h16 iR_0)
        · exact k_sub [0, 1, 2] rfl (J2 S5 h17)
set_option maxRecDepth 100000 in
theorem c_X9_pages {l : Launch} {D : va_G} {A : Nat → Prop} {cI cZ : ClassId} {ad : Nat → Nat} (hD : ∀ S, va_D A (wM cI cZ ad S)) {S : zSt} (hG : RG bsM S) {a1 : Int} (ra1 : inR a1) {x : Int} {S' : zSt} (h : m_X9_pages S a1 = some (x, S')) : zMi l yX9_pages cX9_pages 2 .int { frames := 2, cells := 0, slots := 0, locals := 44 } D cI cZ A (wM cI cZ ad) (RG bsM) [.ref (ad 0), .int (zI a1)] S x S' := by
  refine k_start_i (by decide +kernel) hD hG (Nat.le_of_ble_eq_true rfl) (fun Γ F hQ => ?_)
  have F : zF Γ (wM cI cZ ad) cI cZ cX9_pages { frames := 2, cells := 0, slots := 0, locals := 44 } 2 RX9 := F
  refine k_sub [0, 1] (lv' := [(0, .ref (ad 0)), (1, .int (zI a1))]) rfl ?_
  refine k_aload_n F dX9_pages_0 rfl 0 rfl ?_
  refine k_aload_n F dX9_pages_1 rfl 0 rfl ?_
  refine k_iload_n F dX9_pages_2 rfl 1 rfl ?_
  refine k_callVi F cal_X9_isEdition wm_210 (obM_0 cI cZ ad) (fun l D A hD hG x S' h => c_X9_isEdition hD hG ra1 h) ⟨rfl, rfl, Nat.le_of_ble_eq_true rfl, Nat.le_of_ble_eq_true rfl⟩ rfl rfl (Nat.le_of_ble_eq_true rfl) dX9_pages_3 h (fun x1 S1 r1 b1 h1 => ?_)
  refine zj1_e (PJ := (fun v1 S2 => inR v1 → zk Γ (wM cI cZ ad) (RG bsM) S2 [(0, .ref (ad 0)), (1, .int (zI a1))] 14 [.int (zI v1), .ref (ad 0)])) h1 (fun v1 S2 h2 r2 => ?_) (fun j1 J1 h8 => ?_)
  · refine kpX9_thrown F r2 dX9_pages_14 h2 (fun S3 h3 => ?_)
    refine k_aload_n F dX9_pages_17 rfl 0 rfl ?_
    refine kgX9_thrown F dX9_pages_18 h3 (fun x2 r3 h4 => ?_)
    refine k_if_le F r3 (tgt := 28) dX9_pages_21 (by decide) h4 (fun h5 => ?_) (fun h6 => ?_)
    · refine k_aload_n F dX9_pages_28 rfl 0 rfl ?_
      refine kgX9_pageMany F dX9_pages_29 ?_
      refine k_iload_n F dX9_pages_32 rfl 1 rfl ?_
      refine k_iald F rfl 22 (aM_21 cI cZ ad) ra1 dX9_pages_33 h5 (fun x3 r4 h7 => ?_)
      exact k_iret F hQ r4 dX9_pages_34 h7
    · refine k_iconst F dX9_pages_24 ?_
      refine k_goto F (tgt := 34) dX9_pages_25 (by decide) ?_
      exact k_iret F hQ iR_0 dX9_pages_34 h6
  · refine k_if_ne F r1 (tgt := 13) dX9_pages_6 (by decide) h8 (fun h9 => ?_) (fun h10 => ?_)
    · refine k_iconst F dX9_pages_13 ?_
      exact k_sub [0, 1] rfl (J1 0 S1 h9 iR_0)
    · refine k_iconst F dX9_pages_9 ?_
      refine k_goto F (tgt := 14) dX9_pages_10 (by decide) ?_
      exact k_sub [0, 1] rfl (J1 1 S1 h10 iR_1)
set_option maxRecDepth 100000 in
theorem c_X9_row {l : Launch} {D : va_G} {A : Nat → Prop} {cI cZ : ClassId} {ad : Nat → Nat} (hD : ∀ S, va_D A (wM cI cZ ad S)) {S : zSt} (hG : RG bsM S) {a1 : Int} (ra1 : inR a1) {x : Int} {S' : zSt} (h : m_X9_row S a1 = some (x, S')) : zMi l yX9_row cX9_row 2 .int { frames := 3, cells := 0, slots := 0, locals := 79 } D cI cZ A (wM cI cZ ad) (RG bsM) [.ref (ad 0), .int (zI a1)] S x S' := by
  refine k_start_i (by decide +kernel) hD hG (Nat.le_of_ble_eq_true rfl) (fun Γ F hQ => ?_)
  have F : zF Γ (wM cI cZ ad) cI cZ cX9_row { frames := 3, cells := 0, slots := 0, locals := 79 } 2 RX9 := F
  refine k_sub [0, 1] (lv' := [(0, .ref (ad 0)), (1, .int (zI a1))]) rfl ?_
  refine k_aload_n F dX9_row_0 rfl 0 rfl ?_
  refine k_aload_n F dX9_row_1 rfl 0 rfl ?_
  refine k_iload_n F dX9_row_2 rfl 1 rfl ?_
  refine k_callVi F cal_X9_isComment wm_171 (obM_0 cI cZ ad) (fun l D A hD hG x S' h => c_X9_isComment hD hG ra1 h) ⟨rfl, rfl, Nat.le_of_ble_eq_true rfl, Nat.le_of_ble_eq_true rfl⟩ rfl rfl (Nat.le_of_ble_eq_true rfl) dX9_row_3 h (fun x1 S1 r1 b1 h1 => ?_)
  refine zj1_e (PJ := (fun v1 S2 => inR v1 → zk Γ (wM cI cZ ad) (RG bsM) S2 [(0, .ref (ad 0)), (1, .int (zI a1))] 14 [.int (zI v1), .ref (ad 0)])) h1 (fun v1 S2 h2 r2 => ?_) (fun j2 J2 h21 => ?_)
  · refine kpX9_thrown F r2 dX9_row_14 h2 (fun S3 h3 => ?_)
    refine k_aload_n F dX9_row_17 rfl 0 rfl ?_
    refine kgX9_thrown F dX9_row_18 h3 (fun x2 r3 h4 => ?_)
    refine k_if_le F r3 (tgt := 26) dX9_row_21 (by decide) h4 (fun h5 => ?_) (fun h6 => ?_)
    · refine k_aload_n F dX9_row_26 rfl 0 rfl ?_
      refine kgX9_lost F dX9_row_27 ?_
      refine k_aload_n F dX9_row_30 rfl 0 rfl ?_
      refine kgX9_roots F dX9_row_31 ?_
      refine k_iload_n F dX9_row_34 rfl 1 rfl ?_
      refine k_iald F rfl 10 (aM_9 cI cZ ad) ra1 dX9_row_35 h5 (fun x3 r4 h7 => ?_)
      refine k_zald01 F rfl 14 (by decide) (aM_13 cI cZ ad) r4 dX9_row_36 h7 (fun x4 r5 z1 h8 => ?_)
      refine zj0_e (PJ := (fun S4 => zk Γ (wM cI cZ ad) (RG bsM) S4 [] 47 [])) h8 (fun S4 h9 => ?_) (fun j1 J1 h10 => ?_)
      · refine k_iconst F dX9_row_47 ?_
        exact k_iret F hQ iR_m1 dX9_row_48 h9
      · refine k_if_ne F r5 (tgt := 47) dX9_row_37 (by decide) h10 (fun h11 => ?_) (fun h12 => ?_)
        · exact k_sub [] rfl (J1 S3 h11)
        · refine k_aload_n F dX9_row_40 rfl 0 rfl ?_
          refine kgX9_editionMany F dX9_row_41 h12 (fun x5 r6 h13 => ?_)
          refine k_if_ne F r6 (tgt := 49) dX9_row_44 (by decide) h13 (fun h14 => ?_) (fun h15 => ?_)
          · refine k_aload_n F dX9_row_49 rfl 0 rfl ?_
            refine k_aload_n F dX9_row_50 rfl 0 rfl ?_
            refine kgX9_widths F dX9_row_51 ?_
            refine k_aload_n F dX9_row_54 rfl 0 rfl ?_
            refine kgX9_editionMany F dX9_row_55 h14 (fun x6 r7 h16 => ?_)
            refine k_iconst F dX9_row_58 ?_
            refine k_isub F dX9_row_59 h16 (fun x7 r8 h17 => ?_)
            refine k_iald F rfl 21 (aM_20 cI cZ ad) r8 dX9_row_60 h17 (fun x8 r9 h18 => ?_)
            refine k_callVv F cal_X9_set wm_205 (obM_0 cI cZ ad) (fun l D A hD hG x S' h => c_X9_set hD hG r9 h) ⟨rfl, rfl, Nat.le_of_ble_eq_true rfl, Nat.le_of_ble_eq_true rfl⟩ rfl rfl (Nat.le_of_ble_eq_true rfl) dX9_row_61 h18 (fun x9 S5 h19 => ?_)
            refine k_aload_n F dX9_row_64 rfl 0 rfl ?_
            refine kgX9_noteRows F dX9_row_65 ?_
            refine k_iload_n F dX9_row_68 rfl 1 rfl ?_
            refine k_iald F rfl 25 (aM_24 cI cZ ad) ra1 dX9_row_69 h19 (fun x10 r11 h20 => ?_)
            exact k_iret F hQ r11 dX9_row_70 h20
          · exact k_sub [] rfl (J1 S3 h15)
    · refine k_iconst F dX9_row_24 ?_
      exact k_iret F hQ iR_0 dX9_row_25 h6
  · refine k_if_ne F r1 (tgt := 13) dX9_row_6 (by decide) h21 (fun h22 => ?_) (fun h23 => ?_)
    · refine k_iconst F dX9_row_13 ?_
      exact k_sub [0, 1] rfl (J2 0 S1 h22 iR_0)
    · refine k_iconst F dX9_row_9 ?_
      refine k_goto F (tgt := 14) dX9_row_10 (by decide) ?_
      exact k_sub [0, 1] rfl (J2 1 S1 h23 iR_1)
