set_option maxRecDepth 100000 in
theorem c_X9_gloss {l : Launch} {D : va_G} {A : Nat → Prop} {cI cZ : ClassId} {ad : Nat → Nat} (hD : ∀ S, va_D A (wM cI cZ ad S)) {S : zSt} (hG : RG bsM S) {a1 : Int} (ra1 : inR a1) {a2 : Int} (ra2 : inR a2) {a3 : Int} (ra3 : inR a3) {a4 : Int} (ra4 : inR a4) {a5 : Int} (ra5 : inR a5) {x : Int} {S' : zSt} (h : m_X9_gloss S a1 a2 a3 a4 a5 = some (x, S')) : zMi l yX9_gloss cX9_gloss 7 .int { frames := 2, cells := 0, slots := 0, locals := 46 } D cI cZ A (wM cI cZ ad) (RG bsM) [.ref (ad 0), .int (zI a1), .int (zI a2), .int (zI a3), .int (zI a4), .int (zI a5)] S x S' := by
  refine k_start_i (by decide +kernel) hD hG (Nat.le_of_ble_eq_true rfl) (fun Γ F hQ => ?_)
  have F : zF Γ (wM cI cZ ad) cI cZ cX9_gloss { frames := 2, cells := 0, slots := 0, locals := 46 } 7 RX9 := F
  refine k_sub [0, 1, 2, 3, 4, 5] (lv' := [(0, .ref (ad 0)), (1, .int (zI a1)), (2, .int (zI a2)), (3, .int (zI a3)), (4, .int (zI a4)), (5, .int (zI a5))]) rfl ?_
  refine k_aload_n F dX9_gloss_0 rfl 0 rfl ?_
  refine k_aload_n F dX9_gloss_1 rfl 0 rfl ?_
  refine k_iload_n F dX9_gloss_2 rfl 1 rfl ?_
  refine k_callVi F cal_X9_isAuthor wm_159 (obM_0 cI cZ ad) (fun l D A hD hG x S' h => c_X9_isAuthor hD hG ra1 h) ⟨rfl, rfl, Nat.le_of_ble_eq_true rfl, Nat.le_of_ble_eq_true rfl⟩ rfl rfl (Nat.le_of_ble_eq_true rfl) dX9_gloss_3 h (fun x1 S1 r1 b1 h1 => ?_)
  refine zj1_e (PJ := (fun v1 S2 => inR v1 → zk Γ (wM cI cZ ad) (RG bsM) S2 [(0, .ref (ad 0)), (1, .int (zI a1)), (2, .int (zI a2)), (3, .int (zI a3)), (4, .int (zI a4)), (5, .int (zI a5))] 38 [.int (zI v1), .ref (ad 0)])) h1 (fun v1 S2 h2 r2 => ?_) (fun j4 J4 h31 => ?_)
  · refine kpX9_thrown F r2 dX9_gloss_38 h2 (fun S3 h3 => ?_)
    refine k_aload_n F dX9_gloss_41 rfl 0 rfl ?_
    refine kgX9_thrown F dX9_gloss_42 h3 (fun x2 r3 h4 => ?_)
    refine zj0_e (PJ := (fun S4 => zk Γ (wM cI cZ ad) (RG bsM) S4 [(0, .ref (ad 0)), (1, .int (zI a1)), (2, .int (zI a2)), (3, .int (zI a3)), (4, .int (zI a4)), (5, .int (zI a5))] 86 [])) h4 (fun S4 h5 => ?_) (fun j1 J1 h15 => ?_)
    · refine k_aload_n F dX9_gloss_86 rfl 0 rfl ?_
      refine kgX9_thrown F dX9_gloss_87 h5 (fun x3 r4 h6 => ?_)
      refine k_if_le F r4 (tgt := 95) dX9_gloss_90 (by decide) h6 (fun h7 => ?_) (fun h8 => ?_)
      · refine k_aload_n F dX9_gloss_95 rfl 0 rfl ?_
        refine k_iload_n F dX9_gloss_96 rfl 1 rfl ?_
        refine k_iload_n F dX9_gloss_97 rfl 3 rfl ?_
        refine k_iload F dX9_gloss_98 4 rfl ?_
        refine k_iload F dX9_gloss_100 5 rfl ?_
        refine k_callVi F cal_X9_added wm_163 (obM_0 cI cZ ad) (fun l D A hD hG x S' h => c_X9_added hD hG ra1 ra3 ra4 ra5 h) ⟨rfl, rfl, Nat.le_of_ble_eq_true rfl, Nat.le_of_ble_eq_true rfl⟩ rfl rfl (Nat.le_of_ble_eq_true rfl) dX9_gloss_102 h7 (fun x4 S5 r5 b2 h9 => ?_)
        refine k_istore F dX9_gloss_105 (by decide) rfl ?_
        refine k_aload_n F dX9_gloss_107 rfl 1 rfl ?_
        refine kgX9_on F dX9_gloss_108 ?_
        refine k_iload F dX9_gloss_111 0 rfl ?_
        refine k_iload_n F dX9_gloss_113 rfl 3 rfl ?_
        refine k_iast F rfl 9 (aM_8 cI cZ ad) (sM_8 cI cZ ad) (by decide) r5 ra2 dX9_gloss_114 h9 (fun S6 h10 => ?_)
        refine k_aload_n F dX9_gloss_115 rfl 1 rfl ?_
        refine kgX9_roots F dX9_gloss_116 ?_
        refine k_iload F dX9_gloss_119 0 rfl ?_
        refine k_aload_n F dX9_gloss_121 rfl 1 rfl ?_
        refine kgX9_roots F dX9_gloss_122 ?_
        refine k_iload_n F dX9_gloss_125 rfl 3 rfl ?_
        refine k_iald F rfl 10 (aM_9 cI cZ ad) ra2 dX9_gloss_126 h10 (fun x5 r6 h11 => ?_)
        refine k_iast F rfl 10 (aM_9 cI cZ ad) (sM_9 cI cZ ad) (by decide) r5 r6 dX9_gloss_127 h11 (fun S7 h12 => ?_)
        refine k_aload_n F dX9_gloss_128 rfl 1 rfl ?_
        refine kgX9_units F dX9_gloss_129 ?_
        refine k_iload F dX9_gloss_132 0 rfl ?_
        refine k_aload_n F dX9_gloss_134 rfl 1 rfl ?_
        refine kgX9_units F dX9_gloss_135 ?_
        refine k_iload_n F dX9_gloss_138 rfl 3 rfl ?_
        refine k_iald F rfl 11 (aM_10 cI cZ ad) ra2 dX9_gloss_139 h12 (fun x6 r7 h13 => ?_)
        refine k_iast F rfl 11 (aM_10 cI cZ ad) (sM_10 cI cZ ad) (by decide) r5 r7 dX9_gloss_140 h13 (fun S8 h14 => ?_)
        refine k_iload F dX9_gloss_141 0 rfl ?_
        exact k_iret F hQ r5 dX9_gloss_143 h14
      · refine k_iconst F dX9_gloss_93 ?_
        exact k_iret F hQ iR_0 dX9_gloss_94 h8
    · refine k_if_ne F r3 (tgt := 86) dX9_gloss_45 (by decide) h15 (fun h16 => ?_) (fun h17 => ?_)
      · exact k_sub [0, 1, 2, 3, 4, 5] rfl (J1 S3 h16)
      · refine k_aload_n F dX9_gloss_48 rfl 0 rfl ?_
        refine k_aload_n F dX9_gloss_49 rfl 0 rfl ?_
        refine kgX9_commentMany F dX9_gloss_50 h17 (fun x7 r8 h18 => ?_)
        refine k_bipush F dX9_gloss_53 bp_60 ?_
        refine zj1_e (PJ := (fun v2 S9 => inR v2 → zk Γ (wM cI cZ ad) (RG bsM) S9 [(0, .ref (ad 0)), (1, .int (zI a1)), (2, .int (zI a2)), (3, .int (zI a3)), (4, .int (zI a4)), (5, .int (zI a5))] 83 [.int (zI v2), .ref (ad 0)])) h18 (fun v2 S9 h19 r9 => ?_) (fun j2 J2 h21 => ?_)
        · refine kpX9_thrown F r9 dX9_gloss_83 h19 (fun S10 h20 => ?_)
          exact k_sub [0, 1, 2, 3, 4, 5] rfl (J1 S10 h20)
        · refine zj0_e (PJ := (fun S11 => zk Γ (wM cI cZ ad) (RG bsM) S11 [(0, .ref (ad 0)), (1, .int (zI a1)), (2, .int (zI a2)), (3, .int (zI a3)), (4, .int (zI a4)), (5, .int (zI a5))] 78 [.ref (ad 0)])) h21 (fun S11 h22 => ?_) (fun j3 J3 h23 => ?_)
          · refine k_iconst F dX9_gloss_78 ?_
            refine k_goto F (tgt := 83) dX9_gloss_79 (by decide) ?_
            exact k_sub [0, 1, 2, 3, 4, 5] rfl (J2 3 S11 h22 iR_3)
          · refine k_icmp_eq F r8 iR_60 (tgt := 78) dX9_gloss_55 (by decide) h23 (fun h24 => ?_) (fun h25 => ?_)
            · exact k_sub [0, 1, 2, 3, 4, 5] rfl (J3 S3 h24)
            · refine k_aload_n F dX9_gloss_58 rfl 0 rfl ?_
              refine kgX9_years F dX9_gloss_59 ?_
              refine k_aload_n F dX9_gloss_62 rfl 0 rfl ?_
              refine kgX9_by F dX9_gloss_63 ?_
              refine k_iload_n F dX9_gloss_66 rfl 2 rfl ?_
              refine k_iald F rfl 7 (aM_6 cI cZ ad) ra2 dX9_gloss_67 h25 (fun x8 r10 h26 => ?_)
              refine k_iald F rfl 4 (aM_3 cI cZ ad) r10 dX9_gloss_68 h26 (fun x9 r11 h27 => ?_)
              refine k_aload_n F dX9_gloss_69 rfl 0 rfl ?_
              refine kgX9_years F dX9_gloss_70 ?_
              refine k_iload_n F dX9_gloss_73 rfl 1 rfl ?_
              refine k_iald F rfl 4 (aM_3 cI cZ ad) ra1 dX9_gloss_74 h27 (fun x10 r12 h28 => ?_)
              refine k_icmp_le F r11 r12 (tgt := 82) dX9_gloss_75 (by decide) h28 (fun h29 => ?_) (fun h30 => ?_)
              · refine k_iconst F dX9_gloss_82 ?_
                exact k_sub [0, 1, 2, 3, 4, 5] rfl (J2 0 S3 h29 iR_0)
              · exact k_sub [0, 1, 2, 3, 4, 5] rfl (J3 S3 h30)
  · refine zj0_e (PJ := (fun S12 => zk Γ (wM cI cZ ad) (RG bsM) S12 [(0, .ref (ad 0)), (1, .int (zI a1)), (2, .int (zI a2)), (3, .int (zI a3)), (4, .int (zI a4)), (5, .int (zI a5))] 17 [.ref (ad 0)])) h31 (fun S12 h32 => ?_) (fun j5 J5 h33 => ?_)
    · refine k_iconst F dX9_gloss_17 ?_
      refine k_goto F (tgt := 38) dX9_gloss_18 (by decide) ?_
      exact k_sub [0, 1, 2, 3, 4, 5] rfl (J4 1 S12 h32 iR_1)
    · refine k_if_eq F r1 (tgt := 17) dX9_gloss_6 (by decide) h33 (fun h34 => ?_) (fun h35 => ?_)
      · exact k_sub [0, 1, 2, 3, 4, 5] rfl (J5 S1 h34)
      · refine k_aload_n F dX9_gloss_9 rfl 0 rfl ?_
        refine k_iload_n F dX9_gloss_10 rfl 2 rfl ?_
        refine k_callVi F cal_X9_isComment wm_171 (obM_0 cI cZ ad) (fun l D A hD hG x S' h => c_X9_isComment hD hG ra2 h) ⟨rfl, rfl, Nat.le_of_ble_eq_true rfl, Nat.le_of_ble_eq_true rfl⟩ rfl rfl (Nat.le_of_ble_eq_true rfl) dX9_gloss_11 h35 (fun x11 S13 r13 b3 h36 => ?_)
        refine k_if_ne F r13 (tgt := 21) dX9_gloss_14 (by decide) h36 (fun h37 => ?_) (fun h38 => ?_)
        · refine k_aload_n F dX9_gloss_21 rfl 0 rfl ?_
          refine k_iload_n F dX9_gloss_22 rfl 3 rfl ?_
          refine k_iload F dX9_gloss_23 4 rfl ?_
          refine k_iload F dX9_gloss_25 5 rfl ?_
          refine k_callVi F cal_X9_isNote wm_167 (obM_0 cI cZ ad) (fun l D A hD hG x S' h => c_X9_isNote hD hG ra3 ra4 ra5 h) ⟨rfl, rfl, Nat.le_of_ble_eq_true rfl, Nat.le_of_ble_eq_true rfl⟩ rfl rfl (Nat.le_of_ble_eq_true rfl) dX9_gloss_27 h37 (fun x12 S14 r14 b4 h39 => ?_)
          refine k_if_ne F r14 (tgt := 37) dX9_gloss_30 (by decide) h39 (fun h40 => ?_) (fun h41 => ?_)
          · refine k_iconst F dX9_gloss_37 ?_
            exact k_sub [0, 1, 2, 3, 4, 5] rfl (J4 0 S14 h40 iR_0)
          · refine k_iconst F dX9_gloss_33 ?_
            refine k_goto F (tgt := 38) dX9_gloss_34 (by decide) ?_
            exact k_sub [0, 1, 2, 3, 4, 5] rfl (J4 2 S14 h41 iR_2)
        · exact k_sub [0, 1, 2, 3, 4, 5] rfl (J5 S13 h38)
set_option maxRecDepth 100000 in
theorem c_X9_layStands {l : Launch} {D : va_G} {A : Nat → Prop} {cI cZ : ClassId} {ad : Nat → Nat} (hD : ∀ S, va_D A (wM cI cZ ad S)) {S : zSt} (hG : RG bsM S) {x : Int} {S' : zSt} (h : m_X9_layStands S  = some (x, S')) : zMv l yX9_layStands cX9_layStands 5 { frames := 0, cells := 0, slots := 0, locals := 0 } D cI cZ A (wM cI cZ ad) (RG bsM) [.ref (ad 0)] S S' := by
  refine k_start_v (by decide +kernel) hD hG (Nat.le_of_ble_eq_true rfl) (fun Γ F hQ => ?_)
  have F : zF Γ (wM cI cZ ad) cI cZ cX9_layStands { frames := 0, cells := 0, slots := 0, locals := 0 } 5 RX9 := F
  refine k_sub [0] (lv' := [(0, .ref (ad 0))]) rfl ?_
  refine k_aload_n F dX9_layStands_0 rfl 0 rfl ?_
  refine kgX9_commentMany F dX9_layStands_1 h (fun x1 r1 h1 => ?_)
  refine k_iconst F dX9_layStands_4 ?_
  refine k_isub F dX9_layStands_5 h1 (fun x2 r2 h2 => ?_)
  refine k_istore_n F dX9_layStands_6 rfl (by decide) rfl ?_
  refine k_sub [1, 0] rfl (zl1_e (F := b_X9_layStands_7) (fun v1 S1 => inR v1 → zk Γ (wM cI cZ ad) (RG bsM) S1 [(0, .ref (ad 0)), (1, .int (zI v1))] 7 []) (fun rec1 v1 S1 hrec1 h3 r3 => ?_) 1000 x2 S h2 r2)
  refine k_iload_n F dX9_layStands_7 rfl 1 rfl ?_
  refine k_if_lt F r3 (tgt := 129) dX9_layStands_8 (by decide) h3 (fun h4 => ?_) (fun h5 => ?_)
  · exact k_vret F hQ dX9_layStands_129 h4
  · refine k_iconst F dX9_layStands_11 ?_
    refine k_istore_n F dX9_layStands_12 rfl (by decide) rfl ?_
    refine k_iconst F dX9_layStands_13 ?_
    refine k_istore_n F dX9_layStands_14 rfl (by decide) rfl ?_
    refine k_iload_n F dX9_layStands_15 rfl 3 rfl ?_
    refine k_iconst F dX9_layStands_16 ?_
    refine k_iadd F dX9_layStands_17 h5 (fun x3 r4 h6 => ?_)
    refine k_istore F dX9_layStands_18 (by decide) rfl ?_
    refine zj2_e (PJ := (fun v2 v3 S2 => inR v2 → inR v3 → zk Γ (wM cI cZ ad) (RG bsM) S2 [(0, .ref (ad 0)), (1, .int (zI v1)), (2, .int (zI v2)), (3, .int (zI v3))] 105 [])) h6 (fun v2 v3 S2 h7 r5 r6 => ?_) (fun j2 J2 h16 => ?_)
    · refine k_aload_n F dX9_layStands_105 rfl 0 rfl ?_
      refine kgX9_stands F dX9_layStands_106 ?_
      refine k_iload_n F dX9_layStands_109 rfl 1 rfl ?_
      refine k_iload_n F dX9_layStands_110 rfl 2 rfl ?_
      refine k_iconst F dX9_layStands_111 ?_
      refine k_iload_n F dX9_layStands_112 rfl 3 rfl ?_
      refine k_iadd F dX9_layStands_113 h7 (fun x4 r7 h8 => ?_)
      refine zj1_e (PJ := (fun v4 S3 => inR v4 → zk Γ (wM cI cZ ad) (RG bsM) S3 [(0, .ref (ad 0)), (1, .int (zI v1))] 122 [.int (zI v4), .int (zI v1), .ref (ad 17)])) h8 (fun v4 S3 h9 r8 => ?_) (fun j1 J1 h13 => ?_)
      · obtain ⟨z1, h10⟩ := zc01_e h9
        refine k_zast F rfl 17 (aM_16 cI cZ ad) (sM_16 cI cZ ad) r3 z1 dX9_layStands_122 h10 (fun S4 h11 => ?_)
        refine k_iinc F (k := 1) (lv' := fun y => [(1, .int (zI y)), (0, .ref (ad 0))]) dX9_layStands_123 rfl (by decide) (fun _ => rfl) h11 (fun x5 r9 h12 => ?_)
        refine k_goto F (tgt := 7) dX9_layStands_126 (by decide) ?_
        exact k_sub [1, 0] rfl (hrec1 x5 S4 h12 r9)
      · refine k_icmp_ge F r5 r7 (tgt := 121) dX9_layStands_114 (by decide) h13 (fun h14 => ?_) (fun h15 => ?_)
        · refine k_iconst F dX9_layStands_121 ?_
          exact k_sub [0, 1] rfl (J1 0 S2 h14 iR_0)
        · refine k_iconst F dX9_layStands_117 ?_
          refine k_goto F (tgt := 122) dX9_layStands_118 (by decide) ?_
          exact k_sub [0, 1] rfl (J1 1 S2 h15 iR_1)
    · refine k_sub [3, 4, 2, 1, 0] rfl (zl3_e (F := (b_X9_layStands_20 j2 v1)) (fun v5 v6 v7 S5 => inR v5 → inR v6 → inR v7 → zk Γ (wM cI cZ ad) (RG bsM) S5 [(0, .ref (ad 0)), (1, .int (zI v1)), (2, .int (zI v5)), (3, .int (zI v6)), (4, .int (zI v7))] 20 []) (fun rec2 v5 v6 v7 S5 hrec2 h17 r10 r11 r12 => ?_) 1000 0 0 x3 S1 h16 iR_0 iR_0 r4)
      refine k_iload F dX9_layStands_20 4 rfl ?_
      refine k_aload_n F dX9_layStands_22 rfl 0 rfl ?_
      refine kgX9_commentMany F dX9_layStands_23 h17 (fun x6 r13 h18 => ?_)
      refine k_icmp_ge F r12 r13 (tgt := 105) dX9_layStands_26 (by decide) h18 (fun h19 => ?_) (fun h20 => ?_)
      · exact k_sub [0, 1, 2, 3] rfl (J2 v5 v6 S5 h19 r10 r11)
      · refine k_aload_n F dX9_layStands_29 rfl 0 rfl ?_
        refine kgX9_on F dX9_layStands_30 ?_
        refine k_iload F dX9_layStands_33 4 rfl ?_
        refine k_iald F rfl 9 (aM_8 cI cZ ad) r12 dX9_layStands_35 h20 (fun x7 r14 h21 => ?_)
        refine k_iload_n F dX9_layStands_36 rfl 1 rfl ?_
        refine zj2_e (PJ := (fun v8 v9 S6 => inR v8 → inR v9 → zk Γ (wM cI cZ ad) (RG bsM) S6 [(0, .ref (ad 0)), (1, .int (zI v1)), (2, .int (zI v8)), (3, .int (zI v9)), (4, .int (zI v7))] 99 [])) h21 (fun v8 v9 S6 h22 r15 r16 => ?_) (fun j3 J3 h24 => ?_)
        · refine k_iinc F (k := 4) (lv' := fun y => [(4, .int (zI y)), (0, .ref (ad 0)), (1, .int (zI v1)), (2, .int (zI v8)), (3, .int (zI v9))]) dX9_layStands_99 rfl (by decide) (fun _ => rfl) h22 (fun x8 r17 h23 => ?_)
          refine k_goto F (tgt := 20) dX9_layStands_102 (by decide) ?_
          exact k_sub [1, 2, 3, 4, 0] rfl (hrec2 v8 v9 x8 S6 h23 r15 r16 r17)
        · refine k_icmp_ne F r14 r3 (tgt := 99) dX9_layStands_37 (by decide) h24 (fun h25 => ?_) (fun h26 => ?_)
          · exact k_sub [0, 1, 2, 3, 4] rfl (J3 v5 v6 S5 h25 r10 r11)
          · refine k_aload_n F dX9_layStands_40 rfl 0 rfl ?_
            refine kgX9_stands F dX9_layStands_41 ?_
            refine k_iload F dX9_layStands_44 4 rfl ?_
            refine k_zald01 F rfl 17 (by decide) (aM_16 cI cZ ad) r12 dX9_layStands_46 h26 (fun x9 r18 z2 h27 => ?_)
            refine k_if_eq F r18 (tgt := 99) dX9_layStands_47 (by decide) h27 (fun h28 => ?_) (fun h29 => ?_)
            · exact k_sub [0, 1, 2, 3, 4] rfl (J3 v5 v6 S5 h28 r10 r11)
            · refine k_iload_n F dX9_layStands_50 rfl 2 rfl ?_
              refine k_aload_n F dX9_layStands_51 rfl 0 rfl ?_
              refine kgX9_kinds F dX9_layStands_52 ?_
              refine k_iload F dX9_layStands_55 4 rfl ?_
              refine k_iald F rfl 8 (aM_7 cI cZ ad) r12 dX9_layStands_57 h29 (fun x10 r19 h30 => ?_)
              refine k_iconst F dX9_layStands_58 ?_
              refine zj1_e (PJ := (fun v10 S7 => inR v10 → zk Γ (wM cI cZ ad) (RG bsM) S7 [(0, .ref (ad 0)), (1, .int (zI v1)), (3, .int (zI v6)), (4, .int (zI v7))] 78 [.int (zI v10), .int (zI v5)])) h30 (fun v10 S7 h31 r20 => ?_) (fun j5 J5 h39 => ?_)
              · refine k_iadd F dX9_layStands_78 h31 (fun x11 r21 h32 => ?_)
                refine k_istore_n F dX9_layStands_79 rfl (by decide) rfl ?_
                refine k_iload_n F dX9_layStands_80 rfl 3 rfl ?_
                refine k_aload_n F dX9_layStands_81 rfl 1 rfl ?_
                refine kgX9_kinds F dX9_layStands_82 ?_
                refine k_iload F dX9_layStands_85 4 rfl ?_
                refine k_iald F rfl 8 (aM_7 cI cZ ad) r12 dX9_layStands_87 h32 (fun x12 r22 h33 => ?_)
                refine k_iconst F dX9_layStands_88 ?_
                refine zj1_e (PJ := (fun v11 S8 => inR v11 → zk Γ (wM cI cZ ad) (RG bsM) S8 [(0, .ref (ad 0)), (1, .int (zI v1)), (2, .int (zI x11)), (4, .int (zI v7))] 97 [.int (zI v11), .int (zI v6)])) h33 (fun v11 S8 h34 r23 => ?_) (fun j4 J4 h36 => ?_)
                · refine k_iadd F dX9_layStands_97 h34 (fun x13 r24 h35 => ?_)
                  refine k_istore_n F dX9_layStands_98 rfl (by decide) rfl ?_
                  exact k_sub [1, 2, 3, 0, 4] rfl (J3 x11 x13 S8 h35 r21 r24)
                · refine k_icmp_ne F r22 iR_2 (tgt := 96) dX9_layStands_89 (by decide) h36 (fun h37 => ?_) (fun h38 => ?_)
                  · refine k_iconst F dX9_layStands_96 ?_
                    exact k_sub [1, 2, 0, 4] rfl (J4 0 S7 h37 iR_0)
                  · refine k_iconst F dX9_layStands_92 ?_
                    refine k_goto F (tgt := 97) dX9_layStands_93 (by decide) ?_
                    exact k_sub [1, 2, 0, 4] rfl (J4 1 S7 h38 iR_1)
              · refine zj0_e (PJ := (fun S9 => zk Γ (wM cI cZ ad) (RG bsM) S9 [(0, .ref (ad 0)), (1, .int (zI v1)), (3, .int (zI v6)), (4, .int (zI v7))] 73 [.int (zI v5)])) h39 (fun S9 h40 => ?_) (fun j6 J6 h41 => ?_)
                · refine k_iconst F dX9_layStands_73 ?_
                  refine k_goto F (tgt := 78) dX9_layStands_74 (by decide) ?_
                  exact k_sub [0, 1, 2, 3] rfl (J5 1 S9 h40 iR_1)
                · refine k_icmp_eq F r19 iR_1 (tgt := 73) dX9_layStands_59 (by decide) h41 (fun h42 => ?_) (fun h43 => ?_)
                  · exact k_sub [0, 1, 3, 4] rfl (J6 S5 h42)
                  · refine k_aload_n F dX9_layStands_62 rfl 0 rfl ?_
                    refine kgX9_kinds F dX9_layStands_63 ?_
                    refine k_iload F dX9_layStands_66 4 rfl ?_
                    refine k_iald F rfl 8 (aM_7 cI cZ ad) r12 dX9_layStands_68 h43 (fun x14 r25 h44 => ?_)
                    refine k_iconst F dX9_layStands_69 ?_
                    refine k_icmp_ne F r25 iR_3 (tgt := 77) dX9_layStands_70 (by decide) h44 (fun h45 => ?_) (fun h46 => ?_)
                    · refine k_iconst F dX9_layStands_77 ?_
                      exact k_sub [0, 1, 3, 4] rfl (J5 0 S5 h45 iR_0)
                    · exact k_sub [0, 1, 3, 4] rfl (J6 S5 h46)
set_option maxRecDepth 100000 in
theorem c_X9_told {l : Launch} {D : va_G} {A : Nat → Prop} {cI cZ : ClassId} {ad : Nat → Nat} (hD : ∀ S, va_D A (wM cI cZ ad S)) {S : zSt} (hG : RG bsM S) {a1 : Int} (ra1 : inR a1) {a2 : Int} (ra2 : inR a2) {x : Int} {S' : zSt} (h : m_X9_told S a1 a2 = some (x, S')) : zMi l yX9_told cX9_told 3 .int { frames := 2, cells := 0, slots := 0, locals := 44 } D cI cZ A (wM cI cZ ad) (RG bsM) [.ref (ad 0), .int (zI a1), .int (zI a2)] S x S' := by
  refine k_start_i (by decide +kernel) hD hG (Nat.le_of_ble_eq_true rfl) (fun Γ F hQ => ?_)
  have F : zF Γ (wM cI cZ ad) cI cZ cX9_told { frames := 2, cells := 0, slots := 0, locals := 44 } 3 RX9 := F
  refine k_sub [0, 1, 2] (lv' := [(0, .ref (ad 0)), (1, .int (zI a1)), (2, .int (zI a2))]) rfl ?_
  refine k_aload_n F dX9_told_0 rfl 0 rfl ?_
  refine k_aload_n F dX9_told_1 rfl 0 rfl ?_
  refine k_iload_n F dX9_told_2 rfl 1 rfl ?_
  refine k_callVi F cal_X9_isComment wm_171 (obM_0 cI cZ ad) (fun l D A hD hG x S' h => c_X9_isComment hD hG ra1 h) ⟨rfl, rfl, Nat.le_of_ble_eq_true rfl, Nat.le_of_ble_eq_true rfl⟩ rfl rfl (Nat.le_of_ble_eq_true rfl) dX9_told_3 h (fun x1 S1 r1 b1 h1 => ?_)
  refine zj1_e (PJ := (fun v1 S2 => inR v1 → zk Γ (wM cI cZ ad) (RG bsM) S2 [(0, .ref (ad 0)), (1, .int (zI a1)), (2, .int (zI a2))] 29 [.int (zI v1), .ref (ad 0)])) h1 (fun v1 S2 h2 r2 => ?_) (fun j1 J1 h28 => ?_)
  · refine kpX9_thrown F r2 dX9_told_29 h2 (fun S3 h3 => ?_)
    refine k_aload_n F dX9_told_32 rfl 0 rfl ?_
    refine kgX9_thrown F dX9_told_33 h3 (fun x2 r3 h4 => ?_)
    refine k_if_le F r3 (tgt := 41) dX9_told_36 (by decide) h4 (fun h5 => ?_) (fun h6 => ?_)
    · refine k_aload_n F dX9_told_41 rfl 0 rfl ?_
      refine k_callVv F cal_X9_layStands wm_175 (obM_0 cI cZ ad) (fun l D A hD hG x S' h => c_X9_layStands hD hG h) ⟨rfl, rfl, Nat.le_of_ble_eq_true rfl, Nat.le_of_ble_eq_true rfl⟩ rfl rfl (Nat.le_of_ble_eq_true rfl) dX9_told_42 h5 (fun x3 S4 h7 => ?_)
      refine k_iload_n F dX9_told_45 rfl 2 rfl ?_
      refine k_tsw6 F ra2 dX9_told_46 (t0 := 84) (t1 := 91) (t2 := 98) (t3 := 110) (t4 := 130) (t5 := 145) (td := 152) rfl rfl rfl rfl rfl rfl (by decide) (by decide) (by decide) (by decide) (by decide) (by decide) (by decide) h7 (fun h8 => ?_) (fun h9 => ?_) (fun h10 => ?_) (fun h11 => ?_) (fun h12 => ?_) (fun h13 => ?_) (fun h14 => ?_)
      · refine k_aload_n F dX9_told_84 rfl 0 rfl ?_
        refine kgX9_by F dX9_told_85 ?_
        refine k_iload_n F dX9_told_88 rfl 1 rfl ?_
        refine k_iald F rfl 7 (aM_6 cI cZ ad) ra1 dX9_told_89 h8 (fun x4 r5 h15 => ?_)
        exact k_iret F hQ r5 dX9_told_90 h15
      · refine k_aload_n F dX9_told_91 rfl 0 rfl ?_
        refine kgX9_units F dX9_told_92 ?_
        refine k_iload_n F dX9_told_95 rfl 1 rfl ?_
        refine k_iald F rfl 11 (aM_10 cI cZ ad) ra1 dX9_told_96 h9 (fun x5 r6 h16 => ?_)
        exact k_iret F hQ r6 dX9_told_97 h16
      · refine k_aload_n F dX9_told_98 rfl 0 rfl ?_
        refine kgX9_places F dX9_told_99 ?_
        refine k_aload_n F dX9_told_102 rfl 0 rfl ?_
        refine kgX9_roots F dX9_told_103 ?_
        refine k_iload_n F dX9_told_106 rfl 1 rfl ?_
        refine k_iald F rfl 10 (aM_9 cI cZ ad) ra1 dX9_told_107 h10 (fun x6 r7 h17 => ?_)
        refine k_iald F rfl 13 (aM_12 cI cZ ad) r7 dX9_told_108 h17 (fun x7 r8 h18 => ?_)
        exact k_iret F hQ r8 dX9_told_109 h18
      · refine k_aload_n F dX9_told_110 rfl 0 rfl ?_
        refine kgX9_lost F dX9_told_111 ?_
        refine k_aload_n F dX9_told_114 rfl 0 rfl ?_
        refine kgX9_roots F dX9_told_115 ?_
        refine k_iload_n F dX9_told_118 rfl 1 rfl ?_
        refine k_iald F rfl 10 (aM_9 cI cZ ad) ra1 dX9_told_119 h11 (fun x8 r9 h19 => ?_)
        refine k_zald01 F rfl 14 (by decide) (aM_13 cI cZ ad) r9 dX9_told_120 h19 (fun x9 r10 z1 h20 => ?_)
        refine k_if_eq F r10 (tgt := 128) dX9_told_121 (by decide) h20 (fun h21 => ?_) (fun h22 => ?_)
        · refine k_iconst F dX9_told_128 ?_
          exact k_iret F hQ iR_0 dX9_told_129 h21
        · refine k_iconst F dX9_told_124 ?_
          refine k_goto F (tgt := 129) dX9_told_125 (by decide) ?_
          exact k_iret F hQ iR_1 dX9_told_129 h22
      · refine k_aload_n F dX9_told_130 rfl 0 rfl ?_
        refine kgX9_stands F dX9_told_131 ?_
        refine k_iload_n F dX9_told_134 rfl 1 rfl ?_
        refine k_zald01 F rfl 17 (by decide) (aM_16 cI cZ ad) ra1 dX9_told_135 h12 (fun x10 r11 z2 h23 => ?_)
        refine k_if_eq F r11 (tgt := 143) dX9_told_136 (by decide) h23 (fun h24 => ?_) (fun h25 => ?_)
        · refine k_iconst F dX9_told_143 ?_
          exact k_iret F hQ iR_0 dX9_told_144 h24
        · refine k_iconst F dX9_told_139 ?_
          refine k_goto F (tgt := 144) dX9_told_140 (by decide) ?_
          exact k_iret F hQ iR_1 dX9_told_144 h25
      · refine k_aload_n F dX9_told_145 rfl 0 rfl ?_
        refine kgX9_on F dX9_told_146 ?_
        refine k_iload_n F dX9_told_149 rfl 1 rfl ?_
        refine k_iald F rfl 9 (aM_8 cI cZ ad) ra1 dX9_told_150 h13 (fun x11 r12 h26 => ?_)
        exact k_iret F hQ r12 dX9_told_151 h26
      · refine k_aload_n F dX9_told_152 rfl 0 rfl ?_
        refine kgX9_kinds F dX9_told_153 ?_
        refine k_iload_n F dX9_told_156 rfl 1 rfl ?_
        refine k_iald F rfl 8 (aM_7 cI cZ ad) ra1 dX9_told_157 h14 (fun x12 r13 h27 => ?_)
        exact k_iret F hQ r13 dX9_told_158 h27
    · refine k_iconst F dX9_told_39 ?_
      exact k_iret F hQ iR_0 dX9_told_40 h6
  · refine k_if_ne F r1 (tgt := 13) dX9_told_6 (by decide) h28 (fun h29 => ?_) (fun h30 => ?_)
    · refine k_aload_n F dX9_told_13 rfl 0 rfl ?_
      refine k_iload_n F dX9_told_14 rfl 2 rfl ?_
      refine k_iconst F dX9_told_15 ?_
      refine k_bipush F dX9_told_16 bp_6 ?_
      refine k_callVi F cal_X9_between wm_144 (obM_0 cI cZ ad) (fun l D A hD hG x S' h => c_X9_between hD hG ra2 iR_0 iR_6 h) ⟨rfl, rfl, Nat.le_of_ble_eq_true rfl, Nat.le_of_ble_eq_true rfl⟩ rfl rfl (Nat.le_of_ble_eq_true rfl) dX9_told_18 h29 (fun x13 S5 r14 b3 h31 => ?_)
      refine k_if_ne F r14 (tgt := 28) dX9_told_21 (by decide) h31 (fun h32 => ?_) (fun h33 => ?_)
      · refine k_iconst F dX9_told_28 ?_
        exact k_sub [0, 1, 2] rfl (J1 0 S5 h32 iR_0)
      · refine k_iconst F dX9_told_24 ?_
        refine k_goto F (tgt := 29) dX9_told_25 (by decide) ?_
        exact k_sub [0, 1, 2] rfl (J1 2 S5 h33 iR_2)
    · refine k_iconst F dX9_told_9 ?_
      refine k_goto F (tgt := 29) dX9_told_10 (by decide) ?_
      exact k_sub [0, 1, 2] rfl (J1 1 S1 h30 iR_1)
set_option maxRecDepth 100000 in
theorem c_X9_standsAnew {l : Launch} {D : va_G} {A : Nat → Prop} {cI cZ : ClassId} {ad : Nat → Nat} (hD : ∀ S, va_D A (wM cI cZ ad S)) {S : zSt} (hG : RG bsM S) {a1 : Int} (ra1 : inR a1) {x : Int} {S' : zSt} (h : m_X9_standsAnew S a1 = some (x, S')) : zMi l yX9_standsAnew cX9_standsAnew 2 .boolean { frames := 2, cells := 0, slots := 0, locals := 44 } D cI cZ A (wM cI cZ ad) (RG bsM) [.ref (ad 0), .int (zI a1)] S x S' := by
  refine k_start_i (by decide +kernel) hD hG (Nat.le_of_ble_eq_true rfl) (fun Γ F hQ => ?_)
  have F : zF Γ (wM cI cZ ad) cI cZ cX9_standsAnew { frames := 2, cells := 0, slots := 0, locals := 44 } 2 RX9 := F
  refine k_sub [0, 1] (lv' := [(0, .ref (ad 0)), (1, .int (zI a1))]) rfl ?_
  refine k_aload_n F dX9_standsAnew_0 rfl 0 rfl ?_
  refine k_aload_n F dX9_standsAnew_1 rfl 0 rfl ?_
  refine k_iload_n F dX9_standsAnew_2 rfl 1 rfl ?_
  refine k_callVi F cal_X9_isComment wm_171 (obM_0 cI cZ ad) (fun l D A hD hG x S' h => c_X9_isComment hD hG ra1 h) ⟨rfl, rfl, Nat.le_of_ble_eq_true rfl, Nat.le_of_ble_eq_true rfl⟩ rfl rfl (Nat.le_of_ble_eq_true rfl) dX9_standsAnew_3 h (fun x1 S1 r1 b1 h1 => ?_)
  refine zj1_e (PJ := (fun v1 S2 => inR v1 → zk Γ (wM cI cZ ad) (RG bsM) S2 [(0, .ref (ad 0)), (1, .int (zI a1))] 14 [.int (zI v1), .ref (ad 0)])) h1 (fun v1 S2 h2 r2 => ?_) (fun j1 J1 h9 => ?_)
  · refine kpX9_thrown F r2 dX9_standsAnew_14 h2 (fun S3 h3 => ?_)
    refine k_aload_n F dX9_standsAnew_17 rfl 0 rfl ?_
    refine kgX9_thrown F dX9_standsAnew_18 h3 (fun x2 r3 h4 => ?_)
    refine k_if_le F r3 (tgt := 26) dX9_standsAnew_21 (by decide) h4 (fun h5 => ?_) (fun h6 => ?_)
    · refine k_aload_n F dX9_standsAnew_26 rfl 0 rfl ?_
      refine k_callVv F cal_X9_layStands wm_175 (obM_0 cI cZ ad) (fun l D A hD hG x S' h => c_X9_layStands hD hG h) ⟨rfl, rfl, Nat.le_of_ble_eq_true rfl, Nat.le_of_ble_eq_true rfl⟩ rfl rfl (Nat.le_of_ble_eq_true rfl) dX9_standsAnew_27 h5 (fun x3 S4 h7 => ?_)
      refine k_aload_n F dX9_standsAnew_30 rfl 0 rfl ?_
      refine kgX9_stands F dX9_standsAnew_31 ?_
      refine k_iload_n F dX9_standsAnew_34 rfl 1 rfl ?_
      refine k_zald01 F rfl 17 (by decide) (aM_16 cI cZ ad) ra1 dX9_standsAnew_35 h7 (fun x4 r5 z1 h8 => ?_)
      exact k_zret F hQ z1 dX9_standsAnew_36 h8
    · refine k_iconst F dX9_standsAnew_24 ?_
      exact k_zret F hQ (Or.inl rfl) dX9_standsAnew_25 h6
  · refine k_if_ne F r1 (tgt := 13) dX9_standsAnew_6 (by decide) h9 (fun h10 => ?_) (fun h11 => ?_)
    · refine k_iconst F dX9_standsAnew_13 ?_
      exact k_sub [0, 1] rfl (J1 0 S1 h10 iR_0)
    · refine k_iconst F dX9_standsAnew_9 ?_
      refine k_goto F (tgt := 14) dX9_standsAnew_10 (by decide) ?_
      exact k_sub [0, 1] rfl (J1 1 S1 h11 iR_1)
set_option maxRecDepth 100000 in
theorem c_X9_asks {l : Launch} {D : va_G} {A : Nat → Prop} {cI cZ : ClassId} {ad : Nat → Nat} (hD : ∀ S, va_D A (wM cI cZ ad S)) {S : zSt} (hG : RG bsM S) {a1 : Int} (ra1 : inR a1) {x : Int} {S' : zSt} (h : m_X9_asks S a1 = some (x, S')) : zMi l yX9_asks cX9_asks 2 .boolean { frames := 0, cells := 0, slots := 0, locals := 0 } D cI cZ A (wM cI cZ ad) (RG bsM) [.ref (ad 0), .int (zI a1)] S x S' := by
  refine k_start_i (by decide +kernel) hD hG (Nat.le_of_ble_eq_true rfl) (fun Γ F hQ => ?_)
  have F : zF Γ (wM cI cZ ad) cI cZ cX9_asks { frames := 0, cells := 0, slots := 0, locals := 0 } 2 RX9 := F
  refine k_sub [0, 1] (lv' := [(0, .ref (ad 0)), (1, .int (zI a1))]) rfl ?_
  refine k_aload_n F dX9_asks_0 rfl 0 rfl ?_
  refine kgX9_on F dX9_asks_1 ?_
  refine k_iload_n F dX9_asks_4 rfl 1 rfl ?_
  refine k_iald F rfl 9 (aM_8 cI cZ ad) ra1 dX9_asks_5 h (fun x1 r1 h1 => ?_)
  refine k_iconst F dX9_asks_6 ?_
  refine zj0_e (PJ := (fun S1 => zk Γ (wM cI cZ ad) (RG bsM) S1 [] 33 [])) h1 (fun S1 h2 => ?_) (fun j1 J1 h3 => ?_)
  · refine k_iconst F dX9_asks_33 ?_
    exact k_zret F hQ (Or.inl rfl) dX9_asks_34 h2
  · refine k_icmp_ne F r1 iR_m1 (tgt := 33) dX9_asks_7 (by decide) h3 (fun h4 => ?_) (fun h5 => ?_)
    · exact k_sub [] rfl (J1 S h4)
    · refine k_aload_n F dX9_asks_10 rfl 0 rfl ?_
      refine kgX9_kinds F dX9_asks_11 ?_
      refine k_iload_n F dX9_asks_14 rfl 1 rfl ?_
      refine k_iald F rfl 8 (aM_7 cI cZ ad) ra1 dX9_asks_15 h5 (fun x2 r2 h6 => ?_)
      refine zj0_e (PJ := (fun S2 => zk Γ (wM cI cZ ad) (RG bsM) S2 [] 29 [])) h6 (fun S2 h7 => ?_) (fun j2 J2 h8 => ?_)
      · refine k_iconst F dX9_asks_29 ?_
        refine k_goto F (tgt := 34) dX9_asks_30 (by decide) ?_
        exact k_zret F hQ (Or.inr rfl) dX9_asks_34 h7
      · refine k_if_eq F r2 (tgt := 29) dX9_asks_16 (by decide) h8 (fun h9 => ?_) (fun h10 => ?_)
        · exact k_sub [] rfl (J2 S h9)
        · refine k_aload_n F dX9_asks_19 rfl 0 rfl ?_
          refine kgX9_kinds F dX9_asks_20 ?_
          refine k_iload_n F dX9_asks_23 rfl 1 rfl ?_
          refine k_iald F rfl 8 (aM_7 cI cZ ad) ra1 dX9_asks_24 h10 (fun x3 r3 h11 => ?_)
          refine k_iconst F dX9_asks_25 ?_
          refine k_icmp_ne F r3 iR_1 (tgt := 33) dX9_asks_26 (by decide) h11 (fun h12 => ?_) (fun h13 => ?_)
          · exact k_sub [] rfl (J1 S h12)
          · exact k_sub [] rfl (J2 S h13)
set_option maxRecDepth 100000 in
theorem c_X9_isHard {l : Launch} {D : va_G} {A : Nat → Prop} {cI cZ : ClassId} {ad : Nat → Nat} (hD : ∀ S, va_D A (wM cI cZ ad S)) {S : zSt} (hG : RG bsM S) {a1 : Int} (ra1 : inR a1) {x : Int} {S' : zSt} (h : m_X9_isHard S a1 = some (x, S')) : zMi l yX9_isHard cX9_isHard 4 .boolean { frames := 2, cells := 0, slots := 0, locals := 44 } D cI cZ A (wM cI cZ ad) (RG bsM) [.ref (ad 0), .int (zI a1)] S x S' := by
  refine k_start_i (by decide +kernel) hD hG (Nat.le_of_ble_eq_true rfl) (fun Γ F hQ => ?_)
  have F : zF Γ (wM cI cZ ad) cI cZ cX9_isHard { frames := 2, cells := 0, slots := 0, locals := 44 } 4 RX9 := F
  refine k_sub [0, 1] (lv' := [(0, .ref (ad 0)), (1, .int (zI a1))]) rfl ?_
  refine k_aload_n F dX9_isHard_0 rfl 0 rfl ?_
  refine k_aload_n F dX9_isHard_1 rfl 0 rfl ?_
  refine k_iload_n F dX9_isHard_2 rfl 1 rfl ?_
  refine k_callVi F cal_X9_isUnit wm_151 (obM_0 cI cZ ad) (fun l D A hD hG x S' h => c_X9_isUnit hD hG ra1 h) ⟨rfl, rfl, Nat.le_of_ble_eq_true rfl, Nat.le_of_ble_eq_true rfl⟩ rfl rfl (Nat.le_of_ble_eq_true rfl) dX9_isHard_3 h (fun x1 S1 r1 b1 h1 => ?_)
  refine zj1_e (PJ := (fun v1 S2 => inR v1 → zk Γ (wM cI cZ ad) (RG bsM) S2 [(0, .ref (ad 0)), (1, .int (zI a1))] 14 [.int (zI v1), .ref (ad 0)])) h1 (fun v1 S2 h2 r2 => ?_) (fun j5 J5 h33 => ?_)
  · refine kpX9_thrown F r2 dX9_isHard_14 h2 (fun S3 h3 => ?_)
    refine k_aload_n F dX9_isHard_17 rfl 0 rfl ?_
    refine k_callVv F cal_X9_layStands wm_175 (obM_0 cI cZ ad) (fun l D A hD hG x S' h => c_X9_layStands hD hG h) ⟨rfl, rfl, Nat.le_of_ble_eq_true rfl, Nat.le_of_ble_eq_true rfl⟩ rfl rfl (Nat.le_of_ble_eq_true rfl) dX9_isHard_18 h3 (fun x2 S4 h4 => ?_)
    refine k_iconst F dX9_isHard_21 ?_
    refine k_istore_n F dX9_isHard_22 rfl (by decide) rfl ?_
    refine k_iconst F dX9_isHard_23 ?_
    refine k_istore_n F dX9_isHard_24 rfl (by decide) rfl ?_
    refine zj1_e (PJ := (fun v2 S5 => inR v2 → zk Γ (wM cI cZ ad) (RG bsM) S5 [(2, .int (zI v2))] 83 [])) h4 (fun v2 S5 h5 r4 => ?_) (fun j1 J1 h7 => ?_)
    · refine k_iload_n F dX9_isHard_83 rfl 0 rfl ?_
      obtain ⟨z1, h6⟩ := zc01_e h5
      exact k_zret F hQ z1 dX9_isHard_84 h6
    · refine k_sub [2, 3, 1, 0] rfl (zl2_e (F := (b_X9_isHard_25 a1 j1)) (fun v3 v4 S6 => inR v3 → inR v4 → zk Γ (wM cI cZ ad) (RG bsM) S6 [(0, .ref (ad 0)), (1, .int (zI a1)), (2, .int (zI v3)), (3, .int (zI v4))] 25 []) (fun rec1 v3 v4 S6 hrec1 h8 r5 r6 => ?_) 1000 0 0 S4 h7 iR_0 iR_0)
      refine k_iload_n F dX9_isHard_25 rfl 3 rfl ?_
      refine k_aload_n F dX9_isHard_26 rfl 0 rfl ?_
      refine kgX9_commentMany F dX9_isHard_27 h8 (fun x3 r7 h9 => ?_)
      refine k_icmp_ge F r6 r7 (tgt := 83) dX9_isHard_30 (by decide) h9 (fun h10 => ?_) (fun h11 => ?_)
      · exact k_sub [2] rfl (J1 v3 S6 h10 r5)
      · refine k_aload_n F dX9_isHard_33 rfl 0 rfl ?_
        refine kgX9_thrown F dX9_isHard_34 h11 (fun x4 r8 h12 => ?_)
        refine k_if_ne F r8 (tgt := 83) dX9_isHard_37 (by decide) h12 (fun h13 => ?_) (fun h14 => ?_)
        · exact k_sub [2] rfl (J1 v3 S6 h13 r5)
        · refine k_iload_n F dX9_isHard_40 rfl 2 rfl ?_
          refine zj1_e (PJ := (fun v5 S7 => inR v5 → zk Γ (wM cI cZ ad) (RG bsM) S7 [(0, .ref (ad 0)), (1, .int (zI a1)), (3, .int (zI v4))] 76 [.int (zI v5)])) h14 (fun v5 S7 h15 r9 => ?_) (fun j2 J2 h17 => ?_)
          · refine k_istore_n F dX9_isHard_76 rfl (by decide) rfl ?_
            refine k_iinc F (k := 3) (lv' := fun y => [(3, .int (zI y)), (2, .int (zI v5)), (0, .ref (ad 0)), (1, .int (zI a1))]) dX9_isHard_77 rfl (by decide) (fun _ => rfl) h15 (fun x5 r10 h16 => ?_)
            refine k_goto F (tgt := 25) dX9_isHard_80 (by decide) ?_
            exact k_sub [2, 3, 1, 0] rfl (hrec1 v5 x5 S7 h16 r9 r10)
          · refine zj0_e (PJ := (fun S8 => zk Γ (wM cI cZ ad) (RG bsM) S8 [(0, .ref (ad 0)), (1, .int (zI a1)), (3, .int (zI v4))] 71 [])) h17 (fun S8 h18 => ?_) (fun j3 J3 h19 => ?_)
            · refine k_iconst F dX9_isHard_71 ?_
              refine k_goto F (tgt := 76) dX9_isHard_72 (by decide) ?_
              exact k_sub [0, 1, 2] rfl (J2 1 S8 h18 iR_1)
            · refine k_if_ne F r5 (tgt := 71) dX9_isHard_41 (by decide) h19 (fun h20 => ?_) (fun h21 => ?_)
              · exact k_sub [0, 1, 3] rfl (J3 S6 h20)
              · refine k_aload_n F dX9_isHard_44 rfl 0 rfl ?_
                refine kgX9_units F dX9_isHard_45 ?_
                refine k_iload_n F dX9_isHard_48 rfl 3 rfl ?_
                refine k_iald F rfl 11 (aM_10 cI cZ ad) r6 dX9_isHard_49 h21 (fun x6 r11 h22 => ?_)
                refine k_iload_n F dX9_isHard_50 rfl 1 rfl ?_
                refine zj0_e (PJ := (fun S9 => zk Γ (wM cI cZ ad) (RG bsM) S9 [(0, .ref (ad 0)), (1, .int (zI a1)), (3, .int (zI v4))] 75 [])) h22 (fun S9 h23 => ?_) (fun j4 J4 h24 => ?_)
                · refine k_iconst F dX9_isHard_75 ?_
                  exact k_sub [0, 1, 2] rfl (J2 0 S9 h23 iR_0)
                · refine k_icmp_ne F r11 ra1 (tgt := 75) dX9_isHard_51 (by decide) h24 (fun h25 => ?_) (fun h26 => ?_)
                  · exact k_sub [0, 1, 3] rfl (J4 S6 h25)
                  · refine k_aload_n F dX9_isHard_54 rfl 0 rfl ?_
                    refine k_iload_n F dX9_isHard_55 rfl 3 rfl ?_
                    refine k_callVi F cal_X9_asks wm_179 (obM_0 cI cZ ad) (fun l D A hD hG x S' h => c_X9_asks hD hG r6 h) ⟨rfl, rfl, Nat.le_of_ble_eq_true rfl, Nat.le_of_ble_eq_true rfl⟩ rfl rfl (Nat.le_of_ble_eq_true rfl) dX9_isHard_56 h26 (fun x7 S10 r12 b3 h27 => ?_)
                    refine k_if_eq F r12 (tgt := 75) dX9_isHard_59 (by decide) h27 (fun h28 => ?_) (fun h29 => ?_)
                    · exact k_sub [0, 1, 3] rfl (J4 S10 h28)
                    · refine k_aload_n F dX9_isHard_62 rfl 0 rfl ?_
                      refine kgX9_stands F dX9_isHard_63 ?_
                      refine k_iload_n F dX9_isHard_66 rfl 3 rfl ?_
                      refine k_zald01 F rfl 17 (by decide) (aM_16 cI cZ ad) r6 dX9_isHard_67 h29 (fun x8 r13 z2 h30 => ?_)
                      refine k_if_eq F r13 (tgt := 75) dX9_isHard_68 (by decide) h30 (fun h31 => ?_) (fun h32 => ?_)
                      · exact k_sub [0, 1, 3] rfl (J4 S10 h31)
                      · exact k_sub [0, 1, 3] rfl (J3 S10 h32)
  · refine k_if_ne F r1 (tgt := 13) dX9_isHard_6 (by decide) h33 (fun h34 => ?_) (fun h35 => ?_)
    · refine k_iconst F dX9_isHard_13 ?_
      exact k_sub [0, 1] rfl (J5 0 S1 h34 iR_0)
    · refine k_iconst F dX9_isHard_9 ?_
      refine k_goto F (tgt := 14) dX9_isHard_10 (by decide) ?_
      exact k_sub [0, 1] rfl (J5 1 S1 h35 iR_1)
set_option maxRecDepth 100000 in
theorem c_X9_solved {l : Launch} {D : va_G} {A : Nat → Prop} {cI cZ : ClassId} {ad : Nat → Nat} (hD : ∀ S, va_D A (wM cI cZ ad S)) {S : zSt} (hG : RG bsM S) {a1 : Int} (ra1 : inR a1) {x : Int} {S' : zSt} (h : m_X9_solved S a1 = some (x, S')) : zMi l yX9_solved cX9_solved 6 .int { frames := 1, cells := 0, slots := 0, locals := 24 } D cI cZ A (wM cI cZ ad) (RG bsM) [.ref (ad 0), .int (zI a1)] S x S' := by
  refine k_start_i (by decide +kernel) hD hG (Nat.le_of_ble_eq_true rfl) (fun Γ F hQ => ?_)
  have F : zF Γ (wM cI cZ ad) cI cZ cX9_solved { frames := 1, cells := 0, slots := 0, locals := 24 } 6 RX9 := F
  refine k_sub [0, 1] (lv' := [(0, .ref (ad 0)), (1, .int (zI a1))]) rfl ?_
  refine k_aload_n F dX9_solved_0 rfl 0 rfl ?_
  refine k_aload_n F dX9_solved_1 rfl 0 rfl ?_
  refine k_iload_n F dX9_solved_2 rfl 1 rfl ?_
  refine k_iconst F dX9_solved_3 ?_
  refine k_iconst F dX9_solved_4 ?_
  refine k_callVi F cal_X9_between wm_144 (obM_0 cI cZ ad) (fun l D A hD hG x S' h => c_X9_between hD hG ra1 iR_0 iR_3 h) ⟨rfl, rfl, Nat.le_of_ble_eq_true rfl, Nat.le_of_ble_eq_true rfl⟩ rfl rfl (Nat.le_of_ble_eq_true rfl) dX9_solved_5 h (fun x1 S1 r1 b1 h1 => ?_)
  refine zj1_e (PJ := (fun v1 S2 => inR v1 → zk Γ (wM cI cZ ad) (RG bsM) S2 [(0, .ref (ad 0)), (1, .int (zI a1))] 16 [.int (zI v1), .ref (ad 0)])) h1 (fun v1 S2 h2 r2 => ?_) (fun j7 J7 h53 => ?_)
  · refine kpX9_thrown F r2 dX9_solved_16 h2 (fun S3 h3 => ?_)
    refine k_aload_n F dX9_solved_19 rfl 0 rfl ?_
    refine k_callVv F cal_X9_layStands wm_175 (obM_0 cI cZ ad) (fun l D A hD hG x S' h => c_X9_layStands hD hG h) ⟨rfl, rfl, Nat.le_of_ble_eq_true rfl, Nat.le_of_ble_eq_true rfl⟩ rfl rfl (Nat.le_of_ble_eq_true rfl) dX9_solved_20 h3 (fun x2 S4 h4 => ?_)
    refine k_iconst F dX9_solved_23 ?_
    refine k_istore_n F dX9_solved_24 rfl (by decide) rfl ?_
    refine k_iconst F dX9_solved_25 ?_
    refine k_istore_n F dX9_solved_26 rfl (by decide) rfl ?_
    refine zj1_e (PJ := (fun v2 S5 => inR v2 → zk Γ (wM cI cZ ad) (RG bsM) S5 [(2, .int (zI v2))] 159 [])) h4 (fun v2 S5 h5 r4 => ?_) (fun j1 J1 h6 => ?_)
    · refine k_iload_n F dX9_solved_159 rfl 0 rfl ?_
      exact k_iret F hQ r4 dX9_solved_160 h5
    · refine k_sub [2, 3, 1, 0] rfl (zl2_e (F := (b_X9_solved_27 a1 j1)) (fun v3 v4 S6 => inR v3 → inR v4 → zk Γ (wM cI cZ ad) (RG bsM) S6 [(0, .ref (ad 0)), (1, .int (zI a1)), (2, .int (zI v3)), (3, .int (zI v4))] 27 []) (fun rec1 v3 v4 S6 hrec1 h7 r5 r6 => ?_) 1000 0 0 S4 h6 iR_0 iR_0)
      refine k_iload_n F dX9_solved_27 rfl 3 rfl ?_
      refine k_aload_n F dX9_solved_28 rfl 0 rfl ?_
      refine kgX9_commentMany F dX9_solved_29 h7 (fun x3 r7 h8 => ?_)
      refine k_icmp_ge F r6 r7 (tgt := 159) dX9_solved_32 (by decide) h8 (fun h9 => ?_) (fun h10 => ?_)
      · exact k_sub [2] rfl (J1 v3 S6 h9 r5)
      · refine k_aload_n F dX9_solved_35 rfl 0 rfl ?_
        refine kgX9_thrown F dX9_solved_36 h10 (fun x4 r8 h11 => ?_)
        refine k_if_ne F r8 (tgt := 159) dX9_solved_39 (by decide) h11 (fun h12 => ?_) (fun h13 => ?_)
        · exact k_sub [2] rfl (J1 v3 S6 h12 r5)
        · refine k_iconst F dX9_solved_42 ?_
          refine k_istore F dX9_solved_43 (by decide) rfl ?_
          refine k_aload_n F dX9_solved_45 rfl 1 rfl ?_
          refine kgX9_commentMany F dX9_solved_46 h13 (fun x5 r9 h14 => ?_)
          refine k_iconst F dX9_solved_49 ?_
          refine k_isub F dX9_solved_50 h14 (fun x6 r10 h15 => ?_)
          refine k_istore F dX9_solved_51 (by decide) rfl ?_
          refine zj1_e (PJ := (fun v5 S7 => inR v5 → zk Γ (wM cI cZ ad) (RG bsM) S7 [(0, .ref (ad 0)), (1, .int (zI a1)), (2, .int (zI v3)), (3, .int (zI v4)), (4, .int (zI v5))] 106 [])) h15 (fun v5 S7 h16 r11 => ?_) (fun j4 J4 h35 => ?_)
          · refine k_iload_n F dX9_solved_106 rfl 2 rfl ?_
            refine k_aload_n F dX9_solved_107 rfl 0 rfl ?_
            refine k_iload_n F dX9_solved_108 rfl 3 rfl ?_
            refine k_callVi F cal_X9_asks wm_179 (obM_0 cI cZ ad) (fun l D A hD hG x S' h => c_X9_asks hD hG r6 h) ⟨rfl, rfl, Nat.le_of_ble_eq_true rfl, Nat.le_of_ble_eq_true rfl⟩ rfl rfl (Nat.le_of_ble_eq_true rfl) dX9_solved_109 h16 (fun x7 S8 r12 b3 h17 => ?_)
            refine zj1_e (PJ := (fun v6 S9 => inR v6 → zk Γ (wM cI cZ ad) (RG bsM) S9 [(0, .ref (ad 0)), (1, .int (zI a1)), (3, .int (zI v4))] 151 [.int (zI v6), .int (zI v3)])) h17 (fun v6 S9 h18 r13 => ?_) (fun j2 J2 h21 => ?_)
            · refine k_iadd F dX9_solved_151 h18 (fun x8 r14 h19 => ?_)
              refine k_istore_n F dX9_solved_152 rfl (by decide) rfl ?_
              refine k_iinc F (k := 3) (lv' := fun y => [(3, .int (zI y)), (2, .int (zI x8)), (0, .ref (ad 0)), (1, .int (zI a1))]) dX9_solved_153 rfl (by decide) (fun _ => rfl) h19 (fun x9 r15 h20 => ?_)
              refine k_goto F (tgt := 27) dX9_solved_156 (by decide) ?_
              exact k_sub [2, 3, 1, 0] rfl (hrec1 x8 x9 S9 h20 r14 r15)
            · refine zj0_e (PJ := (fun S10 => zk Γ (wM cI cZ ad) (RG bsM) S10 [(0, .ref (ad 0)), (1, .int (zI a1)), (3, .int (zI v4))] 150 [.int (zI v3)])) h21 (fun S10 h22 => ?_) (fun j3 J3 h23 => ?_)
              · refine k_iconst F dX9_solved_150 ?_
                exact k_sub [0, 1, 2] rfl (J2 0 S10 h22 iR_0)
              · refine k_if_eq F r12 (tgt := 150) dX9_solved_112 (by decide) h23 (fun h24 => ?_) (fun h25 => ?_)
                · exact k_sub [0, 1, 3] rfl (J3 S8 h24)
                · refine k_aload_n F dX9_solved_115 rfl 0 rfl ?_
                  refine kgX9_stands F dX9_solved_116 ?_
                  refine k_iload_n F dX9_solved_119 rfl 3 rfl ?_
                  refine k_zald01 F rfl 17 (by decide) (aM_16 cI cZ ad) r6 dX9_solved_120 h25 (fun x10 r16 z1 h26 => ?_)
                  refine k_if_ne F r16 (tgt := 150) dX9_solved_121 (by decide) h26 (fun h27 => ?_) (fun h28 => ?_)
                  · exact k_sub [0, 1, 3] rfl (J3 S8 h27)
                  · refine k_iload F dX9_solved_124 4 rfl ?_
                    refine k_iconst F dX9_solved_126 ?_
                    refine k_icmp_eq F r11 iR_m1 (tgt := 150) dX9_solved_127 (by decide) h28 (fun h29 => ?_) (fun h30 => ?_)
                    · exact k_sub [0, 1, 3] rfl (J3 S8 h29)
                    · refine k_aload_n F dX9_solved_130 rfl 0 rfl ?_
                      refine kgX9_schools F dX9_solved_131 ?_
                      refine k_aload_n F dX9_solved_134 rfl 0 rfl ?_
                      refine kgX9_by F dX9_solved_135 ?_
                      refine k_iload F dX9_solved_138 4 rfl ?_
                      refine k_iald F rfl 7 (aM_6 cI cZ ad) r11 dX9_solved_140 h30 (fun x11 r17 h31 => ?_)
                      refine k_iald F rfl 5 (aM_4 cI cZ ad) r17 dX9_solved_141 h31 (fun x12 r18 h32 => ?_)
                      refine k_iload_n F dX9_solved_142 rfl 1 rfl ?_
                      refine k_icmp_ne F r18 ra1 (tgt := 150) dX9_solved_143 (by decide) h32 (fun h33 => ?_) (fun h34 => ?_)
                      · exact k_sub [0, 1, 3] rfl (J3 S8 h33)
                      · refine k_iconst F dX9_solved_146 ?_
                        refine k_goto F (tgt := 151) dX9_solved_147 (by decide) ?_
                        exact k_sub [0, 1, 3] rfl (J2 1 S8 h34 iR_1)
          · refine k_sub [2, 3, 4, 5, 1, 0] rfl (zl2_e (F := (b_X9_solved_53 j4 v4)) (fun v7 v8 S11 => inR v7 → inR v8 → zk Γ (wM cI cZ ad) (RG bsM) S11 [(0, .ref (ad 0)), (1, .int (zI a1)), (2, .int (zI v3)), (3, .int (zI v4)), (4, .int (zI v7)), (5, .int (zI v8))] 53 []) (fun rec2 v7 v8 S11 hrec2 h36 r19 r20 => ?_) 1000 (-1) x6 S6 h35 iR_m1 r10)
            refine k_iload F dX9_solved_53 5 rfl ?_
            refine k_iload_n F dX9_solved_55 rfl 3 rfl ?_
            refine k_icmp_le F r20 r6 (tgt := 106) dX9_solved_56 (by decide) h36 (fun h37 => ?_) (fun h38 => ?_)
            · exact k_sub [0, 1, 2, 3, 4] rfl (J4 v7 S11 h37 r19)
            · refine k_aload_n F dX9_solved_59 rfl 0 rfl ?_
              refine kgX9_on F dX9_solved_60 ?_
              refine k_iload F dX9_solved_63 5 rfl ?_
              refine k_iald F rfl 9 (aM_8 cI cZ ad) r20 dX9_solved_65 h38 (fun x13 r21 h39 => ?_)
              refine k_iload_n F dX9_solved_66 rfl 3 rfl ?_
              refine zj1_e (PJ := (fun v9 S12 => inR v9 → zk Γ (wM cI cZ ad) (RG bsM) S12 [(0, .ref (ad 0)), (1, .int (zI a1)), (2, .int (zI v3)), (3, .int (zI v4)), (5, .int (zI v8))] 98 [.int (zI v9)])) h39 (fun v9 S12 h40 r22 => ?_) (fun j5 J5 h42 => ?_)
              · refine k_istore F dX9_solved_98 (by decide) rfl ?_
                refine k_iinc F (k := 5) (lv' := fun y => [(5, .int (zI y)), (4, .int (zI v9)), (0, .ref (ad 0)), (1, .int (zI a1)), (2, .int (zI v3)), (3, .int (zI v4))]) dX9_solved_100 rfl (by decide) (fun _ => rfl) h40 (fun x14 r23 h41 => ?_)
                refine k_goto F (tgt := 53) dX9_solved_103 (by decide) ?_
                exact k_sub [2, 3, 4, 5, 1, 0] rfl (hrec2 v9 x14 S12 h41 r22 r23)
              · refine zj0_e (PJ := (fun S13 => zk Γ (wM cI cZ ad) (RG bsM) S13 [(0, .ref (ad 0)), (1, .int (zI a1)), (2, .int (zI v3)), (3, .int (zI v4)), (4, .int (zI v7)), (5, .int (zI v8))] 96 [])) h42 (fun S13 h43 => ?_) (fun j6 J6 h44 => ?_)
                · refine k_iload F dX9_solved_96 4 rfl ?_
                  exact k_sub [0, 1, 2, 3, 5] rfl (J5 v7 S13 h43 r19)
                · refine k_icmp_ne F r21 r6 (tgt := 96) dX9_solved_67 (by decide) h44 (fun h45 => ?_) (fun h46 => ?_)
                  · exact k_sub [0, 1, 2, 3, 4, 5] rfl (J6 S11 h45)
                  · refine k_aload_n F dX9_solved_70 rfl 0 rfl ?_
                    refine kgX9_kinds F dX9_solved_71 ?_
                    refine k_iload F dX9_solved_74 5 rfl ?_
                    refine k_iald F rfl 8 (aM_7 cI cZ ad) r20 dX9_solved_76 h46 (fun x15 r24 h47 => ?_)
                    refine k_iconst F dX9_solved_77 ?_
                    refine k_icmp_ne F r24 iR_3 (tgt := 96) dX9_solved_78 (by decide) h47 (fun h48 => ?_) (fun h49 => ?_)
                    · exact k_sub [0, 1, 2, 3, 4, 5] rfl (J6 S11 h48)
                    · refine k_aload_n F dX9_solved_81 rfl 0 rfl ?_
                      refine kgX9_stands F dX9_solved_82 ?_
                      refine k_iload F dX9_solved_85 5 rfl ?_
                      refine k_zald01 F rfl 17 (by decide) (aM_16 cI cZ ad) r20 dX9_solved_87 h49 (fun x16 r25 z2 h50 => ?_)
                      refine k_if_eq F r25 (tgt := 96) dX9_solved_88 (by decide) h50 (fun h51 => ?_) (fun h52 => ?_)
                      · exact k_sub [0, 1, 2, 3, 4, 5] rfl (J6 S11 h51)
                      · refine k_iload F dX9_solved_91 5 rfl ?_
                        refine k_goto F (tgt := 98) dX9_solved_93 (by decide) ?_
                        exact k_sub [0, 1, 2, 3, 5] rfl (J5 v8 S11 h52 r20)
  · refine k_if_ne F r1 (tgt := 15) dX9_solved_8 (by decide) h53 (fun h54 => ?_) (fun h55 => ?_)
    · refine k_iconst F dX9_solved_15 ?_
      exact k_sub [0, 1] rfl (J7 0 S1 h54 iR_0)
    · refine k_iconst F dX9_solved_11 ?_
      refine k_goto F (tgt := 16) dX9_solved_12 (by decide) ?_
      exact k_sub [0, 1] rfl (J7 1 S1 h55 iR_1)
set_option maxRecDepth 100000 in
theorem c_X9_likeness {l : Launch} {D : va_G} {A : Nat → Prop} {cI cZ : ClassId} {ad : Nat → Nat} (hD : ∀ S, va_D A (wM cI cZ ad S)) {S : zSt} (hG : RG bsM S) {a1 : Int} (ra1 : inR a1) {x : Int} {S' : zSt} (h : m_X9_likeness S a1 = some (x, S')) : zMi l yX9_likeness cX9_likeness 8 .int { frames := 0, cells := 0, slots := 0, locals := 0 } D cI cZ A (wM cI cZ ad) (RG bsM) [.ref (ad 0), .int (zI a1)] S x S' := by
  refine k_start_i (by decide +kernel) hD hG (Nat.le_of_ble_eq_true rfl) (fun Γ F hQ => ?_)
  have F : zF Γ (wM cI cZ ad) cI cZ cX9_likeness { frames := 0, cells := 0, slots := 0, locals := 0 } 8 RX9 := F
  refine k_sub [0, 1] (lv' := [(0, .ref (ad 0)), (1, .int (zI a1))]) rfl ?_
  refine k_iconst F dX9_likeness_0 ?_
  refine k_istore_n F dX9_likeness_1 rfl (by decide) rfl ?_
  refine zj0_e (PJ := (fun S1 => zk Γ (wM cI cZ ad) (RG bsM) S1 [(0, .ref (ad 0)), (1, .int (zI a1))] 21 [])) h (fun S1 h1 => ?_) (fun j5 J5 h36 => ?_)
  · refine k_iconst F dX9_likeness_21 ?_
    refine k_istore_n F dX9_likeness_22 rfl (by decide) rfl ?_
    refine zj0_e (PJ := (fun S2 => zk Γ (wM cI cZ ad) (RG bsM) S2 [(0, .ref (ad 0)), (1, .int (zI a1))] 136 [])) h1 (fun S2 h2 => ?_) (fun j1 J1 h5 => ?_)
    · refine k_aload_n F dX9_likeness_136 rfl 0 rfl ?_
      refine kgX9_common F dX9_likeness_137 ?_
      refine k_aload_n F dX9_likeness_140 rfl 0 rfl ?_
      refine kgX9_lengths F dX9_likeness_141 ?_
      refine k_iload_n F dX9_likeness_144 rfl 1 rfl ?_
      refine k_iald F rfl 3 (aM_2 cI cZ ad) ra1 dX9_likeness_145 h2 (fun x1 r1 h3 => ?_)
      refine k_iald F rfl 26 (aM_25 cI cZ ad) r1 dX9_likeness_146 h3 (fun x2 r2 h4 => ?_)
      exact k_iret F hQ r2 dX9_likeness_147 h4
    · refine k_sub [1, 2, 0] rfl (zl1_e (F := (b_X9_likeness_23 a1 j1)) (fun v1 S3 => inR v1 → zk Γ (wM cI cZ ad) (RG bsM) S3 [(0, .ref (ad 0)), (1, .int (zI a1)), (2, .int (zI v1))] 23 []) (fun rec1 v1 S3 hrec1 h6 r3 => ?_) 1000 0 S1 h5 iR_0)
      refine k_iload_n F dX9_likeness_23 rfl 2 rfl ?_
      refine k_aload_n F dX9_likeness_24 rfl 0 rfl ?_
      refine kgX9_padMany F dX9_likeness_25 h6 (fun x3 r4 h7 => ?_)
      refine k_icmp_ge F r3 r4 (tgt := 136) dX9_likeness_28 (by decide) h7 (fun h8 => ?_) (fun h9 => ?_)
      · exact k_sub [0, 1] rfl (J1 S3 h8)
      · refine k_iconst F dX9_likeness_31 ?_
        refine k_istore_n F dX9_likeness_32 rfl (by decide) rfl ?_
        refine k_iconst F dX9_likeness_33 ?_
        refine k_istore F dX9_likeness_34 (by decide) rfl ?_
        refine zj0_e (PJ := (fun S4 => zk Γ (wM cI cZ ad) (RG bsM) S4 [(0, .ref (ad 0)), (1, .int (zI a1)), (2, .int (zI v1))] 130 [])) h9 (fun S4 h10 => ?_) (fun j2 J2 h12 => ?_)
        · refine k_iinc F (k := 2) (lv' := fun y => [(2, .int (zI y)), (0, .ref (ad 0)), (1, .int (zI a1))]) dX9_likeness_130 rfl (by decide) (fun _ => rfl) h10 (fun x4 r5 h11 => ?_)
          refine k_goto F (tgt := 23) dX9_likeness_133 (by decide) ?_
          exact k_sub [1, 2, 0] rfl (hrec1 x4 S4 h11 r5)
        · refine k_sub [2, 3, 4, 1, 0] rfl (zl2_e (F := (b_X9_likeness_36 a1 j2 v1)) (fun v2 v3 S5 => inR v2 → inR v3 → zk Γ (wM cI cZ ad) (RG bsM) S5 [(0, .ref (ad 0)), (1, .int (zI a1)), (2, .int (zI v1)), (3, .int (zI v2)), (4, .int (zI v3))] 36 []) (fun rec2 v2 v3 S5 hrec2 h13 r6 r7 => ?_) 1000 0 0 S3 h12 iR_0 iR_0)
          refine k_iload F dX9_likeness_36 4 rfl ?_
          refine k_aload_n F dX9_likeness_38 rfl 0 rfl ?_
          refine kgX9_lengths F dX9_likeness_39 ?_
          refine k_iload_n F dX9_likeness_42 rfl 1 rfl ?_
          refine k_iald F rfl 3 (aM_2 cI cZ ad) ra1 dX9_likeness_43 h13 (fun x5 r8 h14 => ?_)
          refine k_icmp_ge F r7 r8 (tgt := 130) dX9_likeness_44 (by decide) h14 (fun h15 => ?_) (fun h16 => ?_)
          · exact k_sub [0, 1, 2] rfl (J2 S5 h15)
          · refine k_aload_n F dX9_likeness_47 rfl 0 rfl ?_
            refine kgX9_common F dX9_likeness_48 ?_
            refine k_iload F dX9_likeness_51 4 rfl ?_
            refine k_iconst F dX9_likeness_53 ?_
            refine k_iadd F dX9_likeness_54 h16 (fun x6 r9 h17 => ?_)
            refine k_iald F rfl 26 (aM_25 cI cZ ad) r9 dX9_likeness_55 h17 (fun x7 r10 h18 => ?_)
            refine k_istore F dX9_likeness_56 (by decide) rfl ?_
            refine k_aload_n F dX9_likeness_58 rfl 1 rfl ?_
            refine kgX9_common F dX9_likeness_59 ?_
            refine k_iload F dX9_likeness_62 5 rfl ?_
            refine k_iald F rfl 26 (aM_25 cI cZ ad) r7 dX9_likeness_64 h18 (fun x8 r11 h19 => ?_)
            refine k_istore F dX9_likeness_65 (by decide) rfl ?_
            refine k_iload F dX9_likeness_67 1 rfl ?_
            refine k_iload F dX9_likeness_69 0 rfl ?_
            refine zj1_e (PJ := (fun v4 S6 => inR v4 → zk Γ (wM cI cZ ad) (RG bsM) S6 [(0, .ref (ad 0)), (1, .int (zI a1)), (2, .int (zI v1)), (3, .int (zI v2)), (4, .int (zI v3)), (5, .int (zI x7))] 81 [.int (zI v4)])) h19 (fun v4 S6 h20 r12 => ?_) (fun j4 J4 h33 => ?_)
            · refine k_istore F dX9_likeness_81 (by decide) rfl ?_
              refine k_aload_n F dX9_likeness_83 rfl 1 rfl ?_
              refine kgX9_common F dX9_likeness_84 ?_
              refine k_iload F dX9_likeness_87 5 rfl ?_
              refine k_iconst F dX9_likeness_89 ?_
              refine k_iadd F dX9_likeness_90 h20 (fun x9 r13 h21 => ?_)
              refine k_aload_n F dX9_likeness_91 rfl 1 rfl ?_
              refine kgX9_pad F dX9_likeness_92 ?_
              refine k_iload_n F dX9_likeness_95 rfl 3 rfl ?_
              refine k_iald F rfl 1 (aM_0 cI cZ ad) r3 dX9_likeness_96 h21 (fun x10 r14 h22 => ?_)
              refine k_aload_n F dX9_likeness_97 rfl 1 rfl ?_
              refine kgX9_texts F dX9_likeness_98 ?_
              refine k_bipush F dX9_likeness_101 bp_12 ?_
              refine k_iload_n F dX9_likeness_103 rfl 2 rfl ?_
              refine k_imul F dX9_likeness_104 h22 (fun x11 r15 h23 => ?_)
              refine k_iload F dX9_likeness_105 5 rfl ?_
              refine k_iadd F dX9_likeness_107 h23 (fun x12 r16 h24 => ?_)
              refine k_iald F rfl 2 (aM_1 cI cZ ad) r16 dX9_likeness_108 h24 (fun x13 r17 h25 => ?_)
              refine zj1_e (PJ := (fun v5 S7 => inR v5 → zk Γ (wM cI cZ ad) (RG bsM) S7 [(0, .ref (ad 0)), (1, .int (zI a1)), (2, .int (zI v1)), (4, .int (zI v3)), (5, .int (zI x7))] 120 [.int (zI v5), .int (zI x9), .ref (ad 26)])) h25 (fun v5 S7 h26 r18 => ?_) (fun j3 J3 h29 => ?_)
              · refine k_iast F rfl 26 (aM_25 cI cZ ad) (sM_25 cI cZ ad) (by decide) r13 r18 dX9_likeness_120 h26 (fun S8 h27 => ?_)
                refine k_iload F dX9_likeness_121 4 rfl ?_
                refine k_istore_n F dX9_likeness_123 rfl (by decide) rfl ?_
                refine k_iinc F (k := 4) (lv' := fun y => [(4, .int (zI y)), (3, .int (zI x7)), (0, .ref (ad 0)), (1, .int (zI a1)), (2, .int (zI v1)), (5, .int (zI x7))]) dX9_likeness_124 rfl (by decide) (fun _ => rfl) h27 (fun x14 r19 h28 => ?_)
                refine k_goto F (tgt := 36) dX9_likeness_127 (by decide) ?_
                exact k_sub [2, 3, 4, 1, 0] rfl (hrec2 x7 x14 S8 h28 r10 r19)
              · refine k_icmp_ne F r14 r17 (tgt := 118) dX9_likeness_109 (by decide) h29 (fun h30 => ?_) (fun h31 => ?_)
                · refine k_iload F dX9_likeness_118 0 rfl ?_
                  exact k_sub [1, 2, 3, 5, 6] rfl (J3 v4 S6 h30 r12)
                · refine k_iload_n F dX9_likeness_112 rfl 4 rfl ?_
                  refine k_iconst F dX9_likeness_113 ?_
                  refine k_iadd F dX9_likeness_114 h31 (fun x15 r20 h32 => ?_)
                  refine k_goto F (tgt := 120) dX9_likeness_115 (by decide) ?_
                  exact k_sub [1, 2, 3, 5, 6] rfl (J3 x15 S6 h32 r20)
            · refine k_icmp_le F r10 r11 (tgt := 79) dX9_likeness_71 (by decide) h33 (fun h34 => ?_) (fun h35 => ?_)
              · refine k_iload F dX9_likeness_79 0 rfl ?_
                exact k_sub [2, 3, 4, 5, 6, 1] rfl (J4 x8 S5 h34 r11)
              · refine k_iload F dX9_likeness_74 1 rfl ?_
                refine k_goto F (tgt := 81) dX9_likeness_76 (by decide) ?_
                exact k_sub [2, 3, 4, 5, 6, 1] rfl (J4 x7 S5 h35 r10)
  · refine k_sub [1, 2, 0] rfl (zl1_e (F := (b_X9_likeness_2 j5)) (fun v6 S9 => inR v6 → zk Γ (wM cI cZ ad) (RG bsM) S9 [(0, .ref (ad 0)), (1, .int (zI a1)), (2, .int (zI v6))] 2 []) (fun rec3 v6 S9 hrec3 h37 r21 => ?_) 1000 0 S h36 iR_0)
    refine k_iload_n F dX9_likeness_2 rfl 2 rfl ?_
    refine k_bipush F dX9_likeness_3 bp_13 ?_
    refine k_icmp_ge F r21 iR_13 (tgt := 21) dX9_likeness_5 (by decide) h37 (fun h38 => ?_) (fun h39 => ?_)
    · exact k_sub [0, 1] rfl (J5 S9 h38)
    · refine k_aload_n F dX9_likeness_8 rfl 0 rfl ?_
      refine kgX9_common F dX9_likeness_9 ?_
      refine k_iload_n F dX9_likeness_12 rfl 2 rfl ?_
      refine k_iconst F dX9_likeness_13 ?_
      refine k_iast F rfl 26 (aM_25 cI cZ ad) (sM_25 cI cZ ad) (by decide) r21 iR_0 dX9_likeness_14 h39 (fun S10 h40 => ?_)
      refine k_iinc F (k := 2) (lv' := fun y => [(2, .int (zI y)), (0, .ref (ad 0)), (1, .int (zI a1))]) dX9_likeness_15 rfl (by decide) (fun _ => rfl) h40 (fun x16 r22 h41 => ?_)
      refine k_goto F (tgt := 2) dX9_likeness_18 (by decide) ?_
      exact k_sub [1, 2, 0] rfl (hrec3 x16 S10 h41 r22)
set_option maxRecDepth 100000 in
theorem c_X9_findUnit {l : Launch} {D : va_G} {A : Nat → Prop} {cI cZ : ClassId} {ad : Nat → Nat} (hD : ∀ S, va_D A (wM cI cZ ad S)) {S : zSt} (hG : RG bsM S) {x : Int} {S' : zSt} (h : m_X9_findUnit S  = some (x, S')) : zMi l yX9_findUnit cX9_findUnit 5 .int { frames := 1, cells := 0, slots := 0, locals := 27 } D cI cZ A (wM cI cZ ad) (RG bsM) [.ref (ad 0)] S x S' := by
  refine k_start_i (by decide +kernel) hD hG (Nat.le_of_ble_eq_true rfl) (fun Γ F hQ => ?_)
  have F : zF Γ (wM cI cZ ad) cI cZ cX9_findUnit { frames := 1, cells := 0, slots := 0, locals := 27 } 5 RX9 := F
  refine k_sub [0] (lv' := [(0, .ref (ad 0))]) rfl ?_
  refine k_iconst F dX9_findUnit_0 ?_
  refine k_istore_n F dX9_findUnit_1 rfl (by decide) rfl ?_
  refine k_iconst F dX9_findUnit_2 ?_
  refine k_istore_n F dX9_findUnit_3 rfl (by decide) rfl ?_
  refine k_iconst F dX9_findUnit_4 ?_
  refine k_istore_n F dX9_findUnit_5 rfl (by decide) rfl ?_
  refine zj1_e (PJ := (fun v1 S1 => inR v1 → zk Γ (wM cI cZ ad) (RG bsM) S1 [(1, .int (zI v1))] 52 [])) h (fun v1 S1 h1 r1 => ?_) (fun j1 J1 h2 => ?_)
  · refine k_iload_n F dX9_findUnit_52 rfl 0 rfl ?_
    exact k_iret F hQ r1 dX9_findUnit_53 h1
  · refine k_sub [3, 2, 1, 0] rfl (zl3_e (F := (b_X9_findUnit_6 j1)) (fun v2 v3 v4 S2 => inR v2 → inR v3 → inR v4 → zk Γ (wM cI cZ ad) (RG bsM) S2 [(0, .ref (ad 0)), (1, .int (zI v2)), (2, .int (zI v3)), (3, .int (zI v4))] 6 []) (fun rec1 v2 v3 v4 S2 hrec1 h3 r2 r3 r4 => ?_) 1000 (-1) 0 0 S h2 iR_m1 iR_0 iR_0)
    refine k_iload_n F dX9_findUnit_6 rfl 3 rfl ?_
    refine k_aload_n F dX9_findUnit_7 rfl 0 rfl ?_
    refine kgX9_unitMany F dX9_findUnit_8 h3 (fun x1 r5 h4 => ?_)
    refine k_icmp_ge F r4 r5 (tgt := 52) dX9_findUnit_11 (by decide) h4 (fun h5 => ?_) (fun h6 => ?_)
    · exact k_sub [1] rfl (J1 v2 S2 h5 r2)
    · refine k_aload_n F dX9_findUnit_14 rfl 0 rfl ?_
      refine k_iload_n F dX9_findUnit_15 rfl 3 rfl ?_
      refine k_callVi F cal_X9_likeness wm_183 (obM_0 cI cZ ad) (fun l D A hD hG x S' h => c_X9_likeness hD hG r4 h) ⟨rfl, rfl, Nat.le_of_ble_eq_true rfl, Nat.le_of_ble_eq_true rfl⟩ rfl rfl (Nat.le_of_ble_eq_true rfl) dX9_findUnit_16 h6 (fun x2 S3 r6 b1 h7 => ?_)
      refine k_istore F dX9_findUnit_19 (by decide) rfl ?_
      refine k_iload F dX9_findUnit_21 0 rfl ?_
      refine k_iload_n F dX9_findUnit_23 rfl 3 rfl ?_
      refine zj1_e (PJ := (fun v5 S4 => inR v5 → zk Γ (wM cI cZ ad) (RG bsM) S4 [(0, .ref (ad 0)), (2, .int (zI v3)), (3, .int (zI v4)), (4, .int (zI x2))] 32 [.int (zI v5)])) h7 (fun v5 S4 h8 r7 => ?_) (fun j3 J3 h14 => ?_)
      · refine k_istore_n F dX9_findUnit_32 rfl (by decide) rfl ?_
        refine k_iload F dX9_findUnit_33 4 rfl ?_
        refine k_iload_n F dX9_findUnit_35 rfl 2 rfl ?_
        refine zj1_e (PJ := (fun v6 S5 => inR v6 → zk Γ (wM cI cZ ad) (RG bsM) S5 [(0, .ref (ad 0)), (1, .int (zI v5)), (3, .int (zI v4))] 45 [.int (zI v6)])) h8 (fun v6 S5 h9 r8 => ?_) (fun j2 J2 h11 => ?_)
        · refine k_istore_n F dX9_findUnit_45 rfl (by decide) rfl ?_
          refine k_iinc F (k := 3) (lv' := fun y => [(3, .int (zI y)), (2, .int (zI v6)), (0, .ref (ad 0)), (1, .int (zI v5))]) dX9_findUnit_46 rfl (by decide) (fun _ => rfl) h9 (fun x3 r9 h10 => ?_)
          refine k_goto F (tgt := 6) dX9_findUnit_49 (by decide) ?_
          exact k_sub [2, 3, 1, 0] rfl (hrec1 v5 v6 x3 S5 h10 r7 r8 r9)
        · refine k_icmp_le F r6 r3 (tgt := 44) dX9_findUnit_36 (by decide) h11 (fun h12 => ?_) (fun h13 => ?_)
          · refine k_iload_n F dX9_findUnit_44 rfl 2 rfl ?_
            exact k_sub [1, 0, 3] rfl (J2 v3 S4 h12 r3)
          · refine k_iload F dX9_findUnit_39 4 rfl ?_
            refine k_goto F (tgt := 45) dX9_findUnit_41 (by decide) ?_
            exact k_sub [1, 0, 3] rfl (J2 x2 S4 h13 r6)
      · refine k_icmp_le F r6 r3 (tgt := 31) dX9_findUnit_24 (by decide) h14 (fun h15 => ?_) (fun h16 => ?_)
        · refine k_iload_n F dX9_findUnit_31 rfl 2 rfl ?_
          exact k_sub [1, 3, 4, 0] rfl (J3 v2 S3 h15 r2)
        · refine k_iload_n F dX9_findUnit_27 rfl 4 rfl ?_
          refine k_goto F (tgt := 32) dX9_findUnit_28 (by decide) ?_
          exact k_sub [1, 3, 4, 0] rfl (J3 v4 S3 h16 r4)
set_option maxRecDepth 100000 in
theorem c_X9_found {l : Launch} {D : va_G} {A : Nat → Prop} {cI cZ : ClassId} {ad : Nat → Nat} (hD : ∀ S, va_D A (wM cI cZ ad S)) {S : zSt} (hG : RG bsM S) {x : Int} {S' : zSt} (h : m_X9_found S  = some (x, S')) : zMi l yX9_found cX9_found 1 .int { frames := 2, cells := 0, slots := 0, locals := 51 } D cI cZ A (wM cI cZ ad) (RG bsM) [.ref (ad 0)] S x S' := by
  refine k_start_i (by decide +kernel) hD hG (Nat.le_of_ble_eq_true rfl) (fun Γ F hQ => ?_)
  have F : zF Γ (wM cI cZ ad) cI cZ cX9_found { frames := 2, cells := 0, slots := 0, locals := 51 } 1 RX9 := F
  refine k_sub [0] (lv' := [(0, .ref (ad 0))]) rfl ?_
  refine k_aload_n F dX9_found_0 rfl 0 rfl ?_
  refine k_iconst F dX9_found_1 ?_
  refine kpX9_thrown F iR_0 dX9_found_2 h (fun S1 h1 => ?_)
  refine k_aload_n F dX9_found_5 rfl 0 rfl ?_
  refine k_callVi F cal_X9_findUnit wm_187 (obM_0 cI cZ ad) (fun l D A hD hG x S' h => c_X9_findUnit hD hG h) ⟨rfl, rfl, Nat.le_of_ble_eq_true rfl, Nat.le_of_ble_eq_true rfl⟩ rfl rfl (Nat.le_of_ble_eq_true rfl) dX9_found_6 h1 (fun x1 S2 r1 b1 h2 => ?_)
  exact k_iret F hQ r1 dX9_found_9 h2
set_option maxRecDepth 100000 in
theorem c_X9_exact {l : Launch} {D : va_G} {A : Nat → Prop} {cI cZ : ClassId} {ad : Nat → Nat} (hD : ∀ S, va_D A (wM cI cZ ad S)) {S : zSt} (hG : RG bsM S) {x : Int} {S' : zSt} (h : m_X9_exact S  = some (x, S')) : zMi l yX9_exact cX9_exact 2 .int { frames := 2, cells := 0, slots := 0, locals := 51 } D cI cZ A (wM cI cZ ad) (RG bsM) [.ref (ad 0)] S x S' := by
  refine k_start_i (by decide +kernel) hD hG (Nat.le_of_ble_eq_true rfl) (fun Γ F hQ => ?_)
  have F : zF Γ (wM cI cZ ad) cI cZ cX9_exact { frames := 2, cells := 0, slots := 0, locals := 51 } 2 RX9 := F
  refine k_sub [0] (lv' := [(0, .ref (ad 0))]) rfl ?_
  refine k_aload_n F dX9_exact_0 rfl 0 rfl ?_
  refine k_iconst F dX9_exact_1 ?_
  refine kpX9_thrown F iR_0 dX9_exact_2 h (fun S1 h1 => ?_)
  refine k_aload_n F dX9_exact_5 rfl 0 rfl ?_
  refine k_callVi F cal_X9_findUnit wm_187 (obM_0 cI cZ ad) (fun l D A hD hG x S' h => c_X9_findUnit hD hG h) ⟨rfl, rfl, Nat.le_of_ble_eq_true rfl, Nat.le_of_ble_eq_true rfl⟩ rfl rfl (Nat.le_of_ble_eq_true rfl) dX9_exact_6 h1 (fun x1 S2 r1 b1 h2 => ?_)
  refine k_istore_n F dX9_exact_9 rfl (by decide) rfl ?_
  refine k_iload_n F dX9_exact_10 rfl 0 rfl ?_
  refine k_iconst F dX9_exact_11 ?_
  refine k_icmp_ne F r1 iR_m1 (tgt := 19) dX9_exact_12 (by decide) h2 (fun h3 => ?_) (fun h4 => ?_)
  · refine k_iconst F dX9_exact_19 ?_
    refine k_aload_n F dX9_exact_20 rfl 1 rfl ?_
    refine k_iload_n F dX9_exact_21 rfl 0 rfl ?_
    refine k_callVi F cal_X9_likeness wm_183 (obM_0 cI cZ ad) (fun l D A hD hG x S' h => c_X9_likeness hD hG r1 h) ⟨rfl, rfl, Nat.le_of_ble_eq_true rfl, Nat.le_of_ble_eq_true rfl⟩ rfl rfl (Nat.le_of_ble_eq_true rfl) dX9_exact_22 h3 (fun x2 S3 r2 b2 h5 => ?_)
    refine k_imul F dX9_exact_25 h5 (fun x3 r3 h6 => ?_)
    refine k_bipush F dX9_exact_26 bp_100 ?_
    refine k_imul F dX9_exact_28 h6 (fun x4 r4 h7 => ?_)
    refine k_aload_n F dX9_exact_29 rfl 1 rfl ?_
    refine kgX9_padMany F dX9_exact_30 h7 (fun x5 r5 h8 => ?_)
    refine k_aload_n F dX9_exact_33 rfl 1 rfl ?_
    refine kgX9_lengths F dX9_exact_34 ?_
    refine k_iload_n F dX9_exact_37 rfl 0 rfl ?_
    refine k_iald F rfl 3 (aM_2 cI cZ ad) r1 dX9_exact_38 h8 (fun x6 r6 h9 => ?_)
    refine k_iadd F dX9_exact_39 h9 (fun x7 r7 h10 => ?_)
    refine k_idiv F r4 r7 dX9_exact_40 h10 (fun x8 r8 h11 => ?_)
    exact k_iret F hQ r8 dX9_exact_41 h11
  · refine k_iconst F dX9_exact_15 ?_
    refine k_goto F (tgt := 41) dX9_exact_16 (by decide) ?_
    exact k_iret F hQ iR_0 dX9_exact_41 h4
set_option maxRecDepth 100000 in
theorem c_X9_ruling {l : Launch} {D : va_G} {A : Nat → Prop} {cI cZ : ClassId} {ad : Nat → Nat} (hD : ∀ S, va_D A (wM cI cZ ad S)) {S : zSt} (hG : RG bsM S) {a1 : Int} (ra1 : inR a1) {a2 : Int} (ra2 : inR a2) {a3 : Int} (ra3 : inR a3) {x : Int} {S' : zSt} (h : m_X9_ruling S a1 a2 a3 = some (x, S')) : zMi l yX9_ruling cX9_ruling 6 .int { frames := 2, cells := 0, slots := 0, locals := 44 } D cI cZ A (wM cI cZ ad) (RG bsM) [.ref (ad 0), .int (zI a1), .int (zI a2), .int (zI a3)] S x S' := by
  refine k_start_i (by decide +kernel) hD hG (Nat.le_of_ble_eq_true rfl) (fun Γ F hQ => ?_)
  have F : zF Γ (wM cI cZ ad) cI cZ cX9_ruling { frames := 2, cells := 0, slots := 0, locals := 44 } 6 RX9 := F
  refine k_sub [0, 1, 2, 3] (lv' := [(0, .ref (ad 0)), (1, .int (zI a1)), (2, .int (zI a2)), (3, .int (zI a3))]) rfl ?_
  refine k_aload_n F dX9_ruling_0 rfl 0 rfl ?_
  refine k_aload_n F dX9_ruling_1 rfl 0 rfl ?_
  refine k_iload_n F dX9_ruling_2 rfl 1 rfl ?_
  refine k_callVi F cal_X9_isAuthor wm_159 (obM_0 cI cZ ad) (fun l D A hD hG x S' h => c_X9_isAuthor hD hG ra1 h) ⟨rfl, rfl, Nat.le_of_ble_eq_true rfl, Nat.le_of_ble_eq_true rfl⟩ rfl rfl (Nat.le_of_ble_eq_true rfl) dX9_ruling_3 h (fun x1 S1 r1 b1 h1 => ?_)
  refine zj1_e (PJ := (fun v1 S2 => inR v1 → zk Γ (wM cI cZ ad) (RG bsM) S2 [(0, .ref (ad 0)), (1, .int (zI a1)), (2, .int (zI a2)), (3, .int (zI a3))] 25 [.int (zI v1), .ref (ad 0)])) h1 (fun v1 S2 h2 r2 => ?_) (fun j6 J6 h42 => ?_)
  · refine kpX9_thrown F r2 dX9_ruling_25 h2 (fun S3 h3 => ?_)
    refine k_aload_n F dX9_ruling_28 rfl 0 rfl ?_
    refine kgX9_thrown F dX9_ruling_29 h3 (fun x2 r3 h4 => ?_)
    refine zj0_e (PJ := (fun S4 => zk Γ (wM cI cZ ad) (RG bsM) S4 [(0, .ref (ad 0)), (1, .int (zI a1)), (2, .int (zI a2)), (3, .int (zI a3))] 59 [])) h4 (fun S4 h5 => ?_) (fun j4 J4 h31 => ?_)
    · refine k_aload_n F dX9_ruling_59 rfl 0 rfl ?_
      refine kgX9_thrown F dX9_ruling_60 h5 (fun x3 r4 h6 => ?_)
      refine k_if_le F r4 (tgt := 68) dX9_ruling_63 (by decide) h6 (fun h7 => ?_) (fun h8 => ?_)
      · refine k_aload_n F dX9_ruling_68 rfl 0 rfl ?_
        refine kgX9_ruled F dX9_ruling_69 ?_
        refine k_bipush F dX9_ruling_72 bp_10 ?_
        refine k_iload_n F dX9_ruling_74 rfl 1 rfl ?_
        refine k_imul F dX9_ruling_75 h7 (fun x4 r5 h9 => ?_)
        refine k_iload_n F dX9_ruling_76 rfl 2 rfl ?_
        refine k_iadd F dX9_ruling_77 h9 (fun x5 r6 h10 => ?_)
        refine k_iload_n F dX9_ruling_78 rfl 3 rfl ?_
        refine zj1_e (PJ := (fun v2 S5 => inR v2 → zk Γ (wM cI cZ ad) (RG bsM) S5 [(0, .ref (ad 0)), (2, .int (zI a2))] 87 [.int (zI v2), .int (zI x5), .ref (ad 18)])) h10 (fun v2 S5 h11 r7 => ?_) (fun j3 J3 h28 => ?_)
        · refine k_iast F rfl 18 (aM_17 cI cZ ad) (sM_17 cI cZ ad) (by decide) r6 r7 dX9_ruling_87 h11 (fun S6 h12 => ?_)
          refine k_iconst F dX9_ruling_88 ?_
          refine k_istore F dX9_ruling_89 (by decide) rfl ?_
          refine k_iconst F dX9_ruling_91 ?_
          refine k_istore F dX9_ruling_92 (by decide) rfl ?_
          refine zj1_e (PJ := (fun v3 S7 => inR v3 → zk Γ (wM cI cZ ad) (RG bsM) S7 [(4, .int (zI v3))] 135 [])) h12 (fun v3 S7 h13 r8 => ?_) (fun j1 J1 h14 => ?_)
          · refine k_iload F dX9_ruling_135 0 rfl ?_
            exact k_iret F hQ r8 dX9_ruling_137 h13
          · refine k_sub [2, 3, 1, 0] rfl (zl2_e (F := (b_X9_ruling_94 a2 j1)) (fun v4 v5 S8 => inR v4 → inR v5 → zk Γ (wM cI cZ ad) (RG bsM) S8 [(0, .ref (ad 0)), (2, .int (zI a2)), (4, .int (zI v4)), (5, .int (zI v5))] 94 []) (fun rec1 v4 v5 S8 hrec1 h15 r9 r10 => ?_) 1000 0 0 S6 h14 iR_0 iR_0)
            refine k_iload F dX9_ruling_94 3 rfl ?_
            refine k_aload_n F dX9_ruling_96 rfl 0 rfl ?_
            refine kgX9_authorMany F dX9_ruling_97 h15 (fun x6 r11 h16 => ?_)
            refine k_icmp_ge F r10 r11 (tgt := 135) dX9_ruling_100 (by decide) h16 (fun h17 => ?_) (fun h18 => ?_)
            · exact k_sub [2] rfl (J1 v4 S8 h17 r9)
            · refine k_iload F dX9_ruling_103 2 rfl ?_
              refine k_aload_n F dX9_ruling_105 rfl 0 rfl ?_
              refine kgX9_ruled F dX9_ruling_106 ?_
              refine k_bipush F dX9_ruling_109 bp_10 ?_
              refine k_iload F dX9_ruling_111 3 rfl ?_
              refine k_imul F dX9_ruling_113 h18 (fun x7 r12 h19 => ?_)
              refine k_iload_n F dX9_ruling_114 rfl 1 rfl ?_
              refine k_iadd F dX9_ruling_115 h19 (fun x8 r13 h20 => ?_)
              refine k_iald F rfl 18 (aM_17 cI cZ ad) r13 dX9_ruling_116 h20 (fun x9 r14 h21 => ?_)
              refine k_iconst F dX9_ruling_117 ?_
              refine zj1_e (PJ := (fun v6 S9 => inR v6 → zk Γ (wM cI cZ ad) (RG bsM) S9 [(0, .ref (ad 0)), (2, .int (zI a2)), (5, .int (zI v5))] 126 [.int (zI v6), .int (zI v4)])) h21 (fun v6 S9 h22 r15 => ?_) (fun j2 J2 h25 => ?_)
              · refine k_iadd F dX9_ruling_126 h22 (fun x10 r16 h23 => ?_)
                refine k_istore F dX9_ruling_127 (by decide) rfl ?_
                refine k_iinc F (k := 3) (lv' := fun y => [(5, .int (zI y)), (4, .int (zI x10)), (0, .ref (ad 0)), (2, .int (zI a2))]) dX9_ruling_129 rfl (by decide) (fun _ => rfl) h23 (fun x11 r17 h24 => ?_)
                refine k_goto F (tgt := 94) dX9_ruling_132 (by decide) ?_
                exact k_sub [2, 3, 1, 0] rfl (hrec1 x10 x11 S9 h24 r16 r17)
              · refine k_icmp_eq F r14 iR_m1 (tgt := 125) dX9_ruling_118 (by decide) h25 (fun h26 => ?_) (fun h27 => ?_)
                · refine k_iconst F dX9_ruling_125 ?_
                  exact k_sub [0, 1, 3] rfl (J2 0 S8 h26 iR_0)
                · refine k_iconst F dX9_ruling_121 ?_
                  refine k_goto F (tgt := 126) dX9_ruling_122 (by decide) ?_
                  exact k_sub [0, 1, 3] rfl (J2 1 S8 h27 iR_1)
        · refine k_if_eq F ra3 (tgt := 86) dX9_ruling_79 (by decide) h28 (fun h29 => ?_) (fun h30 => ?_)
          · refine k_iconst F dX9_ruling_86 ?_
            exact k_sub [0, 2] rfl (J3 0 S4 h29 iR_0)
          · refine k_iconst F dX9_ruling_82 ?_
            refine k_goto F (tgt := 87) dX9_ruling_83 (by decide) ?_
            exact k_sub [0, 2] rfl (J3 1 S4 h30 iR_1)
      · refine k_iconst F dX9_ruling_66 ?_
        exact k_iret F hQ iR_0 dX9_ruling_67 h8
    · refine k_if_ne F r3 (tgt := 59) dX9_ruling_32 (by decide) h31 (fun h32 => ?_) (fun h33 => ?_)
      · exact k_sub [0, 1, 2, 3] rfl (J4 S3 h32)
      · refine k_aload_n F dX9_ruling_35 rfl 0 rfl ?_
        refine k_aload_n F dX9_ruling_36 rfl 0 rfl ?_
        refine kgX9_ruled F dX9_ruling_37 ?_
        refine k_bipush F dX9_ruling_40 bp_10 ?_
        refine k_iload_n F dX9_ruling_42 rfl 1 rfl ?_
        refine k_imul F dX9_ruling_43 h33 (fun x12 r18 h34 => ?_)
        refine k_iload_n F dX9_ruling_44 rfl 2 rfl ?_
        refine k_iadd F dX9_ruling_45 h34 (fun x13 r19 h35 => ?_)
        refine k_iald F rfl 18 (aM_17 cI cZ ad) r19 dX9_ruling_46 h35 (fun x14 r20 h36 => ?_)
        refine k_iconst F dX9_ruling_47 ?_
        refine zj1_e (PJ := (fun v7 S10 => inR v7 → zk Γ (wM cI cZ ad) (RG bsM) S10 [(0, .ref (ad 0)), (1, .int (zI a1)), (2, .int (zI a2)), (3, .int (zI a3))] 56 [.int (zI v7), .ref (ad 0)])) h36 (fun v7 S10 h37 r21 => ?_) (fun j5 J5 h39 => ?_)
        · refine kpX9_thrown F r21 dX9_ruling_56 h37 (fun S11 h38 => ?_)
          exact k_sub [0, 1, 2, 3] rfl (J4 S11 h38)
        · refine k_icmp_eq F r20 iR_m1 (tgt := 55) dX9_ruling_48 (by decide) h39 (fun h40 => ?_) (fun h41 => ?_)
          · refine k_iconst F dX9_ruling_55 ?_
            exact k_sub [0, 1, 2, 3] rfl (J5 0 S3 h40 iR_0)
          · refine k_iconst F dX9_ruling_51 ?_
            refine k_goto F (tgt := 56) dX9_ruling_52 (by decide) ?_
            exact k_sub [0, 1, 2, 3] rfl (J5 2 S3 h41 iR_2)
  · refine zj0_e (PJ := (fun S12 => zk Γ (wM cI cZ ad) (RG bsM) S12 [(0, .ref (ad 0)), (1, .int (zI a1)), (2, .int (zI a2)), (3, .int (zI a3))] 20 [.ref (ad 0)])) h42 (fun S12 h43 => ?_) (fun j7 J7 h44 => ?_)
    · refine k_iconst F dX9_ruling_20 ?_
      refine k_goto F (tgt := 25) dX9_ruling_21 (by decide) ?_
      exact k_sub [0, 1, 2, 3] rfl (J6 1 S12 h43 iR_1)
    · refine k_if_eq F r1 (tgt := 20) dX9_ruling_6 (by decide) h44 (fun h45 => ?_) (fun h46 => ?_)
      · exact k_sub [0, 1, 2, 3] rfl (J7 S1 h45)
      · refine k_aload_n F dX9_ruling_9 rfl 0 rfl ?_
        refine k_iload_n F dX9_ruling_10 rfl 2 rfl ?_
        refine k_iconst F dX9_ruling_11 ?_
        refine k_bipush F dX9_ruling_12 bp_9 ?_
        refine k_callVi F cal_X9_between wm_144 (obM_0 cI cZ ad) (fun l D A hD hG x S' h => c_X9_between hD hG ra2 iR_0 iR_9 h) ⟨rfl, rfl, Nat.le_of_ble_eq_true rfl, Nat.le_of_ble_eq_true rfl⟩ rfl rfl (Nat.le_of_ble_eq_true rfl) dX9_ruling_14 h46 (fun x15 S13 r22 b2 h47 => ?_)
        refine k_if_ne F r22 (tgt := 24) dX9_ruling_17 (by decide) h47 (fun h48 => ?_) (fun h49 => ?_)
        · refine k_iconst F dX9_ruling_24 ?_
          exact k_sub [0, 1, 2, 3] rfl (J6 0 S13 h48 iR_0)
        · exact k_sub [0, 1, 2, 3] rfl (J7 S13 h49)
set_option maxRecDepth 100000 in
theorem c_X9_follow {l : Launch} {D : va_G} {A : Nat → Prop} {cI cZ : ClassId} {ad : Nat → Nat} (hD : ∀ S, va_D A (wM cI cZ ad S)) {S : zSt} (hG : RG bsM S) {a1 : Int} (ra1 : inR a1) {a2 : Int} (ra2 : inR a2) {x : Int} {S' : zSt} (h : m_X9_follow S a1 a2 = some (x, S')) : zMi l yX9_follow cX9_follow 4 .int { frames := 1, cells := 0, slots := 0, locals := 23 } D cI cZ A (wM cI cZ ad) (RG bsM) [.ref (ad 0), .int (zI a1), .int (zI a2)] S x S' := by
  refine k_start_i (by decide +kernel) hD hG (Nat.le_of_ble_eq_true rfl) (fun Γ F hQ => ?_)
  have F : zF Γ (wM cI cZ ad) cI cZ cX9_follow { frames := 1, cells := 0, slots := 0, locals := 23 } 4 RX9 := F
  refine k_sub [0, 1, 2] (lv' := [(0, .ref (ad 0)), (1, .int (zI a1)), (2, .int (zI a2))]) rfl ?_
  refine k_aload_n F dX9_follow_0 rfl 0 rfl ?_
  refine k_iload_n F dX9_follow_1 rfl 1 rfl ?_
  refine k_iconst F dX9_follow_2 ?_
  refine k_iconst F dX9_follow_3 ?_
  refine k_callVi F cal_X9_between wm_144 (obM_0 cI cZ ad) (fun l D A hD hG x S' h => c_X9_between hD hG ra1 iR_0 iR_3 h) ⟨rfl, rfl, Nat.le_of_ble_eq_true rfl, Nat.le_of_ble_eq_true rfl⟩ rfl rfl (Nat.le_of_ble_eq_true rfl) dX9_follow_4 h (fun x1 S1 r1 b1 h1 => ?_)
  refine zj1_e (PJ := (fun v1 S2 => inR v1 → zk Γ (wM cI cZ ad) (RG bsM) S2 [(0, .ref (ad 0)), (1, .int (zI a1)), (2, .int (zI a2))] 45 [.int (zI v1)])) h1 (fun v1 S2 h2 r2 => ?_) (fun j2 J2 h22 => ?_)
  · refine k_istore_n F dX9_follow_45 rfl (by decide) rfl ?_
    refine k_aload_n F dX9_follow_46 rfl 1 rfl ?_
    refine k_iload_n F dX9_follow_47 rfl 0 rfl ?_
    refine zj1_e (PJ := (fun v2 S3 => inR v2 → zk Γ (wM cI cZ ad) (RG bsM) S3 [(0, .ref (ad 0)), (1, .int (zI a1)), (2, .int (zI a2))] 69 [.int (zI v2), .ref (ad 0)])) h2 (fun v2 S3 h3 r3 => ?_) (fun j1 J1 h16 => ?_)
    · refine kpX9_thrown F r3 dX9_follow_69 h3 (fun S4 h4 => ?_)
      refine k_aload_n F dX9_follow_72 rfl 0 rfl ?_
      refine kgX9_thrown F dX9_follow_73 h4 (fun x2 r4 h5 => ?_)
      refine k_if_le F r4 (tgt := 81) dX9_follow_76 (by decide) h5 (fun h6 => ?_) (fun h7 => ?_)
      · refine k_aload_n F dX9_follow_81 rfl 0 rfl ?_
        refine kgX9_ruleKinds F dX9_follow_82 ?_
        refine k_aload_n F dX9_follow_85 rfl 0 rfl ?_
        refine kgX9_ruleMany F dX9_follow_86 h6 (fun x3 r5 h8 => ?_)
        refine k_iload_n F dX9_follow_89 rfl 1 rfl ?_
        refine k_iast F rfl 19 (aM_18 cI cZ ad) (sM_18 cI cZ ad) (by decide) r5 ra1 dX9_follow_90 h8 (fun S5 h9 => ?_)
        refine k_aload_n F dX9_follow_91 rfl 0 rfl ?_
        refine kgX9_ruleWhats F dX9_follow_92 ?_
        refine k_aload_n F dX9_follow_95 rfl 0 rfl ?_
        refine kgX9_ruleMany F dX9_follow_96 h9 (fun x4 r6 h10 => ?_)
        refine k_iload_n F dX9_follow_99 rfl 2 rfl ?_
        refine k_iast F rfl 20 (aM_19 cI cZ ad) (sM_19 cI cZ ad) (by decide) r6 ra2 dX9_follow_100 h10 (fun S6 h11 => ?_)
        refine k_aload_n F dX9_follow_101 rfl 0 rfl ?_
        refine k_dup F dX9_follow_102 rfl ?_
        refine kgX9_ruleMany F dX9_follow_103 h11 (fun x5 r7 h12 => ?_)
        refine k_iconst F dX9_follow_106 ?_
        refine k_iadd F dX9_follow_107 h12 (fun x6 r8 h13 => ?_)
        refine kpX9_ruleMany F r8 dX9_follow_108 h13 (fun S7 h14 => ?_)
        refine k_aload_n F dX9_follow_111 rfl 0 rfl ?_
        refine kgX9_ruleMany F dX9_follow_112 h14 (fun x7 r9 h15 => ?_)
        exact k_iret F hQ r9 dX9_follow_115 h15
      · refine k_iconst F dX9_follow_79 ?_
        exact k_iret F hQ iR_0 dX9_follow_80 h7
    · refine k_if_ne F r2 (tgt := 55) dX9_follow_48 (by decide) h16 (fun h17 => ?_) (fun h18 => ?_)
      · refine k_aload_n F dX9_follow_55 rfl 1 rfl ?_
        refine kgX9_ruleMany F dX9_follow_56 h17 (fun x8 r10 h19 => ?_)
        refine k_bipush F dX9_follow_59 bp_6 ?_
        refine k_icmp_ne F r10 iR_6 (tgt := 68) dX9_follow_61 (by decide) h19 (fun h20 => ?_) (fun h21 => ?_)
        · refine k_iconst F dX9_follow_68 ?_
          exact k_sub [1, 2, 3] rfl (J1 0 S2 h20 iR_0)
        · refine k_iconst F dX9_follow_64 ?_
          refine k_goto F (tgt := 69) dX9_follow_65 (by decide) ?_
          exact k_sub [1, 2, 3] rfl (J1 2 S2 h21 iR_2)
      · refine k_iconst F dX9_follow_51 ?_
        refine k_goto F (tgt := 69) dX9_follow_52 (by decide) ?_
        exact k_sub [1, 2, 3] rfl (J1 1 S2 h18 iR_1)
  · refine zj0_e (PJ := (fun S8 => zk Γ (wM cI cZ ad) (RG bsM) S8 [(0, .ref (ad 0)), (1, .int (zI a1)), (2, .int (zI a2))] 44 [])) h22 (fun S8 h23 => ?_) (fun j3 J3 h24 => ?_)
    · refine k_iconst F dX9_follow_44 ?_
      exact k_sub [0, 1, 2] rfl (J2 0 S8 h23 iR_0)
    · refine k_if_eq F r1 (tgt := 44) dX9_follow_7 (by decide) h24 (fun h25 => ?_) (fun h26 => ?_)
      · exact k_sub [0, 1, 2] rfl (J3 S1 h25)
      · refine k_iload_n F dX9_follow_10 rfl 1 rfl ?_
        refine zj0_e (PJ := (fun S9 => zk Γ (wM cI cZ ad) (RG bsM) S9 [(0, .ref (ad 0)), (1, .int (zI a1)), (2, .int (zI a2))] 24 [])) h26 (fun S9 h27 => ?_) (fun j5 J5 h35 => ?_)
        · refine k_iload_n F dX9_follow_24 rfl 1 rfl ?_
          refine k_iconst F dX9_follow_25 ?_
          refine zj0_e (PJ := (fun S10 => zk Γ (wM cI cZ ad) (RG bsM) S10 [(0, .ref (ad 0)), (1, .int (zI a1)), (2, .int (zI a2))] 40 [])) h27 (fun S10 h28 => ?_) (fun j4 J4 h29 => ?_)
          · refine k_iconst F dX9_follow_40 ?_
            refine k_goto F (tgt := 45) dX9_follow_41 (by decide) ?_
            exact k_sub [0, 1, 2] rfl (J2 1 S10 h28 iR_1)
          · refine k_icmp_ne F ra1 iR_3 (tgt := 40) dX9_follow_26 (by decide) h29 (fun h30 => ?_) (fun h31 => ?_)
            · exact k_sub [0, 1, 2] rfl (J4 S9 h30)
            · refine k_aload_n F dX9_follow_29 rfl 0 rfl ?_
              refine k_iload_n F dX9_follow_30 rfl 2 rfl ?_
              refine k_iconst F dX9_follow_31 ?_
              refine k_bipush F dX9_follow_32 bp_19 ?_
              refine k_callVi F cal_X9_between wm_144 (obM_0 cI cZ ad) (fun l D A hD hG x S' h => c_X9_between hD hG ra2 iR_0 iR_19 h) ⟨rfl, rfl, Nat.le_of_ble_eq_true rfl, Nat.le_of_ble_eq_true rfl⟩ rfl rfl (Nat.le_of_ble_eq_true rfl) dX9_follow_34 h31 (fun x9 S11 r11 b2 h32 => ?_)
              refine k_if_eq F r11 (tgt := 44) dX9_follow_37 (by decide) h32 (fun h33 => ?_) (fun h34 => ?_)
              · exact k_sub [0, 1, 2] rfl (J3 S11 h33)
              · exact k_sub [0, 1, 2] rfl (J4 S11 h34)
        · refine k_if_ne F ra1 (tgt := 24) dX9_follow_11 (by decide) h35 (fun h36 => ?_) (fun h37 => ?_)
          · exact k_sub [0, 1, 2] rfl (J5 S1 h36)
          · refine k_aload_n F dX9_follow_14 rfl 0 rfl ?_
            refine k_iload_n F dX9_follow_15 rfl 2 rfl ?_
            refine k_iconst F dX9_follow_16 ?_
            refine k_iconst F dX9_follow_17 ?_
            refine k_callVi F cal_X9_between wm_144 (obM_0 cI cZ ad) (fun l D A hD hG x S' h => c_X9_between hD hG ra2 iR_0 iR_3 h) ⟨rfl, rfl, Nat.le_of_ble_eq_true rfl, Nat.le_of_ble_eq_true rfl⟩ rfl rfl (Nat.le_of_ble_eq_true rfl) dX9_follow_18 h37 (fun x10 S12 r12 b3 h38 => ?_)
            refine k_if_eq F r12 (tgt := 44) dX9_follow_21 (by decide) h38 (fun h39 => ?_) (fun h40 => ?_)
            · exact k_sub [0, 1, 2] rfl (J3 S12 h39)
            · exact k_sub [0, 1, 2] rfl (J5 S12 h40)
