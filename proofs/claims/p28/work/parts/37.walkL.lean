set_option maxRecDepth 100000 in
theorem g_L_A {Γ : zG} {cI cZ : ClassId} {ad ads : Nat → Nat} {b L k9 n9 : Nat} {xs : Nat → Int32} (hL : L ≤ 260) (F : zF Γ (wL cI cZ ad) cI cZ cL_law room_1 18 RL) (X : zLX Γ ads cI cZ b L xs) {S : zSt} {r : zL5} (h : m_L_A (cel9 L xs) S  = some r) (KK : inR r.1 → inR r.2.1 → inR r.2.2.1 → inR r.2.2.2.1 → zk Γ (wL cI cZ ad) (RG bsL) r.2.2.2.2 [(0, .ref b), (1, .ref (ad 0)), (2, .ref (ad 38)), (3, .ref (ad 39)), (4, .ref (ad 40)), (5, .ref (ad 41)), (6, .int (zI r.2.1)), (7, .int (zI r.1)), (8, .int (zI r.2.2.1)), (9, .int (zI r.2.2.2.1))] 117 []) : zk Γ (wL cI cZ ad) (RG bsL) S [(0, .ref b), (1, .ref (ad 0)), (2, .ref (ad 38)), (3, .ref (ad 39)), (4, .ref (ad 40)), (5, .ref (ad 41))] 30 [] := by
  refine k_iconst F dL_law_30 ?_
  refine k_aload_n F dL_law_31 rfl 0 rfl ?_
  refine k_bipush F dL_law_32 bp_60 ?_
  refine k_cell F X hL wm_309 (Nat.le_of_ble_eq_true rfl) dL_law_34 h (fun x1 r1 h1 => ?_)
  refine k_bipush F dL_law_37 bp_9 ?_
  refine k_callSi F cal_L_up wm_310 (fun l D A hD hG x S' h => c_L_up hD hG r1 iR_9 h) ⟨rfl, rfl, Nat.le_of_ble_eq_true rfl, Nat.le_of_ble_eq_true rfl⟩ rfl rfl (Nat.le_of_ble_eq_true rfl) dL_law_39 h1 (fun x2 S1 r2 b1 h2 => ?_)
  refine k_iadd F dL_law_42 h2 (fun x3 r3 h3 => ?_)
  refine k_istore F dL_law_43 (by decide) rfl ?_
  refine k_iconst F dL_law_45 ?_
  refine k_istore F dL_law_46 (by decide) rfl ?_
  refine zj0_e (PJ := (fun S2 => zk Γ (wL cI cZ ad) (RG bsL) S2 [(0, .ref b), (1, .ref (ad 0)), (2, .ref (ad 38)), (3, .ref (ad 39)), (4, .ref (ad 40)), (5, .ref (ad 41)), (6, .int (zI x3))] 87 [])) h3 (fun S2 h4 => ?_) (fun j3 J3 h15 => ?_)
  · refine k_aload_n F dL_law_87 rfl 1 rfl ?_
    refine k_callY F X cal_X8_unit wm_314 (fun l D A hst hD hG r' h => c_X8_unit hst hD hG h) ⟨Nat.le_of_ble_eq_true rfl, Nat.le_of_ble_eq_true rfl⟩ rfl rfl (Nat.le_of_ble_eq_true rfl) dL_law_88 h4 (fun x4 S3 r4 h5 => ?_)
    refine zj1_e (PJ := (fun v1 S4 => inR v1 → zk Γ (wL cI cZ ad) (RG bsL) S4 [(0, .ref b), (1, .ref (ad 0)), (2, .ref (ad 38)), (3, .ref (ad 39)), (4, .ref (ad 40)), (5, .ref (ad 41)), (6, .int (zI x3))] 109 [.int (zI v1)])) h5 (fun v1 S4 h6 r5 => ?_) (fun j1 J1 h7 => ?_)
    · refine k_istore F dL_law_109 (by decide) rfl ?_
      refine k_iconst F dL_law_111 ?_
      refine k_istore F dL_law_112 (by decide) rfl ?_
      refine k_iconst F dL_law_114 ?_
      refine k_istore F dL_law_115 (by decide) rfl ?_
      cases h6
      exact k_sub [3, 4, 5, 6, 7, 8, 9, 2, 1, 0] rfl (KK r5 r3 iR_0 iR_0)
    · refine zj0_e (PJ := (fun S5 => zk Γ (wL cI cZ ad) (RG bsL) S5 [(0, .ref b), (1, .ref (ad 0)), (2, .ref (ad 38)), (3, .ref (ad 39)), (4, .ref (ad 40)), (5, .ref (ad 41)), (6, .int (zI x3))] 108 [])) h7 (fun S5 h8 => ?_) (fun j2 J2 h9 => ?_)
      · refine k_iconst F dL_law_108 ?_
        exact k_sub [0, 1, 2, 3, 4, 5, 6] rfl (J1 0 S5 h8 iR_0)
      · refine k_if_ne F r4 (tgt := 108) dL_law_91 (by decide) h9 (fun h10 => ?_) (fun h11 => ?_)
        · exact k_sub [0, 1, 2, 3, 4, 5, 6] rfl (J2 S3 h10)
        · refine k_aload_n F dL_law_94 rfl 1 rfl ?_
          refine k_iconst F dL_law_95 ?_
          refine k_iconst F dL_law_96 ?_
          refine k_iconst F dL_law_97 ?_
          refine k_callY F X cal_X8_author wm_318 (fun l D A hst hD hG r' h => c_X8_author hst hD hG iR_5 iR_0 iR_0 h) ⟨Nat.le_of_ble_eq_true rfl, Nat.le_of_ble_eq_true rfl⟩ rfl rfl (Nat.le_of_ble_eq_true rfl) dL_law_98 h11 (fun x5 S6 r6 h12 => ?_)
          refine k_if_ne F r6 (tgt := 108) dL_law_101 (by decide) h12 (fun h13 => ?_) (fun h14 => ?_)
          · exact k_sub [0, 1, 2, 3, 4, 5, 6] rfl (J2 S6 h13)
          · refine k_iconst F dL_law_104 ?_
            refine k_goto F (tgt := 109) dL_law_105 (by decide) ?_
            exact k_sub [0, 1, 2, 3, 4, 5, 6] rfl (J1 1 S6 h14 iR_1)
  · refine k_sub [2, 3, 4, 5, 6, 7, 1, 0] rfl (zl1_e (F := (b_L_law_48 (cel9 L xs) j3 x3)) (fun v2 S7 => inR v2 → zk Γ (wL cI cZ ad) (RG bsL) S7 [(0, .ref b), (1, .ref (ad 0)), (2, .ref (ad 38)), (3, .ref (ad 39)), (4, .ref (ad 40)), (5, .ref (ad 41)), (6, .int (zI x3)), (7, .int (zI v2))] 48 []) (fun rec1 v2 S7 hrec1 h16 r7 => ?_) 1000 0 S1 h15 iR_0)
    refine k_iload F dL_law_48 7 rfl ?_
    refine k_iload F dL_law_50 6 rfl ?_
    refine k_icmp_ge F r7 r3 (tgt := 87) dL_law_52 (by decide) h16 (fun h17 => ?_) (fun h18 => ?_)
    · exact k_sub [0, 1, 2, 3, 4, 5, 6] rfl (J3 S7 h17)
    · refine k_aload_n F dL_law_55 rfl 2 rfl ?_
      refine k_iload F dL_law_56 7 rfl ?_
      refine k_aload_n F dL_law_58 rfl 0 rfl ?_
      refine k_bipush F dL_law_59 bp_61 ?_
      refine k_iload F dL_law_61 7 rfl ?_
      refine k_iadd F dL_law_63 h18 (fun x6 r8 h19 => ?_)
      refine k_cell F X hL wm_309 (Nat.le_of_ble_eq_true rfl) dL_law_64 h19 (fun x7 r9 h20 => ?_)
      refine k_iconst F dL_law_67 ?_
      refine k_callSi F cal_L_up wm_310 (fun l D A hD hG x S' h => c_L_up hD hG r9 iR_4 h) ⟨rfl, rfl, Nat.le_of_ble_eq_true rfl, Nat.le_of_ble_eq_true rfl⟩ rfl rfl (Nat.le_of_ble_eq_true rfl) dL_law_68 h20 (fun x8 S8 r10 b2 h21 => ?_)
      refine k_iast F rfl 38 (aL_1 cI cZ ad) (sL_1 cI cZ ad) (by decide) r7 r10 dL_law_71 h21 (fun S9 h22 => ?_)
      refine k_aload_n F dL_law_72 rfl 1 rfl ?_
      refine k_aload_n F dL_law_73 rfl 2 rfl ?_
      refine k_iload F dL_law_74 7 rfl ?_
      refine k_iald F rfl 38 (aL_1 cI cZ ad) r7 dL_law_76 h22 (fun x9 r11 h23 => ?_)
      refine k_callY F X cal_X8_word wm_322 (fun l D A hst hD hG r' h => c_X8_word hst hD hG r11 h) ⟨Nat.le_of_ble_eq_true rfl, Nat.le_of_ble_eq_true rfl⟩ rfl rfl (Nat.le_of_ble_eq_true rfl) dL_law_77 h23 (fun x10 S10 r12 h24 => ?_)
      refine k_pop F rfl dL_law_80 ?_
      refine k_iinc F (k := 7) (lv' := fun y => [(7, .int (zI y)), (0, .ref b), (1, .ref (ad 0)), (2, .ref (ad 38)), (3, .ref (ad 39)), (4, .ref (ad 40)), (5, .ref (ad 41)), (6, .int (zI x3))]) dL_law_81 rfl (by decide) (fun _ => rfl) h24 (fun x11 r13 h25 => ?_)
      refine k_goto F (tgt := 48) dL_law_84 (by decide) ?_
      exact k_sub [1, 2, 3, 4, 5, 6, 7, 0] rfl (hrec1 x11 S10 h25 r13)
set_option maxRecDepth 100000 in
theorem g_L_B {Γ : zG} {cI cZ : ClassId} {ad ads : Nat → Nat} {b L k9 n9 : Nat} {xs : Nat → Int32} (hL : L ≤ 260) (F : zF Γ (wL cI cZ ad) cI cZ cL_law room_1 18 RL) (X : zLX Γ ads cI cZ b L xs) (hkn : zKN Γ k9 n9) (hk9 : k9 + 1 ≤ 119 ∧ n9 + 6 ≤ 2739) {S : zSt} {a6 : Int} (ra6 : inR a6) {a7 : Int} (ra7 : inR a7) {a8 : Int} (ra8 : inR a8) {a9 : Int} (ra9 : inR a9) {r : zL5} (h : m_L_B (cel9 L xs) S a6 a7 a8 a9 = some r) (KK : inR r.1 → inR r.2.1 → inR r.2.2.1 → inR r.2.2.2.1 → zk (zup Γ (k9 + 1) (n9 + 6)) (wL cI cZ ad) (RG bsL) r.2.2.2.2 [(0, .ref b), (1, .ref (ad 0)), (2, .ref (ad 38)), (3, .ref (ad 39)), (4, .ref (ad 40)), (5, .ref (ad 41)), (6, .int (zI r.2.1)), (7, .int (zI r.1)), (8, .int (zI r.2.2.1)), (9, .int (zI r.2.2.2.1))] 117 []) : zk Γ (wL cI cZ ad) (RG bsL) S [(0, .ref b), (1, .ref (ad 0)), (2, .ref (ad 38)), (3, .ref (ad 39)), (4, .ref (ad 40)), (5, .ref (ad 41)), (6, .int (zI a6)), (7, .int (zI a7)), (8, .int (zI a8)), (9, .int (zI a9))] 129 [] := by
  have F2 := F.up (k := k9 + 1) (n := n9 + 6) hk9.1 hk9.2
  have X2 := zLX_up X (k9 + 1) (n9 + 6)
  refine k_aload_n F dL_law_129 rfl 0 rfl ?_
  refine k_iload F dL_law_130 9 rfl ?_
  refine k_cell F X hL wm_309 (Nat.le_of_ble_eq_true rfl) dL_law_132 h (fun x1 r1 h1 => ?_)
  refine k_istore F dL_law_135 (by decide) rfl ?_
  refine k_iload F dL_law_137 0 rfl ?_
  refine k_iconst F dL_law_139 ?_
  refine k_callSi F cal_L_up wm_310 (fun l D A hD hG x S' h => c_L_up hD hG r1 iR_3 h) ⟨rfl, rfl, Nat.le_of_ble_eq_true rfl, Nat.le_of_ble_eq_true rfl⟩ rfl rfl (Nat.le_of_ble_eq_true rfl) dL_law_140 h1 (fun x2 S1 r2 b1 h2 => ?_)
  refine zj3_e (PJ := (fun v1 v2 v3 S2 => inR v1 → inR v2 → inR v3 → zk (zup Γ (k9 + 1) (n9 + 6)) (wL cI cZ ad) (RG bsL) S2 [(0, .ref b), (1, .ref (ad 0)), (2, .ref (ad 38)), (3, .ref (ad 39)), (4, .ref (ad 40)), (5, .ref (ad 41)), (6, .int (zI v1)), (7, .int (zI v2)), (8, .int (zI v3)), (9, .int (zI a9))] 575 [])) h2 (fun v1 v2 v3 S2 h3 r3 r4 r5 => ?_) (fun j8 J8 h48 => ?_)
  · refine k_iconst F2 dL_law_575 ?_
    refine k_istore F2 dL_law_576 (by decide) rfl ?_
    refine zj1_e (PJ := (fun v4 S3 => inR v4 → zk (zup Γ (k9 + 1) (n9 + 6)) (wL cI cZ ad) (RG bsL) S3 [(0, .ref b), (1, .ref (ad 0)), (2, .ref (ad 38)), (3, .ref (ad 39)), (4, .ref (ad 40)), (5, .ref (ad 41)), (6, .int (zI v1)), (7, .int (zI v4)), (8, .int (zI v3)), (9, .int (zI a9))] 643 [])) h3 (fun v4 S3 h4 r6 => ?_) (fun j5 J5 h26 => ?_)
    · refine k_iconst F2 dL_law_643 ?_
      refine k_istore F2 dL_law_644 (by decide) rfl ?_
      refine zj1_e (PJ := (fun v5 S4 => inR v5 → zk (zup Γ (k9 + 1) (n9 + 6)) (wL cI cZ ad) (RG bsL) S4 [(0, .ref b), (1, .ref (ad 0)), (2, .ref (ad 38)), (3, .ref (ad 39)), (4, .ref (ad 40)), (5, .ref (ad 41)), (6, .int (zI v1)), (7, .int (zI v5)), (8, .int (zI v3)), (9, .int (zI a9))] 696 [])) h4 (fun v5 S4 h5 r7 => ?_) (fun j1 J1 h7 => ?_)
      · refine k_iinc F2 (k := 9) (lv' := fun y => [(9, .int (zI y)), (0, .ref b), (1, .ref (ad 0)), (2, .ref (ad 38)), (3, .ref (ad 39)), (4, .ref (ad 40)), (5, .ref (ad 41)), (6, .int (zI v1)), (7, .int (zI v5)), (8, .int (zI v3))]) dL_law_696 rfl (by decide) (fun _ => rfl) h5 (fun x3 r8 h6 => ?_)
        refine k_goto F2 (tgt := 117) dL_law_699 (by decide) ?_
        cases h6
        exact k_sub [1, 2, 3, 4, 5, 6, 7, 8, 9, 0] rfl (KK r7 r3 r5 r8)
      · refine k_sub [1, 2, 3, 4, 5, 6, 7, 8, 9, 10, 0] rfl (zl2_e (F := (b_L_law_646 j1 v1)) (fun v6 v7 S5 => inR v6 → inR v7 → zk (zup Γ (k9 + 1) (n9 + 6)) (wL cI cZ ad) (RG bsL) S5 [(0, .ref b), (1, .ref (ad 0)), (2, .ref (ad 38)), (3, .ref (ad 39)), (4, .ref (ad 40)), (5, .ref (ad 41)), (6, .int (zI v1)), (7, .int (zI v6)), (8, .int (zI v3)), (9, .int (zI a9)), (11, .int (zI v7))] 646 []) (fun rec1 v6 v7 S5 hrec1 h8 r9 r10 => ?_) 1000 v4 0 S3 h7 r6 iR_0)
        refine k_iload F2 dL_law_646 10 rfl ?_
        refine k_bipush F2 dL_law_648 bp_13 ?_
        refine k_icmp_ge F2 r10 iR_13 (tgt := 696) dL_law_650 (by decide) h8 (fun h9 => ?_) (fun h10 => ?_)
        · exact k_sub [0, 1, 2, 3, 4, 5, 6, 7, 8, 9] rfl (J1 v6 S5 h9 r9)
        · refine k_iload F2 dL_law_653 7 rfl ?_
          refine zj1_e (PJ := (fun v8 S6 => inR v8 → zk (zup Γ (k9 + 1) (n9 + 6)) (wL cI cZ ad) (RG bsL) S6 [(0, .ref b), (1, .ref (ad 0)), (2, .ref (ad 38)), (3, .ref (ad 39)), (4, .ref (ad 40)), (5, .ref (ad 41)), (6, .int (zI v1)), (8, .int (zI v3)), (9, .int (zI a9)), (11, .int (zI v7))] 688 [.int (zI v8)])) h10 (fun v8 S6 h11 r11 => ?_) (fun j2 J2 h13 => ?_)
          · refine k_istore F2 dL_law_688 (by decide) rfl ?_
            refine k_iinc F2 (k := 10) (lv' := fun y => [(11, .int (zI y)), (7, .int (zI v8)), (0, .ref b), (1, .ref (ad 0)), (2, .ref (ad 38)), (3, .ref (ad 39)), (4, .ref (ad 40)), (5, .ref (ad 41)), (6, .int (zI v1)), (8, .int (zI v3)), (9, .int (zI a9))]) dL_law_690 rfl (by decide) (fun _ => rfl) h11 (fun x4 r12 h12 => ?_)
            refine k_goto F2 (tgt := 646) dL_law_693 (by decide) ?_
            exact k_sub [2, 3, 4, 5, 6, 7, 8, 1, 9, 10, 0] rfl (hrec1 v8 x4 S6 h12 r11 r12)
          · refine zj0_e (PJ := (fun S7 => zk (zup Γ (k9 + 1) (n9 + 6)) (wL cI cZ ad) (RG bsL) S7 [(0, .ref b), (1, .ref (ad 0)), (2, .ref (ad 38)), (3, .ref (ad 39)), (4, .ref (ad 40)), (5, .ref (ad 41)), (6, .int (zI v1)), (8, .int (zI v3)), (9, .int (zI a9)), (11, .int (zI v7))] 687 [])) h13 (fun S7 h14 => ?_) (fun j3 J3 h15 => ?_)
            · refine k_iconst F2 dL_law_687 ?_
              exact k_sub [0, 1, 2, 3, 4, 5, 6, 7, 8, 9] rfl (J2 0 S7 h14 iR_0)
            · refine k_if_eq F2 r9 (tgt := 687) dL_law_655 (by decide) h15 (fun h16 => ?_) (fun h17 => ?_)
              · exact k_sub [0, 1, 2, 3, 4, 5, 6, 8, 9, 10] rfl (J3 S5 h16)
              · refine k_aload_n F2 dL_law_658 rfl 1 rfl ?_
                refine k_iconst F2 dL_law_659 ?_
                refine k_iload F2 dL_law_660 10 rfl ?_
                refine k_callY F2 X2 cal_X8_textOf wm_326 (fun l D A hst hD hG r' h => c_X8_textOf hst hD hG iR_0 r10 h) ⟨Nat.le_of_ble_eq_true rfl, Nat.le_of_ble_eq_true rfl⟩ rfl rfl (Nat.le_of_ble_eq_true rfl) dL_law_662 h17 (fun x5 S8 r13 h18 => ?_)
                refine k_iload F2 dL_law_665 10 rfl ?_
                refine k_iload F2 dL_law_667 6 rfl ?_
                refine zj1_e (PJ := (fun v9 S9 => inR v9 → zk (zup Γ (k9 + 1) (n9 + 6)) (wL cI cZ ad) (RG bsL) S9 [(0, .ref b), (1, .ref (ad 0)), (2, .ref (ad 38)), (3, .ref (ad 39)), (4, .ref (ad 40)), (5, .ref (ad 41)), (6, .int (zI v1)), (8, .int (zI v3)), (9, .int (zI a9)), (11, .int (zI v7))] 680 [.int (zI v9), .int (zI x5)])) h18 (fun v9 S9 h19 r14 => ?_) (fun j4 J4 h22 => ?_)
                · refine k_icmp_ne F2 r13 r14 (tgt := 687) dL_law_680 (by decide) h19 (fun h20 => ?_) (fun h21 => ?_)
                  · exact k_sub [0, 1, 2, 3, 4, 5, 6, 7, 8, 9] rfl (J3 S9 h20)
                  · refine k_iconst F2 dL_law_683 ?_
                    refine k_goto F2 (tgt := 688) dL_law_684 (by decide) ?_
                    exact k_sub [0, 1, 2, 3, 4, 5, 6, 7, 8, 9] rfl (J2 1 S9 h21 iR_1)
                · refine k_icmp_ge F2 r10 r3 (tgt := 679) dL_law_669 (by decide) h22 (fun h23 => ?_) (fun h24 => ?_)
                  · refine k_iconst F2 dL_law_679 ?_
                    exact k_sub [0, 1, 2, 3, 4, 5, 6, 8, 9, 10] rfl (J4 (-1) S8 h23 iR_m1)
                  · refine k_aload_n F2 dL_law_672 rfl 2 rfl ?_
                    refine k_iload F2 dL_law_673 10 rfl ?_
                    refine k_iald F2 rfl 38 (aL_1 cI cZ ad) r10 dL_law_675 h24 (fun x6 r15 h25 => ?_)
                    refine k_goto F2 (tgt := 680) dL_law_676 (by decide) ?_
                    exact k_sub [0, 1, 2, 3, 4, 5, 6, 8, 9, 10] rfl (J4 x6 S8 h25 r15)
    · refine k_sub [1, 2, 3, 4, 5, 6, 7, 8, 9, 10, 0] rfl (zl2_e (F := (b_L_law_578 j5 v3)) (fun v10 v11 S10 => inR v10 → inR v11 → zk (zup Γ (k9 + 1) (n9 + 6)) (wL cI cZ ad) (RG bsL) S10 [(0, .ref b), (1, .ref (ad 0)), (2, .ref (ad 38)), (3, .ref (ad 39)), (4, .ref (ad 40)), (5, .ref (ad 41)), (6, .int (zI v1)), (7, .int (zI v10)), (8, .int (zI v3)), (9, .int (zI a9)), (11, .int (zI v11))] 578 []) (fun rec2 v10 v11 S10 hrec2 h27 r16 r17 => ?_) 1000 v2 0 S2 h26 r4 iR_0)
      refine k_iload F2 dL_law_578 10 rfl ?_
      refine k_iload F2 dL_law_580 8 rfl ?_
      refine k_icmp_ge F2 r17 r5 (tgt := 643) dL_law_582 (by decide) h27 (fun h28 => ?_) (fun h29 => ?_)
      · exact k_sub [0, 1, 2, 3, 4, 5, 6, 7, 8, 9] rfl (J5 v10 S10 h28 r16)
      · refine k_iload F2 dL_law_585 7 rfl ?_
        refine zj1_e (PJ := (fun v12 S11 => inR v12 → zk (zup Γ (k9 + 1) (n9 + 6)) (wL cI cZ ad) (RG bsL) S11 [(0, .ref b), (1, .ref (ad 0)), (2, .ref (ad 38)), (3, .ref (ad 39)), (4, .ref (ad 40)), (5, .ref (ad 41)), (6, .int (zI v1)), (8, .int (zI v3)), (9, .int (zI a9)), (11, .int (zI v11))] 635 [.int (zI v12)])) h29 (fun v12 S11 h30 r18 => ?_) (fun j6 J6 h32 => ?_)
        · refine k_istore F2 dL_law_635 (by decide) rfl ?_
          refine k_iinc F2 (k := 10) (lv' := fun y => [(11, .int (zI y)), (7, .int (zI v12)), (0, .ref b), (1, .ref (ad 0)), (2, .ref (ad 38)), (3, .ref (ad 39)), (4, .ref (ad 40)), (5, .ref (ad 41)), (6, .int (zI v1)), (8, .int (zI v3)), (9, .int (zI a9))]) dL_law_637 rfl (by decide) (fun _ => rfl) h30 (fun x7 r19 h31 => ?_)
          refine k_goto F2 (tgt := 578) dL_law_640 (by decide) ?_
          exact k_sub [2, 3, 4, 5, 6, 7, 8, 1, 9, 10, 0] rfl (hrec2 v12 x7 S11 h31 r18 r19)
        · refine zj0_e (PJ := (fun S12 => zk (zup Γ (k9 + 1) (n9 + 6)) (wL cI cZ ad) (RG bsL) S12 [(0, .ref b), (1, .ref (ad 0)), (2, .ref (ad 38)), (3, .ref (ad 39)), (4, .ref (ad 40)), (5, .ref (ad 41)), (6, .int (zI v1)), (8, .int (zI v3)), (9, .int (zI a9)), (11, .int (zI v11))] 634 [])) h32 (fun S12 h33 => ?_) (fun j7 J7 h34 => ?_)
          · refine k_iconst F2 dL_law_634 ?_
            exact k_sub [0, 1, 2, 3, 4, 5, 6, 7, 8, 9] rfl (J6 0 S12 h33 iR_0)
          · refine k_if_eq F2 r16 (tgt := 634) dL_law_587 (by decide) h34 (fun h35 => ?_) (fun h36 => ?_)
            · exact k_sub [0, 1, 2, 3, 4, 5, 6, 8, 9, 10] rfl (J7 S10 h35)
            · refine k_aload_n F2 dL_law_590 rfl 1 rfl ?_
              refine k_iload F2 dL_law_591 10 rfl ?_
              refine k_iconst F2 dL_law_593 ?_
              refine k_callY F2 X2 cal_X8_told wm_330 (fun l D A hst hD hG r' h => c_X8_told hst hD hG r17 iR_2 h) ⟨Nat.le_of_ble_eq_true rfl, Nat.le_of_ble_eq_true rfl⟩ rfl rfl (Nat.le_of_ble_eq_true rfl) dL_law_594 h36 (fun x8 S13 r20 h37 => ?_)
              refine k_aload F2 dL_law_597 4 rfl ?_
              refine k_iload F2 dL_law_599 10 rfl ?_
              refine k_iald F2 rfl 40 (aL_5 cI cZ ad) r17 dL_law_601 h37 (fun x9 r21 h38 => ?_)
              refine k_icmp_ne F2 r20 r21 (tgt := 634) dL_law_602 (by decide) h38 (fun h39 => ?_) (fun h40 => ?_)
              · exact k_sub [0, 1, 2, 3, 4, 5, 6, 8, 9, 10] rfl (J7 S13 h39)
              · refine k_aload_n F2 dL_law_605 rfl 1 rfl ?_
                refine k_iload F2 dL_law_606 10 rfl ?_
                refine k_iconst F2 dL_law_608 ?_
                refine k_callY F2 X2 cal_X8_told wm_330 (fun l D A hst hD hG r' h => c_X8_told hst hD hG r17 iR_3 h) ⟨Nat.le_of_ble_eq_true rfl, Nat.le_of_ble_eq_true rfl⟩ rfl rfl (Nat.le_of_ble_eq_true rfl) dL_law_609 h40 (fun x10 S14 r22 h41 => ?_)
                refine k_aload F2 dL_law_612 5 rfl ?_
                refine k_iload F2 dL_law_614 10 rfl ?_
                refine k_iald F2 rfl 41 (aL_7 cI cZ ad) r17 dL_law_616 h41 (fun x11 r23 h42 => ?_)
                refine k_icmp_ne F2 r22 r23 (tgt := 634) dL_law_617 (by decide) h42 (fun h43 => ?_) (fun h44 => ?_)
                · exact k_sub [0, 1, 2, 3, 4, 5, 6, 8, 9, 10] rfl (J7 S14 h43)
                · refine k_aload_n F2 dL_law_620 rfl 1 rfl ?_
                  refine k_iload F2 dL_law_621 10 rfl ?_
                  refine k_iconst F2 dL_law_623 ?_
                  refine k_callY F2 X2 cal_X8_told wm_330 (fun l D A hst hD hG r' h => c_X8_told hst hD hG r17 iR_1 h) ⟨Nat.le_of_ble_eq_true rfl, Nat.le_of_ble_eq_true rfl⟩ rfl rfl (Nat.le_of_ble_eq_true rfl) dL_law_624 h44 (fun x12 S15 r24 h45 => ?_)
                  refine k_if_ne F2 r24 (tgt := 634) dL_law_627 (by decide) h45 (fun h46 => ?_) (fun h47 => ?_)
                  · exact k_sub [0, 1, 2, 3, 4, 5, 6, 8, 9, 10] rfl (J7 S15 h46)
                  · refine k_iconst F2 dL_law_630 ?_
                    refine k_goto F2 (tgt := 635) dL_law_631 (by decide) ?_
                    exact k_sub [0, 1, 2, 3, 4, 5, 6, 8, 9, 10] rfl (J6 1 S15 h47 iR_1)
  · refine k_if_ne F r2 (tgt := 243) dL_law_143 (by decide) h48 (fun h49 => ?_) (fun h50 => ?_)
    · refine k_iload F dL_law_243 0 rfl ?_
      refine k_bipush F dL_law_245 bp_8 ?_
      refine k_idivq F iR_8 dL_law_247 h49 (fun x13 r25 h51 => ?_)
      refine k_bipush F dL_law_248 bp_13 ?_
      refine k_callSi F cal_L_up wm_310 (fun l D A hD hG x S' h => c_L_up hD hG r25 iR_13 h) ⟨rfl, rfl, Nat.le_of_ble_eq_true rfl, Nat.le_of_ble_eq_true rfl⟩ rfl rfl (Nat.le_of_ble_eq_true rfl) dL_law_250 h51 (fun x14 S16 r26 b2 h52 => ?_)
      refine k_istore F dL_law_253 (by decide) rfl ?_
      refine k_iload F dL_law_255 1 rfl ?_
      refine k_sipush F dL_law_257 sp_128 ?_
      refine k_idivq F iR_128 dL_law_260 h52 (fun x15 r27 h53 => ?_)
      refine k_bipush F dL_law_261 bp_6 ?_
      refine k_callSi F cal_L_up wm_310 (fun l D A hD hG x S' h => c_L_up hD hG r27 iR_6 h) ⟨rfl, rfl, Nat.le_of_ble_eq_true rfl, Nat.le_of_ble_eq_true rfl⟩ rfl rfl (Nat.le_of_ble_eq_true rfl) dL_law_263 h53 (fun x16 S17 r28 b3 h54 => ?_)
      refine zj1_e (PJ := (fun v13 S18 => inR v13 → zk Γ (wL cI cZ ad) (RG bsL) S18 [(0, .ref b), (1, .ref (ad 0)), (2, .ref (ad 38)), (3, .ref (ad 39)), (4, .ref (ad 40)), (5, .ref (ad 41)), (6, .int (zI a6)), (8, .int (zI a8)), (9, .int (zI a9)), (11, .int (zI x14))] 283 [.int (zI v13)])) h54 (fun v13 S18 h55 r29 => ?_) (fun j25 J25 h152 => ?_)
      · refine k_istore F dL_law_283 (by decide) rfl ?_
        refine k_iload F dL_law_285 0 rfl ?_
        refine zj1_e (PJ := (fun v14 S19 => inR v14 → zk Γ (wL cI cZ ad) (RG bsL) S19 [(0, .ref b), (1, .ref (ad 0)), (2, .ref (ad 38)), (3, .ref (ad 39)), (4, .ref (ad 40)), (5, .ref (ad 41)), (6, .int (zI a6)), (8, .int (zI a8)), (9, .int (zI a9)), (11, .int (zI x14)), (12, .int (zI v13))] 295 [.int (zI v14)])) h55 (fun v14 S19 h56 r30 => ?_) (fun j24 J24 h149 => ?_)
        · refine k_istore F dL_law_295 (by decide) rfl ?_
          refine k_iload F dL_law_297 10 rfl ?_
          refine k_iload F dL_law_299 7 rfl ?_
          refine zj1_e (PJ := (fun v15 S20 => inR v15 → zk Γ (wL cI cZ ad) (RG bsL) S20 [(0, .ref b), (1, .ref (ad 0)), (2, .ref (ad 38)), (3, .ref (ad 39)), (4, .ref (ad 40)), (5, .ref (ad 41)), (6, .int (zI a6)), (8, .int (zI a8)), (9, .int (zI a9)), (11, .int (zI x14)), (12, .int (zI v13)), (13, .int (zI v14))] 328 [.int (zI v15)])) h56 (fun v15 S20 h57 r31 => ?_) (fun j22 J22 h140 => ?_)
          · refine k_istore F dL_law_328 (by decide) rfl ?_
            refine k_iload F dL_law_330 0 rfl ?_
            refine zj2_e (PJ := (fun v16 v17 S21 => inR v16 → inR v17 → zk Γ (wL cI cZ ad) (RG bsL) S21 [(0, .ref b), (1, .ref (ad 0)), (2, .ref (ad 38)), (3, .ref (ad 39)), (4, .ref (ad 40)), (5, .ref (ad 41)), (6, .int (zI v16)), (8, .int (zI a8)), (9, .int (zI a9)), (11, .int (zI x14)), (12, .int (zI v13)), (14, .int (zI v17))] 555 [])) h57 (fun v16 v17 S21 h58 r32 r33 => ?_) (fun j10 J10 h64 => ?_)
            · refine k_aload_n F dL_law_555 rfl 1 rfl ?_
              refine k_iload F dL_law_556 9 rfl ?_
              refine k_iload F dL_law_558 10 rfl ?_
              refine k_callQ F X hkn hk9 calw_emend wm_331 (fun l D A hst hD hG h0 r h hE => c_L_emend hst hD hG r26 r29 h0 h hE) ⟨Nat.le_of_ble_eq_true rfl, Nat.le_of_ble_eq_true rfl⟩ rfl rfl (Nat.le_of_ble_eq_true rfl) dL_law_560 h58 (fun x17 S22 r34 h59 => ?_)
              refine k_iload F2 dL_law_563 11 rfl ?_
              refine zj1_e (PJ := (fun v18 S23 => inR v18 → zk (zup Γ (k9 + 1) (n9 + 6)) (wL cI cZ ad) (RG bsL) S23 [(0, .ref b), (1, .ref (ad 0)), (2, .ref (ad 38)), (3, .ref (ad 39)), (4, .ref (ad 40)), (5, .ref (ad 41)), (6, .int (zI v16)), (8, .int (zI a8)), (9, .int (zI a9))] 573 [.int (zI v18)])) h59 (fun v18 S23 h60 r35 => ?_) (fun j9 J9 h61 => ?_)
              · refine k_istore F2 dL_law_573 (by decide) rfl ?_
                exact k_sub [1, 2, 3, 4, 5, 6, 7, 0, 8, 9] rfl (J8 v16 v18 a8 S23 h60 r32 r35 ra8)
              · refine k_icmp_ne F2 r34 r33 (tgt := 572) dL_law_565 (by decide) h61 (fun h62 => ?_) (fun h63 => ?_)
                · refine k_iconst F2 dL_law_572 ?_
                  exact k_sub [0, 1, 2, 3, 4, 5, 6, 7, 8] rfl (J9 0 S22 h62 iR_0)
                · refine k_iconst F2 dL_law_568 ?_
                  refine k_goto F2 (tgt := 573) dL_law_569 (by decide) ?_
                  exact k_sub [0, 1, 2, 3, 4, 5, 6, 7, 8] rfl (J9 1 S22 h63 iR_1)
            · refine k_if_ne F r31 (tgt := 555) dL_law_332 (by decide) h64 (fun h65 => ?_) (fun h66 => ?_)
              · exact k_sub [1, 2, 3, 4, 5, 6, 7, 8, 9, 10, 11, 0] rfl (J10 a6 v15 S20 h65 ra6 r31)
              · refine k_iload F dL_law_335 10 rfl ?_
                refine k_istore F dL_law_337 (by decide) rfl ?_
                refine zj0_e (PJ := (fun S24 => zk Γ (wL cI cZ ad) (RG bsL) S24 [(0, .ref b), (1, .ref (ad 0)), (2, .ref (ad 38)), (3, .ref (ad 39)), (4, .ref (ad 40)), (5, .ref (ad 41)), (6, .int (zI a6)), (8, .int (zI a8)), (9, .int (zI a9)), (11, .int (zI x14)), (12, .int (zI v13)), (13, .int (zI v14)), (14, .int (zI v15))] 369 [])) h66 (fun S24 h67 => ?_) (fun j21 J21 h129 => ?_)
                · refine k_iload F dL_law_369 6 rfl ?_
                  refine k_iload F dL_law_371 11 rfl ?_
                  refine zj1_e (PJ := (fun v19 S25 => inR v19 → zk Γ (wL cI cZ ad) (RG bsL) S25 [(0, .ref b), (1, .ref (ad 0)), (2, .ref (ad 38)), (3, .ref (ad 39)), (4, .ref (ad 40)), (5, .ref (ad 41)), (8, .int (zI a8)), (9, .int (zI a9)), (11, .int (zI x14)), (12, .int (zI v13)), (13, .int (zI v14)), (14, .int (zI v15))] 381 [.int (zI v19), .int (zI a6)])) h67 (fun v19 S25 h68 r36 => ?_) (fun j20 J20 h126 => ?_)
                  · refine k_isub F dL_law_381 h68 (fun x18 r37 h69 => ?_)
                    refine k_istore F dL_law_382 (by decide) rfl ?_
                    refine k_aload_n F dL_law_384 rfl 3 rfl ?_
                    refine k_iload F dL_law_385 9 rfl ?_
                    refine k_iload F dL_law_387 11 rfl ?_
                    refine zj1_e (PJ := (fun v20 S26 => inR v20 → zk Γ (wL cI cZ ad) (RG bsL) S26 [(0, .ref b), (1, .ref (ad 0)), (2, .ref (ad 38)), (3, .ref (ad 39)), (4, .ref (ad 40)), (5, .ref (ad 41)), (6, .int (zI x18)), (8, .int (zI a8)), (9, .int (zI a9)), (11, .int (zI x14)), (12, .int (zI v13)), (13, .int (zI v14)), (14, .int (zI v15))] 401 [.int (zI v20), .int (zI x14), .ref (ad 38)])) h69 (fun v20 S26 h70 r38 => ?_) (fun j19 J19 h122 => ?_)
                    · refine k_iast F rfl 38 (aL_1 cI cZ ad) (sL_1 cI cZ ad) (by decide) r26 r38 dL_law_401 h70 (fun S27 h71 => ?_)
                      refine k_iconst F dL_law_402 ?_
                      refine k_istore F dL_law_403 (by decide) rfl ?_
                      refine k_sub [1, 2, 3, 4, 5, 6, 7, 8, 9, 10, 11, 12, 13, 0] rfl (zl2_e (F := (b_L_law_405 a8 j10 v14 x14 x18)) (fun v21 v22 S28 => inR v21 → inR v22 → zk Γ (wL cI cZ ad) (RG bsL) S28 [(0, .ref b), (1, .ref (ad 0)), (2, .ref (ad 38)), (3, .ref (ad 39)), (4, .ref (ad 40)), (5, .ref (ad 41)), (6, .int (zI x18)), (8, .int (zI a8)), (9, .int (zI a9)), (11, .int (zI x14)), (12, .int (zI v13)), (13, .int (zI v14)), (14, .int (zI v21)), (15, .int (zI v22))] 405 []) (fun rec3 v21 v22 S28 hrec3 h72 r39 r40 => ?_) 1000 v15 0 S27 h71 r31 iR_0)
                      refine k_iload F dL_law_405 13 rfl ?_
                      refine k_iload F dL_law_407 7 rfl ?_
                      refine k_icmp_ge F r40 ra8 (tgt := 555) dL_law_409 (by decide) h72 (fun h73 => ?_) (fun h74 => ?_)
                      · exact k_sub [0, 1, 2, 3, 4, 5, 6, 7, 8, 9, 10, 12] rfl (J10 x18 v21 S28 h73 r37 r39)
                      · refine k_iload F dL_law_412 11 rfl ?_
                        refine zj1_e (PJ := (fun v23 S29 => inR v23 → zk Γ (wL cI cZ ad) (RG bsL) S29 [(0, .ref b), (1, .ref (ad 0)), (2, .ref (ad 38)), (3, .ref (ad 39)), (4, .ref (ad 40)), (5, .ref (ad 41)), (6, .int (zI x18)), (8, .int (zI a8)), (9, .int (zI a9)), (11, .int (zI x14)), (12, .int (zI v13)), (13, .int (zI v14)), (14, .int (zI v21)), (15, .int (zI v22))] 464 [.int (zI v23)])) h74 (fun v23 S29 h75 r41 => ?_) (fun j16 J16 h103 => ?_)
                        · refine k_istore F dL_law_464 (by decide) rfl ?_
                          refine k_aload_n F dL_law_466 rfl 3 rfl ?_
                          refine k_iload F dL_law_467 7 rfl ?_
                          refine k_aload_n F dL_law_469 rfl 4 rfl ?_
                          refine k_iload F dL_law_470 14 rfl ?_
                          refine k_iald F rfl 39 (aL_3 cI cZ ad) r40 dL_law_472 h75 (fun x19 r42 h76 => ?_)
                          refine k_iload F dL_law_473 0 rfl ?_
                          refine k_callSi F cal_L_near wm_334 (fun l D A hD hG x S' h => c_L_near hD hG r37 r42 r41 h) ⟨rfl, rfl, Nat.le_of_ble_eq_true rfl, Nat.le_of_ble_eq_true rfl⟩ rfl rfl (Nat.le_of_ble_eq_true rfl) dL_law_475 h76 (fun x20 S30 r43 b4 h77 => ?_)
                          refine k_istore F dL_law_478 (by decide) rfl ?_
                          refine k_iload F dL_law_480 14 rfl ?_
                          refine k_iload F dL_law_482 0 rfl ?_
                          refine zj1_e (PJ := (fun v24 S31 => inR v24 → zk Γ (wL cI cZ ad) (RG bsL) S31 [(0, .ref b), (1, .ref (ad 0)), (2, .ref (ad 38)), (3, .ref (ad 39)), (4, .ref (ad 40)), (5, .ref (ad 41)), (6, .int (zI x18)), (8, .int (zI a8)), (9, .int (zI a9)), (11, .int (zI x14)), (12, .int (zI v13)), (13, .int (zI v14)), (15, .int (zI v22)), (16, .int (zI v23)), (17, .int (zI x20))] 492 [.int (zI v24), .int (zI v21)])) h77 (fun v24 S31 h78 r44 => ?_) (fun j15 J15 h100 => ?_)
                          · refine k_aload F dL_law_492 5 rfl ?_
                            refine k_iload F dL_law_494 12 rfl ?_
                            refine k_iald F rfl 41 (aL_7 cI cZ ad) r40 dL_law_496 h78 (fun x21 r45 h79 => ?_)
                            refine k_iconst F dL_law_497 ?_
                            refine zj1_e (PJ := (fun v25 S32 => inR v25 → zk Γ (wL cI cZ ad) (RG bsL) S32 [(0, .ref b), (1, .ref (ad 0)), (2, .ref (ad 38)), (3, .ref (ad 39)), (4, .ref (ad 40)), (5, .ref (ad 41)), (6, .int (zI x18)), (8, .int (zI a8)), (9, .int (zI a9)), (11, .int (zI x14)), (12, .int (zI v13)), (13, .int (zI v14)), (15, .int (zI v22)), (16, .int (zI v23)), (17, .int (zI x20))] 506 [.int (zI v25), .int (zI v24), .int (zI v21)])) h79 (fun v25 S32 h80 r46 => ?_) (fun j14 J14 h97 => ?_)
                            · refine zj1_e (PJ := (fun v26 S33 => inR v26 → zk Γ (wL cI cZ ad) (RG bsL) S33 [(0, .ref b), (1, .ref (ad 0)), (2, .ref (ad 38)), (3, .ref (ad 39)), (4, .ref (ad 40)), (5, .ref (ad 41)), (6, .int (zI x18)), (8, .int (zI a8)), (9, .int (zI a9)), (11, .int (zI x14)), (12, .int (zI v13)), (13, .int (zI v14)), (15, .int (zI v22)), (16, .int (zI v23)), (17, .int (zI x20))] 514 [.int (zI v26), .int (zI v21)])) h80 (fun v26 S33 h81 r47 => ?_) (fun j13 J13 h94 => ?_)
                              · refine k_iadd F dL_law_514 h81 (fun x22 r48 h82 => ?_)
                                refine k_istore F dL_law_515 (by decide) rfl ?_
                                refine k_aload F dL_law_517 6 rfl ?_
                                refine k_iload F dL_law_519 13 rfl ?_
                                refine k_iload F dL_law_521 15 rfl ?_
                                refine zj1_e (PJ := (fun v27 S34 => inR v27 → zk Γ (wL cI cZ ad) (RG bsL) S34 [(0, .ref b), (1, .ref (ad 0)), (2, .ref (ad 38)), (3, .ref (ad 39)), (4, .ref (ad 40)), (5, .ref (ad 41)), (6, .int (zI x18)), (8, .int (zI a8)), (9, .int (zI a9)), (11, .int (zI x14)), (12, .int (zI v13)), (13, .int (zI v14)), (14, .int (zI x22)), (15, .int (zI v22)), (16, .int (zI v23)), (17, .int (zI x20))] 531 [.int (zI v27), .int (zI v22), .ref (ad 41)])) h82 (fun v27 S34 h83 r49 => ?_) (fun j12 J12 h91 => ?_)
                                · refine k_iast F rfl 41 (aL_7 cI cZ ad) (sL_7 cI cZ ad) (by decide) r40 r49 dL_law_531 h83 (fun S35 h84 => ?_)
                                  refine k_aload F dL_law_532 4 rfl ?_
                                  refine k_iload F dL_law_534 13 rfl ?_
                                  refine k_iload F dL_law_536 15 rfl ?_
                                  refine zj1_e (PJ := (fun v28 S36 => inR v28 → zk Γ (wL cI cZ ad) (RG bsL) S36 [(0, .ref b), (1, .ref (ad 0)), (2, .ref (ad 38)), (3, .ref (ad 39)), (4, .ref (ad 40)), (5, .ref (ad 41)), (6, .int (zI x18)), (8, .int (zI a8)), (9, .int (zI a9)), (11, .int (zI x14)), (12, .int (zI v13)), (13, .int (zI v14)), (14, .int (zI x22)), (15, .int (zI v22))] 548 [.int (zI v28), .int (zI v22), .ref (ad 40)])) h84 (fun v28 S36 h85 r50 => ?_) (fun j11 J11 h88 => ?_)
                                  · refine k_iast F rfl 40 (aL_5 cI cZ ad) (sL_5 cI cZ ad) (by decide) r40 r50 dL_law_548 h85 (fun S37 h86 => ?_)
                                    refine k_iinc F (k := 13) (lv' := fun y => [(15, .int (zI y)), (0, .ref b), (1, .ref (ad 0)), (2, .ref (ad 38)), (3, .ref (ad 39)), (4, .ref (ad 40)), (5, .ref (ad 41)), (6, .int (zI x18)), (8, .int (zI a8)), (9, .int (zI a9)), (11, .int (zI x14)), (12, .int (zI v13)), (13, .int (zI v14)), (14, .int (zI x22))]) dL_law_549 rfl (by decide) (fun _ => rfl) h86 (fun x23 r51 h87 => ?_)
                                    refine k_goto F (tgt := 405) dL_law_552 (by decide) ?_
                                    exact k_sub [1, 2, 3, 4, 5, 6, 7, 8, 9, 10, 11, 12, 13, 0] rfl (hrec3 x22 x23 S37 h87 r48 r51)
                                  · refine k_if_ge F r43 (tgt := 546) dL_law_538 (by decide) h88 (fun h89 => ?_) (fun h90 => ?_)
                                    · refine k_iload F dL_law_546 15 rfl ?_
                                      exact k_sub [0, 1, 2, 3, 4, 5, 6, 7, 8, 9, 10, 11, 12, 13] rfl (J11 x20 S35 h89 r43)
                                    · refine k_iload F dL_law_541 14 rfl ?_
                                      refine k_goto F (tgt := 548) dL_law_543 (by decide) ?_
                                      exact k_sub [0, 1, 2, 3, 4, 5, 6, 7, 8, 9, 10, 11, 12, 13] rfl (J11 v23 S35 h90 r41)
                                · refine k_if_ge F r43 (tgt := 530) dL_law_523 (by decide) h91 (fun h92 => ?_) (fun h93 => ?_)
                                  · refine k_iconst F dL_law_530 ?_
                                    exact k_sub [1, 2, 3, 4, 5, 6, 7, 8, 9, 10, 11, 12, 0, 13, 14, 15] rfl (J12 0 S33 h92 iR_0)
                                  · refine k_iconst F dL_law_526 ?_
                                    refine k_goto F (tgt := 531) dL_law_527 (by decide) ?_
                                    exact k_sub [1, 2, 3, 4, 5, 6, 7, 8, 9, 10, 11, 12, 0, 13, 14, 15] rfl (J12 1 S33 h93 iR_1)
                              · refine k_icmp_ne F r44 r46 (tgt := 513) dL_law_506 (by decide) h94 (fun h95 => ?_) (fun h96 => ?_)
                                · refine k_iconst F dL_law_513 ?_
                                  exact k_sub [0, 1, 2, 3, 4, 5, 6, 7, 8, 9, 10, 11, 12, 13, 14] rfl (J13 1 S32 h95 iR_1)
                                · refine k_iconst F dL_law_509 ?_
                                  refine k_goto F (tgt := 514) dL_law_510 (by decide) ?_
                                  exact k_sub [0, 1, 2, 3, 4, 5, 6, 7, 8, 9, 10, 11, 12, 13, 14] rfl (J13 0 S32 h96 iR_0)
                            · refine k_icmp_ne F r45 iR_1 (tgt := 505) dL_law_498 (by decide) h97 (fun h98 => ?_) (fun h99 => ?_)
                              · refine k_iconst F dL_law_505 ?_
                                exact k_sub [0, 1, 2, 3, 4, 5, 6, 7, 8, 9, 10, 11, 12, 13, 14] rfl (J14 0 S31 h98 iR_0)
                              · refine k_iconst F dL_law_501 ?_
                                refine k_goto F (tgt := 506) dL_law_502 (by decide) ?_
                                exact k_sub [0, 1, 2, 3, 4, 5, 6, 7, 8, 9, 10, 11, 12, 13, 14] rfl (J14 1 S31 h99 iR_1)
                          · refine k_if_ge F r43 (tgt := 491) dL_law_484 (by decide) h100 (fun h101 => ?_) (fun h102 => ?_)
                            · refine k_iconst F dL_law_491 ?_
                              exact k_sub [2, 3, 4, 5, 6, 7, 8, 9, 10, 11, 12, 13, 15, 1, 0] rfl (J15 0 S30 h101 iR_0)
                            · refine k_iconst F dL_law_487 ?_
                              refine k_goto F (tgt := 492) dL_law_488 (by decide) ?_
                              exact k_sub [2, 3, 4, 5, 6, 7, 8, 9, 10, 11, 12, 13, 15, 1, 0] rfl (J15 1 S30 h102 iR_1)
                        · refine zj0_e (PJ := (fun S38 => zk Γ (wL cI cZ ad) (RG bsL) S38 [(0, .ref b), (1, .ref (ad 0)), (2, .ref (ad 38)), (3, .ref (ad 39)), (4, .ref (ad 40)), (5, .ref (ad 41)), (6, .int (zI x18)), (8, .int (zI a8)), (9, .int (zI a9)), (11, .int (zI x14)), (12, .int (zI v13)), (13, .int (zI v14)), (14, .int (zI v21)), (15, .int (zI v22))] 437 [])) h103 (fun S38 h104 => ?_) (fun j18 J18 h114 => ?_)
                          · refine k_iload F dL_law_437 11 rfl ?_
                            refine zj0_e (PJ := (fun S39 => zk Γ (wL cI cZ ad) (RG bsL) S39 [(0, .ref b), (1, .ref (ad 0)), (2, .ref (ad 38)), (3, .ref (ad 39)), (4, .ref (ad 40)), (5, .ref (ad 41)), (6, .int (zI x18)), (8, .int (zI a8)), (9, .int (zI a9)), (11, .int (zI x14)), (12, .int (zI v13)), (13, .int (zI v14)), (14, .int (zI v21)), (15, .int (zI v22))] 459 [])) h104 (fun S39 h105 => ?_) (fun j17 J17 h107 => ?_)
                            · refine k_aload F dL_law_459 4 rfl ?_
                              refine k_iload F dL_law_461 13 rfl ?_
                              refine k_iald F rfl 40 (aL_5 cI cZ ad) r40 dL_law_463 h105 (fun x24 r52 h106 => ?_)
                              exact k_sub [0, 1, 2, 3, 4, 5, 6, 7, 8, 9, 10, 11, 12, 13] rfl (J16 x24 S39 h106 r52)
                            · refine k_if_eq F r30 (tgt := 459) dL_law_439 (by decide) h107 (fun h108 => ?_) (fun h109 => ?_)
                              · exact k_sub [0, 1, 2, 3, 4, 5, 6, 7, 8, 9, 10, 11, 12, 13] rfl (J17 S38 h108)
                              · refine k_aload F dL_law_442 4 rfl ?_
                                refine k_iload F dL_law_444 13 rfl ?_
                                refine k_iald F rfl 40 (aL_5 cI cZ ad) r40 dL_law_446 h109 (fun x25 r53 h110 => ?_)
                                refine k_iload F dL_law_447 6 rfl ?_
                                refine k_icmp_lt F r53 r37 (tgt := 459) dL_law_449 (by decide) h110 (fun h111 => ?_) (fun h112 => ?_)
                                · exact k_sub [0, 1, 2, 3, 4, 5, 6, 7, 8, 9, 10, 11, 12, 13] rfl (J17 S38 h111)
                                · refine k_iload F dL_law_452 6 rfl ?_
                                  refine k_iconst F dL_law_454 ?_
                                  refine k_isub F dL_law_455 h112 (fun x26 r54 h113 => ?_)
                                  refine k_goto F (tgt := 464) dL_law_456 (by decide) ?_
                                  exact k_sub [0, 1, 2, 3, 4, 5, 6, 7, 8, 9, 10, 11, 12, 13] rfl (J16 x26 S38 h113 r54)
                          · refine k_if_eq F r30 (tgt := 437) dL_law_414 (by decide) h114 (fun h115 => ?_) (fun h116 => ?_)
                            · exact k_sub [0, 1, 2, 3, 4, 5, 6, 7, 8, 9, 10, 11, 12, 13] rfl (J18 S28 h115)
                            · refine k_aload F dL_law_417 4 rfl ?_
                              refine k_iload F dL_law_419 13 rfl ?_
                              refine k_iald F rfl 40 (aL_5 cI cZ ad) r40 dL_law_421 h116 (fun x27 r55 h117 => ?_)
                              refine k_iload F dL_law_422 9 rfl ?_
                              refine k_icmp_le F r55 r26 (tgt := 437) dL_law_424 (by decide) h117 (fun h118 => ?_) (fun h119 => ?_)
                              · exact k_sub [0, 1, 2, 3, 4, 5, 6, 7, 8, 9, 10, 11, 12, 13] rfl (J18 S28 h118)
                              · refine k_aload F dL_law_427 4 rfl ?_
                                refine k_iload F dL_law_429 13 rfl ?_
                                refine k_iald F rfl 40 (aL_5 cI cZ ad) r40 dL_law_431 h119 (fun x28 r56 h120 => ?_)
                                refine k_iconst F dL_law_432 ?_
                                refine k_isub F dL_law_433 h120 (fun x29 r57 h121 => ?_)
                                refine k_goto F (tgt := 464) dL_law_434 (by decide) ?_
                                exact k_sub [0, 1, 2, 3, 4, 5, 6, 7, 8, 9, 10, 11, 12, 13] rfl (J16 x29 S28 h121 r57)
                    · refine k_if_eq F r30 (tgt := 399) dL_law_389 (by decide) h122 (fun h123 => ?_) (fun h124 => ?_)
                      · refine k_iload F dL_law_399 10 rfl ?_
                        exact k_sub [1, 2, 3, 4, 5, 6, 0, 7, 8, 9, 10, 11, 12] rfl (J19 v13 S25 h123 r29)
                      · refine k_aload_n F dL_law_392 rfl 3 rfl ?_
                        refine k_iload F dL_law_393 9 rfl ?_
                        refine k_iald F rfl 38 (aL_1 cI cZ ad) r26 dL_law_395 h124 (fun x30 r58 h125 => ?_)
                        refine k_goto F (tgt := 401) dL_law_396 (by decide) ?_
                        exact k_sub [1, 2, 3, 4, 5, 6, 0, 7, 8, 9, 10, 11, 12] rfl (J19 x30 S25 h125 r58)
                  · refine k_if_eq F r30 (tgt := 380) dL_law_373 (by decide) h126 (fun h127 => ?_) (fun h128 => ?_)
                    · refine k_iconst F dL_law_380 ?_
                      exact k_sub [0, 1, 2, 3, 4, 5, 7, 8, 9, 10, 11, 12] rfl (J20 0 S24 h127 iR_0)
                    · refine k_iconst F dL_law_376 ?_
                      refine k_goto F (tgt := 381) dL_law_377 (by decide) ?_
                      exact k_sub [0, 1, 2, 3, 4, 5, 7, 8, 9, 10, 11, 12] rfl (J20 1 S24 h128 iR_1)
                · refine k_sub [2, 3, 4, 5, 6, 7, 8, 9, 10, 11, 12, 13, 1, 0] rfl (zl1_e (F := (b_L_law_339 a6 j21 v14)) (fun v29 S40 => inR v29 → zk Γ (wL cI cZ ad) (RG bsL) S40 [(0, .ref b), (1, .ref (ad 0)), (2, .ref (ad 38)), (3, .ref (ad 39)), (4, .ref (ad 40)), (5, .ref (ad 41)), (6, .int (zI a6)), (8, .int (zI a8)), (9, .int (zI a9)), (11, .int (zI x14)), (12, .int (zI v13)), (13, .int (zI v14)), (14, .int (zI v15)), (15, .int (zI v29))] 339 []) (fun rec4 v29 S40 hrec4 h130 r59 => ?_) 1000 x14 S20 h129 r26)
                  refine k_iload F dL_law_339 13 rfl ?_
                  refine k_iload F dL_law_341 6 rfl ?_
                  refine k_iconst F dL_law_343 ?_
                  refine k_isub F dL_law_344 h130 (fun x31 r60 h131 => ?_)
                  refine k_icmp_ge F r59 r60 (tgt := 369) dL_law_345 (by decide) h131 (fun h132 => ?_) (fun h133 => ?_)
                  · exact k_sub [0, 1, 2, 3, 4, 5, 6, 7, 8, 9, 10, 11, 12] rfl (J21 S40 h132)
                  · refine k_iload F dL_law_348 11 rfl ?_
                    refine k_if_eq F r30 (tgt := 369) dL_law_350 (by decide) h133 (fun h134 => ?_) (fun h135 => ?_)
                    · exact k_sub [0, 1, 2, 3, 4, 5, 6, 7, 8, 9, 10, 11, 12] rfl (J21 S40 h134)
                    · refine k_aload_n F dL_law_353 rfl 2 rfl ?_
                      refine k_iload F dL_law_354 13 rfl ?_
                      refine k_aload_n F dL_law_356 rfl 2 rfl ?_
                      refine k_iload F dL_law_357 13 rfl ?_
                      refine k_iconst F dL_law_359 ?_
                      refine k_iadd F dL_law_360 h135 (fun x32 r61 h136 => ?_)
                      refine k_iald F rfl 38 (aL_1 cI cZ ad) r61 dL_law_361 h136 (fun x33 r62 h137 => ?_)
                      refine k_iast F rfl 38 (aL_1 cI cZ ad) (sL_1 cI cZ ad) (by decide) r59 r62 dL_law_362 h137 (fun S41 h138 => ?_)
                      refine k_iinc F (k := 13) (lv' := fun y => [(15, .int (zI y)), (0, .ref b), (1, .ref (ad 0)), (2, .ref (ad 38)), (3, .ref (ad 39)), (4, .ref (ad 40)), (5, .ref (ad 41)), (6, .int (zI a6)), (8, .int (zI a8)), (9, .int (zI a9)), (11, .int (zI x14)), (12, .int (zI v13)), (13, .int (zI v14)), (14, .int (zI v15))]) dL_law_363 rfl (by decide) (fun _ => rfl) h138 (fun x34 r63 h139 => ?_)
                      refine k_goto F (tgt := 339) dL_law_366 (by decide) ?_
                      exact k_sub [1, 2, 3, 4, 5, 6, 7, 8, 9, 10, 11, 12, 13, 0] rfl (hrec4 x34 S41 h139 r63)
          · refine k_icmp_lt F r26 ra6 (tgt := 310) dL_law_301 (by decide) h140 (fun h141 => ?_) (fun h142 => ?_)
            · refine k_iload F dL_law_310 0 rfl ?_
              refine zj0_e (PJ := (fun S42 => zk Γ (wL cI cZ ad) (RG bsL) S42 [(0, .ref b), (1, .ref (ad 0)), (2, .ref (ad 38)), (3, .ref (ad 39)), (4, .ref (ad 40)), (5, .ref (ad 41)), (6, .int (zI a6)), (8, .int (zI a8)), (9, .int (zI a9)), (11, .int (zI x14)), (12, .int (zI v13)), (13, .int (zI v14))] 327 [])) h141 (fun S42 h143 => ?_) (fun j23 J23 h144 => ?_)
              · refine k_iconst F dL_law_327 ?_
                exact k_sub [0, 1, 2, 3, 4, 5, 6, 7, 8, 9, 10, 11] rfl (J22 0 S42 h143 iR_0)
              · refine k_if_eq F r30 (tgt := 327) dL_law_312 (by decide) h144 (fun h145 => ?_) (fun h146 => ?_)
                · exact k_sub [1, 2, 3, 4, 5, 6, 7, 8, 9, 10, 11, 0] rfl (J23 S19 h145)
                · refine k_iload F dL_law_315 7 rfl ?_
                  refine k_iconst F dL_law_317 ?_
                  refine k_icmp_ne F ra6 iR_1 (tgt := 327) dL_law_318 (by decide) h146 (fun h147 => ?_) (fun h148 => ?_)
                  · exact k_sub [1, 2, 3, 4, 5, 6, 7, 8, 9, 10, 11, 0] rfl (J23 S19 h147)
                  · refine k_sipush F dL_law_321 sp_m1003 ?_
                    refine k_goto F (tgt := 328) dL_law_324 (by decide) ?_
                    exact k_sub [1, 2, 3, 4, 5, 6, 7, 8, 9, 10, 11, 0] rfl (J22 (-1003) S19 h148 iR_m1003)
            · refine k_sipush F dL_law_304 sp_m1001 ?_
              refine k_goto F (tgt := 328) dL_law_307 (by decide) ?_
              exact k_sub [1, 2, 3, 4, 5, 6, 7, 8, 9, 10, 11, 0] rfl (J22 (-1001) S19 h142 iR_m1001)
        · refine k_if_ge F r29 (tgt := 294) dL_law_287 (by decide) h149 (fun h150 => ?_) (fun h151 => ?_)
          · refine k_iconst F dL_law_294 ?_
            exact k_sub [1, 2, 3, 4, 5, 6, 7, 8, 9, 10, 0] rfl (J24 0 S18 h150 iR_0)
          · refine k_iconst F dL_law_290 ?_
            refine k_goto F (tgt := 295) dL_law_291 (by decide) ?_
            exact k_sub [1, 2, 3, 4, 5, 6, 7, 8, 9, 10, 0] rfl (J24 1 S18 h151 iR_1)
      · refine k_if_ne F r28 (tgt := 273) dL_law_266 (by decide) h152 (fun h153 => ?_) (fun h154 => ?_)
        · refine k_iload F dL_law_273 1 rfl ?_
          refine k_sipush F dL_law_275 sp_1024 ?_
          refine k_idivq F iR_1024 dL_law_278 h153 (fun x35 r64 h155 => ?_)
          refine k_iconst F dL_law_279 ?_
          refine k_callSi F cal_L_up wm_310 (fun l D A hD hG x S' h => c_L_up hD hG r64 iR_4 h) ⟨rfl, rfl, Nat.le_of_ble_eq_true rfl, Nat.le_of_ble_eq_true rfl⟩ rfl rfl (Nat.le_of_ble_eq_true rfl) dL_law_280 h155 (fun x36 S43 r65 b5 h156 => ?_)
          exact k_sub [2, 3, 4, 5, 6, 7, 8, 10, 11, 0] rfl (J25 x36 S43 h156 r65)
        · refine k_iconst F dL_law_269 ?_
          refine k_goto F (tgt := 283) dL_law_270 (by decide) ?_
          exact k_sub [2, 3, 4, 5, 6, 7, 8, 10, 11, 0] rfl (J25 (-1) S17 h154 iR_m1)
    · refine k_iload F dL_law_146 0 rfl ?_
      refine k_bipush F dL_law_148 bp_8 ?_
      refine k_idivq F iR_8 dL_law_150 h50 (fun x37 r66 h157 => ?_)
      refine k_iconst F dL_law_151 ?_
      refine k_callSi F cal_L_up wm_310 (fun l D A hD hG x S' h => c_L_up hD hG r66 iR_4 h) ⟨rfl, rfl, Nat.le_of_ble_eq_true rfl, Nat.le_of_ble_eq_true rfl⟩ rfl rfl (Nat.le_of_ble_eq_true rfl) dL_law_152 h157 (fun x38 S44 r67 b6 h158 => ?_)
      refine k_istore F dL_law_155 (by decide) rfl ?_
      refine k_iconst F dL_law_157 ?_
      refine k_iload F dL_law_158 1 rfl ?_
      refine k_bipush F dL_law_160 bp_32 ?_
      refine k_idivq F iR_32 dL_law_162 h158 (fun x39 r68 h159 => ?_)
      refine k_iconst F dL_law_163 ?_
      refine k_callSi F cal_L_up wm_310 (fun l D A hD hG x S' h => c_L_up hD hG r68 iR_3 h) ⟨rfl, rfl, Nat.le_of_ble_eq_true rfl, Nat.le_of_ble_eq_true rfl⟩ rfl rfl (Nat.le_of_ble_eq_true rfl) dL_law_164 h159 (fun x40 S45 r69 b7 h160 => ?_)
      refine k_iadd F dL_law_167 h160 (fun x41 r70 h161 => ?_)
      refine k_istore F dL_law_168 (by decide) rfl ?_
      refine k_aload_n F dL_law_170 rfl 5 rfl ?_
      refine k_iload F dL_law_171 9 rfl ?_
      refine k_iload F dL_law_173 1 rfl ?_
      refine k_iload F dL_law_175 0 rfl ?_
      refine k_callSi F cal_L_nth wm_337 (fun l D A hD hG x S' h => c_L_nth hD hG ra6 r67 r70 h) ⟨rfl, rfl, Nat.le_of_ble_eq_true rfl, Nat.le_of_ble_eq_true rfl⟩ rfl rfl (Nat.le_of_ble_eq_true rfl) dL_law_177 h161 (fun x42 S46 r71 b8 h162 => ?_)
      refine k_istore F dL_law_180 (by decide) rfl ?_
      refine k_aload_n F dL_law_182 rfl 5 rfl ?_
      refine k_iload F dL_law_183 2 rfl ?_
      refine k_iload F dL_law_185 1 rfl ?_
      refine k_callQ F X hkn hk9 calw_comment wm_338 (fun l D A hst hD hG h0 r h hE => c_L_comment hst hD hG r67 r70 h0 h hE) ⟨Nat.le_of_ble_eq_true rfl, Nat.le_of_ble_eq_true rfl⟩ rfl rfl (Nat.le_of_ble_eq_true rfl) dL_law_187 h162 (fun x43 S47 r72 h163 => ?_)
      refine k_iload F2 dL_law_190 0 rfl ?_
      refine zj1_e (PJ := (fun v30 S48 => inR v30 → zk (zup Γ (k9 + 1) (n9 + 6)) (wL cI cZ ad) (RG bsL) S48 [(0, .ref b), (1, .ref (ad 0)), (2, .ref (ad 38)), (3, .ref (ad 39)), (4, .ref (ad 40)), (5, .ref (ad 41)), (6, .int (zI a6)), (8, .int (zI a8)), (9, .int (zI a9)), (11, .int (zI x38)), (13, .int (zI x42))] 203 [.int (zI v30), .int (zI x43)])) h163 (fun v30 S48 h164 r73 => ?_) (fun j28 J28 h177 => ?_)
      · refine zj1_e (PJ := (fun v31 S49 => inR v31 → zk (zup Γ (k9 + 1) (n9 + 6)) (wL cI cZ ad) (RG bsL) S49 [(0, .ref b), (1, .ref (ad 0)), (2, .ref (ad 38)), (3, .ref (ad 39)), (4, .ref (ad 40)), (5, .ref (ad 41)), (6, .int (zI a6)), (8, .int (zI a8)), (9, .int (zI a9)), (11, .int (zI x38)), (13, .int (zI x42))] 211 [.int (zI v31)])) h164 (fun v31 S49 h165 r74 => ?_) (fun j27 J27 h174 => ?_)
        · refine k_istore F2 dL_law_211 (by decide) rfl ?_
          refine k_iload F2 dL_law_213 11 rfl ?_
          refine zj1_e (PJ := (fun v32 S50 => inR v32 → zk (zup Γ (k9 + 1) (n9 + 6)) (wL cI cZ ad) (RG bsL) S50 [(0, .ref b), (1, .ref (ad 0)), (2, .ref (ad 38)), (3, .ref (ad 39)), (4, .ref (ad 40)), (5, .ref (ad 41)), (6, .int (zI a6)), (7, .int (zI v31)), (8, .int (zI v32)), (9, .int (zI a9))] 240 [])) h165 (fun v32 S50 h166 r75 => ?_) (fun j26 J26 h167 => ?_)
          · refine k_goto F2 (tgt := 575) dL_law_240 (by decide) ?_
            exact k_sub [0, 1, 2, 3, 4, 5, 6, 7, 8, 9] rfl (J8 a6 v31 v32 S50 h166 ra6 r74 r75)
          · refine k_if_lt F2 r71 (tgt := 240) dL_law_215 (by decide) h167 (fun h168 => ?_) (fun h169 => ?_)
            · exact k_sub [1, 2, 3, 4, 5, 6, 7, 0, 8, 9] rfl (J26 a8 S49 h168 ra8)
            · refine k_aload_n F2 dL_law_218 rfl 4 rfl ?_
              refine k_iload F2 dL_law_219 8 rfl ?_
              refine k_iload F2 dL_law_221 10 rfl ?_
              refine k_iast F2 rfl 39 (aL_3 cI cZ ad) (sL_3 cI cZ ad) (by decide) ra8 r67 dL_law_223 h169 (fun S51 h170 => ?_)
              refine k_aload F2 dL_law_224 5 rfl ?_
              refine k_iload F2 dL_law_226 8 rfl ?_
              refine k_iload F2 dL_law_228 11 rfl ?_
              refine k_iast F2 rfl 40 (aL_5 cI cZ ad) (sL_5 cI cZ ad) (by decide) ra8 r71 dL_law_230 h170 (fun S52 h171 => ?_)
              refine k_aload F2 dL_law_231 6 rfl ?_
              refine k_iload F2 dL_law_233 8 rfl ?_
              refine k_iconst F2 dL_law_235 ?_
              refine k_iast F2 rfl 41 (aL_7 cI cZ ad) (sL_7 cI cZ ad) (by decide) ra8 iR_0 dL_law_236 h171 (fun S53 h172 => ?_)
              refine k_iinc F2 (k := 8) (lv' := fun y => [(8, .int (zI y)), (7, .int (zI v31)), (0, .ref b), (1, .ref (ad 0)), (2, .ref (ad 38)), (3, .ref (ad 39)), (4, .ref (ad 40)), (5, .ref (ad 41)), (6, .int (zI a6)), (9, .int (zI a9)), (11, .int (zI x38)), (13, .int (zI x42))]) dL_law_237 rfl (by decide) (fun _ => rfl) h172 (fun x44 r76 h173 => ?_)
              exact k_sub [2, 3, 4, 5, 6, 7, 8, 1, 0, 9] rfl (J26 x44 S53 h173 r76)
        · refine k_icmp_ne F2 r72 r73 (tgt := 210) dL_law_203 (by decide) h174 (fun h175 => ?_) (fun h176 => ?_)
          · refine k_iconst F2 dL_law_210 ?_
            exact k_sub [0, 1, 2, 3, 4, 5, 6, 7, 8, 9, 10] rfl (J27 0 S48 h175 iR_0)
          · refine k_iconst F2 dL_law_206 ?_
            refine k_goto F2 (tgt := 211) dL_law_207 (by decide) ?_
            exact k_sub [0, 1, 2, 3, 4, 5, 6, 7, 8, 9, 10] rfl (J27 1 S48 h176 iR_1)
      · refine k_if_ge F2 r71 (tgt := 201) dL_law_192 (by decide) h177 (fun h178 => ?_) (fun h179 => ?_)
        · refine k_iload F2 dL_law_201 12 rfl ?_
          exact k_sub [4, 5, 6, 7, 8, 9, 10, 12, 13, 2, 0] rfl (J28 a8 S47 h178 ra8)
        · refine k_sipush F2 dL_law_195 sp_m1003 ?_
          refine k_goto F2 (tgt := 203) dL_law_198 (by decide) ?_
          exact k_sub [4, 5, 6, 7, 8, 9, 10, 12, 13, 2, 0] rfl (J28 (-1003) S47 h179 iR_m1003)
