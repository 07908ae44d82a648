noncomputable def b_L_nth_9 (a1 : Int) (a2 : Int) (j1 : Int → zSt → Option zRes) (rec1 : Int → Int → Int → zSt → Option zRes) (v2 : Int) (v3 : Int) (v4 : Int) (S2 : zSt) : Option zRes := if a1 ≤ v4 then (j1 v2 S2) else (zld (S2.2 1) 12 v4 fun x1 => zj1 (fun (v5 : Int) (S3 : zSt) => zar (v3 - v5) fun x2 => zld (S3.2 1) 12 v4 fun x3 => zj1 (fun (v6 : Int) (S4 : zSt) => zar (v4 + 1) fun x4 => rec1 v6 x2 x4 S4) fun j2 => zj0 (fun (S5 : zSt) => j2 v2 S5) fun j3 => if x3 = a2 then (if x2 = 0 then (j2 v4 S3) else (j3 S3)) else (j3 S3)) fun j4 => if x1 = a2 then (j4 1 S2) else (j4 0 S2))
noncomputable def m_L_nth (S : zSt) (a1 : Int) (a2 : Int) (a3 : Int) : Option zRes := zj1 (fun (v1 : Int) (S1 : zSt) => some (v1, S1)) fun j1 => zl3 1000 (b_L_nth_9 a1 a2 j1) (-1) a3 0 S
set_option maxRecDepth 100000 in
theorem c_L_nth {l : Launch} {D : va_G} {A : Nat → Prop} {cI cZ : ClassId} {ad : Nat → Nat} (hD : ∀ S, va_D A (wL cI cZ ad S)) {S : zSt} (hG : RG bsL S) {a1 : Int} (ra1 : inR a1) {a2 : Int} (ra2 : inR a2) {a3 : Int} (ra3 : inR a3) {x : Int} {S' : zSt} (h : m_L_nth S a1 a2 a3 = some (x, S')) : zMi l yL_nth cL_nth 7 .int { frames := 0, cells := 0, slots := 0, locals := 0 } D cI cZ A (wL cI cZ ad) (RG bsL) [.ref (ad 38), .int (zI a1), .int (zI a2), .int (zI a3)] S x S' := by
  refine k_start_i (by decide +kernel) hD hG (Nat.le_of_ble_eq_true rfl) (fun Γ F hQ => ?_)
  have F : zF Γ (wL cI cZ ad) cI cZ cL_nth { frames := 0, cells := 0, slots := 0, locals := 0 } 7 RL := F
  refine k_sub [0, 1, 2, 3] (lv' := [(0, .ref (ad 38)), (1, .int (zI a1)), (2, .int (zI a2)), (3, .int (zI a3))]) rfl ?_
  refine k_iconst F dL_nth_0 ?_
  refine k_istore F dL_nth_1 (by decide) rfl ?_
  refine k_iload_n F dL_nth_3 rfl 4 rfl ?_
  refine k_istore F dL_nth_4 (by decide) rfl ?_
  refine k_iconst F dL_nth_6 ?_
  refine k_istore F dL_nth_7 (by decide) rfl ?_
  refine zj1_e (PJ := (fun v1 S1 => inR v1 → zk Γ (wL cI cZ ad) (RG bsL) S1 [(4, .int (zI v1))] 61 [])) h (fun v1 S1 h1 r1 => ?_) (fun j1 J1 h2 => ?_)
  · refine k_iload F dL_nth_61 0 rfl ?_
    exact k_iret F hQ r1 dL_nth_63 h1
  · refine k_sub [3, 4, 5, 2, 1, 0] rfl (zl3_e (F := (b_L_nth_9 a1 a2 j1)) (fun v2 v3 v4 S2 => inR v2 → inR v3 → inR v4 → zk Γ (wL cI cZ ad) (RG bsL) S2 [(0, .ref (ad 38)), (1, .int (zI a1)), (2, .int (zI a2)), (4, .int (zI v2)), (5, .int (zI v3)), (6, .int (zI v4))] 9 []) (fun rec1 v2 v3 v4 S2 hrec1 h3 r2 r3 r4 => ?_) 1000 (-1) a3 0 S h2 iR_m1 ra3 iR_0)
    refine k_iload F dL_nth_9 5 rfl ?_
    refine k_iload_n F dL_nth_11 rfl 1 rfl ?_
    refine k_icmp_ge F r4 ra1 (tgt := 61) dL_nth_12 (by decide) h3 (fun h4 => ?_) (fun h5 => ?_)
    · exact k_sub [3] rfl (J1 v2 S2 h4 r2)
    · refine k_iload F dL_nth_15 4 rfl ?_
      refine k_aload_n F dL_nth_17 rfl 0 rfl ?_
      refine k_iload F dL_nth_18 5 rfl ?_
      refine k_iald F rfl 38 (aL_1 cI cZ ad) r4 dL_nth_20 h5 (fun x1 r5 h6 => ?_)
      refine k_iload_n F dL_nth_21 rfl 2 rfl ?_
      refine zj1_e (PJ := (fun v5 S3 => inR v5 → zk Γ (wL cI cZ ad) (RG bsL) S3 [(0, .ref (ad 38)), (1, .int (zI a1)), (2, .int (zI a2)), (4, .int (zI v2)), (6, .int (zI v4))] 30 [.int (zI v5), .int (zI v3)])) h6 (fun v5 S3 h7 r6 => ?_) (fun j4 J4 h19 => ?_)
      · refine k_isub F dL_nth_30 h7 (fun x2 r7 h8 => ?_)
        refine k_istore F dL_nth_31 (by decide) rfl ?_
        refine k_aload_n F dL_nth_33 rfl 1 rfl ?_
        refine k_iload F dL_nth_34 5 rfl ?_
        refine k_iald F rfl 38 (aL_1 cI cZ ad) r4 dL_nth_36 h8 (fun x3 r8 h9 => ?_)
        refine k_iload_n F dL_nth_37 rfl 3 rfl ?_
        refine zj1_e (PJ := (fun v6 S4 => inR v6 → zk Γ (wL cI cZ ad) (RG bsL) S4 [(0, .ref (ad 38)), (1, .int (zI a1)), (2, .int (zI a2)), (5, .int (zI x2)), (6, .int (zI v4))] 53 [.int (zI v6)])) h9 (fun v6 S4 h10 r9 => ?_) (fun j2 J2 h12 => ?_)
        · refine k_istore F dL_nth_53 (by decide) rfl ?_
          refine k_iinc F (k := 5) (lv' := fun y => [(6, .int (zI y)), (4, .int (zI v6)), (0, .ref (ad 38)), (1, .int (zI a1)), (2, .int (zI a2)), (5, .int (zI x2))]) dL_nth_55 rfl (by decide) (fun _ => rfl) h10 (fun x4 r10 h11 => ?_)
          refine k_goto F (tgt := 9) dL_nth_58 (by decide) ?_
          exact k_sub [2, 3, 4, 1, 5, 0] rfl (hrec1 v6 x2 x4 S4 h11 r9 r7 r10)
        · refine zj0_e (PJ := (fun S5 => zk Γ (wL cI cZ ad) (RG bsL) S5 [(0, .ref (ad 38)), (1, .int (zI a1)), (2, .int (zI a2)), (4, .int (zI v2)), (5, .int (zI x2)), (6, .int (zI v4))] 51 [])) h12 (fun S5 h13 => ?_) (fun j3 J3 h14 => ?_)
          · refine k_iload F dL_nth_51 3 rfl ?_
            exact k_sub [0, 1, 2, 4, 5] rfl (J2 v2 S5 h13 r2)
          · refine k_icmp_ne F r8 ra2 (tgt := 51) dL_nth_38 (by decide) h14 (fun h15 => ?_) (fun h16 => ?_)
            · exact k_sub [1, 2, 3, 4, 0, 5] rfl (J3 S3 h15)
            · refine k_iload F dL_nth_41 0 rfl ?_
              refine k_if_ne F r7 (tgt := 51) dL_nth_43 (by decide) h16 (fun h17 => ?_) (fun h18 => ?_)
              · exact k_sub [1, 2, 3, 4, 0, 5] rfl (J3 S3 h17)
              · refine k_iload F dL_nth_46 5 rfl ?_
                refine k_goto F (tgt := 53) dL_nth_48 (by decide) ?_
                exact k_sub [1, 2, 3, 0, 5] rfl (J2 v4 S3 h18 r4)
      · refine k_icmp_ne F r5 ra2 (tgt := 29) dL_nth_22 (by decide) h19 (fun h20 => ?_) (fun h21 => ?_)
        · refine k_iconst F dL_nth_29 ?_
          exact k_sub [0, 1, 2, 3, 5] rfl (J4 0 S2 h20 iR_0)
        · refine k_iconst F dL_nth_25 ?_
          refine k_goto F (tgt := 30) dL_nth_26 (by decide) ?_
          exact k_sub [0, 1, 2, 3, 5] rfl (J4 1 S2 h21 iR_1)
noncomputable def b_L_near_3 (a1 : Int) (a2 : Int) (a3 : Int) (j1 : zSt → Option zRes) (rec1 : Int → zSt → Option zRes) (v1 : Int) (S2 : zSt) : Option zRes := if 12 ≤ v1 then (j1 S2) else (zar (a3 - v1) fun x1 => zj0 (fun (S3 : zSt) => zar (a3 + v1) fun x2 => zj0 (fun (S4 : zSt) => zar (v1 + 1) fun x3 => rec1 x3 S4) fun j2 => if a1 ≤ x2 then (j2 S3) else (zar (a3 + v1) fun x4 => zld (S3.2 1) 12 x4 fun x5 => if x5 = a2 then (zar (a3 + v1) fun x6 => some (x6, S3)) else (j2 S3))) fun j3 => if x1 < 0 then (j3 S2) else (zar (a3 - v1) fun x7 => if a1 ≤ x7 then (j3 S2) else (zar (a3 - v1) fun x8 => zld (S2.2 1) 12 x8 fun x9 => if x9 = a2 then (zar (a3 - v1) fun x10 => some (x10, S2)) else (j3 S2))))
noncomputable def m_L_near (S : zSt) (a1 : Int) (a2 : Int) (a3 : Int) : Option zRes := zj0 (fun (S1 : zSt) => some ((-1), S1)) fun j1 => zl1 1000 (b_L_near_3 a1 a2 a3 j1) 0 S
set_option maxRecDepth 100000 in
theorem c_L_near {l : Launch} {D : va_G} {A : Nat → Prop} {cI cZ : ClassId} {ad : Nat → Nat} (hD : ∀ S, va_D A (wL cI cZ ad S)) {S : zSt} (hG : RG bsL S) {a1 : Int} (ra1 : inR a1) {a2 : Int} (ra2 : inR a2) {a3 : Int} (ra3 : inR a3) {x : Int} {S' : zSt} (h : m_L_near S a1 a2 a3 = some (x, S')) : zMi l yL_near cL_near 5 .int { frames := 0, cells := 0, slots := 0, locals := 0 } D cI cZ A (wL cI cZ ad) (RG bsL) [.ref (ad 38), .int (zI a1), .int (zI a2), .int (zI a3)] S x S' := by
  refine k_start_i (by decide +kernel) hD hG (Nat.le_of_ble_eq_true rfl) (fun Γ F hQ => ?_)
  have F : zF Γ (wL cI cZ ad) cI cZ cL_near { frames := 0, cells := 0, slots := 0, locals := 0 } 5 RL := F
  refine k_sub [0, 1, 2, 3] (lv' := [(0, .ref (ad 38)), (1, .int (zI a1)), (2, .int (zI a2)), (3, .int (zI a3))]) rfl ?_
  refine k_iconst F dL_near_0 ?_
  refine k_istore F dL_near_1 (by decide) rfl ?_
  refine zj0_e (PJ := (fun S1 => zk Γ (wL cI cZ ad) (RG bsL) S1 [] 69 [])) h (fun S1 h1 => ?_) (fun j1 J1 h2 => ?_)
  · refine k_iconst F dL_near_69 ?_
    exact k_iret F hQ iR_m1 dL_near_70 h1
  · refine k_sub [1, 2, 3, 4, 0] rfl (zl1_e (F := (b_L_near_3 a1 a2 a3 j1)) (fun v1 S2 => inR v1 → zk Γ (wL cI cZ ad) (RG bsL) S2 [(0, .ref (ad 38)), (1, .int (zI a1)), (2, .int (zI a2)), (3, .int (zI a3)), (4, .int (zI v1))] 3 []) (fun rec1 v1 S2 hrec1 h3 r1 => ?_) 1000 0 S h2 iR_0)
    refine k_iload F dL_near_3 4 rfl ?_
    refine k_bipush F dL_near_5 bp_12 ?_
    refine k_icmp_ge F r1 iR_12 (tgt := 69) dL_near_7 (by decide) h3 (fun h4 => ?_) (fun h5 => ?_)
    · exact k_sub [] rfl (J1 S2 h4)
    · refine k_iload_n F dL_near_10 rfl 3 rfl ?_
      refine k_iload F dL_near_11 4 rfl ?_
      refine k_isub F dL_near_13 h5 (fun x1 r2 h6 => ?_)
      refine zj0_e (PJ := (fun S3 => zk Γ (wL cI cZ ad) (RG bsL) S3 [(0, .ref (ad 38)), (1, .int (zI a1)), (2, .int (zI a2)), (3, .int (zI a3)), (4, .int (zI v1))] 40 [])) h6 (fun S3 h7 => ?_) (fun j3 J3 h19 => ?_)
      · refine k_iload_n F dL_near_40 rfl 3 rfl ?_
        refine k_iload F dL_near_41 4 rfl ?_
        refine k_iadd F dL_near_43 h7 (fun x2 r3 h8 => ?_)
        refine k_iload_n F dL_near_44 rfl 1 rfl ?_
        refine zj0_e (PJ := (fun S4 => zk Γ (wL cI cZ ad) (RG bsL) S4 [(0, .ref (ad 38)), (1, .int (zI a1)), (2, .int (zI a2)), (3, .int (zI a3)), (4, .int (zI v1))] 63 [])) h8 (fun S4 h9 => ?_) (fun j2 J2 h11 => ?_)
        · refine k_iinc F (k := 4) (lv' := fun y => [(4, .int (zI y)), (0, .ref (ad 38)), (1, .int (zI a1)), (2, .int (zI a2)), (3, .int (zI a3))]) dL_near_63 rfl (by decide) (fun _ => rfl) h9 (fun x3 r4 h10 => ?_)
          refine k_goto F (tgt := 3) dL_near_66 (by decide) ?_
          exact k_sub [1, 2, 3, 4, 0] rfl (hrec1 x3 S4 h10 r4)
        · refine k_icmp_ge F r3 ra1 (tgt := 63) dL_near_45 (by decide) h11 (fun h12 => ?_) (fun h13 => ?_)
          · exact k_sub [0, 1, 2, 3, 4] rfl (J2 S3 h12)
          · refine k_aload_n F dL_near_48 rfl 0 rfl ?_
            refine k_iload_n F dL_near_49 rfl 3 rfl ?_
            refine k_iload F dL_near_50 4 rfl ?_
            refine k_iadd F dL_near_52 h13 (fun x4 r5 h14 => ?_)
            refine k_iald F rfl 38 (aL_1 cI cZ ad) r5 dL_near_53 h14 (fun x5 r6 h15 => ?_)
            refine k_iload_n F dL_near_54 rfl 2 rfl ?_
            refine k_icmp_ne F r6 ra2 (tgt := 63) dL_near_55 (by decide) h15 (fun h16 => ?_) (fun h17 => ?_)
            · exact k_sub [0, 1, 2, 3, 4] rfl (J2 S3 h16)
            · refine k_iload_n F dL_near_58 rfl 3 rfl ?_
              refine k_iload F dL_near_59 4 rfl ?_
              refine k_iadd F dL_near_61 h17 (fun x6 r7 h18 => ?_)
              exact k_iret F hQ r7 dL_near_62 h18
      · refine k_if_lt F r2 (tgt := 40) dL_near_14 (by decide) h19 (fun h20 => ?_) (fun h21 => ?_)
        · exact k_sub [0, 1, 2, 3, 4] rfl (J3 S2 h20)
        · refine k_iload_n F dL_near_17 rfl 3 rfl ?_
          refine k_iload F dL_near_18 4 rfl ?_
          refine k_isub F dL_near_20 h21 (fun x7 r8 h22 => ?_)
          refine k_iload_n F dL_near_21 rfl 1 rfl ?_
          refine k_icmp_ge F r8 ra1 (tgt := 40) dL_near_22 (by decide) h22 (fun h23 => ?_) (fun h24 => ?_)
          · exact k_sub [0, 1, 2, 3, 4] rfl (J3 S2 h23)
          · refine k_aload_n F dL_near_25 rfl 0 rfl ?_
            refine k_iload_n F dL_near_26 rfl 3 rfl ?_
            refine k_iload F dL_near_27 4 rfl ?_
            refine k_isub F dL_near_29 h24 (fun x8 r9 h25 => ?_)
            refine k_iald F rfl 38 (aL_1 cI cZ ad) r9 dL_near_30 h25 (fun x9 r10 h26 => ?_)
            refine k_iload_n F dL_near_31 rfl 2 rfl ?_
            refine k_icmp_ne F r10 ra2 (tgt := 40) dL_near_32 (by decide) h26 (fun h27 => ?_) (fun h28 => ?_)
            · exact k_sub [0, 1, 2, 3, 4] rfl (J3 S2 h27)
            · refine k_iload_n F dL_near_35 rfl 3 rfl ?_
              refine k_iload F dL_near_36 4 rfl ?_
              refine k_isub F dL_near_38 h28 (fun x10 r11 h29 => ?_)
              exact k_iret F hQ r11 dL_near_39 h29
