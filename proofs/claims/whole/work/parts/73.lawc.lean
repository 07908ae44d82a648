/-! THE LAW'S CASES: its words -/
theorem lz_0 : Cond.instanceMethod yX9_thrown ∈ WS := WS_in 1095 (by decide +kernel) (by decide +kernel)
theorem lz_1 : Cond.selects RX9 yX9_thrown yX9_thrown ∈ WS := WS_in 1096 (by decide +kernel) (by decide +kernel)
theorem lz_2 : Cond.initialized RX9 ∈ WS := WS_in 45 (by decide +kernel) (by decide +kernel)
theorem lz_3 : Cond.code yX9_thrown cX9_thrown 1 (some .int) ∈ WS := WS_in 1097 (by decide +kernel) (by decide +kernel)
theorem lcal_X9_thrown : zCal RX9 yX9_thrown cX9_thrown 1 (some .int) 0 := ⟨lz_0, lz_1, lz_2, lz_3, rfl, ⟨by decide, by decide⟩, by decide +kernel⟩
theorem lz_4 : Cond.methodLink RL 99 yX9_thrown ∈ WS := WS_in 1094 (by decide +kernel) (by decide +kernel)
set_option maxRecDepth 100000 in
theorem k_tailI {Γ : zG} {cI cZ cJ : ClassId} {ad : Nat → Nat} {o : Nat} {am ads : Nat → Nat} {b L : Nat} {xs : Nat → Int32} {i : Int} (F : zF Γ (wL cI cZ cJ ad o am) cI cZ cL_law room_1 7 RL) (X : zLX Γ ads cI cZ cJ b L xs) {pc : Nat} {hs : List String} {r : zRx} {v bb : Int} {M' : zSt} (hr : match r with | .inl q => M'.1 0 = 0 ∧ q.1 = bb ∧ Jn q.2 M' | .inr q => q.1 ∈ hs ∧ M'.1 0 = ((hs.idxOf q.1 : Nat) : Int) + 1 ∧ Jn q.2 M') (hG1 : RG bsC (zrs r)) (hGM : RG bsM M') (rb : inR bb) (d0 : decode cL_law pc = .ok (.istore 6, 2)) (d2 : decode cL_law (pc + 2) = .ok (.aload_n 2, 1)) (d3 : decode cL_law (pc + 3) = .ok (.invokevirtual 99, 3)) (d6 : decode cL_law (pc + 6) = .ok (.iload 5, 2)) (d8 : decode cL_law (pc + 8) = .ok (.if_icmp .eq 5, 3)) (d13 : decode cL_law (pc + 13) = .ok (.iload 5, 2)) (d15 : decode cL_law (pc + 15) = .ok (.ifCond .ne 15, 3)) (d18 : decode cL_law (pc + 18) = .ok (.aload_n 3, 1)) (d19 : decode cL_law (pc + 19) = .ok (.iconst 0, 1)) (d20 : decode cL_law (pc + 20) = .ok (.laload, 1)) (d21 : decode cL_law (pc + 21) = .ok (.iload 6, 2)) (d23 : decode cL_law (pc + 23) = .ok (.i2l, 1)) (d24 : decode cL_law (pc + 24) = .ok (.lcmp, 1)) (d25 : decode cL_law (pc + 25) = .ok (.ifCond .eq 5, 3)) {off : Int} (dE : decode cL_law (pc + 30) = .ok (.goto off, 3)) (hE : ((pc + 30 : Nat) : Int) + off = ((1713 : Nat) : Int)) (kk : ∀ C' M' v', J C' M' → zk Γ (wL cI cZ cJ ad o am) (fun _ => True) (zjn (zmx C' v') M') [(0, .ref b), (1, .ref (ad 0)), (2, .ref (am 0)), (3, .ref o), (4, .int (zI i))] 1713 []) : zk Γ (wL cI cZ cJ ad o am) (fun _ => True) (zjn (zst9 r v) M') [(5, .int (zI (zcode hs r))), (0, .ref b), (1, .ref (ad 0)), (2, .ref (am 0)), (3, .ref o), (4, .int (zI i))] pc [.int (zI bb)] := by
  have e : M'.1 0 = zcode hs r := by
    cases r with
    | inl q => exact hr.1
    | inr q => exact hr.2.1
  have ri : inR (zcode hs r) := e ▸ hGM.1 0
  refine k_istore F d0 (by decide) (lv' := [(6, .int (zI (bb))), (5, .int (zI (zcode hs r))), (0, .ref b), (1, .ref (ad 0)), (2, .ref (am 0)), (3, .ref o), (4, .int (zI i))]) rfl ?_
  refine k_aload_n F d2 rfl 4 rfl ?_
  refine k_callM F (As := []) lcal_X9_thrown lz_4 (fun l D A hD => c_X9_thrown hD hGM rfl) ⟨rfl, rfl, Nat.le_of_ble_eq_true rfl, Nat.le_of_ble_eq_true rfl⟩ rfl rfl (Nat.le_of_ble_eq_true rfl) d3 (fun _ _ _ => ?_)
  refine k_iload F d6 1 rfl ?_
  refine k_icmp_eq (R := Unit) (r := ()) (A := some ()) (B := none) F (hGM.1 0) ri d8 (tgt := pc + 13) (by omega) (if_pos e) (fun _ => ?_) (fun z => by cases z)
  refine k_iload F d13 1 rfl ?_
  have hend : ∀ C' v', J C' M' → zk Γ (wL cI cZ cJ ad o am) (fun _ => True) (zjn (zmx C' v') M') [(6, .int (zI (bb))), (5, .int (zI (zcode hs r))), (0, .ref b), (1, .ref (ad 0)), (2, .ref (am 0)), (3, .ref o), (4, .int (zI i))] (pc + 30) [] := fun C' v' hj => k_goto F dE hE (k_sub [2, 3, 4, 5, 6] rfl (kk C' M' v' hj))
  cases r with
  | inl q =>
    refine k_if_ne (R := Unit) (r := ()) (A := none) (B := some ()) F ri d15 (tgt := pc + 30) (by omega) (if_pos rfl) (fun z => by cases z) (fun _ => ?_)
    refine k_aload_n F d18 rfl 5 rfl ?_
    refine k_iconst F d19 ?_
    refine k_lald F X (v := q.1) (P := zmx q.2 q.1) rfl d20 ?_
    refine k_iload F d21 0 rfl ?_
    refine k_i2l F rb d23 ?_
    refine k_lcmp0 F hr.2.1 d24 ?_
    refine k_if_eq (R := Unit) (r := ()) (A := some ()) (B := none) F inR_0 d25 (tgt := pc + 30) (by omega) (if_pos rfl) (fun _ => ?_) (fun z => by cases z)
    exact hend q.2 q.1 ⟨⟨hG1, hGM⟩, hr.2.2⟩
  | inr q =>
    refine k_if_ne (R := Unit) (r := ()) (A := some ()) (B := none) F ri d15 (tgt := pc + 30) (by omega) (if_neg (by show ¬ (((hs.idxOf q.1 : Nat) : Int) + 1 = 0); omega)) (fun _ => ?_) (fun z => by cases z)
    exact hend q.2 v ⟨⟨hG1, hGM⟩, hr.2.2⟩
set_option maxRecDepth 100000 in
theorem k_tailZ {Γ : zG} {cI cZ cJ : ClassId} {ad : Nat → Nat} {o : Nat} {am ads : Nat → Nat} {b L : Nat} {xs : Nat → Int32} {i : Int} (F : zF Γ (wL cI cZ cJ ad o am) cI cZ cL_law room_1 7 RL) (X : zLX Γ ads cI cZ cJ b L xs) {pc : Nat} {hs : List String} {r : zRx} {v bb : Int} {M' : zSt} (hr : match r with | .inl q => M'.1 0 = 0 ∧ q.1 = bb ∧ Jn q.2 M' | .inr q => q.1 ∈ hs ∧ M'.1 0 = ((hs.idxOf q.1 : Nat) : Int) + 1 ∧ Jn q.2 M') (hG1 : RG bsC (zrs r)) (hGM : RG bsM M') (rb : inR bb) (b01 : bb = 0 ∨ bb = 1) (d0 : decode cL_law pc = .ok (.istore 6, 2)) (d2 : decode cL_law (pc + 2) = .ok (.aload_n 2, 1)) (d3 : decode cL_law (pc + 3) = .ok (.invokevirtual 99, 3)) (d6 : decode cL_law (pc + 6) = .ok (.iload 5, 2)) (d8 : decode cL_law (pc + 8) = .ok (.if_icmp .eq 5, 3)) (d13 : decode cL_law (pc + 13) = .ok (.iload 5, 2)) (d15 : decode cL_law (pc + 15) = .ok (.ifCond .ne 22, 3)) (d18 : decode cL_law (pc + 18) = .ok (.aload_n 3, 1)) (d19 : decode cL_law (pc + 19) = .ok (.iconst 0, 1)) (d20 : decode cL_law (pc + 20) = .ok (.laload, 1)) (d21 : decode cL_law (pc + 21) = .ok (.iload 6, 2)) (d23 : decode cL_law (pc + 23) = .ok (.ifCond .eq 7, 3)) (d26 : decode cL_law (pc + 26) = .ok (.lconst 1, 1)) (d27 : decode cL_law (pc + 27) = .ok (.goto 4, 3)) (d30 : decode cL_law (pc + 30) = .ok (.lconst 0, 1)) (d31 : decode cL_law (pc + 31) = .ok (.lcmp, 1)) (d32 : decode cL_law (pc + 32) = .ok (.ifCond .eq 5, 3)) {off : Int} (dE : decode cL_law (pc + 37) = .ok (.goto off, 3)) (hE : ((pc + 37 : Nat) : Int) + off = ((1713 : Nat) : Int)) (kk : ∀ C' M' v', J C' M' → zk Γ (wL cI cZ cJ ad o am) (fun _ => True) (zjn (zmx C' v') M') [(0, .ref b), (1, .ref (ad 0)), (2, .ref (am 0)), (3, .ref o), (4, .int (zI i))] 1713 []) : zk Γ (wL cI cZ cJ ad o am) (fun _ => True) (zjn (zst9 r v) M') [(5, .int (zI (zcode hs r))), (0, .ref b), (1, .ref (ad 0)), (2, .ref (am 0)), (3, .ref o), (4, .int (zI i))] pc [.int (zI bb)] := by
  have e : M'.1 0 = zcode hs r := by
    cases r with
    | inl q => exact hr.1
    | inr q => exact hr.2.1
  have ri : inR (zcode hs r) := e ▸ hGM.1 0
  refine k_istore F d0 (by decide) (lv' := [(6, .int (zI (bb))), (5, .int (zI (zcode hs r))), (0, .ref b), (1, .ref (ad 0)), (2, .ref (am 0)), (3, .ref o), (4, .int (zI i))]) rfl ?_
  refine k_aload_n F d2 rfl 4 rfl ?_
  refine k_callM F (As := []) lcal_X9_thrown lz_4 (fun l D A hD => c_X9_thrown hD hGM rfl) ⟨rfl, rfl, Nat.le_of_ble_eq_true rfl, Nat.le_of_ble_eq_true rfl⟩ rfl rfl (Nat.le_of_ble_eq_true rfl) d3 (fun _ _ _ => ?_)
  refine k_iload F d6 1 rfl ?_
  refine k_icmp_eq (R := Unit) (r := ()) (A := some ()) (B := none) F (hGM.1 0) ri d8 (tgt := pc + 13) (by omega) (if_pos e) (fun _ => ?_) (fun z => by cases z)
  refine k_iload F d13 1 rfl ?_
  have hend : ∀ C' v', J C' M' → zk Γ (wL cI cZ cJ ad o am) (fun _ => True) (zjn (zmx C' v') M') [(6, .int (zI (bb))), (5, .int (zI (zcode hs r))), (0, .ref b), (1, .ref (ad 0)), (2, .ref (am 0)), (3, .ref o), (4, .int (zI i))] (pc + 37) [] := fun C' v' hj => k_goto F dE hE (k_sub [2, 3, 4, 5, 6] rfl (kk C' M' v' hj))
  cases r with
  | inl q =>
    refine k_if_ne (R := Unit) (r := ()) (A := none) (B := some ()) F ri d15 (tgt := pc + 37) (by omega) (if_pos rfl) (fun z => by cases z) (fun _ => ?_)
    refine k_aload_n F d18 rfl 5 rfl ?_
    refine k_iconst F d19 ?_
    refine k_lald F X (v := q.1) (P := zmx q.2 q.1) rfl d20 ?_
    refine k_iload F d21 0 rfl ?_
    rcases b01 with rfl | rfl
    · refine k_if_eq (R := Unit) (r := ()) (A := some ()) (B := none) F inR_0 d23 (tgt := pc + 30) (by omega) (if_pos rfl) (fun _ => ?_) (fun z => by cases z)
      refine k_lconst F (x := 0) d30 (by decide) ?_
      refine k_lcmp0 F hr.2.1 d31 ?_
      refine k_if_eq (R := Unit) (r := ()) (A := some ()) (B := none) F inR_0 d32 (tgt := pc + 37) (by omega) (if_pos rfl) (fun _ => ?_) (fun z => by cases z)
      exact hend q.2 q.1 ⟨⟨hG1, hGM⟩, hr.2.2⟩
    · refine k_if_eq (R := Unit) (r := ()) (A := none) (B := some ()) F (by decide) d23 (tgt := pc + 30) (by omega) (if_neg (by decide)) (fun z => by cases z) (fun _ => ?_)
      refine k_lconst F (x := 1) d26 (by decide) ?_
      refine k_goto F (tgt := pc + 31) d27 (by omega) ?_
      refine k_lcmp0 F hr.2.1 d31 ?_
      refine k_if_eq (R := Unit) (r := ()) (A := some ()) (B := none) F inR_0 d32 (tgt := pc + 37) (by omega) (if_pos rfl) (fun _ => ?_) (fun z => by cases z)
      exact hend q.2 q.1 ⟨⟨hG1, hGM⟩, hr.2.2⟩
  | inr q =>
    refine k_if_ne (R := Unit) (r := ()) (A := some ()) (B := none) F ri d15 (tgt := pc + 37) (by omega) (if_neg (by show ¬ (((hs.idxOf q.1 : Nat) : Int) + 1 = 0); omega)) (fun _ => ?_) (fun z => by cases z)
    exact hend q.2 v ⟨⟨hG1, hGM⟩, hr.2.2⟩
theorem lz_5 : Cond.static yL_word ∈ WS := WS_in 322 (by decide +kernel) (by decide +kernel)
theorem lz_6 : Cond.initialized RL ∈ WS := WS_in 35 (by decide +kernel) (by decide +kernel)
theorem lz_7 : Cond.codeWith yL_word cL_word 4 (some .int) [(0, 9, 12, 13), (0, 9, 15, 15)] ∈ WS := WS_in 323 (by decide +kernel) (by decide +kernel)
theorem lwr_word : Cond.static yL_word ∈ WS ∧ Cond.initialized yL_word.cls ∈ WS ∧ Cond.codeWith yL_word cL_word 4 (some .int) [(0, 9, 12, 13), (0, 9, 15, 15)] ∈ WS ∧ (yL_word.cls ≠ "java/lang/invoke/MethodHandle" ∧ yL_word.cls ≠ "java/lang/invoke/VarHandle" ∧ (parseMethodDescriptor yL_word.desc).map (fun d => d.parameters.length) = some 3) := ⟨lz_5, lz_6, lz_7, by decide, by decide, by decide +kernel⟩
theorem lz_8 : Cond.instanceMethod yX9_word ∈ WS := WS_in 1099 (by decide +kernel) (by decide +kernel)
theorem lz_9 : Cond.selects RX9 yX9_word yX9_word ∈ WS := WS_in 1100 (by decide +kernel) (by decide +kernel)
theorem lz_10 : Cond.code yX9_word cX9_word 2 (some .int) ∈ WS := WS_in 1101 (by decide +kernel) (by decide +kernel)
theorem lcal_X9_word : zCal RX9 yX9_word cX9_word 2 (some .int) 1 := ⟨lz_8, lz_9, lz_2, lz_10, rfl, ⟨by decide, by decide⟩, by decide +kernel⟩
theorem lz_11 : Cond.methodLink RL 93 yL_word ∈ WS := WS_in 321 (by decide +kernel) (by decide +kernel)
theorem lz_12 : Cond.methodLink RL 98 yX9_word ∈ WS := WS_in 1098 (by decide +kernel) (by decide +kernel)
theorem lz_13 : Cond.instanceMethod yX8_wipe ∈ WS := WS_in 261 (by decide +kernel) (by decide +kernel)
theorem lz_14 : Cond.selects RX8 yX8_wipe yX8_wipe ∈ WS := WS_in 262 (by decide +kernel) (by decide +kernel)
theorem lz_15 : Cond.initialized RX8 ∈ WS := WS_in 36 (by decide +kernel) (by decide +kernel)
theorem lz_16 : Cond.code yX8_wipe cX8_wipe 2 (some .int) ∈ WS := WS_in 263 (by decide +kernel) (by decide +kernel)
theorem lcal_X8_wipe : zCal RX8 yX8_wipe cX8_wipe 2 (some .int) 0 := ⟨lz_13, lz_14, lz_15, lz_16, rfl, ⟨by decide, by decide⟩, by decide +kernel⟩
theorem lz_17 : Cond.instanceMethod yX9_wipe ∈ WS := WS_in 1107 (by decide +kernel) (by decide +kernel)
theorem lz_18 : Cond.selects RX9 yX9_wipe yX9_wipe ∈ WS := WS_in 1108 (by decide +kernel) (by decide +kernel)
theorem lz_19 : Cond.code yX9_wipe cX9_wipe 2 (some .int) ∈ WS := WS_in 1109 (by decide +kernel) (by decide +kernel)
theorem lcal_X9_wipe : zCal RX9 yX9_wipe cX9_wipe 2 (some .int) 0 := ⟨lz_17, lz_18, lz_2, lz_19, rfl, ⟨by decide, by decide⟩, by decide +kernel⟩
theorem lz_20 : Cond.methodLink RL 102 yX8_wipe ∈ WS := WS_in 260 (by decide +kernel) (by decide +kernel)
theorem lz_21 : Cond.methodLink RL 105 yX9_wipe ∈ WS := WS_in 1106 (by decide +kernel) (by decide +kernel)
theorem lz_22 : Cond.static yL_unit ∈ WS := WS_in 427 (by decide +kernel) (by decide +kernel)
theorem lz_23 : Cond.codeWith yL_unit cL_unit 3 (some .int) [(0, 8, 11, 15)] ∈ WS := WS_in 428 (by decide +kernel) (by decide +kernel)
theorem lwr_unit : Cond.static yL_unit ∈ WS ∧ Cond.initialized yL_unit.cls ∈ WS ∧ Cond.codeWith yL_unit cL_unit 3 (some .int) [(0, 8, 11, 15)] ∈ WS ∧ (yL_unit.cls ≠ "java/lang/invoke/MethodHandle" ∧ yL_unit.cls ≠ "java/lang/invoke/VarHandle" ∧ (parseMethodDescriptor yL_unit.desc).map (fun d => d.parameters.length) = some 2) := ⟨lz_22, lz_6, lz_23, by decide, by decide, by decide +kernel⟩
theorem lz_24 : Cond.instanceMethod yX9_unit ∈ WS := WS_in 1111 (by decide +kernel) (by decide +kernel)
theorem lz_25 : Cond.selects RX9 yX9_unit yX9_unit ∈ WS := WS_in 1112 (by decide +kernel) (by decide +kernel)
theorem lz_26 : Cond.code yX9_unit cX9_unit 2 (some .int) ∈ WS := WS_in 1113 (by decide +kernel) (by decide +kernel)
theorem lcal_X9_unit : zCal RX9 yX9_unit cX9_unit 2 (some .int) 0 := ⟨lz_24, lz_25, lz_2, lz_26, rfl, ⟨by decide, by decide⟩, by decide +kernel⟩
theorem lz_27 : Cond.methodLink RL 106 yL_unit ∈ WS := WS_in 426 (by decide +kernel) (by decide +kernel)
theorem lz_28 : Cond.methodLink RL 109 yX9_unit ∈ WS := WS_in 1110 (by decide +kernel) (by decide +kernel)
theorem lz_29 : Cond.static yL_emend ∈ WS := WS_in 453 (by decide +kernel) (by decide +kernel)
theorem lz_30 : Cond.codeWith yL_emend cL_emend 6 (some .int) [(0, 12, 15, 25), (0, 12, 19, 13), (0, 12, 23, 15)] ∈ WS := WS_in 454 (by decide +kernel) (by decide +kernel)
theorem lwr_emend : Cond.static yL_emend ∈ WS ∧ Cond.initialized yL_emend.cls ∈ WS ∧ Cond.codeWith yL_emend cL_emend 6 (some .int) [(0, 12, 15, 25), (0, 12, 19, 13), (0, 12, 23, 15)] ∈ WS ∧ (yL_emend.cls ≠ "java/lang/invoke/MethodHandle" ∧ yL_emend.cls ≠ "java/lang/invoke/VarHandle" ∧ (parseMethodDescriptor yL_emend.desc).map (fun d => d.parameters.length) = some 5) := ⟨lz_29, lz_6, lz_30, by decide, by decide, by decide +kernel⟩
theorem lz_31 : Cond.instanceMethod yX9_emend ∈ WS := WS_in 1115 (by decide +kernel) (by decide +kernel)
theorem lz_32 : Cond.selects RX9 yX9_emend yX9_emend ∈ WS := WS_in 1116 (by decide +kernel) (by decide +kernel)
theorem lz_33 : Cond.code yX9_emend cX9_emend 8 (some .int) ∈ WS := WS_in 1117 (by decide +kernel) (by decide +kernel)
theorem lcal_X9_emend : zCal RX9 yX9_emend cX9_emend 8 (some .int) 3 := ⟨lz_31, lz_32, lz_2, lz_33, rfl, ⟨by decide, by decide⟩, by decide +kernel⟩
theorem lz_34 : Cond.methodLink RL 110 yL_emend ∈ WS := WS_in 452 (by decide +kernel) (by decide +kernel)
theorem lz_35 : Cond.methodLink RL 113 yX9_emend ∈ WS := WS_in 1114 (by decide +kernel) (by decide +kernel)
theorem lz_36 : Cond.static yL_textOf ∈ WS := WS_in 510 (by decide +kernel) (by decide +kernel)
theorem lz_37 : Cond.codeWith yL_textOf cL_textOf 5 (some .int) [(0, 10, 13, 25)] ∈ WS := WS_in 511 (by decide +kernel) (by decide +kernel)
theorem lwr_textOf : Cond.static yL_textOf ∈ WS ∧ Cond.initialized yL_textOf.cls ∈ WS ∧ Cond.codeWith yL_textOf cL_textOf 5 (some .int) [(0, 10, 13, 25)] ∈ WS ∧ (yL_textOf.cls ≠ "java/lang/invoke/MethodHandle" ∧ yL_textOf.cls ≠ "java/lang/invoke/VarHandle" ∧ (parseMethodDescriptor yL_textOf.desc).map (fun d => d.parameters.length) = some 4) := ⟨lz_36, lz_6, lz_37, by decide, by decide, by decide +kernel⟩
theorem lz_38 : Cond.instanceMethod yX9_textOf ∈ WS := WS_in 1127 (by decide +kernel) (by decide +kernel)
theorem lz_39 : Cond.selects RX9 yX9_textOf yX9_textOf ∈ WS := WS_in 1128 (by decide +kernel) (by decide +kernel)
theorem lz_40 : Cond.code yX9_textOf cX9_textOf 3 (some .int) ∈ WS := WS_in 1129 (by decide +kernel) (by decide +kernel)
theorem lcal_X9_textOf : zCal RX9 yX9_textOf cX9_textOf 3 (some .int) 2 := ⟨lz_38, lz_39, lz_2, lz_40, rfl, ⟨by decide, by decide⟩, by decide +kernel⟩
theorem lz_41 : Cond.methodLink RL 114 yL_textOf ∈ WS := WS_in 509 (by decide +kernel) (by decide +kernel)
theorem lz_42 : Cond.methodLink RL 117 yX9_textOf ∈ WS := WS_in 1126 (by decide +kernel) (by decide +kernel)
theorem lz_43 : Cond.static yL_author ∈ WS := WS_in 525 (by decide +kernel) (by decide +kernel)
theorem lz_44 : Cond.codeWith yL_author cL_author 6 (some .int) [(0, 12, 15, 13), (0, 12, 19, 15)] ∈ WS := WS_in 526 (by decide +kernel) (by decide +kernel)
theorem lwr_author : Cond.static yL_author ∈ WS ∧ Cond.initialized yL_author.cls ∈ WS ∧ Cond.codeWith yL_author cL_author 6 (some .int) [(0, 12, 15, 13), (0, 12, 19, 15)] ∈ WS ∧ (yL_author.cls ≠ "java/lang/invoke/MethodHandle" ∧ yL_author.cls ≠ "java/lang/invoke/VarHandle" ∧ (parseMethodDescriptor yL_author.desc).map (fun d => d.parameters.length) = some 5) := ⟨lz_43, lz_6, lz_44, by decide, by decide, by decide +kernel⟩
theorem lz_45 : Cond.instanceMethod yX9_author ∈ WS := WS_in 1131 (by decide +kernel) (by decide +kernel)
theorem lz_46 : Cond.selects RX9 yX9_author yX9_author ∈ WS := WS_in 1132 (by decide +kernel) (by decide +kernel)
theorem lz_47 : Cond.code yX9_author cX9_author 4 (some .int) ∈ WS := WS_in 1133 (by decide +kernel) (by decide +kernel)
theorem lcal_X9_author : zCal RX9 yX9_author cX9_author 4 (some .int) 3 := ⟨lz_45, lz_46, lz_2, lz_47, rfl, ⟨by decide, by decide⟩, by decide +kernel⟩
theorem lz_48 : Cond.methodLink RL 118 yL_author ∈ WS := WS_in 524 (by decide +kernel) (by decide +kernel)
theorem lz_49 : Cond.methodLink RL 120 yX9_author ∈ WS := WS_in 1130 (by decide +kernel) (by decide +kernel)
theorem lz_50 : Cond.static yL_meant ∈ WS := WS_in 546 (by decide +kernel) (by decide +kernel)
theorem lz_51 : Cond.codeWith yL_meant cL_meant 5 (some .int) [(0, 10, 13, 13)] ∈ WS := WS_in 547 (by decide +kernel) (by decide +kernel)
theorem lwr_meant : Cond.static yL_meant ∈ WS ∧ Cond.initialized yL_meant.cls ∈ WS ∧ Cond.codeWith yL_meant cL_meant 5 (some .int) [(0, 10, 13, 13)] ∈ WS ∧ (yL_meant.cls ≠ "java/lang/invoke/MethodHandle" ∧ yL_meant.cls ≠ "java/lang/invoke/VarHandle" ∧ (parseMethodDescriptor yL_meant.desc).map (fun d => d.parameters.length) = some 4) := ⟨lz_50, lz_6, lz_51, by decide, by decide, by decide +kernel⟩
theorem lz_52 : Cond.instanceMethod yX9_meant ∈ WS := WS_in 1135 (by decide +kernel) (by decide +kernel)
theorem lz_53 : Cond.selects RX9 yX9_meant yX9_meant ∈ WS := WS_in 1136 (by decide +kernel) (by decide +kernel)
theorem lz_54 : Cond.code yX9_meant cX9_meant 6 (some .int) ∈ WS := WS_in 1137 (by decide +kernel) (by decide +kernel)
theorem lcal_X9_meant : zCal RX9 yX9_meant cX9_meant 6 (some .int) 2 := ⟨lz_52, lz_53, lz_2, lz_54, rfl, ⟨by decide, by decide⟩, by decide +kernel⟩
theorem lz_55 : Cond.methodLink RL 121 yL_meant ∈ WS := WS_in 545 (by decide +kernel) (by decide +kernel)
theorem lz_56 : Cond.methodLink RL 123 yX9_meant ∈ WS := WS_in 1134 (by decide +kernel) (by decide +kernel)
theorem lz_57 : Cond.static yL_comment ∈ WS := WS_in 566 (by decide +kernel) (by decide +kernel)
theorem lz_58 : Cond.codeWith yL_comment cL_comment 10 (some .int) [(0, 20, 23, 25), (0, 20, 27, 13), (0, 20, 31, 15)] ∈ WS := WS_in 567 (by decide +kernel) (by decide +kernel)
theorem lwr_comment : Cond.static yL_comment ∈ WS ∧ Cond.initialized yL_comment.cls ∈ WS ∧ Cond.codeWith yL_comment cL_comment 10 (some .int) [(0, 20, 23, 25), (0, 20, 27, 13), (0, 20, 31, 15)] ∈ WS ∧ (yL_comment.cls ≠ "java/lang/invoke/MethodHandle" ∧ yL_comment.cls ≠ "java/lang/invoke/VarHandle" ∧ (parseMethodDescriptor yL_comment.desc).map (fun d => d.parameters.length) = some 9) := ⟨lz_57, lz_6, lz_58, by decide, by decide, by decide +kernel⟩
theorem lz_59 : Cond.instanceMethod yX9_comment ∈ WS := WS_in 1139 (by decide +kernel) (by decide +kernel)
theorem lz_60 : Cond.selects RX9 yX9_comment yX9_comment ∈ WS := WS_in 1140 (by decide +kernel) (by decide +kernel)
theorem lz_61 : Cond.code yX9_comment cX9_comment 11 (some .int) ∈ WS := WS_in 1141 (by decide +kernel) (by decide +kernel)
theorem lcal_X9_comment : zCal RX9 yX9_comment cX9_comment 11 (some .int) 7 := ⟨lz_59, lz_60, lz_2, lz_61, rfl, ⟨by decide, by decide⟩, by decide +kernel⟩
theorem lz_62 : Cond.methodLink RL 124 yL_comment ∈ WS := WS_in 565 (by decide +kernel) (by decide +kernel)
theorem lz_63 : Cond.methodLink RL 127 yX9_comment ∈ WS := WS_in 1138 (by decide +kernel) (by decide +kernel)
theorem lz_64 : Cond.static yL_gloss ∈ WS := WS_in 605 (by decide +kernel) (by decide +kernel)
theorem lz_65 : Cond.codeWith yL_gloss cL_gloss 8 (some .int) [(0, 16, 19, 25), (0, 16, 23, 13), (0, 16, 27, 15)] ∈ WS := WS_in 606 (by decide +kernel) (by decide +kernel)
theorem lwr_gloss : Cond.static yL_gloss ∈ WS ∧ Cond.initialized yL_gloss.cls ∈ WS ∧ Cond.codeWith yL_gloss cL_gloss 8 (some .int) [(0, 16, 19, 25), (0, 16, 23, 13), (0, 16, 27, 15)] ∈ WS ∧ (yL_gloss.cls ≠ "java/lang/invoke/MethodHandle" ∧ yL_gloss.cls ≠ "java/lang/invoke/VarHandle" ∧ (parseMethodDescriptor yL_gloss.desc).map (fun d => d.parameters.length) = some 7) := ⟨lz_64, lz_6, lz_65, by decide, by decide, by decide +kernel⟩
theorem lz_66 : Cond.instanceMethod yX9_gloss ∈ WS := WS_in 1155 (by decide +kernel) (by decide +kernel)
theorem lz_67 : Cond.selects RX9 yX9_gloss yX9_gloss ∈ WS := WS_in 1156 (by decide +kernel) (by decide +kernel)
theorem lz_68 : Cond.code yX9_gloss cX9_gloss 7 (some .int) ∈ WS := WS_in 1157 (by decide +kernel) (by decide +kernel)
theorem lcal_X9_gloss : zCal RX9 yX9_gloss cX9_gloss 7 (some .int) 5 := ⟨lz_66, lz_67, lz_2, lz_68, rfl, ⟨by decide, by decide⟩, by decide +kernel⟩
theorem lz_69 : Cond.methodLink RL 128 yL_gloss ∈ WS := WS_in 604 (by decide +kernel) (by decide +kernel)
theorem lz_70 : Cond.methodLink RL 131 yX9_gloss ∈ WS := WS_in 1154 (by decide +kernel) (by decide +kernel)
theorem lz_71 : Cond.static yL_told ∈ WS := WS_in 629 (by decide +kernel) (by decide +kernel)
theorem lz_72 : Cond.codeWith yL_told cL_told 5 (some .int) [(0, 10, 13, 25), (0, 10, 17, 13)] ∈ WS := WS_in 630 (by decide +kernel) (by decide +kernel)
theorem lwr_told : Cond.static yL_told ∈ WS ∧ Cond.initialized yL_told.cls ∈ WS ∧ Cond.codeWith yL_told cL_told 5 (some .int) [(0, 10, 13, 25), (0, 10, 17, 13)] ∈ WS ∧ (yL_told.cls ≠ "java/lang/invoke/MethodHandle" ∧ yL_told.cls ≠ "java/lang/invoke/VarHandle" ∧ (parseMethodDescriptor yL_told.desc).map (fun d => d.parameters.length) = some 4) := ⟨lz_71, lz_6, lz_72, by decide, by decide, by decide +kernel⟩
theorem lz_73 : Cond.instanceMethod yX9_told ∈ WS := WS_in 1163 (by decide +kernel) (by decide +kernel)
theorem lz_74 : Cond.selects RX9 yX9_told yX9_told ∈ WS := WS_in 1164 (by decide +kernel) (by decide +kernel)
theorem lz_75 : Cond.code yX9_told cX9_told 3 (some .int) ∈ WS := WS_in 1165 (by decide +kernel) (by decide +kernel)
theorem lcal_X9_told : zCal RX9 yX9_told cX9_told 3 (some .int) 2 := ⟨lz_73, lz_74, lz_2, lz_75, rfl, ⟨by decide, by decide⟩, by decide +kernel⟩
theorem lz_76 : Cond.methodLink RL 132 yL_told ∈ WS := WS_in 628 (by decide +kernel) (by decide +kernel)
theorem lz_77 : Cond.methodLink RL 134 yX9_told ∈ WS := WS_in 1162 (by decide +kernel) (by decide +kernel)
theorem lz_78 : Cond.static yL_standsAnew ∈ WS := WS_in 672 (by decide +kernel) (by decide +kernel)
theorem lz_79 : Cond.codeWith yL_standsAnew cL_standsAnew 4 (some .int) [(0, 16, 19, 25)] ∈ WS := WS_in 673 (by decide +kernel) (by decide +kernel)
theorem lwr_standsAnew : Cond.static yL_standsAnew ∈ WS ∧ Cond.initialized yL_standsAnew.cls ∈ WS ∧ Cond.codeWith yL_standsAnew cL_standsAnew 4 (some .int) [(0, 16, 19, 25)] ∈ WS ∧ (yL_standsAnew.cls ≠ "java/lang/invoke/MethodHandle" ∧ yL_standsAnew.cls ≠ "java/lang/invoke/VarHandle" ∧ (parseMethodDescriptor yL_standsAnew.desc).map (fun d => d.parameters.length) = some 3) := ⟨lz_78, lz_6, lz_79, by decide, by decide, by decide +kernel⟩
theorem lz_80 : Cond.instanceMethod yX9_standsAnew ∈ WS := WS_in 1171 (by decide +kernel) (by decide +kernel)
theorem lz_81 : Cond.selects RX9 yX9_standsAnew yX9_standsAnew ∈ WS := WS_in 1172 (by decide +kernel) (by decide +kernel)
theorem lz_82 : Cond.code yX9_standsAnew cX9_standsAnew 2 (some .boolean) ∈ WS := WS_in 1173 (by decide +kernel) (by decide +kernel)
theorem lcal_X9_standsAnew : zCal RX9 yX9_standsAnew cX9_standsAnew 2 (some .boolean) 1 := ⟨lz_80, lz_81, lz_2, lz_82, rfl, ⟨by decide, by decide⟩, by decide +kernel⟩
theorem lz_83 : Cond.methodLink RL 135 yL_standsAnew ∈ WS := WS_in 671 (by decide +kernel) (by decide +kernel)
theorem lz_84 : Cond.methodLink RL 137 yX9_standsAnew ∈ WS := WS_in 1170 (by decide +kernel) (by decide +kernel)
theorem lz_85 : Cond.static yL_isHard ∈ WS := WS_in 679 (by decide +kernel) (by decide +kernel)
theorem lz_86 : Cond.codeWith yL_isHard cL_isHard 4 (some .int) [(0, 16, 19, 25)] ∈ WS := WS_in 680 (by decide +kernel) (by decide +kernel)
theorem lwr_isHard : Cond.static yL_isHard ∈ WS ∧ Cond.initialized yL_isHard.cls ∈ WS ∧ Cond.codeWith yL_isHard cL_isHard 4 (some .int) [(0, 16, 19, 25)] ∈ WS ∧ (yL_isHard.cls ≠ "java/lang/invoke/MethodHandle" ∧ yL_isHard.cls ≠ "java/lang/invoke/VarHandle" ∧ (parseMethodDescriptor yL_isHard.desc).map (fun d => d.parameters.length) = some 3) := ⟨lz_85, lz_6, lz_86, by decide, by decide, by decide +kernel⟩
theorem lz_87 : Cond.instanceMethod yX9_isHard ∈ WS := WS_in 1175 (by decide +kernel) (by decide +kernel)
theorem lz_88 : Cond.selects RX9 yX9_isHard yX9_isHard ∈ WS := WS_in 1176 (by decide +kernel) (by decide +kernel)
theorem lz_89 : Cond.code yX9_isHard cX9_isHard 4 (some .boolean) ∈ WS := WS_in 1177 (by decide +kernel) (by decide +kernel)
theorem lcal_X9_isHard : zCal RX9 yX9_isHard cX9_isHard 4 (some .boolean) 1 := ⟨lz_87, lz_88, lz_2, lz_89, rfl, ⟨by decide, by decide⟩, by decide +kernel⟩
theorem lz_90 : Cond.methodLink RL 138 yL_isHard ∈ WS := WS_in 678 (by decide +kernel) (by decide +kernel)
theorem lz_91 : Cond.methodLink RL 140 yX9_isHard ∈ WS := WS_in 1174 (by decide +kernel) (by decide +kernel)
theorem lz_92 : Cond.static yL_solved ∈ WS := WS_in 696 (by decide +kernel) (by decide +kernel)
theorem lz_93 : Cond.codeWith yL_solved cL_solved 4 (some .int) [(0, 9, 12, 13)] ∈ WS := WS_in 697 (by decide +kernel) (by decide +kernel)
theorem lwr_solved : Cond.static yL_solved ∈ WS ∧ Cond.initialized yL_solved.cls ∈ WS ∧ Cond.codeWith yL_solved cL_solved 4 (some .int) [(0, 9, 12, 13)] ∈ WS ∧ (yL_solved.cls ≠ "java/lang/invoke/MethodHandle" ∧ yL_solved.cls ≠ "java/lang/invoke/VarHandle" ∧ (parseMethodDescriptor yL_solved.desc).map (fun d => d.parameters.length) = some 3) := ⟨lz_92, lz_6, lz_93, by decide, by decide, by decide +kernel⟩
theorem lz_94 : Cond.instanceMethod yX9_solved ∈ WS := WS_in 1183 (by decide +kernel) (by decide +kernel)
theorem lz_95 : Cond.selects RX9 yX9_solved yX9_solved ∈ WS := WS_in 1184 (by decide +kernel) (by decide +kernel)
theorem lz_96 : Cond.code yX9_solved cX9_solved 6 (some .int) ∈ WS := WS_in 1185 (by decide +kernel) (by decide +kernel)
theorem lcal_X9_solved : zCal RX9 yX9_solved cX9_solved 6 (some .int) 1 := ⟨lz_94, lz_95, lz_2, lz_96, rfl, ⟨by decide, by decide⟩, by decide +kernel⟩
theorem lz_97 : Cond.methodLink RL 141 yL_solved ∈ WS := WS_in 695 (by decide +kernel) (by decide +kernel)
theorem lz_98 : Cond.methodLink RL 143 yX9_solved ∈ WS := WS_in 1182 (by decide +kernel) (by decide +kernel)
theorem lz_99 : Cond.instanceMethod yX8_found ∈ WS := WS_in 273 (by decide +kernel) (by decide +kernel)
theorem lz_100 : Cond.selects RX8 yX8_found yX8_found ∈ WS := WS_in 274 (by decide +kernel) (by decide +kernel)
theorem lz_101 : Cond.code yX8_found cX8_found 1 (some .int) ∈ WS := WS_in 275 (by decide +kernel) (by decide +kernel)
theorem lcal_X8_found : zCal RX8 yX8_found cX8_found 1 (some .int) 0 := ⟨lz_99, lz_100, lz_15, lz_101, rfl, ⟨by decide, by decide⟩, by decide +kernel⟩
theorem lz_102 : Cond.instanceMethod yX9_found ∈ WS := WS_in 1187 (by decide +kernel) (by decide +kernel)
theorem lz_103 : Cond.selects RX9 yX9_found yX9_found ∈ WS := WS_in 1188 (by decide +kernel) (by decide +kernel)
theorem lz_104 : Cond.code yX9_found cX9_found 1 (some .int) ∈ WS := WS_in 1189 (by decide +kernel) (by decide +kernel)
theorem lcal_X9_found : zCal RX9 yX9_found cX9_found 1 (some .int) 0 := ⟨lz_102, lz_103, lz_2, lz_104, rfl, ⟨by decide, by decide⟩, by decide +kernel⟩
theorem lz_105 : Cond.methodLink RL 144 yX8_found ∈ WS := WS_in 272 (by decide +kernel) (by decide +kernel)
theorem lz_106 : Cond.methodLink RL 147 yX9_found ∈ WS := WS_in 1186 (by decide +kernel) (by decide +kernel)
theorem lz_107 : Cond.instanceMethod yX8_exact ∈ WS := WS_in 316 (by decide +kernel) (by decide +kernel)
theorem lz_108 : Cond.selects RX8 yX8_exact yX8_exact ∈ WS := WS_in 317 (by decide +kernel) (by decide +kernel)
theorem lz_109 : Cond.code yX8_exact cX8_exact 3 (some .int) ∈ WS := WS_in 318 (by decide +kernel) (by decide +kernel)
theorem lcal_X8_exact : zCal RX8 yX8_exact cX8_exact 3 (some .int) 0 := ⟨lz_107, lz_108, lz_15, lz_109, rfl, ⟨by decide, by decide⟩, by decide +kernel⟩
theorem lz_110 : Cond.instanceMethod yX9_exact ∈ WS := WS_in 1199 (by decide +kernel) (by decide +kernel)
theorem lz_111 : Cond.selects RX9 yX9_exact yX9_exact ∈ WS := WS_in 1200 (by decide +kernel) (by decide +kernel)
theorem lz_112 : Cond.code yX9_exact cX9_exact 2 (some .int) ∈ WS := WS_in 1201 (by decide +kernel) (by decide +kernel)
theorem lcal_X9_exact : zCal RX9 yX9_exact cX9_exact 2 (some .int) 0 := ⟨lz_110, lz_111, lz_2, lz_112, rfl, ⟨by decide, by decide⟩, by decide +kernel⟩
theorem lz_113 : Cond.methodLink RL 148 yX8_exact ∈ WS := WS_in 315 (by decide +kernel) (by decide +kernel)
theorem lz_114 : Cond.methodLink RL 151 yX9_exact ∈ WS := WS_in 1198 (by decide +kernel) (by decide +kernel)
theorem lz_115 : Cond.static yL_ruling ∈ WS := WS_in 716 (by decide +kernel) (by decide +kernel)
theorem lz_116 : Cond.codeWith yL_ruling cL_ruling 6 (some .int) [(0, 12, 15, 25), (0, 12, 19, 15)] ∈ WS := WS_in 717 (by decide +kernel) (by decide +kernel)
theorem lwr_ruling : Cond.static yL_ruling ∈ WS ∧ Cond.initialized yL_ruling.cls ∈ WS ∧ Cond.codeWith yL_ruling cL_ruling 6 (some .int) [(0, 12, 15, 25), (0, 12, 19, 15)] ∈ WS ∧ (yL_ruling.cls ≠ "java/lang/invoke/MethodHandle" ∧ yL_ruling.cls ≠ "java/lang/invoke/VarHandle" ∧ (parseMethodDescriptor yL_ruling.desc).map (fun d => d.parameters.length) = some 5) := ⟨lz_115, lz_6, lz_116, by decide, by decide, by decide +kernel⟩
theorem lz_117 : Cond.instanceMethod yX9_ruling ∈ WS := WS_in 1203 (by decide +kernel) (by decide +kernel)
theorem lz_118 : Cond.selects RX9 yX9_ruling yX9_ruling ∈ WS := WS_in 1204 (by decide +kernel) (by decide +kernel)
theorem lz_119 : Cond.code yX9_ruling cX9_ruling 6 (some .int) ∈ WS := WS_in 1205 (by decide +kernel) (by decide +kernel)
theorem lcal_X9_ruling : zCal RX9 yX9_ruling cX9_ruling 6 (some .int) 3 := ⟨lz_117, lz_118, lz_2, lz_119, rfl, ⟨by decide, by decide⟩, by decide +kernel⟩
theorem lz_120 : Cond.methodLink RL 152 yL_ruling ∈ WS := WS_in 715 (by decide +kernel) (by decide +kernel)
theorem lz_121 : Cond.methodLink RL 155 yX9_ruling ∈ WS := WS_in 1202 (by decide +kernel) (by decide +kernel)
theorem lz_122 : Cond.static yL_follow ∈ WS := WS_in 747 (by decide +kernel) (by decide +kernel)
theorem lz_123 : Cond.codeWith yL_follow cL_follow 5 (some .int) [(0, 10, 13, 13), (0, 10, 17, 15)] ∈ WS := WS_in 748 (by decide +kernel) (by decide +kernel)
theorem lwr_follow : Cond.static yL_follow ∈ WS ∧ Cond.initialized yL_follow.cls ∈ WS ∧ Cond.codeWith yL_follow cL_follow 5 (some .int) [(0, 10, 13, 13), (0, 10, 17, 15)] ∈ WS ∧ (yL_follow.cls ≠ "java/lang/invoke/MethodHandle" ∧ yL_follow.cls ≠ "java/lang/invoke/VarHandle" ∧ (parseMethodDescriptor yL_follow.desc).map (fun d => d.parameters.length) = some 4) := ⟨lz_122, lz_6, lz_123, by decide, by decide, by decide +kernel⟩
theorem lz_124 : Cond.instanceMethod yX9_follow ∈ WS := WS_in 1207 (by decide +kernel) (by decide +kernel)
theorem lz_125 : Cond.selects RX9 yX9_follow yX9_follow ∈ WS := WS_in 1208 (by decide +kernel) (by decide +kernel)
theorem lz_126 : Cond.code yX9_follow cX9_follow 4 (some .int) ∈ WS := WS_in 1209 (by decide +kernel) (by decide +kernel)
theorem lcal_X9_follow : zCal RX9 yX9_follow cX9_follow 4 (some .int) 2 := ⟨lz_124, lz_125, lz_2, lz_126, rfl, ⟨by decide, by decide⟩, by decide +kernel⟩
theorem lz_127 : Cond.methodLink RL 156 yL_follow ∈ WS := WS_in 746 (by decide +kernel) (by decide +kernel)
theorem lz_128 : Cond.methodLink RL 158 yX9_follow ∈ WS := WS_in 1206 (by decide +kernel) (by decide +kernel)
theorem lz_129 : Cond.static yL_unfollow ∈ WS := WS_in 768 (by decide +kernel) (by decide +kernel)
theorem lz_130 : Cond.codeWith yL_unfollow cL_unfollow 4 (some .int) [(0, 9, 12, 25)] ∈ WS := WS_in 769 (by decide +kernel) (by decide +kernel)
theorem lwr_unfollow : Cond.static yL_unfollow ∈ WS ∧ Cond.initialized yL_unfollow.cls ∈ WS ∧ Cond.codeWith yL_unfollow cL_unfollow 4 (some .int) [(0, 9, 12, 25)] ∈ WS ∧ (yL_unfollow.cls ≠ "java/lang/invoke/MethodHandle" ∧ yL_unfollow.cls ≠ "java/lang/invoke/VarHandle" ∧ (parseMethodDescriptor yL_unfollow.desc).map (fun d => d.parameters.length) = some 3) := ⟨lz_129, lz_6, lz_130, by decide, by decide, by decide +kernel⟩
theorem lz_131 : Cond.instanceMethod yX9_unfollow ∈ WS := WS_in 1211 (by decide +kernel) (by decide +kernel)
theorem lz_132 : Cond.selects RX9 yX9_unfollow yX9_unfollow ∈ WS := WS_in 1212 (by decide +kernel) (by decide +kernel)
theorem lz_133 : Cond.code yX9_unfollow cX9_unfollow 4 (some .int) ∈ WS := WS_in 1213 (by decide +kernel) (by decide +kernel)
theorem lcal_X9_unfollow : zCal RX9 yX9_unfollow cX9_unfollow 4 (some .int) 1 := ⟨lz_131, lz_132, lz_2, lz_133, rfl, ⟨by decide, by decide⟩, by decide +kernel⟩
theorem lz_134 : Cond.methodLink RL 159 yL_unfollow ∈ WS := WS_in 767 (by decide +kernel) (by decide +kernel)
theorem lz_135 : Cond.methodLink RL 161 yX9_unfollow ∈ WS := WS_in 1210 (by decide +kernel) (by decide +kernel)
theorem lz_136 : Cond.static yL_decided ∈ WS := WS_in 789 (by decide +kernel) (by decide +kernel)
theorem lz_137 : Cond.codeWith yL_decided cL_decided 4 (some .int) [(0, 9, 12, 25)] ∈ WS := WS_in 790 (by decide +kernel) (by decide +kernel)
theorem lwr_decided : Cond.static yL_decided ∈ WS ∧ Cond.initialized yL_decided.cls ∈ WS ∧ Cond.codeWith yL_decided cL_decided 4 (some .int) [(0, 9, 12, 25)] ∈ WS ∧ (yL_decided.cls ≠ "java/lang/invoke/MethodHandle" ∧ yL_decided.cls ≠ "java/lang/invoke/VarHandle" ∧ (parseMethodDescriptor yL_decided.desc).map (fun d => d.parameters.length) = some 3) := ⟨lz_136, lz_6, lz_137, by decide, by decide, by decide +kernel⟩
theorem lz_138 : Cond.instanceMethod yX9_decided ∈ WS := WS_in 1215 (by decide +kernel) (by decide +kernel)
theorem lz_139 : Cond.selects RX9 yX9_decided yX9_decided ∈ WS := WS_in 1216 (by decide +kernel) (by decide +kernel)
theorem lz_140 : Cond.code yX9_decided cX9_decided 4 (some .int) ∈ WS := WS_in 1217 (by decide +kernel) (by decide +kernel)
theorem lcal_X9_decided : zCal RX9 yX9_decided cX9_decided 4 (some .int) 1 := ⟨lz_138, lz_139, lz_2, lz_140, rfl, ⟨by decide, by decide⟩, by decide +kernel⟩
theorem lz_141 : Cond.methodLink RL 162 yL_decided ∈ WS := WS_in 788 (by decide +kernel) (by decide +kernel)
theorem lz_142 : Cond.methodLink RL 164 yX9_decided ∈ WS := WS_in 1214 (by decide +kernel) (by decide +kernel)
theorem lz_143 : Cond.static yL_edition ∈ WS := WS_in 817 (by decide +kernel) (by decide +kernel)
theorem lz_144 : Cond.codeWith yL_edition cL_edition 5 (some .int) [(0, 10, 13, 13), (0, 10, 17, 15)] ∈ WS := WS_in 818 (by decide +kernel) (by decide +kernel)
theorem lwr_edition : Cond.static yL_edition ∈ WS ∧ Cond.initialized yL_edition.cls ∈ WS ∧ Cond.codeWith yL_edition cL_edition 5 (some .int) [(0, 10, 13, 13), (0, 10, 17, 15)] ∈ WS ∧ (yL_edition.cls ≠ "java/lang/invoke/MethodHandle" ∧ yL_edition.cls ≠ "java/lang/invoke/VarHandle" ∧ (parseMethodDescriptor yL_edition.desc).map (fun d => d.parameters.length) = some 4) := ⟨lz_143, lz_6, lz_144, by decide, by decide, by decide +kernel⟩
theorem lz_145 : Cond.instanceMethod yX9_edition ∈ WS := WS_in 1227 (by decide +kernel) (by decide +kernel)
theorem lz_146 : Cond.selects RX9 yX9_edition yX9_edition ∈ WS := WS_in 1228 (by decide +kernel) (by decide +kernel)
theorem lz_147 : Cond.code yX9_edition cX9_edition 5 (some .int) ∈ WS := WS_in 1229 (by decide +kernel) (by decide +kernel)
theorem lcal_X9_edition : zCal RX9 yX9_edition cX9_edition 5 (some .int) 2 := ⟨lz_145, lz_146, lz_2, lz_147, rfl, ⟨by decide, by decide⟩, by decide +kernel⟩
theorem lz_148 : Cond.methodLink RL 165 yL_edition ∈ WS := WS_in 816 (by decide +kernel) (by decide +kernel)
theorem lz_149 : Cond.methodLink RL 167 yX9_edition ∈ WS := WS_in 1226 (by decide +kernel) (by decide +kernel)
theorem lz_150 : Cond.static yL_address ∈ WS := WS_in 909 (by decide +kernel) (by decide +kernel)
theorem lz_151 : Cond.codeWith yL_address cL_address 5 (some .int) [(0, 10, 13, 25)] ∈ WS := WS_in 910 (by decide +kernel) (by decide +kernel)
theorem lwr_address : Cond.static yL_address ∈ WS ∧ Cond.initialized yL_address.cls ∈ WS ∧ Cond.codeWith yL_address cL_address 5 (some .int) [(0, 10, 13, 25)] ∈ WS ∧ (yL_address.cls ≠ "java/lang/invoke/MethodHandle" ∧ yL_address.cls ≠ "java/lang/invoke/VarHandle" ∧ (parseMethodDescriptor yL_address.desc).map (fun d => d.parameters.length) = some 4) := ⟨lz_150, lz_6, lz_151, by decide, by decide, by decide +kernel⟩
theorem lz_152 : Cond.instanceMethod yX9_address ∈ WS := WS_in 1239 (by decide +kernel) (by decide +kernel)
theorem lz_153 : Cond.selects RX9 yX9_address yX9_address ∈ WS := WS_in 1240 (by decide +kernel) (by decide +kernel)
theorem lz_154 : Cond.code yX9_address cX9_address 3 (some .int) ∈ WS := WS_in 1241 (by decide +kernel) (by decide +kernel)
theorem lcal_X9_address : zCal RX9 yX9_address cX9_address 3 (some .int) 2 := ⟨lz_152, lz_153, lz_2, lz_154, rfl, ⟨by decide, by decide⟩, by decide +kernel⟩
theorem lz_155 : Cond.methodLink RL 168 yL_address ∈ WS := WS_in 908 (by decide +kernel) (by decide +kernel)
theorem lz_156 : Cond.methodLink RL 170 yX9_address ∈ WS := WS_in 1238 (by decide +kernel) (by decide +kernel)
theorem lz_157 : Cond.static yL_pages ∈ WS := WS_in 931 (by decide +kernel) (by decide +kernel)
theorem lz_158 : Cond.codeWith yL_pages cL_pages 4 (some .int) [(0, 9, 12, 25)] ∈ WS := WS_in 932 (by decide +kernel) (by decide +kernel)
theorem lwr_pages : Cond.static yL_pages ∈ WS ∧ Cond.initialized yL_pages.cls ∈ WS ∧ Cond.codeWith yL_pages cL_pages 4 (some .int) [(0, 9, 12, 25)] ∈ WS ∧ (yL_pages.cls ≠ "java/lang/invoke/MethodHandle" ∧ yL_pages.cls ≠ "java/lang/invoke/VarHandle" ∧ (parseMethodDescriptor yL_pages.desc).map (fun d => d.parameters.length) = some 3) := ⟨lz_157, lz_6, lz_158, by decide, by decide, by decide +kernel⟩
theorem lz_159 : Cond.instanceMethod yX9_pages ∈ WS := WS_in 1247 (by decide +kernel) (by decide +kernel)
theorem lz_160 : Cond.selects RX9 yX9_pages yX9_pages ∈ WS := WS_in 1248 (by decide +kernel) (by decide +kernel)
theorem lz_161 : Cond.code yX9_pages cX9_pages 2 (some .int) ∈ WS := WS_in 1249 (by decide +kernel) (by decide +kernel)
theorem lcal_X9_pages : zCal RX9 yX9_pages cX9_pages 2 (some .int) 1 := ⟨lz_159, lz_160, lz_2, lz_161, rfl, ⟨by decide, by decide⟩, by decide +kernel⟩
theorem lz_162 : Cond.methodLink RL 171 yL_pages ∈ WS := WS_in 930 (by decide +kernel) (by decide +kernel)
theorem lz_163 : Cond.methodLink RL 173 yX9_pages ∈ WS := WS_in 1246 (by decide +kernel) (by decide +kernel)
theorem lz_164 : Cond.static yL_row ∈ WS := WS_in 942 (by decide +kernel) (by decide +kernel)
theorem lz_165 : Cond.codeWith yL_row cL_row 4 (some .int) [(0, 9, 12, 25)] ∈ WS := WS_in 943 (by decide +kernel) (by decide +kernel)
theorem lwr_row : Cond.static yL_row ∈ WS ∧ Cond.initialized yL_row.cls ∈ WS ∧ Cond.codeWith yL_row cL_row 4 (some .int) [(0, 9, 12, 25)] ∈ WS ∧ (yL_row.cls ≠ "java/lang/invoke/MethodHandle" ∧ yL_row.cls ≠ "java/lang/invoke/VarHandle" ∧ (parseMethodDescriptor yL_row.desc).map (fun d => d.parameters.length) = some 3) := ⟨lz_164, lz_6, lz_165, by decide, by decide, by decide +kernel⟩
theorem lz_166 : Cond.instanceMethod yX9_row ∈ WS := WS_in 1251 (by decide +kernel) (by decide +kernel)
theorem lz_167 : Cond.selects RX9 yX9_row yX9_row ∈ WS := WS_in 1252 (by decide +kernel) (by decide +kernel)
theorem lz_168 : Cond.code yX9_row cX9_row 2 (some .int) ∈ WS := WS_in 1253 (by decide +kernel) (by decide +kernel)
theorem lcal_X9_row : zCal RX9 yX9_row cX9_row 2 (some .int) 1 := ⟨lz_166, lz_167, lz_2, lz_168, rfl, ⟨by decide, by decide⟩, by decide +kernel⟩
theorem lz_169 : Cond.methodLink RL 174 yL_row ∈ WS := WS_in 941 (by decide +kernel) (by decide +kernel)
theorem lz_170 : Cond.methodLink RL 176 yX9_row ∈ WS := WS_in 1250 (by decide +kernel) (by decide +kernel)
theorem lz_171 : Cond.static yL_holds ∈ WS := WS_in 957 (by decide +kernel) (by decide +kernel)
theorem lz_172 : Cond.codeWith yL_holds cL_holds 4 (some .int) [(0, 9, 12, 25)] ∈ WS := WS_in 958 (by decide +kernel) (by decide +kernel)
theorem lwr_holds : Cond.static yL_holds ∈ WS ∧ Cond.initialized yL_holds.cls ∈ WS ∧ Cond.codeWith yL_holds cL_holds 4 (some .int) [(0, 9, 12, 25)] ∈ WS ∧ (yL_holds.cls ≠ "java/lang/invoke/MethodHandle" ∧ yL_holds.cls ≠ "java/lang/invoke/VarHandle" ∧ (parseMethodDescriptor yL_holds.desc).map (fun d => d.parameters.length) = some 3) := ⟨lz_171, lz_6, lz_172, by decide, by decide, by decide +kernel⟩
theorem lz_173 : Cond.instanceMethod yX9_holds ∈ WS := WS_in 1255 (by decide +kernel) (by decide +kernel)
theorem lz_174 : Cond.selects RX9 yX9_holds yX9_holds ∈ WS := WS_in 1256 (by decide +kernel) (by decide +kernel)
theorem lz_175 : Cond.code yX9_holds cX9_holds 6 (some .int) ∈ WS := WS_in 1257 (by decide +kernel) (by decide +kernel)
theorem lcal_X9_holds : zCal RX9 yX9_holds cX9_holds 6 (some .int) 1 := ⟨lz_173, lz_174, lz_2, lz_175, rfl, ⟨by decide, by decide⟩, by decide +kernel⟩
theorem lz_176 : Cond.methodLink RL 177 yL_holds ∈ WS := WS_in 956 (by decide +kernel) (by decide +kernel)
theorem lz_177 : Cond.methodLink RL 179 yX9_holds ∈ WS := WS_in 1254 (by decide +kernel) (by decide +kernel)
theorem lz_178 : Cond.static yL_daily ∈ WS := WS_in 973 (by decide +kernel) (by decide +kernel)
theorem lz_179 : Cond.codeWith yL_daily cL_daily 4 (some .int) [(0, 9, 12, 13)] ∈ WS := WS_in 974 (by decide +kernel) (by decide +kernel)
theorem lwr_daily : Cond.static yL_daily ∈ WS ∧ Cond.initialized yL_daily.cls ∈ WS ∧ Cond.codeWith yL_daily cL_daily 4 (some .int) [(0, 9, 12, 13)] ∈ WS ∧ (yL_daily.cls ≠ "java/lang/invoke/MethodHandle" ∧ yL_daily.cls ≠ "java/lang/invoke/VarHandle" ∧ (parseMethodDescriptor yL_daily.desc).map (fun d => d.parameters.length) = some 3) := ⟨lz_178, lz_6, lz_179, by decide, by decide, by decide +kernel⟩
theorem lz_180 : Cond.instanceMethod yX9_daily ∈ WS := WS_in 1259 (by decide +kernel) (by decide +kernel)
theorem lz_181 : Cond.selects RX9 yX9_daily yX9_daily ∈ WS := WS_in 1260 (by decide +kernel) (by decide +kernel)
theorem lz_182 : Cond.code yX9_daily cX9_daily 7 (some .int) ∈ WS := WS_in 1261 (by decide +kernel) (by decide +kernel)
theorem lcal_X9_daily : zCal RX9 yX9_daily cX9_daily 7 (some .int) 1 := ⟨lz_180, lz_181, lz_2, lz_182, rfl, ⟨by decide, by decide⟩, by decide +kernel⟩
theorem lz_183 : Cond.methodLink RL 180 yL_daily ∈ WS := WS_in 972 (by decide +kernel) (by decide +kernel)
theorem lz_184 : Cond.methodLink RL 182 yX9_daily ∈ WS := WS_in 1258 (by decide +kernel) (by decide +kernel)
theorem k_wid {Γ : zG} {w : zSt → va_W} {G : zSt → Prop} {S : zSt} {lv : List (Nat × Value)} {pc : Nat} {st : List Value} {k n k2 n2 : Nat} (hkn : zKN Γ k n) (kk : zk (zup Γ (k + k2) (n + n2)) w G S lv pc st) : zk Γ w G S lv pc st := by
  obtain ⟨p, l, e, R, s, m, args, below, meth, c, Q, D, A, k0, n0, nL⟩ := Γ
  obtain ⟨rfl, rfl⟩ := hkn
  intro hG H locs ls hP hS hh
  exact W.widen (k := k0 + k2) (n := n0 + n2) (Nat.le_add_right _ _) (Nat.le_add_right _ _) (kk hG H locs ls hP hS hh)
set_option maxRecDepth 100000 in
theorem lc_word {Γ : zG} {cI cZ cJ : ClassId} {ad : Nat → Nat} {o : Nat} {am ads : Nat → Nat} {b L : Nat} {xs : Nat → Int32} {i : Int} (F : zF Γ (wL cI cZ cJ ad o am) cI cZ cL_law room_1 7 RL) (X : zLX Γ ads cI cZ cJ b L xs) {k n : Nat} (hkn : zKN Γ k n) (hk : k + 1 ≤ 1111 ∧ n + 6 ≤ 11679) {C M : zSt} {v : Int} (hJ : J C M) (hi : 0 ≤ i ∧ i + 8 ≤ L) (hL : L ≤ 4096) (kk : ∀ C' M' v', J C' M' → zk (zup Γ (k + 1) (n + 6)) (wL cI cZ cJ ad o am) (fun _ => True) (zjn (zmx C' v') M') [(0, .ref b), (1, .ref (ad 0)), (2, .ref (am 0)), (3, .ref o), (4, .int (zI i))] 1713 []) : zk Γ (wL cI cZ cJ ad o am) (fun _ => True) (zjn (zmx C v) M) [(0, .ref b), (1, .ref (ad 0)), (2, .ref (am 0)), (3, .ref o), (4, .int (zI i))] 156 [] := by
  obtain ⟨bb, M', e9, r, e8, hr⟩ := s_word (a := sx xs (i + 1)) hJ
  have hE : ∀ E C', r = .inr (E, C') → E ∈ (["java/lang/IllegalArgumentException", "java/lang/IllegalStateException"] : List String) := fun E C' e => by subst e; exact hr.1
  refine k_aload_n F dL_law_156 rfl 1 rfl ?_
  refine k_rd F X 1 0 4 rfl rfl (by omega) hL dL_law_157 dL_law_158 dL_law_160 dL_law_161 dL_law_162 ?_
  refine k_aload_n F dL_law_163 rfl 3 rfl ?_
  refine k_callL F X hkn hk (As := [.ref (ad 0), .int (zI (sx xs (i + 1))), .ref o]) lwr_word lz_11 (fun l D A hst hD => c_L_word hst hD hJ.1.1 (sx_in xs _) e8 hE) ⟨Nat.le_of_ble_eq_true rfl, Nat.le_of_ble_eq_true rfl⟩ rfl rfl (Nat.le_of_ble_eq_true rfl) dL_law_164 (fun hG1 => ?_)
  have F1 := F.up (k := k + 1) (n := n + 6) hk.1 hk.2
  have X1 := zLX_up X (k + 1) (n + 6)
  refine k_istore F1 dL_law_167 (by decide) (lv' := [(5, .int (zI (zcode ["java/lang/IllegalArgumentException", "java/lang/IllegalStateException"] r))), (0, .ref b), (1, .ref (ad 0)), (2, .ref (am 0)), (3, .ref o), (4, .int (zI i))]) rfl ?_
  refine k_aload_n F1 dL_law_169 rfl 3 rfl ?_
  refine k_rd F1 X1 1 1 5 rfl rfl (by omega) hL dL_law_170 dL_law_171 dL_law_173 dL_law_174 dL_law_175 ?_
  refine k_callM F1 (As := [.int (zI (sx xs (i + 1)))]) lcal_X9_word lz_12 (fun l D A hD => c_X9_word hD hJ.1.2 (sx_in xs _) e9) ⟨rfl, rfl, Nat.le_of_ble_eq_true rfl, Nat.le_of_ble_eq_true rfl⟩ rfl rfl (Nat.le_of_ble_eq_true rfl) dL_law_176 (fun rb hGM _ => ?_)
  exact k_tailI F1 X1 hr hG1 hGM rb dL_law_179 dL_law_181 dL_law_182 dL_law_185 dL_law_187 dL_law_192 dL_law_194 dL_law_197 dL_law_198 dL_law_199 dL_law_200 dL_law_202 dL_law_203 dL_law_204 dL_law_209 (by decide) kk
theorem lc_wipe {Γ : zG} {cI cZ cJ : ClassId} {ad : Nat → Nat} {o : Nat} {am ads : Nat → Nat} {b L : Nat} {xs : Nat → Int32} {i : Int} (F : zF Γ (wL cI cZ cJ ad o am) cI cZ cL_law room_1 7 RL) (X : zLX Γ ads cI cZ cJ b L xs) {k n : Nat} (hkn : zKN Γ k n) (hk : k + 1 ≤ 1111 ∧ n + 6 ≤ 11679) {C M : zSt} {v : Int} (hJ : J C M) (hi : 0 ≤ i ∧ i + 8 ≤ L) (hL : L ≤ 4096) (kk : ∀ C' M' v', J C' M' → zk (zup Γ (k + 1) (n + 6)) (wL cI cZ cJ ad o am) (fun _ => True) (zjn (zmx C' v') M') [(0, .ref b), (1, .ref (ad 0)), (2, .ref (am 0)), (3, .ref o), (4, .int (zI i))] 1713 []) : zk Γ (wL cI cZ cJ ad o am) (fun _ => True) (zjn (zmx C v) M) [(0, .ref b), (1, .ref (ad 0)), (2, .ref (am 0)), (3, .ref o), (4, .int (zI i))] 212 [] := by
  obtain ⟨bb, C', M', e9, e8, hj⟩ := s_wipe hJ
  have F1 := F.up (k := k + 1) (n := n + 6) hk.1 hk.2
  have w : zk (zup Γ (k + 1) (n + 6)) (wL cI cZ cJ ad o am) (fun _ => True) (zjn (zmx C v) M) [(0, .ref b), (1, .ref (ad 0)), (2, .ref (am 0)), (3, .ref o), (4, .int (zI i))] 212 [] := by
    refine k_aload_n F1 dL_law_212 rfl 1 rfl ?_
    refine k_callC F1 (As := []) lcal_X8_wipe lz_20 (fun l D A hD => c_X8_wipe hD hJ.1.1 e8) ⟨rfl, rfl, Nat.le_of_ble_eq_true rfl, Nat.le_of_ble_eq_true rfl⟩ rfl rfl (Nat.le_of_ble_eq_true rfl) dL_law_213 (fun rx hG1 _ => ?_)
    refine k_aload_n F1 dL_law_216 rfl 2 rfl ?_
    refine k_callM F1 (As := []) lcal_X9_wipe lz_21 (fun l D A hD => c_X9_wipe hD hJ.1.2 e9) ⟨rfl, rfl, Nat.le_of_ble_eq_true rfl, Nat.le_of_ble_eq_true rfl⟩ rfl rfl (Nat.le_of_ble_eq_true rfl) dL_law_217 (fun rx2 hGM _ => ?_)
    exact k_icmp_eq (R := Unit) (r := ()) (A := some ()) (B := none) F1 rx rx2 dL_law_220 (tgt := 1713) (by decide) (if_pos rfl) (fun _ => kk C' M' v ⟨⟨hG1, hGM⟩, hj⟩) (fun z => by cases z)
  exact k_wid hkn w
set_option maxRecDepth 100000 in
theorem lc_unit {Γ : zG} {cI cZ cJ : ClassId} {ad : Nat → Nat} {o : Nat} {am ads : Nat → Nat} {b L : Nat} {xs : Nat → Int32} {i : Int} (F : zF Γ (wL cI cZ cJ ad o am) cI cZ cL_law room_1 7 RL) (X : zLX Γ ads cI cZ cJ b L xs) {k n : Nat} (hkn : zKN Γ k n) (hk : k + 1 ≤ 1111 ∧ n + 6 ≤ 11679) {C M : zSt} {v : Int} (hJ : J C M) (hi : 0 ≤ i ∧ i + 8 ≤ L) (hL : L ≤ 4096) (kk : ∀ C' M' v', J C' M' → zk (zup Γ (k + 1) (n + 6)) (wL cI cZ cJ ad o am) (fun _ => True) (zjn (zmx C' v') M') [(0, .ref b), (1, .ref (ad 0)), (2, .ref (am 0)), (3, .ref o), (4, .int (zI i))] 1713 []) : zk Γ (wL cI cZ cJ ad o am) (fun _ => True) (zjn (zmx C v) M) [(0, .ref b), (1, .ref (ad 0)), (2, .ref (am 0)), (3, .ref o), (4, .int (zI i))] 225 [] := by
  obtain ⟨bb, M', e9, r, e8, hr⟩ := s_unit  hJ
  have hE : ∀ E C', r = .inr (E, C') → E ∈ (["java/lang/IllegalStateException"] : List String) := fun E C' e => by subst e; exact hr.1
  refine k_aload_n F dL_law_225 rfl 1 rfl ?_
  refine k_aload_n F dL_law_226 rfl 3 rfl ?_
  refine k_callL F X hkn hk (As := [.ref (ad 0), .ref o]) lwr_unit lz_27 (fun l D A hst hD => c_L_unit hst hD hJ.1.1  e8 hE) ⟨Nat.le_of_ble_eq_true rfl, Nat.le_of_ble_eq_true rfl⟩ rfl rfl (Nat.le_of_ble_eq_true rfl) dL_law_227 (fun hG1 => ?_)
  have F1 := F.up (k := k + 1) (n := n + 6) hk.1 hk.2
  have X1 := zLX_up X (k + 1) (n + 6)
  refine k_istore F1 dL_law_230 (by decide) (lv' := [(5, .int (zI (zcode ["java/lang/IllegalStateException"] r))), (0, .ref b), (1, .ref (ad 0)), (2, .ref (am 0)), (3, .ref o), (4, .int (zI i))]) rfl ?_
  refine k_aload_n F1 dL_law_232 rfl 3 rfl ?_
  refine k_callM F1 (As := []) lcal_X9_unit lz_28 (fun l D A hD => c_X9_unit hD hJ.1.2  e9) ⟨rfl, rfl, Nat.le_of_ble_eq_true rfl, Nat.le_of_ble_eq_true rfl⟩ rfl rfl (Nat.le_of_ble_eq_true rfl) dL_law_233 (fun rb hGM _ => ?_)
  exact k_tailI F1 X1 hr hG1 hGM rb dL_law_236 dL_law_238 dL_law_239 dL_law_242 dL_law_244 dL_law_249 dL_law_251 dL_law_254 dL_law_255 dL_law_256 dL_law_257 dL_law_259 dL_law_260 dL_law_261 dL_law_266 (by decide) kk
set_option maxRecDepth 100000 in
theorem lc_emend {Γ : zG} {cI cZ cJ : ClassId} {ad : Nat → Nat} {o : Nat} {am ads : Nat → Nat} {b L : Nat} {xs : Nat → Int32} {i : Int} (F : zF Γ (wL cI cZ cJ ad o am) cI cZ cL_law room_1 7 RL) (X : zLX Γ ads cI cZ cJ b L xs) {k n : Nat} (hkn : zKN Γ k n) (hk : k + 1 ≤ 1111 ∧ n + 6 ≤ 11679) {C M : zSt} {v : Int} (hJ : J C M) (hi : 0 ≤ i ∧ i + 8 ≤ L) (hL : L ≤ 4096) (kk : ∀ C' M' v', J C' M' → zk (zup Γ (k + 1) (n + 6)) (wL cI cZ cJ ad o am) (fun _ => True) (zjn (zmx C' v') M') [(0, .ref b), (1, .ref (ad 0)), (2, .ref (am 0)), (3, .ref o), (4, .int (zI i))] 1713 []) : zk Γ (wL cI cZ cJ ad o am) (fun _ => True) (zjn (zmx C v) M) [(0, .ref b), (1, .ref (ad 0)), (2, .ref (am 0)), (3, .ref o), (4, .int (zI i))] 269 [] := by
  obtain ⟨bb, M', e9, r, e8, hr⟩ := s_emend (u := sx xs (i + 1)) (a := sx xs (i + 2)) (w := sx xs (i + 3)) hJ
  have hE : ∀ E C', r = .inr (E, C') → E ∈ (["java/lang/IndexOutOfBoundsException", "java/lang/IllegalArgumentException", "java/lang/IllegalStateException"] : List String) := fun E C' e => by subst e; exact hr.1
  refine k_aload_n F dL_law_269 rfl 1 rfl ?_
  refine k_rd F X 1 0 4 rfl rfl (by omega) hL dL_law_270 dL_law_271 dL_law_273 dL_law_274 dL_law_275 ?_
  refine k_rd F X 2 0 4 rfl rfl (by omega) hL dL_law_276 dL_law_277 dL_law_279 dL_law_280 dL_law_281 ?_
  refine k_rd F X 3 0 4 rfl rfl (by omega) hL dL_law_282 dL_law_283 dL_law_285 dL_law_286 dL_law_287 ?_
  refine k_aload_n F dL_law_288 rfl 3 rfl ?_
  refine k_callL F X hkn hk (As := [.ref (ad 0), .int (zI (sx xs (i + 1))), .int (zI (sx xs (i + 2))), .int (zI (sx xs (i + 3))), .ref o]) lwr_emend lz_34 (fun l D A hst hD => c_L_emend hst hD hJ.1.1 (sx_in xs _) (sx_in xs _) (sx_in xs _) e8 hE) ⟨Nat.le_of_ble_eq_true rfl, Nat.le_of_ble_eq_true rfl⟩ rfl rfl (Nat.le_of_ble_eq_true rfl) dL_law_289 (fun hG1 => ?_)
  have F1 := F.up (k := k + 1) (n := n + 6) hk.1 hk.2
  have X1 := zLX_up X (k + 1) (n + 6)
  refine k_istore F1 dL_law_292 (by decide) (lv' := [(5, .int (zI (zcode ["java/lang/IndexOutOfBoundsException", "java/lang/IllegalArgumentException", "java/lang/IllegalStateException"] r))), (0, .ref b), (1, .ref (ad 0)), (2, .ref (am 0)), (3, .ref o), (4, .int (zI i))]) rfl ?_
  refine k_aload_n F1 dL_law_294 rfl 3 rfl ?_
  refine k_rd F1 X1 1 1 5 rfl rfl (by omega) hL dL_law_295 dL_law_296 dL_law_298 dL_law_299 dL_law_300 ?_
  refine k_rd F1 X1 2 1 5 rfl rfl (by omega) hL dL_law_301 dL_law_302 dL_law_304 dL_law_305 dL_law_306 ?_
  refine k_rd F1 X1 3 1 5 rfl rfl (by omega) hL dL_law_307 dL_law_308 dL_law_310 dL_law_311 dL_law_312 ?_
  refine k_callM F1 (As := [.int (zI (sx xs (i + 1))), .int (zI (sx xs (i + 2))), .int (zI (sx xs (i + 3)))]) lcal_X9_emend lz_35 (fun l D A hD => c_X9_emend hD hJ.1.2 (sx_in xs _) (sx_in xs _) (sx_in xs _) e9) ⟨rfl, rfl, Nat.le_of_ble_eq_true rfl, Nat.le_of_ble_eq_true rfl⟩ rfl rfl (Nat.le_of_ble_eq_true rfl) dL_law_313 (fun rb hGM _ => ?_)
  exact k_tailI F1 X1 hr hG1 hGM rb dL_law_316 dL_law_318 dL_law_319 dL_law_322 dL_law_324 dL_law_329 dL_law_331 dL_law_334 dL_law_335 dL_law_336 dL_law_337 dL_law_339 dL_law_340 dL_law_341 dL_law_346 (by decide) kk
set_option maxRecDepth 100000 in
theorem lc_textOf {Γ : zG} {cI cZ cJ : ClassId} {ad : Nat → Nat} {o : Nat} {am ads : Nat → Nat} {b L : Nat} {xs : Nat → Int32} {i : Int} (F : zF Γ (wL cI cZ cJ ad o am) cI cZ cL_law room_1 7 RL) (X : zLX Γ ads cI cZ cJ b L xs) {k n : Nat} (hkn : zKN Γ k n) (hk : k + 1 ≤ 1111 ∧ n + 6 ≤ 11679) {C M : zSt} {v : Int} (hJ : J C M) (hi : 0 ≤ i ∧ i + 8 ≤ L) (hL : L ≤ 4096) (kk : ∀ C' M' v', J C' M' → zk (zup Γ (k + 1) (n + 6)) (wL cI cZ cJ ad o am) (fun _ => True) (zjn (zmx C' v') M') [(0, .ref b), (1, .ref (ad 0)), (2, .ref (am 0)), (3, .ref o), (4, .int (zI i))] 1713 []) : zk Γ (wL cI cZ cJ ad o am) (fun _ => True) (zjn (zmx C v) M) [(0, .ref b), (1, .ref (ad 0)), (2, .ref (am 0)), (3, .ref o), (4, .int (zI i))] 349 [] := by
  obtain ⟨bb, M', e9, r, e8, hr⟩ := s_textOf (a := sx xs (i + 1)) (b := sx xs (i + 2)) hJ
  have hE : ∀ E C', r = .inr (E, C') → E ∈ (["java/lang/IndexOutOfBoundsException"] : List String) := fun E C' e => by subst e; exact hr.1
  refine k_aload_n F dL_law_349 rfl 1 rfl ?_
  refine k_rd F X 1 0 4 rfl rfl (by omega) hL dL_law_350 dL_law_351 dL_law_353 dL_law_354 dL_law_355 ?_
  refine k_rd F X 2 0 4 rfl rfl (by omega) hL dL_law_356 dL_law_357 dL_law_359 dL_law_360 dL_law_361 ?_
  refine k_aload_n F dL_law_362 rfl 3 rfl ?_
  refine k_callL F X hkn hk (As := [.ref (ad 0), .int (zI (sx xs (i + 1))), .int (zI (sx xs (i + 2))), .ref o]) lwr_textOf lz_41 (fun l D A hst hD => c_L_textOf hst hD hJ.1.1 (sx_in xs _) (sx_in xs _) e8 hE) ⟨Nat.le_of_ble_eq_true rfl, Nat.le_of_ble_eq_true rfl⟩ rfl rfl (Nat.le_of_ble_eq_true rfl) dL_law_363 (fun hG1 => ?_)
  have F1 := F.up (k := k + 1) (n := n + 6) hk.1 hk.2
  have X1 := zLX_up X (k + 1) (n + 6)
  refine k_istore F1 dL_law_366 (by decide) (lv' := [(5, .int (zI (zcode ["java/lang/IndexOutOfBoundsException"] r))), (0, .ref b), (1, .ref (ad 0)), (2, .ref (am 0)), (3, .ref o), (4, .int (zI i))]) rfl ?_
  refine k_aload_n F1 dL_law_368 rfl 3 rfl ?_
  refine k_rd F1 X1 1 1 5 rfl rfl (by omega) hL dL_law_369 dL_law_370 dL_law_372 dL_law_373 dL_law_374 ?_
  refine k_rd F1 X1 2 1 5 rfl rfl (by omega) hL dL_law_375 dL_law_376 dL_law_378 dL_law_379 dL_law_380 ?_
  refine k_callM F1 (As := [.int (zI (sx xs (i + 1))), .int (zI (sx xs (i + 2)))]) lcal_X9_textOf lz_42 (fun l D A hD => c_X9_textOf hD hJ.1.2 (sx_in xs _) (sx_in xs _) e9) ⟨rfl, rfl, Nat.le_of_ble_eq_true rfl, Nat.le_of_ble_eq_true rfl⟩ rfl rfl (Nat.le_of_ble_eq_true rfl) dL_law_381 (fun rb hGM _ => ?_)
  exact k_tailI F1 X1 hr hG1 hGM rb dL_law_384 dL_law_386 dL_law_387 dL_law_390 dL_law_392 dL_law_397 dL_law_399 dL_law_402 dL_law_403 dL_law_404 dL_law_405 dL_law_407 dL_law_408 dL_law_409 dL_law_414 (by decide) kk
set_option maxRecDepth 100000 in
theorem lc_author {Γ : zG} {cI cZ cJ : ClassId} {ad : Nat → Nat} {o : Nat} {am ads : Nat → Nat} {b L : Nat} {xs : Nat → Int32} {i : Int} (F : zF Γ (wL cI cZ cJ ad o am) cI cZ cL_law room_1 7 RL) (X : zLX Γ ads cI cZ cJ b L xs) {k n : Nat} (hkn : zKN Γ k n) (hk : k + 1 ≤ 1111 ∧ n + 6 ≤ 11679) {C M : zSt} {v : Int} (hJ : J C M) (hi : 0 ≤ i ∧ i + 8 ≤ L) (hL : L ≤ 4096) (kk : ∀ C' M' v', J C' M' → zk (zup Γ (k + 1) (n + 6)) (wL cI cZ cJ ad o am) (fun _ => True) (zjn (zmx C' v') M') [(0, .ref b), (1, .ref (ad 0)), (2, .ref (am 0)), (3, .ref o), (4, .int (zI i))] 1713 []) : zk Γ (wL cI cZ cJ ad o am) (fun _ => True) (zjn (zmx C v) M) [(0, .ref b), (1, .ref (ad 0)), (2, .ref (am 0)), (3, .ref o), (4, .int (zI i))] 417 [] := by
  obtain ⟨bb, M', e9, r, e8, hr⟩ := s_author (a := sx xs (i + 1)) (b := sx xs (i + 2)) (c := sx xs (i + 3)) hJ
  have hE : ∀ E C', r = .inr (E, C') → E ∈ (["java/lang/IllegalArgumentException", "java/lang/IllegalStateException"] : List String) := fun E C' e => by subst e; exact hr.1
  refine k_aload_n F dL_law_417 rfl 1 rfl ?_
  refine k_rd F X 1 0 4 rfl rfl (by omega) hL dL_law_418 dL_law_419 dL_law_421 dL_law_422 dL_law_423 ?_
  refine k_rd F X 2 0 4 rfl rfl (by omega) hL dL_law_424 dL_law_425 dL_law_427 dL_law_428 dL_law_429 ?_
  refine k_rd F X 3 0 4 rfl rfl (by omega) hL dL_law_430 dL_law_431 dL_law_433 dL_law_434 dL_law_435 ?_
  refine k_aload_n F dL_law_436 rfl 3 rfl ?_
  refine k_callL F X hkn hk (As := [.ref (ad 0), .int (zI (sx xs (i + 1))), .int (zI (sx xs (i + 2))), .int (zI (sx xs (i + 3))), .ref o]) lwr_author lz_48 (fun l D A hst hD => c_L_author hst hD hJ.1.1 (sx_in xs _) (sx_in xs _) (sx_in xs _) e8 hE) ⟨Nat.le_of_ble_eq_true rfl, Nat.le_of_ble_eq_true rfl⟩ rfl rfl (Nat.le_of_ble_eq_true rfl) dL_law_437 (fun hG1 => ?_)
  have F1 := F.up (k := k + 1) (n := n + 6) hk.1 hk.2
  have X1 := zLX_up X (k + 1) (n + 6)
  refine k_istore F1 dL_law_440 (by decide) (lv' := [(5, .int (zI (zcode ["java/lang/IllegalArgumentException", "java/lang/IllegalStateException"] r))), (0, .ref b), (1, .ref (ad 0)), (2, .ref (am 0)), (3, .ref o), (4, .int (zI i))]) rfl ?_
  refine k_aload_n F1 dL_law_442 rfl 3 rfl ?_
  refine k_rd F1 X1 1 1 5 rfl rfl (by omega) hL dL_law_443 dL_law_444 dL_law_446 dL_law_447 dL_law_448 ?_
  refine k_rd F1 X1 2 1 5 rfl rfl (by omega) hL dL_law_449 dL_law_450 dL_law_452 dL_law_453 dL_law_454 ?_
  refine k_rd F1 X1 3 1 5 rfl rfl (by omega) hL dL_law_455 dL_law_456 dL_law_458 dL_law_459 dL_law_460 ?_
  refine k_callM F1 (As := [.int (zI (sx xs (i + 1))), .int (zI (sx xs (i + 2))), .int (zI (sx xs (i + 3)))]) lcal_X9_author lz_49 (fun l D A hD => c_X9_author hD hJ.1.2 (sx_in xs _) (sx_in xs _) (sx_in xs _) e9) ⟨rfl, rfl, Nat.le_of_ble_eq_true rfl, Nat.le_of_ble_eq_true rfl⟩ rfl rfl (Nat.le_of_ble_eq_true rfl) dL_law_461 (fun rb hGM _ => ?_)
  exact k_tailI F1 X1 hr hG1 hGM rb dL_law_464 dL_law_466 dL_law_467 dL_law_470 dL_law_472 dL_law_477 dL_law_479 dL_law_482 dL_law_483 dL_law_484 dL_law_485 dL_law_487 dL_law_488 dL_law_489 dL_law_494 (by decide) kk
set_option maxRecDepth 100000 in
theorem lc_meant {Γ : zG} {cI cZ cJ : ClassId} {ad : Nat → Nat} {o : Nat} {am ads : Nat → Nat} {b L : Nat} {xs : Nat → Int32} {i : Int} (F : zF Γ (wL cI cZ cJ ad o am) cI cZ cL_law room_1 7 RL) (X : zLX Γ ads cI cZ cJ b L xs) {k n : Nat} (hkn : zKN Γ k n) (hk : k + 1 ≤ 1111 ∧ n + 6 ≤ 11679) {C M : zSt} {v : Int} (hJ : J C M) (hi : 0 ≤ i ∧ i + 8 ≤ L) (hL : L ≤ 4096) (kk : ∀ C' M' v', J C' M' → zk (zup Γ (k + 1) (n + 6)) (wL cI cZ cJ ad o am) (fun _ => True) (zjn (zmx C' v') M') [(0, .ref b), (1, .ref (ad 0)), (2, .ref (am 0)), (3, .ref o), (4, .int (zI i))] 1713 []) : zk Γ (wL cI cZ cJ ad o am) (fun _ => True) (zjn (zmx C v) M) [(0, .ref b), (1, .ref (ad 0)), (2, .ref (am 0)), (3, .ref o), (4, .int (zI i))] 497 [] := by
  obtain ⟨bb, M', e9, r, e8, hr⟩ := s_meant (a := sx xs (i + 1)) (b := sx xs (i + 2)) hJ
  have hE : ∀ E C', r = .inr (E, C') → E ∈ (["java/lang/IllegalArgumentException"] : List String) := fun E C' e => by subst e; exact hr.1
  refine k_aload_n F dL_law_497 rfl 1 rfl ?_
  refine k_rd F X 1 0 4 rfl rfl (by omega) hL dL_law_498 dL_law_499 dL_law_501 dL_law_502 dL_law_503 ?_
  refine k_rd F X 2 0 4 rfl rfl (by omega) hL dL_law_504 dL_law_505 dL_law_507 dL_law_508 dL_law_509 ?_
  refine k_aload_n F dL_law_510 rfl 3 rfl ?_
  refine k_callL F X hkn hk (As := [.ref (ad 0), .int (zI (sx xs (i + 1))), .int (zI (sx xs (i + 2))), .ref o]) lwr_meant lz_55 (fun l D A hst hD => c_L_meant hst hD hJ.1.1 (sx_in xs _) (sx_in xs _) e8 hE) ⟨Nat.le_of_ble_eq_true rfl, Nat.le_of_ble_eq_true rfl⟩ rfl rfl (Nat.le_of_ble_eq_true rfl) dL_law_511 (fun hG1 => ?_)
  have F1 := F.up (k := k + 1) (n := n + 6) hk.1 hk.2
  have X1 := zLX_up X (k + 1) (n + 6)
  refine k_istore F1 dL_law_514 (by decide) (lv' := [(5, .int (zI (zcode ["java/lang/IllegalArgumentException"] r))), (0, .ref b), (1, .ref (ad 0)), (2, .ref (am 0)), (3, .ref o), (4, .int (zI i))]) rfl ?_
  refine k_aload_n F1 dL_law_516 rfl 3 rfl ?_
  refine k_rd F1 X1 1 1 5 rfl rfl (by omega) hL dL_law_517 dL_law_518 dL_law_520 dL_law_521 dL_law_522 ?_
  refine k_rd F1 X1 2 1 5 rfl rfl (by omega) hL dL_law_523 dL_law_524 dL_law_526 dL_law_527 dL_law_528 ?_
  refine k_callM F1 (As := [.int (zI (sx xs (i + 1))), .int (zI (sx xs (i + 2)))]) lcal_X9_meant lz_56 (fun l D A hD => c_X9_meant hD hJ.1.2 (sx_in xs _) (sx_in xs _) e9) ⟨rfl, rfl, Nat.le_of_ble_eq_true rfl, Nat.le_of_ble_eq_true rfl⟩ rfl rfl (Nat.le_of_ble_eq_true rfl) dL_law_529 (fun rb hGM _ => ?_)
  exact k_tailI F1 X1 hr hG1 hGM rb dL_law_532 dL_law_534 dL_law_535 dL_law_538 dL_law_540 dL_law_545 dL_law_547 dL_law_550 dL_law_551 dL_law_552 dL_law_553 dL_law_555 dL_law_556 dL_law_557 dL_law_562 (by decide) kk
set_option maxRecDepth 100000 in
theorem lc_comment {Γ : zG} {cI cZ cJ : ClassId} {ad : Nat → Nat} {o : Nat} {am ads : Nat → Nat} {b L : Nat} {xs : Nat → Int32} {i : Int} (F : zF Γ (wL cI cZ cJ ad o am) cI cZ cL_law room_1 7 RL) (X : zLX Γ ads cI cZ cJ b L xs) {k n : Nat} (hkn : zKN Γ k n) (hk : k + 1 ≤ 1111 ∧ n + 6 ≤ 11679) {C M : zSt} {v : Int} (hJ : J C M) (hi : 0 ≤ i ∧ i + 8 ≤ L) (hL : L ≤ 4096) (kk : ∀ C' M' v', J C' M' → zk (zup Γ (k + 1) (n + 6)) (wL cI cZ cJ ad o am) (fun _ => True) (zjn (zmx C' v') M') [(0, .ref b), (1, .ref (ad 0)), (2, .ref (am 0)), (3, .ref o), (4, .int (zI i))] 1713 []) : zk Γ (wL cI cZ cJ ad o am) (fun _ => True) (zjn (zmx C v) M) [(0, .ref b), (1, .ref (ad 0)), (2, .ref (am 0)), (3, .ref o), (4, .int (zI i))] 565 [] := by
  obtain ⟨bb, M', e9, r, e8, hr⟩ := s_comment (a := sx xs (i + 1)) (u := sx xs (i + 2)) (k := sx xs (i + 3)) (w := sx xs (i + 4)) (m := sx xs (i + 5)) (l := sx xs (i + 6)) (g := sx xs (i + 7)) hJ
  have hE : ∀ E C', r = .inr (E, C') → E ∈ (["java/lang/IndexOutOfBoundsException", "java/lang/IllegalArgumentException", "java/lang/IllegalStateException"] : List String) := fun E C' e => by subst e; exact hr.1
  refine k_aload_n F dL_law_565 rfl 1 rfl ?_
  refine k_rd F X 1 0 4 rfl rfl (by omega) hL dL_law_566 dL_law_567 dL_law_569 dL_law_570 dL_law_571 ?_
  refine k_rd F X 2 0 4 rfl rfl (by omega) hL dL_law_572 dL_law_573 dL_law_575 dL_law_576 dL_law_577 ?_
  refine k_rd F X 3 0 4 rfl rfl (by omega) hL dL_law_578 dL_law_579 dL_law_581 dL_law_582 dL_law_583 ?_
  refine k_rd F X 4 0 4 rfl rfl (by omega) hL dL_law_584 dL_law_585 dL_law_587 dL_law_588 dL_law_589 ?_
  refine k_rd F X 5 0 4 rfl rfl (by omega) hL dL_law_590 dL_law_591 dL_law_593 dL_law_594 dL_law_595 ?_
  refine k_rdb F X 6 (by decide) 0 4 rfl rfl (by omega) hL dL_law_596 dL_law_597 dL_law_599 dL_law_601 dL_law_602 ?_
  refine k_rdb F X 7 (by decide) 0 4 rfl rfl (by omega) hL dL_law_603 dL_law_604 dL_law_606 dL_law_608 dL_law_609 ?_
  refine k_aload_n F dL_law_610 rfl 3 rfl ?_
  refine k_callL F X hkn hk (As := [.ref (ad 0), .int (zI (sx xs (i + 1))), .int (zI (sx xs (i + 2))), .int (zI (sx xs (i + 3))), .int (zI (sx xs (i + 4))), .int (zI (sx xs (i + 5))), .int (zI (sx xs (i + 6))), .int (zI (sx xs (i + 7))), .ref o]) lwr_comment lz_62 (fun l D A hst hD => c_L_comment hst hD hJ.1.1 (sx_in xs _) (sx_in xs _) (sx_in xs _) (sx_in xs _) (sx_in xs _) (sx_in xs _) (sx_in xs _) e8 hE) ⟨Nat.le_of_ble_eq_true rfl, Nat.le_of_ble_eq_true rfl⟩ rfl rfl (Nat.le_of_ble_eq_true rfl) dL_law_611 (fun hG1 => ?_)
  have F1 := F.up (k := k + 1) (n := n + 6) hk.1 hk.2
  have X1 := zLX_up X (k + 1) (n + 6)
  refine k_istore F1 dL_law_614 (by decide) (lv' := [(5, .int (zI (zcode ["java/lang/IndexOutOfBoundsException", "java/lang/IllegalArgumentException", "java/lang/IllegalStateException"] r))), (0, .ref b), (1, .ref (ad 0)), (2, .ref (am 0)), (3, .ref o), (4, .int (zI i))]) rfl ?_
  refine k_aload_n F1 dL_law_616 rfl 3 rfl ?_
  refine k_rd F1 X1 1 1 5 rfl rfl (by omega) hL dL_law_617 dL_law_618 dL_law_620 dL_law_621 dL_law_622 ?_
  refine k_rd F1 X1 2 1 5 rfl rfl (by omega) hL dL_law_623 dL_law_624 dL_law_626 dL_law_627 dL_law_628 ?_
  refine k_rd F1 X1 3 1 5 rfl rfl (by omega) hL dL_law_629 dL_law_630 dL_law_632 dL_law_633 dL_law_634 ?_
  refine k_rd F1 X1 4 1 5 rfl rfl (by omega) hL dL_law_635 dL_law_636 dL_law_638 dL_law_639 dL_law_640 ?_
  refine k_rd F1 X1 5 1 5 rfl rfl (by omega) hL dL_law_641 dL_law_642 dL_law_644 dL_law_645 dL_law_646 ?_
  refine k_rdb F1 X1 6 (by decide) 1 5 rfl rfl (by omega) hL dL_law_647 dL_law_648 dL_law_650 dL_law_652 dL_law_653 ?_
  refine k_rdb F1 X1 7 (by decide) 1 5 rfl rfl (by omega) hL dL_law_654 dL_law_655 dL_law_657 dL_law_659 dL_law_660 ?_
  refine k_callM F1 (As := [.int (zI (sx xs (i + 1))), .int (zI (sx xs (i + 2))), .int (zI (sx xs (i + 3))), .int (zI (sx xs (i + 4))), .int (zI (sx xs (i + 5))), .int (zI (sx xs (i + 6))), .int (zI (sx xs (i + 7)))]) lcal_X9_comment lz_63 (fun l D A hD => c_X9_comment hD hJ.1.2 (sx_in xs _) (sx_in xs _) (sx_in xs _) (sx_in xs _) (sx_in xs _) (sx_in xs _) (sx_in xs _) e9) ⟨rfl, rfl, Nat.le_of_ble_eq_true rfl, Nat.le_of_ble_eq_true rfl⟩ rfl rfl (Nat.le_of_ble_eq_true rfl) dL_law_661 (fun rb hGM _ => ?_)
  exact k_tailI F1 X1 hr hG1 hGM rb dL_law_664 dL_law_666 dL_law_667 dL_law_670 dL_law_672 dL_law_677 dL_law_679 dL_law_682 dL_law_683 dL_law_684 dL_law_685 dL_law_687 dL_law_688 dL_law_689 dL_law_694 (by decide) kk
set_option maxRecDepth 100000 in
theorem lc_gloss {Γ : zG} {cI cZ cJ : ClassId} {ad : Nat → Nat} {o : Nat} {am ads : Nat → Nat} {b L : Nat} {xs : Nat → Int32} {i : Int} (F : zF Γ (wL cI cZ cJ ad o am) cI cZ cL_law room_1 7 RL) (X : zLX Γ ads cI cZ cJ b L xs) {k n : Nat} (hkn : zKN Γ k n) (hk : k + 1 ≤ 1111 ∧ n + 6 ≤ 11679) {C M : zSt} {v : Int} (hJ : J C M) (hi : 0 ≤ i ∧ i + 8 ≤ L) (hL : L ≤ 4096) (kk : ∀ C' M' v', J C' M' → zk (zup Γ (k + 1) (n + 6)) (wL cI cZ cJ ad o am) (fun _ => True) (zjn (zmx C' v') M') [(0, .ref b), (1, .ref (ad 0)), (2, .ref (am 0)), (3, .ref o), (4, .int (zI i))] 1713 []) : zk Γ (wL cI cZ cJ ad o am) (fun _ => True) (zjn (zmx C v) M) [(0, .ref b), (1, .ref (ad 0)), (2, .ref (am 0)), (3, .ref o), (4, .int (zI i))] 697 [] := by
  obtain ⟨bb, M', e9, r, e8, hr⟩ := s_gloss (a := sx xs (i + 1)) (b := sx xs (i + 2)) (k := sx xs (i + 3)) (l := sx xs (i + 4)) (g := sx xs (i + 5)) hJ
  have hE : ∀ E C', r = .inr (E, C') → E ∈ (["java/lang/IndexOutOfBoundsException", "java/lang/IllegalArgumentException", "java/lang/IllegalStateException"] : List String) := fun E C' e => by subst e; exact hr.1
  refine k_aload_n F dL_law_697 rfl 1 rfl ?_
  refine k_rd F X 1 0 4 rfl rfl (by omega) hL dL_law_698 dL_law_699 dL_law_701 dL_law_702 dL_law_703 ?_
  refine k_rd F X 2 0 4 rfl rfl (by omega) hL dL_law_704 dL_law_705 dL_law_707 dL_law_708 dL_law_709 ?_
  refine k_rd F X 3 0 4 rfl rfl (by omega) hL dL_law_710 dL_law_711 dL_law_713 dL_law_714 dL_law_715 ?_
  refine k_rd F X 4 0 4 rfl rfl (by omega) hL dL_law_716 dL_law_717 dL_law_719 dL_law_720 dL_law_721 ?_
  refine k_rd F X 5 0 4 rfl rfl (by omega) hL dL_law_722 dL_law_723 dL_law_725 dL_law_726 dL_law_727 ?_
  refine k_aload_n F dL_law_728 rfl 3 rfl ?_
  refine k_callL F X hkn hk (As := [.ref (ad 0), .int (zI (sx xs (i + 1))), .int (zI (sx xs (i + 2))), .int (zI (sx xs (i + 3))), .int (zI (sx xs (i + 4))), .int (zI (sx xs (i + 5))), .ref o]) lwr_gloss lz_69 (fun l D A hst hD => c_L_gloss hst hD hJ.1.1 (sx_in xs _) (sx_in xs _) (sx_in xs _) (sx_in xs _) (sx_in xs _) e8 hE) ⟨Nat.le_of_ble_eq_true rfl, Nat.le_of_ble_eq_true rfl⟩ rfl rfl (Nat.le_of_ble_eq_true rfl) dL_law_729 (fun hG1 => ?_)
  have F1 := F.up (k := k + 1) (n := n + 6) hk.1 hk.2
  have X1 := zLX_up X (k + 1) (n + 6)
  refine k_istore F1 dL_law_732 (by decide) (lv' := [(5, .int (zI (zcode ["java/lang/IndexOutOfBoundsException", "java/lang/IllegalArgumentException", "java/lang/IllegalStateException"] r))), (0, .ref b), (1, .ref (ad 0)), (2, .ref (am 0)), (3, .ref o), (4, .int (zI i))]) rfl ?_
  refine k_aload_n F1 dL_law_734 rfl 3 rfl ?_
  refine k_rd F1 X1 1 1 5 rfl rfl (by omega) hL dL_law_735 dL_law_736 dL_law_738 dL_law_739 dL_law_740 ?_
  refine k_rd F1 X1 2 1 5 rfl rfl (by omega) hL dL_law_741 dL_law_742 dL_law_744 dL_law_745 dL_law_746 ?_
  refine k_rd F1 X1 3 1 5 rfl rfl (by omega) hL dL_law_747 dL_law_748 dL_law_750 dL_law_751 dL_law_752 ?_
  refine k_rd F1 X1 4 1 5 rfl rfl (by omega) hL dL_law_753 dL_law_754 dL_law_756 dL_law_757 dL_law_758 ?_
  refine k_rd F1 X1 5 1 5 rfl rfl (by omega) hL dL_law_759 dL_law_760 dL_law_762 dL_law_763 dL_law_764 ?_
  refine k_callM F1 (As := [.int (zI (sx xs (i + 1))), .int (zI (sx xs (i + 2))), .int (zI (sx xs (i + 3))), .int (zI (sx xs (i + 4))), .int (zI (sx xs (i + 5)))]) lcal_X9_gloss lz_70 (fun l D A hD => c_X9_gloss hD hJ.1.2 (sx_in xs _) (sx_in xs _) (sx_in xs _) (sx_in xs _) (sx_in xs _) e9) ⟨rfl, rfl, Nat.le_of_ble_eq_true rfl, Nat.le_of_ble_eq_true rfl⟩ rfl rfl (Nat.le_of_ble_eq_true rfl) dL_law_765 (fun rb hGM _ => ?_)
  exact k_tailI F1 X1 hr hG1 hGM rb dL_law_768 dL_law_770 dL_law_771 dL_law_774 dL_law_776 dL_law_781 dL_law_783 dL_law_786 dL_law_787 dL_law_788 dL_law_789 dL_law_791 dL_law_792 dL_law_793 dL_law_798 (by decide) kk
set_option maxRecDepth 100000 in
theorem lc_told {Γ : zG} {cI cZ cJ : ClassId} {ad : Nat → Nat} {o : Nat} {am ads : Nat → Nat} {b L : Nat} {xs : Nat → Int32} {i : Int} (F : zF Γ (wL cI cZ cJ ad o am) cI cZ cL_law room_1 7 RL) (X : zLX Γ ads cI cZ cJ b L xs) {k n : Nat} (hkn : zKN Γ k n) (hk : k + 1 ≤ 1111 ∧ n + 6 ≤ 11679) {C M : zSt} {v : Int} (hJ : J C M) (hi : 0 ≤ i ∧ i + 8 ≤ L) (hL : L ≤ 4096) (kk : ∀ C' M' v', J C' M' → zk (zup Γ (k + 1) (n + 6)) (wL cI cZ cJ ad o am) (fun _ => True) (zjn (zmx C' v') M') [(0, .ref b), (1, .ref (ad 0)), (2, .ref (am 0)), (3, .ref o), (4, .int (zI i))] 1713 []) : zk Γ (wL cI cZ cJ ad o am) (fun _ => True) (zjn (zmx C v) M) [(0, .ref b), (1, .ref (ad 0)), (2, .ref (am 0)), (3, .ref o), (4, .int (zI i))] 801 [] := by
  obtain ⟨bb, M', e9, r, e8, hr⟩ := s_told (b := sx xs (i + 1)) (w := sx xs (i + 2)) hJ
  have hE : ∀ E C', r = .inr (E, C') → E ∈ (["java/lang/IndexOutOfBoundsException", "java/lang/IllegalArgumentException"] : List String) := fun E C' e => by subst e; exact hr.1
  refine k_aload_n F dL_law_801 rfl 1 rfl ?_
  refine k_rd F X 1 0 4 rfl rfl (by omega) hL dL_law_802 dL_law_803 dL_law_805 dL_law_806 dL_law_807 ?_
  refine k_rd F X 2 0 4 rfl rfl (by omega) hL dL_law_808 dL_law_809 dL_law_811 dL_law_812 dL_law_813 ?_
  refine k_aload_n F dL_law_814 rfl 3 rfl ?_
  refine k_callL F X hkn hk (As := [.ref (ad 0), .int (zI (sx xs (i + 1))), .int (zI (sx xs (i + 2))), .ref o]) lwr_told lz_76 (fun l D A hst hD => c_L_told hst hD hJ.1.1 (sx_in xs _) (sx_in xs _) e8 hE) ⟨Nat.le_of_ble_eq_true rfl, Nat.le_of_ble_eq_true rfl⟩ rfl rfl (Nat.le_of_ble_eq_true rfl) dL_law_815 (fun hG1 => ?_)
  have F1 := F.up (k := k + 1) (n := n + 6) hk.1 hk.2
  have X1 := zLX_up X (k + 1) (n + 6)
  refine k_istore F1 dL_law_818 (by decide) (lv' := [(5, .int (zI (zcode ["java/lang/IndexOutOfBoundsException", "java/lang/IllegalArgumentException"] r))), (0, .ref b), (1, .ref (ad 0)), (2, .ref (am 0)), (3, .ref o), (4, .int (zI i))]) rfl ?_
  refine k_aload_n F1 dL_law_820 rfl 3 rfl ?_
  refine k_rd F1 X1 1 1 5 rfl rfl (by omega) hL dL_law_821 dL_law_822 dL_law_824 dL_law_825 dL_law_826 ?_
  refine k_rd F1 X1 2 1 5 rfl rfl (by omega) hL dL_law_827 dL_law_828 dL_law_830 dL_law_831 dL_law_832 ?_
  refine k_callM F1 (As := [.int (zI (sx xs (i + 1))), .int (zI (sx xs (i + 2)))]) lcal_X9_told lz_77 (fun l D A hD => c_X9_told hD hJ.1.2 (sx_in xs _) (sx_in xs _) e9) ⟨rfl, rfl, Nat.le_of_ble_eq_true rfl, Nat.le_of_ble_eq_true rfl⟩ rfl rfl (Nat.le_of_ble_eq_true rfl) dL_law_833 (fun rb hGM _ => ?_)
  exact k_tailI F1 X1 hr hG1 hGM rb dL_law_836 dL_law_838 dL_law_839 dL_law_842 dL_law_844 dL_law_849 dL_law_851 dL_law_854 dL_law_855 dL_law_856 dL_law_857 dL_law_859 dL_law_860 dL_law_861 dL_law_866 (by decide) kk
set_option maxRecDepth 100000 in
theorem lc_standsAnew {Γ : zG} {cI cZ cJ : ClassId} {ad : Nat → Nat} {o : Nat} {am ads : Nat → Nat} {b L : Nat} {xs : Nat → Int32} {i : Int} (F : zF Γ (wL cI cZ cJ ad o am) cI cZ cL_law room_1 7 RL) (X : zLX Γ ads cI cZ cJ b L xs) {k n : Nat} (hkn : zKN Γ k n) (hk : k + 1 ≤ 1111 ∧ n + 6 ≤ 11679) {C M : zSt} {v : Int} (hJ : J C M) (hi : 0 ≤ i ∧ i + 8 ≤ L) (hL : L ≤ 4096) (kk : ∀ C' M' v', J C' M' → zk (zup Γ (k + 1) (n + 6)) (wL cI cZ cJ ad o am) (fun _ => True) (zjn (zmx C' v') M') [(0, .ref b), (1, .ref (ad 0)), (2, .ref (am 0)), (3, .ref o), (4, .int (zI i))] 1713 []) : zk Γ (wL cI cZ cJ ad o am) (fun _ => True) (zjn (zmx C v) M) [(0, .ref b), (1, .ref (ad 0)), (2, .ref (am 0)), (3, .ref o), (4, .int (zI i))] 869 [] := by
  obtain ⟨bb, M', e9, r, e8, hr⟩ := s_standsAnew (b := sx xs (i + 1)) hJ
  have hE : ∀ E C', r = .inr (E, C') → E ∈ (["java/lang/IndexOutOfBoundsException"] : List String) := fun E C' e => by subst e; exact hr.1
  refine k_aload_n F dL_law_869 rfl 1 rfl ?_
  refine k_rd F X 1 0 4 rfl rfl (by omega) hL dL_law_870 dL_law_871 dL_law_873 dL_law_874 dL_law_875 ?_
  refine k_aload_n F dL_law_876 rfl 3 rfl ?_
  refine k_callL F X hkn hk (As := [.ref (ad 0), .int (zI (sx xs (i + 1))), .ref o]) lwr_standsAnew lz_83 (fun l D A hst hD => c_L_standsAnew hst hD hJ.1.1 (sx_in xs _) e8 hE) ⟨Nat.le_of_ble_eq_true rfl, Nat.le_of_ble_eq_true rfl⟩ rfl rfl (Nat.le_of_ble_eq_true rfl) dL_law_877 (fun hG1 => ?_)
  have F1 := F.up (k := k + 1) (n := n + 6) hk.1 hk.2
  have X1 := zLX_up X (k + 1) (n + 6)
  refine k_istore F1 dL_law_880 (by decide) (lv' := [(5, .int (zI (zcode ["java/lang/IndexOutOfBoundsException"] r))), (0, .ref b), (1, .ref (ad 0)), (2, .ref (am 0)), (3, .ref o), (4, .int (zI i))]) rfl ?_
  refine k_aload_n F1 dL_law_882 rfl 3 rfl ?_
  refine k_rd F1 X1 1 1 5 rfl rfl (by omega) hL dL_law_883 dL_law_884 dL_law_886 dL_law_887 dL_law_888 ?_
  refine k_callM F1 (As := [.int (zI (sx xs (i + 1)))]) lcal_X9_standsAnew lz_84 (fun l D A hD => c_X9_standsAnew hD hJ.1.2 (sx_in xs _) e9) ⟨rfl, rfl, Nat.le_of_ble_eq_true rfl, Nat.le_of_ble_eq_true rfl⟩ rfl rfl (Nat.le_of_ble_eq_true rfl) dL_law_889 (fun rb hGM b01 => ?_)
  exact k_tailZ F1 X1 hr hG1 hGM rb (b01 rfl) dL_law_892 dL_law_894 dL_law_895 dL_law_898 dL_law_900 dL_law_905 dL_law_907 dL_law_910 dL_law_911 dL_law_912 dL_law_913 dL_law_915 dL_law_918 dL_law_919 dL_law_922 dL_law_923 dL_law_924 dL_law_929 (by decide) kk
set_option maxRecDepth 100000 in
theorem lc_isHard {Γ : zG} {cI cZ cJ : ClassId} {ad : Nat → Nat} {o : Nat} {am ads : Nat → Nat} {b L : Nat} {xs : Nat → Int32} {i : Int} (F : zF Γ (wL cI cZ cJ ad o am) cI cZ cL_law room_1 7 RL) (X : zLX Γ ads cI cZ cJ b L xs) {k n : Nat} (hkn : zKN Γ k n) (hk : k + 1 ≤ 1111 ∧ n + 6 ≤ 11679) {C M : zSt} {v : Int} (hJ : J C M) (hi : 0 ≤ i ∧ i + 8 ≤ L) (hL : L ≤ 4096) (kk : ∀ C' M' v', J C' M' → zk (zup Γ (k + 1) (n + 6)) (wL cI cZ cJ ad o am) (fun _ => True) (zjn (zmx C' v') M') [(0, .ref b), (1, .ref (ad 0)), (2, .ref (am 0)), (3, .ref o), (4, .int (zI i))] 1713 []) : zk Γ (wL cI cZ cJ ad o am) (fun _ => True) (zjn (zmx C v) M) [(0, .ref b), (1, .ref (ad 0)), (2, .ref (am 0)), (3, .ref o), (4, .int (zI i))] 932 [] := by
  obtain ⟨bb, M', e9, r, e8, hr⟩ := s_isHard (u := sx xs (i + 1)) hJ
  have hE : ∀ E C', r = .inr (E, C') → E ∈ (["java/lang/IndexOutOfBoundsException"] : List String) := fun E C' e => by subst e; exact hr.1
  refine k_aload_n F dL_law_932 rfl 1 rfl ?_
  refine k_rd F X 1 0 4 rfl rfl (by omega) hL dL_law_933 dL_law_934 dL_law_936 dL_law_937 dL_law_938 ?_
  refine k_aload_n F dL_law_939 rfl 3 rfl ?_
  refine k_callL F X hkn hk (As := [.ref (ad 0), .int (zI (sx xs (i + 1))), .ref o]) lwr_isHard lz_90 (fun l D A hst hD => c_L_isHard hst hD hJ.1.1 (sx_in xs _) e8 hE) ⟨Nat.le_of_ble_eq_true rfl, Nat.le_of_ble_eq_true rfl⟩ rfl rfl (Nat.le_of_ble_eq_true rfl) dL_law_940 (fun hG1 => ?_)
  have F1 := F.up (k := k + 1) (n := n + 6) hk.1 hk.2
  have X1 := zLX_up X (k + 1) (n + 6)
  refine k_istore F1 dL_law_943 (by decide) (lv' := [(5, .int (zI (zcode ["java/lang/IndexOutOfBoundsException"] r))), (0, .ref b), (1, .ref (ad 0)), (2, .ref (am 0)), (3, .ref o), (4, .int (zI i))]) rfl ?_
  refine k_aload_n F1 dL_law_945 rfl 3 rfl ?_
  refine k_rd F1 X1 1 1 5 rfl rfl (by omega) hL dL_law_946 dL_law_947 dL_law_949 dL_law_950 dL_law_951 ?_
  refine k_callM F1 (As := [.int (zI (sx xs (i + 1)))]) lcal_X9_isHard lz_91 (fun l D A hD => c_X9_isHard hD hJ.1.2 (sx_in xs _) e9) ⟨rfl, rfl, Nat.le_of_ble_eq_true rfl, Nat.le_of_ble_eq_true rfl⟩ rfl rfl (Nat.le_of_ble_eq_true rfl) dL_law_952 (fun rb hGM b01 => ?_)
  exact k_tailZ F1 X1 hr hG1 hGM rb (b01 rfl) dL_law_955 dL_law_957 dL_law_958 dL_law_961 dL_law_963 dL_law_968 dL_law_970 dL_law_973 dL_law_974 dL_law_975 dL_law_976 dL_law_978 dL_law_981 dL_law_982 dL_law_985 dL_law_986 dL_law_987 dL_law_992 (by decide) kk
set_option maxRecDepth 100000 in
theorem lc_solved {Γ : zG} {cI cZ cJ : ClassId} {ad : Nat → Nat} {o : Nat} {am ads : Nat → Nat} {b L : Nat} {xs : Nat → Int32} {i : Int} (F : zF Γ (wL cI cZ cJ ad o am) cI cZ cL_law room_1 7 RL) (X : zLX Γ ads cI cZ cJ b L xs) {k n : Nat} (hkn : zKN Γ k n) (hk : k + 1 ≤ 1111 ∧ n + 6 ≤ 11679) {C M : zSt} {v : Int} (hJ : J C M) (hi : 0 ≤ i ∧ i + 8 ≤ L) (hL : L ≤ 4096) (kk : ∀ C' M' v', J C' M' → zk (zup Γ (k + 1) (n + 6)) (wL cI cZ cJ ad o am) (fun _ => True) (zjn (zmx C' v') M') [(0, .ref b), (1, .ref (ad 0)), (2, .ref (am 0)), (3, .ref o), (4, .int (zI i))] 1713 []) : zk Γ (wL cI cZ cJ ad o am) (fun _ => True) (zjn (zmx C v) M) [(0, .ref b), (1, .ref (ad 0)), (2, .ref (am 0)), (3, .ref o), (4, .int (zI i))] 995 [] := by
  obtain ⟨bb, M', e9, r, e8, hr⟩ := s_solved (a := sx xs (i + 1)) hJ
  have hE : ∀ E C', r = .inr (E, C') → E ∈ (["java/lang/IllegalArgumentException"] : List String) := fun E C' e => by subst e; exact hr.1
  refine k_aload_n F dL_law_995 rfl 1 rfl ?_
  refine k_rd F X 1 0 4 rfl rfl (by omega) hL dL_law_996 dL_law_997 dL_law_999 dL_law_1000 dL_law_1001 ?_
  refine k_aload_n F dL_law_1002 rfl 3 rfl ?_
  refine k_callL F X hkn hk (As := [.ref (ad 0), .int (zI (sx xs (i + 1))), .ref o]) lwr_solved lz_97 (fun l D A hst hD => c_L_solved hst hD hJ.1.1 (sx_in xs _) e8 hE) ⟨Nat.le_of_ble_eq_true rfl, Nat.le_of_ble_eq_true rfl⟩ rfl rfl (Nat.le_of_ble_eq_true rfl) dL_law_1003 (fun hG1 => ?_)
  have F1 := F.up (k := k + 1) (n := n + 6) hk.1 hk.2
  have X1 := zLX_up X (k + 1) (n + 6)
  refine k_istore F1 dL_law_1006 (by decide) (lv' := [(5, .int (zI (zcode ["java/lang/IllegalArgumentException"] r))), (0, .ref b), (1, .ref (ad 0)), (2, .ref (am 0)), (3, .ref o), (4, .int (zI i))]) rfl ?_
  refine k_aload_n F1 dL_law_1008 rfl 3 rfl ?_
  refine k_rd F1 X1 1 1 5 rfl rfl (by omega) hL dL_law_1009 dL_law_1010 dL_law_1012 dL_law_1013 dL_law_1014 ?_
  refine k_callM F1 (As := [.int (zI (sx xs (i + 1)))]) lcal_X9_solved lz_98 (fun l D A hD => c_X9_solved hD hJ.1.2 (sx_in xs _) e9) ⟨rfl, rfl, Nat.le_of_ble_eq_true rfl, Nat.le_of_ble_eq_true rfl⟩ rfl rfl (Nat.le_of_ble_eq_true rfl) dL_law_1015 (fun rb hGM _ => ?_)
  exact k_tailI F1 X1 hr hG1 hGM rb dL_law_1018 dL_law_1020 dL_law_1021 dL_law_1024 dL_law_1026 dL_law_1031 dL_law_1033 dL_law_1036 dL_law_1037 dL_law_1038 dL_law_1039 dL_law_1041 dL_law_1042 dL_law_1043 dL_law_1048 (by decide) kk
theorem lc_found {Γ : zG} {cI cZ cJ : ClassId} {ad : Nat → Nat} {o : Nat} {am ads : Nat → Nat} {b L : Nat} {xs : Nat → Int32} {i : Int} (F : zF Γ (wL cI cZ cJ ad o am) cI cZ cL_law room_1 7 RL) (X : zLX Γ ads cI cZ cJ b L xs) {k n : Nat} (hkn : zKN Γ k n) (hk : k + 1 ≤ 1111 ∧ n + 6 ≤ 11679) {C M : zSt} {v : Int} (hJ : J C M) (hi : 0 ≤ i ∧ i + 8 ≤ L) (hL : L ≤ 4096) (kk : ∀ C' M' v', J C' M' → zk (zup Γ (k + 1) (n + 6)) (wL cI cZ cJ ad o am) (fun _ => True) (zjn (zmx C' v') M') [(0, .ref b), (1, .ref (ad 0)), (2, .ref (am 0)), (3, .ref o), (4, .int (zI i))] 1713 []) : zk Γ (wL cI cZ cJ ad o am) (fun _ => True) (zjn (zmx C v) M) [(0, .ref b), (1, .ref (ad 0)), (2, .ref (am 0)), (3, .ref o), (4, .int (zI i))] 1051 [] := by
  obtain ⟨bb, C', M', e9, e8, hj⟩ := s_found hJ
  have F1 := F.up (k := k + 1) (n := n + 6) hk.1 hk.2
  have w : zk (zup Γ (k + 1) (n + 6)) (wL cI cZ cJ ad o am) (fun _ => True) (zjn (zmx C v) M) [(0, .ref b), (1, .ref (ad 0)), (2, .ref (am 0)), (3, .ref o), (4, .int (zI i))] 1051 [] := by
    refine k_aload_n F1 dL_law_1051 rfl 1 rfl ?_
    refine k_callC F1 (As := []) lcal_X8_found lz_105 (fun l D A hD => c_X8_found hD hJ.1.1 e8) ⟨rfl, rfl, Nat.le_of_ble_eq_true rfl, Nat.le_of_ble_eq_true rfl⟩ rfl rfl (Nat.le_of_ble_eq_true rfl) dL_law_1052 (fun rx hG1 _ => ?_)
    refine k_aload_n F1 dL_law_1055 rfl 2 rfl ?_
    refine k_callM F1 (As := []) lcal_X9_found lz_106 (fun l D A hD => c_X9_found hD hJ.1.2 e9) ⟨rfl, rfl, Nat.le_of_ble_eq_true rfl, Nat.le_of_ble_eq_true rfl⟩ rfl rfl (Nat.le_of_ble_eq_true rfl) dL_law_1056 (fun rx2 hGM _ => ?_)
    exact k_icmp_eq (R := Unit) (r := ()) (A := some ()) (B := none) F1 rx rx2 dL_law_1059 (tgt := 1713) (by decide) (if_pos rfl) (fun _ => kk C' M' v ⟨⟨hG1, hGM⟩, hj⟩) (fun z => by cases z)
  exact k_wid hkn w
theorem lc_exact {Γ : zG} {cI cZ cJ : ClassId} {ad : Nat → Nat} {o : Nat} {am ads : Nat → Nat} {b L : Nat} {xs : Nat → Int32} {i : Int} (F : zF Γ (wL cI cZ cJ ad o am) cI cZ cL_law room_1 7 RL) (X : zLX Γ ads cI cZ cJ b L xs) {k n : Nat} (hkn : zKN Γ k n) (hk : k + 1 ≤ 1111 ∧ n + 6 ≤ 11679) {C M : zSt} {v : Int} (hJ : J C M) (hi : 0 ≤ i ∧ i + 8 ≤ L) (hL : L ≤ 4096) (kk : ∀ C' M' v', J C' M' → zk (zup Γ (k + 1) (n + 6)) (wL cI cZ cJ ad o am) (fun _ => True) (zjn (zmx C' v') M') [(0, .ref b), (1, .ref (ad 0)), (2, .ref (am 0)), (3, .ref o), (4, .int (zI i))] 1713 []) : zk Γ (wL cI cZ cJ ad o am) (fun _ => True) (zjn (zmx C v) M) [(0, .ref b), (1, .ref (ad 0)), (2, .ref (am 0)), (3, .ref o), (4, .int (zI i))] 1064 [] := by
  obtain ⟨bb, C', M', e9, e8, hj⟩ := s_exact hJ
  have F1 := F.up (k := k + 1) (n := n + 6) hk.1 hk.2
  have w : zk (zup Γ (k + 1) (n + 6)) (wL cI cZ cJ ad o am) (fun _ => True) (zjn (zmx C v) M) [(0, .ref b), (1, .ref (ad 0)), (2, .ref (am 0)), (3, .ref o), (4, .int (zI i))] 1064 [] := by
    refine k_aload_n F1 dL_law_1064 rfl 1 rfl ?_
    refine k_callC F1 (As := []) lcal_X8_exact lz_113 (fun l D A hD => c_X8_exact hD hJ.1.1 e8) ⟨rfl, rfl, Nat.le_of_ble_eq_true rfl, Nat.le_of_ble_eq_true rfl⟩ rfl rfl (Nat.le_of_ble_eq_true rfl) dL_law_1065 (fun rx hG1 _ => ?_)
    refine k_aload_n F1 dL_law_1068 rfl 2 rfl ?_
    refine k_callM F1 (As := []) lcal_X9_exact lz_114 (fun l D A hD => c_X9_exact hD hJ.1.2 e9) ⟨rfl, rfl, Nat.le_of_ble_eq_true rfl, Nat.le_of_ble_eq_true rfl⟩ rfl rfl (Nat.le_of_ble_eq_true rfl) dL_law_1069 (fun rx2 hGM _ => ?_)
    exact k_icmp_eq (R := Unit) (r := ()) (A := some ()) (B := none) F1 rx rx2 dL_law_1072 (tgt := 1713) (by decide) (if_pos rfl) (fun _ => kk C' M' v ⟨⟨hG1, hGM⟩, hj⟩) (fun z => by cases z)
  exact k_wid hkn w
set_option maxRecDepth 100000 in
theorem lc_ruling {Γ : zG} {cI cZ cJ : ClassId} {ad : Nat → Nat} {o : Nat} {am ads : Nat → Nat} {b L : Nat} {xs : Nat → Int32} {i : Int} (F : zF Γ (wL cI cZ cJ ad o am) cI cZ cL_law room_1 7 RL) (X : zLX Γ ads cI cZ cJ b L xs) {k n : Nat} (hkn : zKN Γ k n) (hk : k + 1 ≤ 1111 ∧ n + 6 ≤ 11679) {C M : zSt} {v : Int} (hJ : J C M) (hi : 0 ≤ i ∧ i + 8 ≤ L) (hL : L ≤ 4096) (kk : ∀ C' M' v', J C' M' → zk (zup Γ (k + 1) (n + 6)) (wL cI cZ cJ ad o am) (fun _ => True) (zjn (zmx C' v') M') [(0, .ref b), (1, .ref (ad 0)), (2, .ref (am 0)), (3, .ref o), (4, .int (zI i))] 1713 []) : zk Γ (wL cI cZ cJ ad o am) (fun _ => True) (zjn (zmx C v) M) [(0, .ref b), (1, .ref (ad 0)), (2, .ref (am 0)), (3, .ref o), (4, .int (zI i))] 1077 [] := by
  have rz : inR (if sx xs (i + 3) = 0 then 0 else 1) := by split <;> decide
  obtain ⟨bb, M', e9, r, e8, hr⟩ := s_ruling (a := sx xs (i + 1)) (t := sx xs (i + 2)) (v := if sx xs (i + 3) = 0 then 0 else 1) hJ
  have hE : ∀ E C', r = .inr (E, C') → E ∈ (["java/lang/IndexOutOfBoundsException", "java/lang/IllegalStateException"] : List String) := fun E C' e => by subst e; exact hr.1
  refine k_aload_n F dL_law_1077 rfl 1 rfl ?_
  refine k_rd F X 1 0 4 rfl rfl (by omega) hL dL_law_1078 dL_law_1079 dL_law_1081 dL_law_1082 dL_law_1083 ?_
  refine k_rd F X 2 0 4 rfl rfl (by omega) hL dL_law_1084 dL_law_1085 dL_law_1087 dL_law_1088 dL_law_1089 ?_
  refine k_rd F X 3 0 4 rfl rfl (by omega) hL dL_law_1090 dL_law_1091 dL_law_1093 dL_law_1094 dL_law_1095 ?_
  refine k_nz F (t1 := 1103) (t2 := 1104) (sx_in xs _) dL_law_1096 dL_law_1099 dL_law_1100 (by decide) (by decide) dL_law_1103 rfl ?_
  refine k_aload_n F dL_law_1104 rfl 3 rfl ?_
  refine k_callL F X hkn hk (As := [.ref (ad 0), .int (zI (sx xs (i + 1))), .int (zI (sx xs (i + 2))), .int (zI (if sx xs (i + 3) = 0 then 0 else 1)), .ref o]) lwr_ruling lz_120 (fun l D A hst hD => c_L_ruling hst hD hJ.1.1 (sx_in xs _) (sx_in xs _) rz e8 hE) ⟨Nat.le_of_ble_eq_true rfl, Nat.le_of_ble_eq_true rfl⟩ rfl rfl (Nat.le_of_ble_eq_true rfl) dL_law_1105 (fun hG1 => ?_)
  have F1 := F.up (k := k + 1) (n := n + 6) hk.1 hk.2
  have X1 := zLX_up X (k + 1) (n + 6)
  refine k_istore F1 dL_law_1108 (by decide) (lv' := [(5, .int (zI (zcode ["java/lang/IndexOutOfBoundsException", "java/lang/IllegalStateException"] r))), (0, .ref b), (1, .ref (ad 0)), (2, .ref (am 0)), (3, .ref o), (4, .int (zI i))]) rfl ?_
  refine k_aload_n F1 dL_law_1110 rfl 3 rfl ?_
  refine k_rd F1 X1 1 1 5 rfl rfl (by omega) hL dL_law_1111 dL_law_1112 dL_law_1114 dL_law_1115 dL_law_1116 ?_
  refine k_rd F1 X1 2 1 5 rfl rfl (by omega) hL dL_law_1117 dL_law_1118 dL_law_1120 dL_law_1121 dL_law_1122 ?_
  refine k_rd F1 X1 3 1 5 rfl rfl (by omega) hL dL_law_1123 dL_law_1124 dL_law_1126 dL_law_1127 dL_law_1128 ?_
  refine k_nz F1 (t1 := 1136) (t2 := 1137) (sx_in xs _) dL_law_1129 dL_law_1132 dL_law_1133 (by decide) (by decide) dL_law_1136 rfl ?_
  refine k_callM F1 (As := [.int (zI (sx xs (i + 1))), .int (zI (sx xs (i + 2))), .int (zI (if sx xs (i + 3) = 0 then 0 else 1))]) lcal_X9_ruling lz_121 (fun l D A hD => c_X9_ruling hD hJ.1.2 (sx_in xs _) (sx_in xs _) rz e9) ⟨rfl, rfl, Nat.le_of_ble_eq_true rfl, Nat.le_of_ble_eq_true rfl⟩ rfl rfl (Nat.le_of_ble_eq_true rfl) dL_law_1137 (fun rb hGM _ => ?_)
  exact k_tailI F1 X1 hr hG1 hGM rb dL_law_1140 dL_law_1142 dL_law_1143 dL_law_1146 dL_law_1148 dL_law_1153 dL_law_1155 dL_law_1158 dL_law_1159 dL_law_1160 dL_law_1161 dL_law_1163 dL_law_1164 dL_law_1165 dL_law_1170 (by decide) kk
set_option maxRecDepth 100000 in
theorem lc_follow {Γ : zG} {cI cZ cJ : ClassId} {ad : Nat → Nat} {o : Nat} {am ads : Nat → Nat} {b L : Nat} {xs : Nat → Int32} {i : Int} (F : zF Γ (wL cI cZ cJ ad o am) cI cZ cL_law room_1 7 RL) (X : zLX Γ ads cI cZ cJ b L xs) {k n : Nat} (hkn : zKN Γ k n) (hk : k + 1 ≤ 1111 ∧ n + 6 ≤ 11679) {C M : zSt} {v : Int} (hJ : J C M) (hi : 0 ≤ i ∧ i + 8 ≤ L) (hL : L ≤ 4096) (kk : ∀ C' M' v', J C' M' → zk (zup Γ (k + 1) (n + 6)) (wL cI cZ cJ ad o am) (fun _ => True) (zjn (zmx C' v') M') [(0, .ref b), (1, .ref (ad 0)), (2, .ref (am 0)), (3, .ref o), (4, .int (zI i))] 1713 []) : zk Γ (wL cI cZ cJ ad o am) (fun _ => True) (zjn (zmx C v) M) [(0, .ref b), (1, .ref (ad 0)), (2, .ref (am 0)), (3, .ref o), (4, .int (zI i))] 1173 [] := by
  obtain ⟨bb, M', e9, r, e8, hr⟩ := s_follow (a := sx xs (i + 1)) (b := sx xs (i + 2)) hJ
  have hE : ∀ E C', r = .inr (E, C') → E ∈ (["java/lang/IllegalArgumentException", "java/lang/IllegalStateException"] : List String) := fun E C' e => by subst e; exact hr.1
  refine k_aload_n F dL_law_1173 rfl 1 rfl ?_
  refine k_rd F X 1 0 4 rfl rfl (by omega) hL dL_law_1174 dL_law_1175 dL_law_1177 dL_law_1178 dL_law_1179 ?_
  refine k_rd F X 2 0 4 rfl rfl (by omega) hL dL_law_1180 dL_law_1181 dL_law_1183 dL_law_1184 dL_law_1185 ?_
  refine k_aload_n F dL_law_1186 rfl 3 rfl ?_
  refine k_callL F X hkn hk (As := [.ref (ad 0), .int (zI (sx xs (i + 1))), .int (zI (sx xs (i + 2))), .ref o]) lwr_follow lz_127 (fun l D A hst hD => c_L_follow hst hD hJ.1.1 (sx_in xs _) (sx_in xs _) e8 hE) ⟨Nat.le_of_ble_eq_true rfl, Nat.le_of_ble_eq_true rfl⟩ rfl rfl (Nat.le_of_ble_eq_true rfl) dL_law_1187 (fun hG1 => ?_)
  have F1 := F.up (k := k + 1) (n := n + 6) hk.1 hk.2
  have X1 := zLX_up X (k + 1) (n + 6)
  refine k_istore F1 dL_law_1190 (by decide) (lv' := [(5, .int (zI (zcode ["java/lang/IllegalArgumentException", "java/lang/IllegalStateException"] r))), (0, .ref b), (1, .ref (ad 0)), (2, .ref (am 0)), (3, .ref o), (4, .int (zI i))]) rfl ?_
  refine k_aload_n F1 dL_law_1192 rfl 3 rfl ?_
  refine k_rd F1 X1 1 1 5 rfl rfl (by omega) hL dL_law_1193 dL_law_1194 dL_law_1196 dL_law_1197 dL_law_1198 ?_
  refine k_rd F1 X1 2 1 5 rfl rfl (by omega) hL dL_law_1199 dL_law_1200 dL_law_1202 dL_law_1203 dL_law_1204 ?_
  refine k_callM F1 (As := [.int (zI (sx xs (i + 1))), .int (zI (sx xs (i + 2)))]) lcal_X9_follow lz_128 (fun l D A hD => c_X9_follow hD hJ.1.2 (sx_in xs _) (sx_in xs _) e9) ⟨rfl, rfl, Nat.le_of_ble_eq_true rfl, Nat.le_of_ble_eq_true rfl⟩ rfl rfl (Nat.le_of_ble_eq_true rfl) dL_law_1205 (fun rb hGM _ => ?_)
  exact k_tailI F1 X1 hr hG1 hGM rb dL_law_1208 dL_law_1210 dL_law_1211 dL_law_1214 dL_law_1216 dL_law_1221 dL_law_1223 dL_law_1226 dL_law_1227 dL_law_1228 dL_law_1229 dL_law_1231 dL_law_1232 dL_law_1233 dL_law_1238 (by decide) kk
set_option maxRecDepth 100000 in
theorem lc_unfollow {Γ : zG} {cI cZ cJ : ClassId} {ad : Nat → Nat} {o : Nat} {am ads : Nat → Nat} {b L : Nat} {xs : Nat → Int32} {i : Int} (F : zF Γ (wL cI cZ cJ ad o am) cI cZ cL_law room_1 7 RL) (X : zLX Γ ads cI cZ cJ b L xs) {k n : Nat} (hkn : zKN Γ k n) (hk : k + 1 ≤ 1111 ∧ n + 6 ≤ 11679) {C M : zSt} {v : Int} (hJ : J C M) (hi : 0 ≤ i ∧ i + 8 ≤ L) (hL : L ≤ 4096) (kk : ∀ C' M' v', J C' M' → zk (zup Γ (k + 1) (n + 6)) (wL cI cZ cJ ad o am) (fun _ => True) (zjn (zmx C' v') M') [(0, .ref b), (1, .ref (ad 0)), (2, .ref (am 0)), (3, .ref o), (4, .int (zI i))] 1713 []) : zk Γ (wL cI cZ cJ ad o am) (fun _ => True) (zjn (zmx C v) M) [(0, .ref b), (1, .ref (ad 0)), (2, .ref (am 0)), (3, .ref o), (4, .int (zI i))] 1241 [] := by
  obtain ⟨bb, M', e9, r, e8, hr⟩ := s_unfollow (a := sx xs (i + 1)) hJ
  have hE : ∀ E C', r = .inr (E, C') → E ∈ (["java/lang/IndexOutOfBoundsException"] : List String) := fun E C' e => by subst e; exact hr.1
  refine k_aload_n F dL_law_1241 rfl 1 rfl ?_
  refine k_rd F X 1 0 4 rfl rfl (by omega) hL dL_law_1242 dL_law_1243 dL_law_1245 dL_law_1246 dL_law_1247 ?_
  refine k_aload_n F dL_law_1248 rfl 3 rfl ?_
  refine k_callL F X hkn hk (As := [.ref (ad 0), .int (zI (sx xs (i + 1))), .ref o]) lwr_unfollow lz_134 (fun l D A hst hD => c_L_unfollow hst hD hJ.1.1 (sx_in xs _) e8 hE) ⟨Nat.le_of_ble_eq_true rfl, Nat.le_of_ble_eq_true rfl⟩ rfl rfl (Nat.le_of_ble_eq_true rfl) dL_law_1249 (fun hG1 => ?_)
  have F1 := F.up (k := k + 1) (n := n + 6) hk.1 hk.2
  have X1 := zLX_up X (k + 1) (n + 6)
  refine k_istore F1 dL_law_1252 (by decide) (lv' := [(5, .int (zI (zcode ["java/lang/IndexOutOfBoundsException"] r))), (0, .ref b), (1, .ref (ad 0)), (2, .ref (am 0)), (3, .ref o), (4, .int (zI i))]) rfl ?_
  refine k_aload_n F1 dL_law_1254 rfl 3 rfl ?_
  refine k_rd F1 X1 1 1 5 rfl rfl (by omega) hL dL_law_1255 dL_law_1256 dL_law_1258 dL_law_1259 dL_law_1260 ?_
  refine k_callM F1 (As := [.int (zI (sx xs (i + 1)))]) lcal_X9_unfollow lz_135 (fun l D A hD => c_X9_unfollow hD hJ.1.2 (sx_in xs _) e9) ⟨rfl, rfl, Nat.le_of_ble_eq_true rfl, Nat.le_of_ble_eq_true rfl⟩ rfl rfl (Nat.le_of_ble_eq_true rfl) dL_law_1261 (fun rb hGM _ => ?_)
  exact k_tailI F1 X1 hr hG1 hGM rb dL_law_1264 dL_law_1266 dL_law_1267 dL_law_1270 dL_law_1272 dL_law_1277 dL_law_1279 dL_law_1282 dL_law_1283 dL_law_1284 dL_law_1285 dL_law_1287 dL_law_1288 dL_law_1289 dL_law_1294 (by decide) kk
set_option maxRecDepth 100000 in
theorem lc_decided {Γ : zG} {cI cZ cJ : ClassId} {ad : Nat → Nat} {o : Nat} {am ads : Nat → Nat} {b L : Nat} {xs : Nat → Int32} {i : Int} (F : zF Γ (wL cI cZ cJ ad o am) cI cZ cL_law room_1 7 RL) (X : zLX Γ ads cI cZ cJ b L xs) {k n : Nat} (hkn : zKN Γ k n) (hk : k + 1 ≤ 1111 ∧ n + 6 ≤ 11679) {C M : zSt} {v : Int} (hJ : J C M) (hi : 0 ≤ i ∧ i + 8 ≤ L) (hL : L ≤ 4096) (kk : ∀ C' M' v', J C' M' → zk (zup Γ (k + 1) (n + 6)) (wL cI cZ cJ ad o am) (fun _ => True) (zjn (zmx C' v') M') [(0, .ref b), (1, .ref (ad 0)), (2, .ref (am 0)), (3, .ref o), (4, .int (zI i))] 1713 []) : zk Γ (wL cI cZ cJ ad o am) (fun _ => True) (zjn (zmx C v) M) [(0, .ref b), (1, .ref (ad 0)), (2, .ref (am 0)), (3, .ref o), (4, .int (zI i))] 1297 [] := by
  obtain ⟨bb, M', e9, r, e8, hr⟩ := s_decided (t := sx xs (i + 1)) hJ
  have hE : ∀ E C', r = .inr (E, C') → E ∈ (["java/lang/IndexOutOfBoundsException"] : List String) := fun E C' e => by subst e; exact hr.1
  refine k_aload_n F dL_law_1297 rfl 1 rfl ?_
  refine k_rd F X 1 0 4 rfl rfl (by omega) hL dL_law_1298 dL_law_1299 dL_law_1301 dL_law_1302 dL_law_1303 ?_
  refine k_aload_n F dL_law_1304 rfl 3 rfl ?_
  refine k_callL F X hkn hk (As := [.ref (ad 0), .int (zI (sx xs (i + 1))), .ref o]) lwr_decided lz_141 (fun l D A hst hD => c_L_decided hst hD hJ.1.1 (sx_in xs _) e8 hE) ⟨Nat.le_of_ble_eq_true rfl, Nat.le_of_ble_eq_true rfl⟩ rfl rfl (Nat.le_of_ble_eq_true rfl) dL_law_1305 (fun hG1 => ?_)
  have F1 := F.up (k := k + 1) (n := n + 6) hk.1 hk.2
  have X1 := zLX_up X (k + 1) (n + 6)
  refine k_istore F1 dL_law_1308 (by decide) (lv' := [(5, .int (zI (zcode ["java/lang/IndexOutOfBoundsException"] r))), (0, .ref b), (1, .ref (ad 0)), (2, .ref (am 0)), (3, .ref o), (4, .int (zI i))]) rfl ?_
  refine k_aload_n F1 dL_law_1310 rfl 3 rfl ?_
  refine k_rd F1 X1 1 1 5 rfl rfl (by omega) hL dL_law_1311 dL_law_1312 dL_law_1314 dL_law_1315 dL_law_1316 ?_
  refine k_callM F1 (As := [.int (zI (sx xs (i + 1)))]) lcal_X9_decided lz_142 (fun l D A hD => c_X9_decided hD hJ.1.2 (sx_in xs _) e9) ⟨rfl, rfl, Nat.le_of_ble_eq_true rfl, Nat.le_of_ble_eq_true rfl⟩ rfl rfl (Nat.le_of_ble_eq_true rfl) dL_law_1317 (fun rb hGM _ => ?_)
  exact k_tailI F1 X1 hr hG1 hGM rb dL_law_1320 dL_law_1322 dL_law_1323 dL_law_1326 dL_law_1328 dL_law_1333 dL_law_1335 dL_law_1338 dL_law_1339 dL_law_1340 dL_law_1341 dL_law_1343 dL_law_1344 dL_law_1345 dL_law_1350 (by decide) kk
set_option maxRecDepth 100000 in
theorem lc_edition {Γ : zG} {cI cZ cJ : ClassId} {ad : Nat → Nat} {o : Nat} {am ads : Nat → Nat} {b L : Nat} {xs : Nat → Int32} {i : Int} (F : zF Γ (wL cI cZ cJ ad o am) cI cZ cL_law room_1 7 RL) (X : zLX Γ ads cI cZ cJ b L xs) {k n : Nat} (hkn : zKN Γ k n) (hk : k + 1 ≤ 1111 ∧ n + 6 ≤ 11679) {C M : zSt} {v : Int} (hJ : J C M) (hi : 0 ≤ i ∧ i + 8 ≤ L) (hL : L ≤ 4096) (kk : ∀ C' M' v', J C' M' → zk (zup Γ (k + 1) (n + 6)) (wL cI cZ cJ ad o am) (fun _ => True) (zjn (zmx C' v') M') [(0, .ref b), (1, .ref (ad 0)), (2, .ref (am 0)), (3, .ref o), (4, .int (zI i))] 1713 []) : zk Γ (wL cI cZ cJ ad o am) (fun _ => True) (zjn (zmx C v) M) [(0, .ref b), (1, .ref (ad 0)), (2, .ref (am 0)), (3, .ref o), (4, .int (zI i))] 1353 [] := by
  obtain ⟨bb, M', e9, r, e8, hr⟩ := s_edition (w := sx xs (i + 1)) (h := sx xs (i + 2)) hJ
  have hE : ∀ E C', r = .inr (E, C') → E ∈ (["java/lang/IllegalArgumentException", "java/lang/IllegalStateException"] : List String) := fun E C' e => by subst e; exact hr.1
  refine k_aload_n F dL_law_1353 rfl 1 rfl ?_
  refine k_rd F X 1 0 4 rfl rfl (by omega) hL dL_law_1354 dL_law_1355 dL_law_1357 dL_law_1358 dL_law_1359 ?_
  refine k_rd F X 2 0 4 rfl rfl (by omega) hL dL_law_1360 dL_law_1361 dL_law_1363 dL_law_1364 dL_law_1365 ?_
  refine k_aload_n F dL_law_1366 rfl 3 rfl ?_
  refine k_callL F X hkn hk (As := [.ref (ad 0), .int (zI (sx xs (i + 1))), .int (zI (sx xs (i + 2))), .ref o]) lwr_edition lz_148 (fun l D A hst hD => c_L_edition hst hD hJ.1.1 (sx_in xs _) (sx_in xs _) e8 hE) ⟨Nat.le_of_ble_eq_true rfl, Nat.le_of_ble_eq_true rfl⟩ rfl rfl (Nat.le_of_ble_eq_true rfl) dL_law_1367 (fun hG1 => ?_)
  have F1 := F.up (k := k + 1) (n := n + 6) hk.1 hk.2
  have X1 := zLX_up X (k + 1) (n + 6)
  refine k_istore F1 dL_law_1370 (by decide) (lv' := [(5, .int (zI (zcode ["java/lang/IllegalArgumentException", "java/lang/IllegalStateException"] r))), (0, .ref b), (1, .ref (ad 0)), (2, .ref (am 0)), (3, .ref o), (4, .int (zI i))]) rfl ?_
  refine k_aload_n F1 dL_law_1372 rfl 3 rfl ?_
  refine k_rd F1 X1 1 1 5 rfl rfl (by omega) hL dL_law_1373 dL_law_1374 dL_law_1376 dL_law_1377 dL_law_1378 ?_
  refine k_rd F1 X1 2 1 5 rfl rfl (by omega) hL dL_law_1379 dL_law_1380 dL_law_1382 dL_law_1383 dL_law_1384 ?_
  refine k_callM F1 (As := [.int (zI (sx xs (i + 1))), .int (zI (sx xs (i + 2)))]) lcal_X9_edition lz_149 (fun l D A hD => c_X9_edition hD hJ.1.2 (sx_in xs _) (sx_in xs _) e9) ⟨rfl, rfl, Nat.le_of_ble_eq_true rfl, Nat.le_of_ble_eq_true rfl⟩ rfl rfl (Nat.le_of_ble_eq_true rfl) dL_law_1385 (fun rb hGM _ => ?_)
  exact k_tailI F1 X1 hr hG1 hGM rb dL_law_1388 dL_law_1390 dL_law_1391 dL_law_1394 dL_law_1396 dL_law_1401 dL_law_1403 dL_law_1406 dL_law_1407 dL_law_1408 dL_law_1409 dL_law_1411 dL_law_1412 dL_law_1413 dL_law_1418 (by decide) kk
set_option maxRecDepth 100000 in
theorem lc_address {Γ : zG} {cI cZ cJ : ClassId} {ad : Nat → Nat} {o : Nat} {am ads : Nat → Nat} {b L : Nat} {xs : Nat → Int32} {i : Int} (F : zF Γ (wL cI cZ cJ ad o am) cI cZ cL_law room_1 7 RL) (X : zLX Γ ads cI cZ cJ b L xs) {k n : Nat} (hkn : zKN Γ k n) (hk : k + 1 ≤ 1111 ∧ n + 6 ≤ 11679) {C M : zSt} {v : Int} (hJ : J C M) (hi : 0 ≤ i ∧ i + 8 ≤ L) (hL : L ≤ 4096) (kk : ∀ C' M' v', J C' M' → zk (zup Γ (k + 1) (n + 6)) (wL cI cZ cJ ad o am) (fun _ => True) (zjn (zmx C' v') M') [(0, .ref b), (1, .ref (ad 0)), (2, .ref (am 0)), (3, .ref o), (4, .int (zI i))] 1713 []) : zk Γ (wL cI cZ cJ ad o am) (fun _ => True) (zjn (zmx C v) M) [(0, .ref b), (1, .ref (ad 0)), (2, .ref (am 0)), (3, .ref o), (4, .int (zI i))] 1421 [] := by
  obtain ⟨bb, M', e9, r, e8, hr⟩ := s_address (a := sx xs (i + 1)) (b := sx xs (i + 2)) hJ
  have hE : ∀ E C', r = .inr (E, C') → E ∈ (["java/lang/IndexOutOfBoundsException"] : List String) := fun E C' e => by subst e; exact hr.1
  refine k_aload_n F dL_law_1421 rfl 1 rfl ?_
  refine k_rd F X 1 0 4 rfl rfl (by omega) hL dL_law_1422 dL_law_1423 dL_law_1425 dL_law_1426 dL_law_1427 ?_
  refine k_rd F X 2 0 4 rfl rfl (by omega) hL dL_law_1428 dL_law_1429 dL_law_1431 dL_law_1432 dL_law_1433 ?_
  refine k_aload_n F dL_law_1434 rfl 3 rfl ?_
  refine k_callL F X hkn hk (As := [.ref (ad 0), .int (zI (sx xs (i + 1))), .int (zI (sx xs (i + 2))), .ref o]) lwr_address lz_155 (fun l D A hst hD => c_L_address hst hD hJ.1.1 (sx_in xs _) (sx_in xs _) e8 hE) ⟨Nat.le_of_ble_eq_true rfl, Nat.le_of_ble_eq_true rfl⟩ rfl rfl (Nat.le_of_ble_eq_true rfl) dL_law_1435 (fun hG1 => ?_)
  have F1 := F.up (k := k + 1) (n := n + 6) hk.1 hk.2
  have X1 := zLX_up X (k + 1) (n + 6)
  refine k_istore F1 dL_law_1438 (by decide) (lv' := [(5, .int (zI (zcode ["java/lang/IndexOutOfBoundsException"] r))), (0, .ref b), (1, .ref (ad 0)), (2, .ref (am 0)), (3, .ref o), (4, .int (zI i))]) rfl ?_
  refine k_aload_n F1 dL_law_1440 rfl 3 rfl ?_
  refine k_rd F1 X1 1 1 5 rfl rfl (by omega) hL dL_law_1441 dL_law_1442 dL_law_1444 dL_law_1445 dL_law_1446 ?_
  refine k_rd F1 X1 2 1 5 rfl rfl (by omega) hL dL_law_1447 dL_law_1448 dL_law_1450 dL_law_1451 dL_law_1452 ?_
  refine k_callM F1 (As := [.int (zI (sx xs (i + 1))), .int (zI (sx xs (i + 2)))]) lcal_X9_address lz_156 (fun l D A hD => c_X9_address hD hJ.1.2 (sx_in xs _) (sx_in xs _) e9) ⟨rfl, rfl, Nat.le_of_ble_eq_true rfl, Nat.le_of_ble_eq_true rfl⟩ rfl rfl (Nat.le_of_ble_eq_true rfl) dL_law_1453 (fun rb hGM _ => ?_)
  exact k_tailI F1 X1 hr hG1 hGM rb dL_law_1456 dL_law_1458 dL_law_1459 dL_law_1462 dL_law_1464 dL_law_1469 dL_law_1471 dL_law_1474 dL_law_1475 dL_law_1476 dL_law_1477 dL_law_1479 dL_law_1480 dL_law_1481 dL_law_1486 (by decide) kk
set_option maxRecDepth 100000 in
theorem lc_pages {Γ : zG} {cI cZ cJ : ClassId} {ad : Nat → Nat} {o : Nat} {am ads : Nat → Nat} {b L : Nat} {xs : Nat → Int32} {i : Int} (F : zF Γ (wL cI cZ cJ ad o am) cI cZ cL_law room_1 7 RL) (X : zLX Γ ads cI cZ cJ b L xs) {k n : Nat} (hkn : zKN Γ k n) (hk : k + 1 ≤ 1111 ∧ n + 6 ≤ 11679) {C M : zSt} {v : Int} (hJ : J C M) (hi : 0 ≤ i ∧ i + 8 ≤ L) (hL : L ≤ 4096) (kk : ∀ C' M' v', J C' M' → zk (zup Γ (k + 1) (n + 6)) (wL cI cZ cJ ad o am) (fun _ => True) (zjn (zmx C' v') M') [(0, .ref b), (1, .ref (ad 0)), (2, .ref (am 0)), (3, .ref o), (4, .int (zI i))] 1713 []) : zk Γ (wL cI cZ cJ ad o am) (fun _ => True) (zjn (zmx C v) M) [(0, .ref b), (1, .ref (ad 0)), (2, .ref (am 0)), (3, .ref o), (4, .int (zI i))] 1489 [] := by
  obtain ⟨bb, M', e9, r, e8, hr⟩ := s_pages (a := sx xs (i + 1)) hJ
  have hE : ∀ E C', r = .inr (E, C') → E ∈ (["java/lang/IndexOutOfBoundsException"] : List String) := fun E C' e => by subst e; exact hr.1
  refine k_aload_n F dL_law_1489 rfl 1 rfl ?_
  refine k_rd F X 1 0 4 rfl rfl (by omega) hL dL_law_1490 dL_law_1491 dL_law_1493 dL_law_1494 dL_law_1495 ?_
  refine k_aload_n F dL_law_1496 rfl 3 rfl ?_
  refine k_callL F X hkn hk (As := [.ref (ad 0), .int (zI (sx xs (i + 1))), .ref o]) lwr_pages lz_162 (fun l D A hst hD => c_L_pages hst hD hJ.1.1 (sx_in xs _) e8 hE) ⟨Nat.le_of_ble_eq_true rfl, Nat.le_of_ble_eq_true rfl⟩ rfl rfl (Nat.le_of_ble_eq_true rfl) dL_law_1497 (fun hG1 => ?_)
  have F1 := F.up (k := k + 1) (n := n + 6) hk.1 hk.2
  have X1 := zLX_up X (k + 1) (n + 6)
  refine k_istore F1 dL_law_1500 (by decide) (lv' := [(5, .int (zI (zcode ["java/lang/IndexOutOfBoundsException"] r))), (0, .ref b), (1, .ref (ad 0)), (2, .ref (am 0)), (3, .ref o), (4, .int (zI i))]) rfl ?_
  refine k_aload_n F1 dL_law_1502 rfl 3 rfl ?_
  refine k_rd F1 X1 1 1 5 rfl rfl (by omega) hL dL_law_1503 dL_law_1504 dL_law_1506 dL_law_1507 dL_law_1508 ?_
  refine k_callM F1 (As := [.int (zI (sx xs (i + 1)))]) lcal_X9_pages lz_163 (fun l D A hD => c_X9_pages hD hJ.1.2 (sx_in xs _) e9) ⟨rfl, rfl, Nat.le_of_ble_eq_true rfl, Nat.le_of_ble_eq_true rfl⟩ rfl rfl (Nat.le_of_ble_eq_true rfl) dL_law_1509 (fun rb hGM _ => ?_)
  exact k_tailI F1 X1 hr hG1 hGM rb dL_law_1512 dL_law_1514 dL_law_1515 dL_law_1518 dL_law_1520 dL_law_1525 dL_law_1527 dL_law_1530 dL_law_1531 dL_law_1532 dL_law_1533 dL_law_1535 dL_law_1536 dL_law_1537 dL_law_1542 (by decide) kk
set_option maxRecDepth 100000 in
theorem lc_row {Γ : zG} {cI cZ cJ : ClassId} {ad : Nat → Nat} {o : Nat} {am ads : Nat → Nat} {b L : Nat} {xs : Nat → Int32} {i : Int} (F : zF Γ (wL cI cZ cJ ad o am) cI cZ cL_law room_1 7 RL) (X : zLX Γ ads cI cZ cJ b L xs) {k n : Nat} (hkn : zKN Γ k n) (hk : k + 1 ≤ 1111 ∧ n + 6 ≤ 11679) {C M : zSt} {v : Int} (hJ : J C M) (hi : 0 ≤ i ∧ i + 8 ≤ L) (hL : L ≤ 4096) (kk : ∀ C' M' v', J C' M' → zk (zup Γ (k + 1) (n + 6)) (wL cI cZ cJ ad o am) (fun _ => True) (zjn (zmx C' v') M') [(0, .ref b), (1, .ref (ad 0)), (2, .ref (am 0)), (3, .ref o), (4, .int (zI i))] 1713 []) : zk Γ (wL cI cZ cJ ad o am) (fun _ => True) (zjn (zmx C v) M) [(0, .ref b), (1, .ref (ad 0)), (2, .ref (am 0)), (3, .ref o), (4, .int (zI i))] 1545 [] := by
  obtain ⟨bb, M', e9, r, e8, hr⟩ := s_row (a := sx xs (i + 1)) hJ
  have hE : ∀ E C', r = .inr (E, C') → E ∈ (["java/lang/IndexOutOfBoundsException"] : List String) := fun E C' e => by subst e; exact hr.1
  refine k_aload_n F dL_law_1545 rfl 1 rfl ?_
  refine k_rd F X 1 0 4 rfl rfl (by omega) hL dL_law_1546 dL_law_1547 dL_law_1549 dL_law_1550 dL_law_1551 ?_
  refine k_aload_n F dL_law_1552 rfl 3 rfl ?_
  refine k_callL F X hkn hk (As := [.ref (ad 0), .int (zI (sx xs (i + 1))), .ref o]) lwr_row lz_169 (fun l D A hst hD => c_L_row hst hD hJ.1.1 (sx_in xs _) e8 hE) ⟨Nat.le_of_ble_eq_true rfl, Nat.le_of_ble_eq_true rfl⟩ rfl rfl (Nat.le_of_ble_eq_true rfl) dL_law_1553 (fun hG1 => ?_)
  have F1 := F.up (k := k + 1) (n := n + 6) hk.1 hk.2
  have X1 := zLX_up X (k + 1) (n + 6)
  refine k_istore F1 dL_law_1556 (by decide) (lv' := [(5, .int (zI (zcode ["java/lang/IndexOutOfBoundsException"] r))), (0, .ref b), (1, .ref (ad 0)), (2, .ref (am 0)), (3, .ref o), (4, .int (zI i))]) rfl ?_
  refine k_aload_n F1 dL_law_1558 rfl 3 rfl ?_
  refine k_rd F1 X1 1 1 5 rfl rfl (by omega) hL dL_law_1559 dL_law_1560 dL_law_1562 dL_law_1563 dL_law_1564 ?_
  refine k_callM F1 (As := [.int (zI (sx xs (i + 1)))]) lcal_X9_row lz_170 (fun l D A hD => c_X9_row hD hJ.1.2 (sx_in xs _) e9) ⟨rfl, rfl, Nat.le_of_ble_eq_true rfl, Nat.le_of_ble_eq_true rfl⟩ rfl rfl (Nat.le_of_ble_eq_true rfl) dL_law_1565 (fun rb hGM _ => ?_)
  exact k_tailI F1 X1 hr hG1 hGM rb dL_law_1568 dL_law_1570 dL_law_1571 dL_law_1574 dL_law_1576 dL_law_1581 dL_law_1583 dL_law_1586 dL_law_1587 dL_law_1588 dL_law_1589 dL_law_1591 dL_law_1592 dL_law_1593 dL_law_1598 (by decide) kk
set_option maxRecDepth 100000 in
theorem lc_holds {Γ : zG} {cI cZ cJ : ClassId} {ad : Nat → Nat} {o : Nat} {am ads : Nat → Nat} {b L : Nat} {xs : Nat → Int32} {i : Int} (F : zF Γ (wL cI cZ cJ ad o am) cI cZ cL_law room_1 7 RL) (X : zLX Γ ads cI cZ cJ b L xs) {k n : Nat} (hkn : zKN Γ k n) (hk : k + 1 ≤ 1111 ∧ n + 6 ≤ 11679) {C M : zSt} {v : Int} (hJ : J C M) (hi : 0 ≤ i ∧ i + 8 ≤ L) (hL : L ≤ 4096) (kk : ∀ C' M' v', J C' M' → zk (zup Γ (k + 1) (n + 6)) (wL cI cZ cJ ad o am) (fun _ => True) (zjn (zmx C' v') M') [(0, .ref b), (1, .ref (ad 0)), (2, .ref (am 0)), (3, .ref o), (4, .int (zI i))] 1713 []) : zk Γ (wL cI cZ cJ ad o am) (fun _ => True) (zjn (zmx C v) M) [(0, .ref b), (1, .ref (ad 0)), (2, .ref (am 0)), (3, .ref o), (4, .int (zI i))] 1601 [] := by
  obtain ⟨bb, M', e9, r, e8, hr⟩ := s_holds (a := sx xs (i + 1)) hJ
  have hE : ∀ E C', r = .inr (E, C') → E ∈ (["java/lang/IndexOutOfBoundsException"] : List String) := fun E C' e => by subst e; exact hr.1
  refine k_aload_n F dL_law_1601 rfl 1 rfl ?_
  refine k_rd F X 1 0 4 rfl rfl (by omega) hL dL_law_1602 dL_law_1603 dL_law_1605 dL_law_1606 dL_law_1607 ?_
  refine k_aload_n F dL_law_1608 rfl 3 rfl ?_
  refine k_callL F X hkn hk (As := [.ref (ad 0), .int (zI (sx xs (i + 1))), .ref o]) lwr_holds lz_176 (fun l D A hst hD => c_L_holds hst hD hJ.1.1 (sx_in xs _) e8 hE) ⟨Nat.le_of_ble_eq_true rfl, Nat.le_of_ble_eq_true rfl⟩ rfl rfl (Nat.le_of_ble_eq_true rfl) dL_law_1609 (fun hG1 => ?_)
  have F1 := F.up (k := k + 1) (n := n + 6) hk.1 hk.2
  have X1 := zLX_up X (k + 1) (n + 6)
  refine k_istore F1 dL_law_1612 (by decide) (lv' := [(5, .int (zI (zcode ["java/lang/IndexOutOfBoundsException"] r))), (0, .ref b), (1, .ref (ad 0)), (2, .ref (am 0)), (3, .ref o), (4, .int (zI i))]) rfl ?_
  refine k_aload_n F1 dL_law_1614 rfl 3 rfl ?_
  refine k_rd F1 X1 1 1 5 rfl rfl (by omega) hL dL_law_1615 dL_law_1616 dL_law_1618 dL_law_1619 dL_law_1620 ?_
  refine k_callM F1 (As := [.int (zI (sx xs (i + 1)))]) lcal_X9_holds lz_177 (fun l D A hD => c_X9_holds hD hJ.1.2 (sx_in xs _) e9) ⟨rfl, rfl, Nat.le_of_ble_eq_true rfl, Nat.le_of_ble_eq_true rfl⟩ rfl rfl (Nat.le_of_ble_eq_true rfl) dL_law_1621 (fun rb hGM _ => ?_)
  exact k_tailI F1 X1 hr hG1 hGM rb dL_law_1624 dL_law_1626 dL_law_1627 dL_law_1630 dL_law_1632 dL_law_1637 dL_law_1639 dL_law_1642 dL_law_1643 dL_law_1644 dL_law_1645 dL_law_1647 dL_law_1648 dL_law_1649 dL_law_1654 (by decide) kk
set_option maxRecDepth 100000 in
theorem lc_daily {Γ : zG} {cI cZ cJ : ClassId} {ad : Nat → Nat} {o : Nat} {am ads : Nat → Nat} {b L : Nat} {xs : Nat → Int32} {i : Int} (F : zF Γ (wL cI cZ cJ ad o am) cI cZ cL_law room_1 7 RL) (X : zLX Γ ads cI cZ cJ b L xs) {k n : Nat} (hkn : zKN Γ k n) (hk : k + 1 ≤ 1111 ∧ n + 6 ≤ 11679) {C M : zSt} {v : Int} (hJ : J C M) (hi : 0 ≤ i ∧ i + 8 ≤ L) (hL : L ≤ 4096) (kk : ∀ C' M' v', J C' M' → zk (zup Γ (k + 1) (n + 6)) (wL cI cZ cJ ad o am) (fun _ => True) (zjn (zmx C' v') M') [(0, .ref b), (1, .ref (ad 0)), (2, .ref (am 0)), (3, .ref o), (4, .int (zI i))] 1713 []) : zk Γ (wL cI cZ cJ ad o am) (fun _ => True) (zjn (zmx C v) M) [(0, .ref b), (1, .ref (ad 0)), (2, .ref (am 0)), (3, .ref o), (4, .int (zI i))] 1657 [] := by
  obtain ⟨bb, M', e9, r, e8, hr⟩ := s_daily (a := sx xs (i + 1)) hJ
  have hE : ∀ E C', r = .inr (E, C') → E ∈ (["java/lang/IllegalArgumentException"] : List String) := fun E C' e => by subst e; exact hr.1
  refine k_aload_n F dL_law_1657 rfl 1 rfl ?_
  refine k_rd F X 1 0 4 rfl rfl (by omega) hL dL_law_1658 dL_law_1659 dL_law_1661 dL_law_1662 dL_law_1663 ?_
  refine k_aload_n F dL_law_1664 rfl 3 rfl ?_
  refine k_callL F X hkn hk (As := [.ref (ad 0), .int (zI (sx xs (i + 1))), .ref o]) lwr_daily lz_183 (fun l D A hst hD => c_L_daily hst hD hJ.1.1 (sx_in xs _) e8 hE) ⟨Nat.le_of_ble_eq_true rfl, Nat.le_of_ble_eq_true rfl⟩ rfl rfl (Nat.le_of_ble_eq_true rfl) dL_law_1665 (fun hG1 => ?_)
  have F1 := F.up (k := k + 1) (n := n + 6) hk.1 hk.2
  have X1 := zLX_up X (k + 1) (n + 6)
  refine k_istore F1 dL_law_1668 (by decide) (lv' := [(5, .int (zI (zcode ["java/lang/IllegalArgumentException"] r))), (0, .ref b), (1, .ref (ad 0)), (2, .ref (am 0)), (3, .ref o), (4, .int (zI i))]) rfl ?_
  refine k_aload_n F1 dL_law_1670 rfl 3 rfl ?_
  refine k_rd F1 X1 1 1 5 rfl rfl (by omega) hL dL_law_1671 dL_law_1672 dL_law_1674 dL_law_1675 dL_law_1676 ?_
  refine k_callM F1 (As := [.int (zI (sx xs (i + 1)))]) lcal_X9_daily lz_184 (fun l D A hD => c_X9_daily hD hJ.1.2 (sx_in xs _) e9) ⟨rfl, rfl, Nat.le_of_ble_eq_true rfl, Nat.le_of_ble_eq_true rfl⟩ rfl rfl (Nat.le_of_ble_eq_true rfl) dL_law_1677 (fun rb hGM _ => ?_)
  exact k_tailI F1 X1 hr hG1 hGM rb dL_law_1680 dL_law_1682 dL_law_1683 dL_law_1686 dL_law_1688 dL_law_1693 dL_law_1695 dL_law_1698 dL_law_1699 dL_law_1700 dL_law_1701 dL_law_1703 dL_law_1704 dL_law_1705 dL_law_1710 (by decide) kk
