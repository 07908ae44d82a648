/-! THE LAW'S LOOP AND ITS START -/
def swT (j : Nat) : Nat := ([156, 212, 225, 269, 349, 417, 497, 565, 697, 801, 869, 932, 995, 1051, 1064, 1077, 1173, 1241, 1297, 1353, 1421, 1489, 1545, 1601, 1657] : List Nat).getD j 0
def swO : Array Int := #[116, 172, 185, 229, 309, 377, 457, 525, 657, 761, 829, 892, 955, 1011, 1024, 1037, 1133, 1201, 1257, 1313, 1381, 1449, 1505, 1561, 1617]
theorem swO_t : ∀ j, j < 25 → swO[j]? = some ((swT j : Int) - 40) := by decide
theorem k_sw {Γ : zG} {cI cZ : ClassId} {w : zSt → va_W} {G : zSt → Prop} {S : zSt} {lv : List (Nat × Value)} {st : List Value} (F : zF Γ w cI cZ cL_law room_1 7 RL) {v : Int} (hc : ∀ j : Nat, j < 25 → zk Γ w G S lv (swT j) st) (hd : zk Γ w G S lv 1713 st) : zk Γ w G S lv 37 (.int (zI v) :: st) := by
  refine k_bipush F dL_law_37 (by decide) ?_
  obtain ⟨p, l, e, R, s, m, args, below, meth, c, Q, D, A, k0, n0, nL⟩ := Γ
  obtain ⟨hx, hb, hml, hown, hts, ⟨hK, hN⟩, hD, rfl, hk0, hn0, rfl⟩ := F
  intro hG H locs ls hP hS hh
  refine lv_iand hx hb dL_law_39 ?_
  obtain ⟨j, hj, ej⟩ := pk_andE (zI v) (m := zI 31) 5 (by decide)
  have hj : j < 32 := hj
  rw [ej]
  have ti : (nI j).toInt = (j : Int) := nI_toInt (by omega)
  by_cases h : j < 25
  · refine lv_tableIn hx hb (off := (swT j : Int) - 40) (tgt := swT j) dL_law_40 (by rw [ti]; omega) (by rw [ti]; omega) ?_ (by show ((40 : Nat) : Int) + ((swT j : Int) - 40) = (swT j : Int); omega) (hc j h hG H locs ls hP hS hh)
    rw [ti, show ((j : Int) - 0).toNat = j by omega]
    exact swO_t j h
  · exact lv_tableOut hx hb (tgt := 1713) dL_law_40 (by rw [ti]; omega) (by decide) (hd hG H locs ls hP hS hh)
set_option maxRecDepth 100000 in
theorem law_loop {cI cZ cJ : ClassId} {ad : Nat → Nat} {o : Nat} {am ads : Nat → Nat} {b L : Nat} {xs : Nat → Int32} (hL : L ≤ 4096) : ∀ (d : Nat) (Γ : zG) (k n : Nat) (i : Int) (C M : zSt) (v : Int), zF Γ (wL cI cZ cJ ad o am) cI cZ cL_law room_1 7 RL → zLX Γ ads cI cZ cJ b L xs → zKN Γ k n → k + d ≤ 1111 ∧ n + 6 * d ≤ 11679 → J C M → 0 ≤ i ∧ i ≤ 10000 → (L : Int) - 8 < i + 8 * d → zk Γ (wL cI cZ cJ ad o am) (fun _ => True) (zjn (zmx C v) M) [(0, .ref b), (1, .ref (ad 0)), (2, .ref (am 0)), (3, .ref o), (4, .int (zI (i)))] 23 [] := by
  intro d
  induction d with
  | zero =>
    intro Γ k n i C M v F X hkn hk hJ hi hm
    have hm : (L : Int) - 8 < i := by omega
    refine k_iload F dL_law_23 4 rfl ?_
    refine k_aload_n F dL_law_25 rfl 0 rfl ?_
    refine k_slen F X hL dL_law_26 ?_
    refine k_bipush F dL_law_27 (by decide) ?_
    refine k_isub (R := Unit) (r := ()) (K := fun y => if y = (L : Int) - 8 then some () else none) F dL_law_29 (by unfold zar; rw [if_pos (⟨by omega, by omega⟩ : inR ((L : Int) - 8))]; exact if_pos rfl) (fun y ry ey => ?_)
    have ey : y = (L : Int) - 8 := by
      by_cases q : y = (L : Int) - 8
      · exact q
      · rw [if_neg q] at ey; cases ey
    subst ey
    refine k_icmp_gt (R := Unit) (r := ()) (A := some ()) (B := none) F ⟨by omega, by omega⟩ ry dL_law_30 (tgt := 1719) (by decide) (if_pos hm) (fun _ => ?_) (fun z => by cases z)
    refine k_iconst F dL_law_1719 ?_
    exact k_lret F X dL_law_1720
  | succ d ih =>
    intro Γ k n i C M v F X hkn hk hJ hi hm
    refine k_iload F dL_law_23 4 rfl ?_
    refine k_aload_n F dL_law_25 rfl 0 rfl ?_
    refine k_slen F X hL dL_law_26 ?_
    refine k_bipush F dL_law_27 (by decide) ?_
    refine k_isub (R := Unit) (r := ()) (K := fun y => if y = (L : Int) - 8 then some () else none) F dL_law_29 (by unfold zar; rw [if_pos (⟨by omega, by omega⟩ : inR ((L : Int) - 8))]; exact if_pos rfl) (fun y ry ey => ?_)
    have ey : y = (L : Int) - 8 := by
      by_cases q : y = (L : Int) - 8
      · exact q
      · rw [if_neg q] at ey; cases ey
    subst ey
    by_cases hc : (L : Int) - 8 < i
    · refine k_icmp_gt (R := Unit) (r := ()) (A := some ()) (B := none) F ⟨by omega, by omega⟩ ry dL_law_30 (tgt := 1719) (by decide) (if_pos hc) (fun _ => ?_) (fun z => by cases z)
      refine k_iconst F dL_law_1719 ?_
      exact k_lret F X dL_law_1720
    · refine k_icmp_gt (R := Unit) (r := ()) (A := none) (B := some ()) F ⟨by omega, by omega⟩ ry dL_law_30 (tgt := 1719) (by decide) (if_neg hc) (fun z => by cases z) (fun _ => ?_)
      refine k_aload_n F dL_law_33 rfl 0 rfl ?_
      refine k_iload F dL_law_34 4 rfl ?_
      refine k_sld F X (i := i) ⟨hi.1, by omega⟩ hL dL_law_36 ?_
      have hk1 : k + 1 ≤ 1111 ∧ n + 6 ≤ 11679 := ⟨by omega, by omega⟩
      have hi1 : 0 ≤ i ∧ i + 8 ≤ (L : Int) := ⟨hi.1, by omega⟩
      have kk : ∀ C' M' v', J C' M' → zk (zup Γ (k + 1) (n + 6)) (wL cI cZ cJ ad o am) (fun _ => True) (zjn (zmx C' v') M') [(0, .ref b), (1, .ref (ad 0)), (2, .ref (am 0)), (3, .ref o), (4, .int (zI (i)))] 1713 [] := by
        intro C' M' v' hJ'
        have F1 := F.up (k := k + 1) (n := n + 6) hk1.1 hk1.2
        have X1 := zLX_up X (k + 1) (n + 6)
        have e := ih (zup Γ (k + 1) (n + 6)) (k + 1) (n + 6) (i + 8) C' M' v' F1 X1 (zKN_up Γ (k + 1) (n + 6)) ⟨by omega, by omega⟩ hJ' ⟨by omega, by omega⟩ (by omega)
        refine k_iinc (R := Unit) (r := ()) (K := fun y => if y = i + 8 then some () else none) F1 (k := 4) (lv' := fun y => [(4, .int (zI y)), (0, .ref b), (1, .ref (ad 0)), (2, .ref (am 0)), (3, .ref o)]) dL_law_1713 rfl (by decide) (fun _ => rfl) (by unfold zar; rw [if_pos (⟨by omega, by omega⟩ : inR (i + 8))]; exact if_pos rfl) (fun y ry ey => ?_)
        have ey : y = i + 8 := by
          by_cases q : y = i + 8
          · exact q
          · rw [if_neg q] at ey; cases ey
        subst ey
        refine k_goto F1 (tgt := 23) dL_law_1716 (by decide) ?_
        exact k_sub [1, 2, 3, 4, 0] rfl e
      refine k_sw F (fun j hj => ?_) (k_wid hkn (kk C M v hJ))
      match j, hj with
      | 0, _ => exact lc_word F X hkn hk1 hJ hi1 hL kk
      | 1, _ => exact lc_wipe F X hkn hk1 hJ hi1 hL kk
      | 2, _ => exact lc_unit F X hkn hk1 hJ hi1 hL kk
      | 3, _ => exact lc_emend F X hkn hk1 hJ hi1 hL kk
      | 4, _ => exact lc_textOf F X hkn hk1 hJ hi1 hL kk
      | 5, _ => exact lc_author F X hkn hk1 hJ hi1 hL kk
      | 6, _ => exact lc_meant F X hkn hk1 hJ hi1 hL kk
      | 7, _ => exact lc_comment F X hkn hk1 hJ hi1 hL kk
      | 8, _ => exact lc_gloss F X hkn hk1 hJ hi1 hL kk
      | 9, _ => exact lc_told F X hkn hk1 hJ hi1 hL kk
      | 10, _ => exact lc_standsAnew F X hkn hk1 hJ hi1 hL kk
      | 11, _ => exact lc_isHard F X hkn hk1 hJ hi1 hL kk
      | 12, _ => exact lc_solved F X hkn hk1 hJ hi1 hL kk
      | 13, _ => exact lc_found F X hkn hk1 hJ hi1 hL kk
      | 14, _ => exact lc_exact F X hkn hk1 hJ hi1 hL kk
      | 15, _ => exact lc_ruling F X hkn hk1 hJ hi1 hL kk
      | 16, _ => exact lc_follow F X hkn hk1 hJ hi1 hL kk
      | 17, _ => exact lc_unfollow F X hkn hk1 hJ hi1 hL kk
      | 18, _ => exact lc_decided F X hkn hk1 hJ hi1 hL kk
      | 19, _ => exact lc_edition F X hkn hk1 hJ hi1 hL kk
      | 20, _ => exact lc_address F X hkn hk1 hJ hi1 hL kk
      | 21, _ => exact lc_pages F X hkn hk1 hJ hi1 hL kk
      | 22, _ => exact lc_row F X hkn hk1 hJ hi1 hL kk
      | 23, _ => exact lc_holds F X hkn hk1 hJ hi1 hL kk
      | 24, _ => exact lc_daily F X hkn hk1 hJ hi1 hL kk
      | j + 25, h => exact absurd h (by omega)
theorem J_start : J zS0 (zfl zS0 17 120 (-1)) := by
  have hM : RG bsM (zfl zS0 17 120 (-1)) := by
    refine ⟨fun k => inR_0, fun k j => ?_, fun k hk j => ?_⟩
    · show inR ((if k = 17 then (fun t : Int => if 0 ≤ t ∧ t < 120 then (-1 : Int) else 0) else fun _ => (0 : Int)) j)
      by_cases e : k = 17
      · rw [if_pos e]
        by_cases q : 0 ≤ j ∧ j < 120
        · rw [if_pos q]; decide
        · rw [if_neg q]; decide
      · rw [if_neg e]; decide
    · have hk : k ≠ 17 := by
        intro e
        subst e
        exact absurd hk (by decide)
      refine Or.inl ?_
      show ((if k = 17 then (fun t : Int => if 0 ≤ t ∧ t < 120 then (-1 : Int) else 0) else fun _ => (0 : Int)) j) = 0
      rw [if_neg hk]
  refine ⟨⟨zS0_G bsC, hM⟩, ⟨Int.le_refl 0, by decide, rfl, fun i h1 h2 => ?_⟩, ⟨Int.le_refl 0, by decide, rfl, fun i h1 h2 => ?_, fun i k h1 h2 => ?_⟩, ⟨Int.le_refl 0, by decide, rfl, fun i h1 h2 => ?_⟩, ⟨Int.le_refl 0, by decide, rfl, fun i h1 h2 => ?_, fun i => ⟨rfl, Or.inl rfl, fun _ => rfl⟩⟩, fun t h1 h2 => ?_, ⟨Int.le_refl 0, by decide, rfl, fun i h1 h2 => ?_⟩, ⟨Int.le_refl 0, by decide, rfl, fun h => absurd h (Int.lt_irrefl 0), fun i h1 h2 => ?_⟩⟩
  · have h2 : i < 0 := h2
    omega
  · have h2 : i < 0 := h2
    omega
  · have h2 : i < 0 := h2
    omega
  · have h2 : i < 0 := h2
    omega
  · have h2 : i < 0 := h2
    omega
  · refine ⟨⟨Int.le_refl 0, by show (0 : Int) < 4096; decide⟩, ⟨Int.le_refl 0, by show (0 : Int) < 4096; decide⟩, fun a a1 a2 => ?_⟩
    have e : (zfl zS0 17 120 (-1)).2 17 (10 * a + t) = -1 := if_pos ⟨by omega, by omega⟩
    have z : ¬ zbit 0 a := by
      unfold zbit
      rw [show (0 : Int).toNat = 0 from rfl, Nat.zero_testBit]
      decide
    rw [e]
    exact ⟨⟨fun q => absurd q z, fun q => absurd rfl q⟩, ⟨fun q => absurd q z, fun q => absurd q (by decide)⟩, Or.inl rfl, fun _ => rfl⟩
  · have h2 : i < 0 := h2
    omega
  · have h2 : i < 0 := h2
    omega
/-! words -/
theorem nw_all : ∀ q ∈ NWt, Cond.methodLinkNest q.1 q.2.1 q.2.2.1 q.2.2.2 ∈ lw_tbl := by decide +kernel
theorem nc_all : ∀ q ∈ zNCP, Cond.not (.castable q.1 q.2) ∈ flatC (Jvm.Cond.and given_1 narrow_1) := by decide +kernel
theorem str_all : ∀ q ∈ zSTR, Cond.stringRef RX8 q.1 q.2 ∈ lw_tbl := by decide +kernel
theorem cas_all : ∀ q ∈ zCAS, Cond.castable q q ∈ lw_tbl := by decide +kernel
theorem dec_all : ∀ y ∈ zDEC, Cond.declares y ∈ lw_tbl := by decide +kernel
theorem sta_all : Cond.laysStatic Bundle.tN "UNASSIGNED_STACK" Bundle.steD ∈ lw_tbl ∧ Cond.laysStatic Bundle.tN "SUPPRESSED_SENTINEL" Bundle.listD ∈ lw_tbl ∧ Cond.initialized Bundle.tN ∈ lw_tbl := by decide +kernel
theorem ref_all : Cond.isRef (.static Bundle.tN "UNASSIGNED_STACK" Bundle.steD) ∈ flatC (Jvm.Cond.and given_1 narrow_1) ∧ Cond.isRef (.static Bundle.tN "SUPPRESSED_SENTINEL" Bundle.listD) ∈ flatC (Jvm.Cond.and given_1 narrow_1) := by decide +kernel
theorem arr_all : Cond.arrayClass .int ∈ lw_tbl ∧ Cond.arrayClass .boolean ∈ lw_tbl ∧ Cond.arrayClass .long ∈ lw_tbl := by decide +kernel
theorem arrK {s : State} {args : Array Value} (h : (Cond.arrayClass .int).before args s = true) (h2 : (Cond.arrayClass .boolean).before args s = true) (h3 : (Cond.arrayClass .long).before args s = true) : ∃ cI cZ cJ : ClassId, ∀ (k : Nat) (q : ClassId × FieldType), ([(cI, .int), (cZ, .boolean), (cJ, .long)] : List (ClassId × FieldType))[k]? = some q → ArrOfT s q.1 q.2 ∧ va_RA s q.1 q.2 := by
  obtain ⟨cI, kI, mI, a1, a2, a3⟩ := Cond.arrayClass_spec h
  obtain ⟨cZ, kZ, mZ, b1, b2, b3⟩ := Cond.arrayClass_spec h2
  obtain ⟨cJ, kJ, mJ, d1, d2, d3⟩ := Cond.arrayClass_spec h3
  refine ⟨cI, cZ, cJ, fun k q hq => ?_⟩
  match k, hq with
  | 0, hq => cases hq; exact ⟨fun n z => ⟨fun k h => (by cases h), kI, a2, mI, a3⟩, a1⟩
  | 1, hq => cases hq; exact ⟨fun n z => ⟨fun k h => (by cases h), kZ, b2, mZ, b3⟩, b1⟩
  | 2, hq => cases hq; exact ⟨fun n z => ⟨fun k h => (by cases h), kJ, d2, mJ, d3⟩, d1⟩
  | k + 3, hq => simp at hq
theorem inst_0 : Cond.instantiable RX0 4 ∈ WS := WS_in 97 (by decide +kernel) (by decide +kernel)
theorem inst_1 : Cond.instantiable RX1 12 ∈ WS := WS_in 116 (by decide +kernel) (by decide +kernel)
theorem inst_2 : Cond.instantiable RX2 5 ∈ WS := WS_in 217 (by decide +kernel) (by decide +kernel)
theorem inst_3 : Cond.instantiable RX3 2 ∈ WS := WS_in 188 (by decide +kernel) (by decide +kernel)
theorem inst_4 : Cond.instantiable RX4 2 ∈ WS := WS_in 64 (by decide +kernel) (by decide +kernel)
theorem inst_5 : Cond.instantiable RX5 5 ∈ WS := WS_in 160 (by decide +kernel) (by decide +kernel)
theorem inst_6 : Cond.instantiable RX6 5 ∈ WS := WS_in 182 (by decide +kernel) (by decide +kernel)
theorem inst_7 : Cond.instantiable RX7 4 ∈ WS := WS_in 78 (by decide +kernel) (by decide +kernel)
theorem inst_8 : Cond.instantiable RX8 7 ∈ WS := WS_in 56 (by decide +kernel) (by decide +kernel)
theorem inst_9 : Cond.instantiable RX9 34 ∈ WS := WS_in 986 (by decide +kernel) (by decide +kernel)
theorem clsK {s : State} {args : Array Value} (hts : ∀ w ∈ WS, w.before args s = true) : ∃ D : va_G, ∀ (k : Nat) (q : vw_C), vwCl[k]? = some q → u_Kn s q.1 q.2.1 q.2.2 (D.1 k) (D.2 k) := by
  obtain ⟨c0, i0, h0⟩ := u_known (C := RX0) (T := TX0) (N := 4) (n := 4) hts inWX0 (hts _ inst_0)
  obtain ⟨c1, i1, h1⟩ := u_known (C := RX1) (T := TX1) (N := 12) (n := 12) hts inWX1 (hts _ inst_1)
  obtain ⟨c2, i2, h2⟩ := u_known (C := RX2) (T := TX2) (N := 5) (n := 5) hts inWX2 (hts _ inst_2)
  obtain ⟨c3, i3, h3⟩ := u_known (C := RX3) (T := TX3) (N := 2) (n := 2) hts inWX3 (hts _ inst_3)
  obtain ⟨c4, i4, h4⟩ := u_known (C := RX4) (T := TX4) (N := 2) (n := 2) hts inWX4 (hts _ inst_4)
  obtain ⟨c5, i5, h5⟩ := u_known (C := RX5) (T := TX5) (N := 5) (n := 5) hts inWX5 (hts _ inst_5)
  obtain ⟨c6, i6, h6⟩ := u_known (C := RX6) (T := TX6) (N := 5) (n := 5) hts inWX6 (hts _ inst_6)
  obtain ⟨c7, i7, h7⟩ := u_known (C := RX7) (T := TX7) (N := 4) (n := 4) hts inWX7 (hts _ inst_7)
  obtain ⟨c8, i8, h8⟩ := u_known (C := RX8) (T := TX8) (N := 7) (n := 7) hts inWX8 (hts _ inst_8)
  obtain ⟨c9, i9, h9⟩ := u_known (C := RX9) (T := TX9) (N := 34) (n := 34) hts inWX9 (hts _ inst_9)
  refine ⟨(fun k => ([c0, c1, c2, c3, c4, c5, c6, c7, c8, c9] : List ClassId).getD k c0, fun k => ([i0, i1, i2, i3, i4, i5, i6, i7, i8, i9] : List (Nat → Nat)).getD k i0), fun k q hq => ?_⟩
  match k, hq with
  | 0, hq => cases hq; exact h0
  | 1, hq => cases hq; exact h1
  | 2, hq => cases hq; exact h2
  | 3, hq => cases hq; exact h3
  | 4, hq => cases hq; exact h4
  | 5, hq => cases hq; exact h5
  | 6, hq => cases hq; exact h6
  | 7, hq => cases hq; exact h7
  | 8, hq => cases hq; exact h8
  | 9, hq => cases hq; exact h9
  | k + 10, hq => simp at hq
theorem strK {s : State} {args : Array Value} {cur : ClassId} (hcur : s.vm.findClass RX8 = some cur) (hts : ∀ w ∈ lw_tbl, w.before args s = true) : ∃ ads : Nat → Nat, ∀ q ∈ zSTR, vk_R RX8 q.1 q.2 (ads q.1) s := by
  have hs : ∀ k : Nat, ∃ a : Nat, ∀ tx, (k, tx) ∈ zSTR → vk_R RX8 k tx a s := fun k => by
    by_cases h : ∃ tx, (k, tx) ∈ zSTR
    · obtain ⟨tx, htx⟩ := h
      obtain ⟨_, _, _, a, _, _, _, _, _, hev⟩ := Cond.stringRef_spec hcur (hts _ (str_all _ htx))
      exact ⟨a, fun tx2 h2 => vk_R.of (hts _ (str_all _ h2)) hev⟩
    · exact ⟨0, fun tx h2 => absurd ⟨tx, h2⟩ h⟩
  exact ⟨fun k => (hs k).choose, fun q hq => (hs q.1).choose_spec q.2 hq⟩
theorem worldK {s : State} {b : Nat} (hts : ∀ w ∈ lw_tbl, w.before #[Value.ref b] s = true) (hgv : (Jvm.Cond.and given_1 narrow_1).before #[Value.ref b] s = true) : ∃ (D : va_G) (cI cZ cJ : ClassId) (ads : Nat → Nat), zKJ D cI cZ cJ s ∧ zT ads (fun q : Nat => s.heap.size ≤ q) s := by
  have htW : ∀ w ∈ WS, w.before #[Value.ref b] s = true := fun w hw => hts w (WS_tbl w hw)
  have hfl := flat_of_before _ hgv
  obtain ⟨D, hD⟩ := clsK htW
  obtain ⟨cI, cZ, cJ, hA⟩ := arrK (hts _ arr_all.1) (hts _ arr_all.2.1) (hts _ arr_all.2.2)
  obtain ⟨ads, hads⟩ := strK (hD 8 _ rfl).2.1 hts
  refine ⟨D, cI, cZ, cJ, ads, ⟨⟨hD, hA⟩, fun q hq => va_Nw.of rfl (hts _ (nw_all q hq)), fun q hq => va_Nc.of (hfl _ (nc_all q hq))⟩, ?_, ?_, hads, fun q hq => va_Nw.of rfl (hts _ (cas_all q hq)), fun y hy => va_Nw.of rfl (hts _ (dec_all y hy))⟩
  · exact vx_Zqof (hts _ sta_all.1) (hts _ sta_all.2.2) (hfl _ ref_all.1) (fun a h => Nat.not_le.mpr h)
  · exact vx_Zqof (hts _ sta_all.2.1) (hts _ sta_all.2.2) (hfl _ ref_all.2) (fun a h => Nat.not_le.mpr h)
/-! the start -/
def zLF (Γ : zG) (cI cZ cJ : ClassId) : Prop := match Γ with
  | (p, _, _, R, s, m, args, _, _, c, _, D, A, _, _, nL) => p.tables.exec = Jvm.exec ∧ c.code = cL_law ∧ c.maxLocals = nL ∧ s.vm.findClass RL = some m.cls ∧ (∀ w ∈ WS, w.before args s = true) ∧ zKJ D cI cZ cJ s ∧ R = room_1 ∧ nL = 7 ∧ ∀ q, s.heap.size ≤ q → A q
section RowsS
variable {Γ : zG} {cI cZ cJ : ClassId} {k n : Nat} {ws : va_W} {lv : List (Nat × Value)} {pc : Nat} {st : List Value}
theorem z_dup (F : zLF Γ cI cZ cJ) {v : Value} (hv : v.category = 1) (d0 : decode cL_law pc = .ok (.dup, 1)) (kk : zc Γ k n ws lv (pc + 1) (v :: v :: st)) : zc Γ k n ws lv pc (v :: st) := by
  obtain ⟨p, l, e, R, s, m, args, below, meth, c, Q, D, A, k0, n0, nL⟩ := Γ
  obtain ⟨hx, hb, hml, hown, hts, hK, rfl, rfl, hA⟩ := F
  intro H locs ls hP hD hS hh
  exact lv_dup hx hb d0 hv (kk H locs ls hP hD hS hh)
theorem z_iconst (F : zLF Γ cI cZ cJ) {v : Int} (d0 : decode cL_law pc = .ok (.iconst v, 1)) (kk : zc Γ k n ws lv (pc + 1) (.int (zI v) :: st)) : zc Γ k n ws lv pc st := by
  obtain ⟨p, l, e, R, s, m, args, below, meth, c, Q, D, A, k0, n0, nL⟩ := Γ
  obtain ⟨hx, hb, hml, hown, hts, hK, rfl, rfl, hA⟩ := F
  intro H locs ls hP hD hS hh
  exact lv_iconst hx hb d0 rfl (kk H locs ls hP hD hS hh)
theorem z_astore (F : zLF Γ cI cZ cJ) {kf : Fin 4} {i : Nat} {x : Nat} {lv' : List (Nat × Value)} (d0 : decode cL_law pc = .ok (.astore_n kf, 1)) (hi : (kf : Nat) = i) (hn : i < 7) (hl : (i, Value.ref x) :: lv.filter (fun q => !(q.1 == i) && !(q.1 + 1 == i && q.2.category == 2)) = lv') (kk : zc Γ k n ws lv' (pc + 1) st) : zc Γ k n ws lv pc (.ref x :: st) := by
  obtain ⟨p, l, e, R, s, m, args, below, meth, c, Q, D, A, k0, n0, nL⟩ := Γ
  obtain ⟨hx, hb, hml, hown, hts, hK, rfl, rfl, hA⟩ := F
  intro H locs ls hP hD hS hh
  exact lv_astore_n hx hb d0 hi hh hn hl (fun ls hl => kk H locs ls hP hD hS hl)
theorem z_istore (F : zLF Γ cI cZ cJ) {i : Nat} {x : Int32} {lv' : List (Nat × Value)} (d0 : decode cL_law pc = .ok (.istore i, 2)) (hn : i < 7) (hl : (i, Value.int x) :: lv.filter (fun q => !(q.1 == i) && !(q.1 + 1 == i && q.2.category == 2)) = lv') (kk : zc Γ k n ws lv' (pc + 2) st) : zc Γ k n ws lv pc (.int x :: st) := by
  obtain ⟨p, l, e, R, s, m, args, below, meth, c, Q, D, A, k0, n0, nL⟩ := Γ
  obtain ⟨hx, hb, hml, hown, hts, hK, rfl, rfl, hA⟩ := F
  intro H locs ls hP hD hS hh
  exact lv_istore hx hb d0 hh hn hl (fun ls hl => kk H locs ls hP hD hS hl)
theorem z_new (F : zLF Γ cI cZ cJ) {C : String} {T : u_T} {N ci idx : Nat} (hin0 : ∀ w ∈ u_ws C T N, w ∈ WS) (ty : Nat → FieldType) (hty : ∀ k, k < N → parseFieldDescriptor (T k).2.2.1 = some (ty k)) (hcl : Cond.classLink RL idx C ∈ WS) (hinst : Cond.instantiable C N ∈ WS) (hini : Cond.initialized C ∈ WS) (hc : vwCl[ci]? = some (C, T, N)) {fs : List Value} (hfs : ∀ j, j < N → defaultValue (ty j) = vp_V fs j) (h1 : k + 1 ≤ 1111) (h2 : n + N ≤ 11679) (d0 : decode cL_law pc = .ok (.new idx, 3)) (kk : ∀ q, zc Γ (k + 1) (n + N) (ws ++ [(q, .inr (ci, fs))]) lv (pc + 3) (.ref q :: st)) : zc Γ k n ws lv pc st := by
  obtain ⟨p, l, e, R, s, m, args, below, meth, c, Q, D, A, k0, n0, nL⟩ := Γ
  obtain ⟨hx, hb, hml, hown, hts, hK, rfl, rfl, hA⟩ := F
  intro H locs ls hP hD hS hh
  exact va_new hx hb hts hin0 ty hty hown (hts _ hcl) (hts _ hinst) (hts _ hini) hK.zK.1 hP hD hS hA hc hfs h1 h2 d0 (fun q H1 hP1 hD1 hS1 => kk q H1 locs ls hP1 hD1 hS1 hh)
theorem z_ctor (F : zLF Γ cI cZ cJ) {y : MethodName} {cy : ByteArray} {mL idx ci q mc ms : Nat} {rm2 : Room} {fs0 : List Value} {W0 : (Nat → Nat) → va_W} (hi : Cond.instanceMethod y ∈ WS) (hini : Cond.initialized y.cls ∈ WS) (hco : Cond.code y cy mL none ∈ WS) (hl : Cond.methodLink RL idx y ∈ WS) (hy : y.name = "<init>") (hd2 : y.cls ≠ "java/lang/invoke/MethodHandle" ∧ y.cls ≠ "java/lang/invoke/VarHandle" ∧ (parseMethodDescriptor y.desc).map (fun d => d.parameters.length) = some 0) (hM : ∀ l D, zCt l y cy mL rm2 D cI cZ ci fs0 W0 mc ms) (hR : rm2.cells = mc ∧ rm2.slots = ms ∧ rm2.frames + 1 ≤ 11 ∧ 8 + (mL + 11) + rm2.locals ≤ 418) (hW : (st.map fun v => v.category).sum ≤ 8) (h1 : k + mc ≤ 1111) (h2 : n + ms ≤ 11679) (d0 : decode cL_law pc = .ok (.invokespecial idx, 3)) (kk : ∀ ad, ad 0 = q → zc Γ (k + mc) (n + ms) (ws ++ W0 ad) lv (pc + 3) st) : zc Γ k n (ws ++ [(q, .inr (ci, fs0))]) lv pc (.ref q :: st) := by
  obtain ⟨p, l, e, R, s, m, args, below, meth, c, Q, D, A, k0, n0, nL⟩ := Γ
  obtain ⟨hx, hb, hml, hown, hts, hKJ, rfl, rfl, hA⟩ := F
  intro H locs ls hP hD hS hh
  have hg : GoodIn WS (Cond.code y cy mL none :: WS) := WS_sub (fun _ h => h) (fun w hw => by
    rcases List.mem_cons.mp hw with rfl | hw
    · exact hco
    · exact hw)
  have hx0 : (ws ++ [(q, (.inr (ci, fs0) : va_E))])[ws.length]? = some (q, .inr (ci, fs0)) := by
    rw [List.getElem?_append_right (Nat.le_refl _), Nat.sub_self]; rfl
  have hAq : ∀ x, zAC q H.size x → A x := fun x hx9 => by
    rcases hx9 with rfl | hx9
    · exact hD.2 _ _ hx0
    · exact hA x (Nat.le_trans hS.1 hx9)
  have hPc : va_P D vwCl [(q, (.inr (ci, fs0) : va_E))] H := fun i z hz => by
    have hi1 : i < 1 := (List.getElem?_eq_some_iff.mp hz).1
    rw [show i = 0 by omega] at hz
    cases hz
    exact hP _ _ hx0
  refine va_callv (va_runI (As := []) (rest := st) ⟨hx, hb, hml, hown, hts⟩ (hM l D q H.size) (cwI 0 hts hg rfl hR.1 hR.2.1 (hts _ hini) (hts _ hl) (hts _ hi) hy hd2 ⟨hR.2.2.1, hR.2.2.2⟩) ⟨fun a U g mk z => ⟨z.1, z.2.1, z.2.2.1, zK.same (u := U) (U := U.calling g mk a) rfl z.2.2.2⟩, fun U hU hW => ⟨rfl, by rw [hU], by rw [hU]; exact hPc, zK.warm hW hKJ.zK⟩⟩ rfl rfl hh.1 rfl (lv_room hW) d0 ⟨h1, h2⟩) hS (fun x _ h => hAq x h) hAq (fun ad t H1 locs1 ht hvm hw hB hz1 hk1 hS1 => ?_)
  obtain ⟨hB1, hB2⟩ := hB
  rw [ht] at hB1
  obtain ⟨hP9, hD9⟩ := zjoinC hP hD hk1 hAq hB1 hB2
  exact kk ad hw H1 locs1 ls hP9 hD9 hS1 hh
theorem larr_long : Cond.arrayClass .long ∈ WS := WS_in 1263 (by decide +kernel) (by decide +kernel)
theorem z_newJ (F : zLF Γ cI cZ cJ) (h1 : k + 1 ≤ 1111) (h2 : n + 1 ≤ 11679) (d0 : decode cL_law pc = .ok (.newarray .long, 2)) (kk : ∀ q, zc Γ (k + 1) (n + 1) (ws ++ [(q, .inl (cJ, 1, .inr (.inl (fun _ => lI 0))))]) lv (pc + 2) (.ref q :: st)) : zc Γ k n ws lv pc (.int (zI 1) :: st) := by
  obtain ⟨p, l, e, R, s, m, args, below, meth, c, Q, D, A, k0, n0, nL⟩ := Γ
  obtain ⟨hx, hb, hml, hown, hts, hKJ, rfl, rfl, hA⟩ := F
  intro H locs ls hP hD hS hh
  refine va_newa (atype := .long) (ty := .long) (N' := 1) (a0 := (1, .inr (.inl (fun _ => lI 0)))) hx hb (hts _ larr_long) rfl hKJ.1 hP hD hS hA (fun cA => rfl) (by decide) (by decide) (by decide) h1 h2 d0 (fun q cA H1 hK1 hP1 hD1 hS1 => ?_)
  have e1 := (hK1.2 3 (cA, .long) rfl).2
  have e2 := (hKJ.1.2 2 (cJ, .long) rfl).2
  have e3 : cA = cJ := Option.some.inj (Eq.trans (Eq.symm e1) e2)
  rw [e3] at hP1 hD1
  exact kk q H1 locs ls hP1 hD1 hS1 hh
end RowsS
set_option maxRecDepth 100000 in
theorem wL_same (cI cZ cJ : ClassId) (ad : Nat → Nat) (o : Nat) (am : Nat → Nat) (S S' : zSt) : (wL cI cZ cJ ad o am S).map Prod.fst = (wL cI cZ cJ ad o am S').map Prod.fst := rfl
theorem lz_cl8 : Cond.classLink RL 8 RX8 ∈ WS := WS_in 55 (by decide +kernel) (by decide +kernel)
theorem lz_cl9 : Cond.classLink RL 90 RX9 ∈ WS := WS_in 985 (by decide +kernel) (by decide +kernel)
theorem lz_in8 : Cond.initialized RX8 ∈ WS := WS_in 36 (by decide +kernel) (by decide +kernel)
theorem lz_in9 : Cond.initialized RX9 ∈ WS := WS_in 45 (by decide +kernel) (by decide +kernel)
theorem lz_ml8 : Cond.methodLink RL 89 yX8_init ∈ WS := WS_in 57 (by decide +kernel) (by decide +kernel)
theorem lz_ml9 : Cond.methodLink RL 92 yX9_init ∈ WS := WS_in 987 (by decide +kernel) (by decide +kernel)
theorem lz_im8 : Cond.instanceMethod yX8_init ∈ WS := WS_in 58 (by decide +kernel) (by decide +kernel)
theorem lz_im9 : Cond.instanceMethod yX9_init ∈ WS := WS_in 988 (by decide +kernel) (by decide +kernel)
theorem lz_co8 : Cond.code yX8_init cX8_init 1 none ∈ WS := WS_in 59 (by decide +kernel) (by decide +kernel)
theorem lz_co9 : Cond.code yX9_init cX9_init 2 none ∈ WS := WS_in 989 (by decide +kernel) (by decide +kernel)
set_option maxRecDepth 100000 in
theorem law_body {Γ : zG} {cI cZ cJ : ClassId} {ads : Nat → Nat} {b L : Nat} {xs : Nat → Int32} (hL : L ≤ 4096) (F : zLF Γ cI cZ cJ) (X : zLX Γ ads cI cZ cJ b L xs) : zc Γ 0 0 [] [(0, .ref b)] 0 [] := by
  refine z_new F (fs := [.null, .null, .null, .null, .null, .null, .null]) inWX8 tyX8 tyX8_ok lz_cl8 inst_8 lz_in8 (ci := 8) rfl fsX8_0 (Nat.le_of_ble_eq_true rfl) (Nat.le_of_ble_eq_true rfl) dL_law_0 (fun q1 => ?_)
  refine z_dup F rfl dL_law_3 ?_
  refine z_ctor F (W0 := w0X8 cI cZ) lz_im8 lz_in8 lz_co8 lz_ml8 rfl ⟨by decide, by decide, by decide +kernel⟩ (fun l D => c_X8_init) ⟨rfl, rfl, Nat.le_of_ble_eq_true rfl, Nat.le_of_ble_eq_true rfl⟩ (Nat.le_of_ble_eq_true rfl) (Nat.le_of_ble_eq_true rfl) (Nat.le_of_ble_eq_true rfl) dL_law_4 (fun ad e1 => ?_)
  subst e1
  refine z_astore F (lv' := [(1, .ref (ad 0)), (0, .ref b)]) dL_law_7 rfl (by decide) rfl ?_
  refine z_new F (fs := [.int (zI 0), .null, .int (zI 0), .int (zI 0), .null, .null, .int (zI 0), .null, .null, .null, .int (zI 0), .null, .null, .null, .null, .null, .null, .null, .null, .null, .null, .null, .null, .int (zI 0), .null, .null, .int (zI 0), .null, .null, .null, .null, .null, .int (zI 0), .null]) inWX9 tyX9 tyX9_ok lz_cl9 inst_9 lz_in9 (ci := 9) rfl fsX9_0 (Nat.le_of_ble_eq_true rfl) (Nat.le_of_ble_eq_true rfl) dL_law_8 (fun q2 => ?_)
  refine z_dup F rfl dL_law_11 ?_
  refine z_ctor F (W0 := fun ad => wM cI cZ ad (zfl zS0 17 120 (-1))) lz_im9 lz_in9 lz_co9 lz_ml9 rfl ⟨by decide, by decide, by decide +kernel⟩ (fun l D => c_X9_init) ⟨rfl, rfl, Nat.le_of_ble_eq_true rfl, Nat.le_of_ble_eq_true rfl⟩ (Nat.le_of_ble_eq_true rfl) (Nat.le_of_ble_eq_true rfl) (Nat.le_of_ble_eq_true rfl) dL_law_12 (fun am e2 => ?_)
  subst e2
  refine z_astore F (lv' := [(2, .ref (am 0)), (1, .ref (ad 0)), (0, .ref b)]) dL_law_15 rfl (by decide) rfl ?_
  refine z_iconst F dL_law_16 ?_
  refine z_newJ F (Nat.le_of_ble_eq_true rfl) (Nat.le_of_ble_eq_true rfl) dL_law_17 (fun o => ?_)
  refine z_astore F (lv' := [(3, .ref o), (2, .ref (am 0)), (1, .ref (ad 0)), (0, .ref b)]) dL_law_19 rfl (by decide) rfl ?_
  refine z_iconst F dL_law_20 ?_
  refine z_istore F (lv' := [(4, .int (zI 0)), (3, .ref o), (2, .ref (am 0)), (1, .ref (ad 0)), (0, .ref b)]) dL_law_21 (by decide) rfl ?_
  obtain ⟨p, l, e, R, s, m, args, below, meth, c, Q, D, A, k0, n0, nL⟩ := Γ
  obtain ⟨hx, hb, hml, hown, hts, hKJ, rfl, rfl, hA⟩ := F
  intro H locs ls hP hD hS hh
  have hP2 : va_P D vwCl (wW cI cZ cJ ad o (zmx zS0 0) ++ wM cI cZ am (zfl zS0 17 120 (-1))) H := hP.sub [0, 1, 2, 3, 4, 5, 6, 7, 8, 9, 10, 11, 12, 13, 14, 15, 16, 17, 18, 19, 20, 21, 22, 23, 24, 25, 26, 27, 28, 29, 30, 31, 32, 33, 34, 35, 36, 37, 65, 38, 39, 40, 41, 42, 43, 44, 45, 46, 47, 48, 49, 50, 51, 52, 53, 54, 55, 56, 57, 58, 59, 60, 61, 62, 63, 64] rfl
  have hD2 : va_D A (wW cI cZ cJ ad o (zmx zS0 0) ++ wM cI cZ am (zfl zS0 17 120 (-1))) := hD.sub [0, 1, 2, 3, 4, 5, 6, 7, 8, 9, 10, 11, 12, 13, 14, 15, 16, 17, 18, 19, 20, 21, 22, 23, 24, 25, 26, 27, 28, 29, 30, 31, 32, 33, 34, 35, 36, 37, 65, 38, 39, 40, 41, 42, 43, 44, 45, 46, 47, 48, 49, 50, 51, 52, 53, 54, 55, 56, 57, 58, 59, 60, 61, 62, 63, 64] (by decide) rfl
  rw [← wL_j] at hP2 hD2
  have hDa : ∀ S, va_D A (wL cI cZ cJ ad o am S) := fun S => zD_same (D := D) (wL_same cI cZ cJ ad o am) hD2
  have F2 : zF (p, l, e, room_1, s, m, args, below, meth, c, Q, D, A, 66, 3361, 7) (wL cI cZ cJ ad o am) cI cZ cL_law room_1 7 RL := ⟨hx, hb, hml, hown, hts, hKJ.zK, hDa, rfl, Nat.le_of_ble_eq_true rfl, Nat.le_of_ble_eq_true rfl, rfl⟩
  exact law_loop hL 513 _ 66 3361 0 zS0 (zfl zS0 17 120 (-1)) 0 F2 X ⟨rfl, rfl⟩ ⟨by decide, by decide⟩ J_start ⟨by decide, by decide⟩ (by omega) trivial H locs ls hP2 hS (lv_sub hh [4, 3, 2, 1, 0] rfl)
theorem whole_start {p : Program} {e : Env} {s : State} {m : MethodId} {below : List Frame} {meth : Method} {c : Code} (l : Launch) (hflags : l.flags = flags0) {b L : Nat} {xs : Nat → Int32} (hL : L ≤ 4096) (C0 : lw_At p s m meth c b L xs) : W p l e room_1 s m #[Value.ref b] below meth c s.heap [] 0 0 (lw_Z below #[Value.ref b] s) (entryFrame m ([Value.ref b] : List Value).toArray 7) := by
  obtain ⟨hx, hb, hr, hml, hown, hts, hX, hbl, hlocks, hgv⟩ := C0
  obtain ⟨D, cI, cZ, cJ, ads, hKJ, hT⟩ := worldK hts hgv
  have hst : l.stackTraces = false := by
    show (!l.flags.contains noTraceFlag) = false
    rw [hflags]
    decide
  have F : zLF (p, l, e, room_1, s, m, #[Value.ref b], below, meth, c, lw_Z below #[Value.ref b] s, D, (fun q : Nat => s.heap.size ≤ q), 0, 0, 7) cI cZ cJ := ⟨hx, hb, hml, hown, fun w hw => hts w (WS_tbl w hw), hKJ, rfl, rfl, fun _ h => h⟩
  have X : zLX (p, l, e, room_1, s, m, #[Value.ref b], below, meth, c, lw_Z below #[Value.ref b] s, D, (fun q : Nat => s.heap.size ≤ q), 0, 0, 7) ads cI cZ cJ b L xs := ⟨hst, hT, hKJ, hX, hbl, rfl, rfl, rfl, hr, hlocks⟩
  have hl := lv_entry [.ref b] (n := 7) (Nat.le_of_ble_eq_true rfl)
  rw [lg_entry_eq]
  exact law_body hL F X s.heap [] _ (fun k q h => by simp at h) ⟨fun i j p q h => by simp at h, fun k q h => by simp at h⟩ va_S.rf hl
