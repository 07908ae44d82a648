/-! THE LAW'S LOOP AND ITS START -/
set_option maxRecDepth 100000 in
theorem law_loop {cI cZ : ClassId} {ad ads : Nat → Nat} {b L : Nat} {xs : Nat → Int32} (hL : L ≤ 260) : ∀ (d : Nat) (Γ : zG) (k n : Nat) (t m h : Int) (C : zSt) (r w p l : Int → Int), zF Γ (wL cI cZ ad) cI cZ cL_law room_1 18 RL → zLX Γ ads cI cZ b L xs → zKN Γ k n → k + d ≤ 119 ∧ n + 6 * d ≤ 2739 → I28 C r w p l m h → h ≤ t → 0 ≤ t → t + d = 55 → zk Γ (wL cI cZ ad) (RG bsL) (zLw C r w p l) [(0, .ref b), (1, .ref (ad 0)), (2, .ref (ad 38)), (3, .ref (ad 39)), (4, .ref (ad 40)), (5, .ref (ad 41)), (6, .int (zI m)), (7, .int (zI 1)), (8, .int (zI h)), (9, .int (zI t))] 117 [] := by
  intro d
  induction d with
  | zero =>
    intro Γ k n t m h C r w p l F X hkn hk hI hh ht hd
    have rt : inR t := ⟨by omega, by omega⟩
    refine k_iload F dL_law_117 9 rfl ?_
    refine k_bipush F dL_law_119 (by decide) ?_
    refine k_icmp_ge (R := Unit) (r := ()) (A := some ()) (B := none) F rt (by decide) (tgt := 702) dL_law_121 (by decide) (if_pos (by omega)) (fun _ => ?_) (fun z => by cases z)
    refine k_iload F dL_law_702 7 rfl ?_
    exact k_lret F X dL_law_704
  | succ d ih =>
    intro Γ k n t m h C r w p l F X hkn hk hI hh ht hd
    have rt : inR t := ⟨by omega, by omega⟩
    have hm := hI.1.2.2.1
    have h0 := hI.2.1.2
    refine k_iload F dL_law_117 9 rfl ?_
    refine k_bipush F dL_law_119 (by decide) ?_
    refine k_icmp_ge (R := Unit) (r := ()) (A := none) (B := some ()) F rt (by decide) (tgt := 702) dL_law_121 (by decide) (if_neg (by omega)) (fun z => by cases z) (fun _ => ?_)
    refine k_iload F dL_law_124 7 rfl ?_
    refine k_if_eq (R := Unit) (r := ()) (A := none) (B := some ()) F (by decide) (tgt := 702) dL_law_126 (by decide) (if_neg (by decide)) (fun z => by cases z) (fun _ => ?_)
    obtain ⟨C', r', w', p', l', m', h', e, hI', hh'⟩ := p_LB (cel := cel9 L xs) (t := t) hI (by omega) ⟨ht, by omega⟩
    have F1 := F.up (k := k + 1) (n := n + 6) (show k + 1 ≤ 119 by omega) (show n + 6 ≤ 2739 by omega)
    have X1 := zLX_up X (k + 1) (n + 6)
    have e9 := ih (zup Γ (k + 1) (n + 6)) (k + 1) (n + 6) (t + 1) m' h' C' r' w' p' l' F1 X1 (zKN_up Γ (k + 1) (n + 6)) ⟨by omega, by omega⟩ hI' (by omega) (by omega) (by omega)
    exact g_L_B hL F X hkn ⟨by omega, by omega⟩ (S := zLw C r w p l) ⟨by omega, by omega⟩ (by decide) ⟨by omega, by omega⟩ rt e (fun _ _ _ _ => e9)
/-! words -/
theorem nw_all : ∀ q ∈ NWt, Cond.methodLinkNest q.1 q.2.1 q.2.2.1 q.2.2.2 ∈ lw_tbl := by decide +kernel
theorem nc_all : ∀ q ∈ zNCP, Cond.not (.castable q.1 q.2) ∈ flatC (Jvm.Cond.and given_1 narrow_1) := by decide +kernel
theorem str_all : ∀ q ∈ zSTR, Cond.stringRef RX8 q.1 q.2 ∈ lw_tbl := by decide +kernel
theorem cas_all : ∀ q ∈ zCAS, Cond.castable q q ∈ lw_tbl := by decide +kernel
theorem dec_all : ∀ y ∈ zDEC, Cond.declares y ∈ lw_tbl := by decide +kernel
theorem sta_all : Cond.laysStatic Bundle.tN "UNASSIGNED_STACK" Bundle.steD ∈ lw_tbl ∧ Cond.laysStatic Bundle.tN "SUPPRESSED_SENTINEL" Bundle.listD ∈ lw_tbl ∧ Cond.initialized Bundle.tN ∈ lw_tbl := by decide +kernel
theorem ref_all : Cond.isRef (.static Bundle.tN "UNASSIGNED_STACK" Bundle.steD) ∈ flatC (Jvm.Cond.and given_1 narrow_1) ∧ Cond.isRef (.static Bundle.tN "SUPPRESSED_SENTINEL" Bundle.listD) ∈ flatC (Jvm.Cond.and given_1 narrow_1) := by decide +kernel
theorem arr_all : Cond.arrayClass .int ∈ lw_tbl ∧ Cond.arrayClass .boolean ∈ lw_tbl := by decide +kernel
theorem arrK {s : State} {args : Array Value} (h : (Cond.arrayClass .int).before args s = true) (h2 : (Cond.arrayClass .boolean).before args s = true) : ∃ cI cZ : ClassId, ∀ (k : Nat) (q : ClassId × FieldType), ([(cI, .int), (cZ, .boolean)] : List (ClassId × FieldType))[k]? = some q → ArrOfT s q.1 q.2 ∧ va_RA s q.1 q.2 := by
  obtain ⟨cI, kI, mI, a1, a2, a3⟩ := Cond.arrayClass_spec h
  obtain ⟨cZ, kZ, mZ, b1, b2, b3⟩ := Cond.arrayClass_spec h2
  refine ⟨cI, cZ, fun k q hq => ?_⟩
  match k, hq with
  | 0, hq => cases hq; exact ⟨fun n z => ⟨fun k h => (by cases h), kI, a2, mI, a3⟩, a1⟩
  | 1, hq => cases hq; exact ⟨fun n z => ⟨fun k h => (by cases h), kZ, b2, mZ, b3⟩, b1⟩
  | k + 2, hq => simp at hq
theorem inst_0 : Cond.instantiable RX0 4 ∈ WS := WS_in 67 (by decide +kernel) (by decide +kernel)
theorem inst_1 : Cond.instantiable RX1 12 ∈ WS := WS_in 86 (by decide +kernel) (by decide +kernel)
theorem inst_2 : Cond.instantiable RX2 5 ∈ WS := WS_in 183 (by decide +kernel) (by decide +kernel)
theorem inst_3 : Cond.instantiable RX3 2 ∈ WS := WS_in 157 (by decide +kernel) (by decide +kernel)
theorem inst_4 : Cond.instantiable RX4 2 ∈ WS := WS_in 34 (by decide +kernel) (by decide +kernel)
theorem inst_5 : Cond.instantiable RX5 5 ∈ WS := WS_in 130 (by decide +kernel) (by decide +kernel)
theorem inst_6 : Cond.instantiable RX6 5 ∈ WS := WS_in 151 (by decide +kernel) (by decide +kernel)
theorem inst_7 : Cond.instantiable RX7 4 ∈ WS := WS_in 48 (by decide +kernel) (by decide +kernel)
theorem inst_8 : Cond.instantiable RX8 7 ∈ WS := WS_in 26 (by decide +kernel) (by decide +kernel)
theorem clsK {s : State} {args : Array Value} (hts : ∀ w ∈ WS, w.before args s = true) : ∃ D : va_G, ∀ (k : Nat) (q : vw_C), vwCl[k]? = some q → u_Kn s q.1 q.2.1 q.2.2 (D.1 k) (D.2 k) := by
  obtain ⟨c0, i0, h0⟩ := u_known (C := RX0) (T := TX0) (N := 4) (n := 4) hts inWX0 (hts _ inst_0)
  obtain ⟨c1, i1, h1⟩ := u_known (C := RX1) (T := TX1) (N := 12) (n := 12) hts inWX1 (hts _ inst_1)
  obtain ⟨c2, i2, h2⟩ := u_known (C := RX2) (T := TX2) (N := 5) (n := 5) hts inWX2 (hts _ inst_2)
  obtain ⟨c3, i3, h3⟩ := u_known (C := RX3) (T := TX3) (N := 2) (n := 2) hts inWX3 (hts _ inst_3)
  obtain ⟨c4, i4, h4⟩ := u_known (C := RX4) (T := TX4) (N := 2) (n := 2) hts inWX4 (hts _ inst_4)
  obtain ⟨c5, i5, h5⟩ := u_known (C := RX5) (T := TX5) (N := 5) (n := 5) hts inWX5 (hts _ inst_5)
  obtain ⟨c6, i6, h6⟩ := u_known (C := RX6) (T := TX6) (N := 5) (n := 5) hts inWX6 (hts _ inst_6)
  obtain ⟨c7, i7, h7⟩ := u_known (C := RX7) (T := TX7) (N := 4) (n := 4) hts inWX7 (hts _ inst_7)
  obtain ⟨c8, i8, h8⟩ := u_known (C := RX8) (T := TX8) (N := 7) (n := 7) hts inWX8 (hts _ inst_8)
  refine ⟨(fun k => ([c0, c1, c2, c3, c4, c5, c6, c7, c8] : List ClassId).getD k c0, fun k => ([i0, i1, i2, i3, i4, i5, i6, i7, i8] : List (Nat → Nat)).getD k i0), fun k q hq => ?_⟩
  match k, hq with
  | 0, hq => cases hq; exact h0
  | 1, hq => cases hq; exact h1
  | 2, hq => cases hq; exact h2
  | 3, hq => cases hq; exact h3
  | 4, hq => cases hq; exact h4
  | 5, hq => cases hq; exact h5
  | 6, hq => cases hq; exact h6
  | 7, hq => cases hq; exact h7
  | 8, hq => cases hq; exact h8
  | k + 9, hq => simp at hq
theorem strK {s : State} {args : Array Value} {cur : ClassId} (hcur : s.vm.findClass RX8 = some cur) (hts : ∀ w ∈ lw_tbl, w.before args s = true) : ∃ ads : Nat → Nat, ∀ q ∈ zSTR, vk_R RX8 q.1 q.2 (ads q.1) s := by
  have hs : ∀ k : Nat, ∃ a : Nat, ∀ tx, (k, tx) ∈ zSTR → vk_R RX8 k tx a s := fun k => by
    by_cases h : ∃ tx, (k, tx) ∈ zSTR
    · obtain ⟨tx, htx⟩ := h
      obtain ⟨_, _, _, a, _, _, _, _, _, hev⟩ := Cond.stringRef_spec hcur (hts _ (str_all _ htx))
      exact ⟨a, fun tx2 h2 => vk_R.of (hts _ (str_all _ h2)) hev⟩
    · exact ⟨0, fun tx h2 => absurd ⟨tx, h2⟩ h⟩
  exact ⟨fun k => (hs k).choose, fun q hq => (hs q.1).choose_spec q.2 hq⟩
theorem worldK {s : State} {b : Nat} (hts : ∀ w ∈ lw_tbl, w.before #[Value.ref b] s = true) (hgv : (Jvm.Cond.and given_1 narrow_1).before #[Value.ref b] s = true) : ∃ (D : va_G) (cI cZ : ClassId) (ads : Nat → Nat), zKJ D cI cZ s ∧ zT ads (fun q : Nat => s.heap.size ≤ q) s := by
  have htW : ∀ w ∈ WS, w.before #[Value.ref b] s = true := fun w hw => hts w (WS_tbl w hw)
  have hfl := flat_of_before _ hgv
  obtain ⟨D, hD⟩ := clsK htW
  obtain ⟨cI, cZ, hA⟩ := arrK (hts _ arr_all.1) (hts _ arr_all.2)
  obtain ⟨ads, hads⟩ := strK (hD 8 _ rfl).2.1 hts
  refine ⟨D, cI, cZ, ads, ⟨⟨⟨hD, hA⟩, fun q hq => va_Nw.of rfl (hts _ (nw_all q hq))⟩, fun q hq => va_Nc.of (hfl _ (nc_all q hq))⟩, ?_, ?_, hads, fun q hq => va_Nw.of rfl (hts _ (cas_all q hq)), fun y hy => va_Nw.of rfl (hts _ (dec_all y hy))⟩
  · exact vx_Zqof (hts _ sta_all.1) (hts _ sta_all.2.2) (hfl _ ref_all.1) (fun a h => Nat.not_le.mpr h)
  · exact vx_Zqof (hts _ sta_all.2.1) (hts _ sta_all.2.2) (hfl _ ref_all.2) (fun a h => Nat.not_le.mpr h)
/-! the start -/
def zLF (Γ : zG) (cI cZ : ClassId) : Prop := match Γ with
  | (p, _, _, R, s, m, args, _, _, c, _, D, A, _, _, nL) => p.tables.exec = Jvm.exec ∧ c.code = cL_law ∧ c.maxLocals = nL ∧ s.vm.findClass RL = some m.cls ∧ (∀ w ∈ WS, w.before args s = true) ∧ zKJ D cI cZ s ∧ R = room_1 ∧ nL = 18 ∧ ∀ q, s.heap.size ≤ q → A q
section RowsS
variable {Γ : zG} {cI cZ : ClassId} {k n : Nat} {ws : va_W} {lv : List (Nat × Value)} {pc : Nat} {st : List Value}
theorem z_dup (F : zLF Γ cI cZ) {v : Value} (hv : v.category = 1) (d0 : decode cL_law pc = .ok (.dup, 1)) (kk : zc Γ k n ws lv (pc + 1) (v :: v :: st)) : zc Γ k n ws lv pc (v :: st) := by
  obtain ⟨p, l, e, R, s, m, args, below, meth, c, Q, D, A, k0, n0, nL⟩ := Γ
  obtain ⟨hx, hb, hml, hown, hts, hK, rfl, rfl, hA⟩ := F
  intro H locs ls hP hD hS hh
  exact lv_dup hx hb d0 hv (kk H locs ls hP hD hS hh)
theorem z_iconst (F : zLF Γ cI cZ) {v : Int} (d0 : decode cL_law pc = .ok (.iconst v, 1)) (kk : zc Γ k n ws lv (pc + 1) (.int (zI v) :: st)) : zc Γ k n ws lv pc st := by
  obtain ⟨p, l, e, R, s, m, args, below, meth, c, Q, D, A, k0, n0, nL⟩ := Γ
  obtain ⟨hx, hb, hml, hown, hts, hK, rfl, rfl, hA⟩ := F
  intro H locs ls hP hD hS hh
  exact lv_iconst hx hb d0 rfl (kk H locs ls hP hD hS hh)
theorem z_astore (F : zLF Γ cI cZ) {kf : Fin 4} {i : Nat} {x : Nat} {lv' : List (Nat × Value)} (d0 : decode cL_law pc = .ok (.astore_n kf, 1)) (hi : (kf : Nat) = i) (hn : i < 18) (hl : (i, Value.ref x) :: lv.filter (fun q => !(q.1 == i) && !(q.1 + 1 == i && q.2.category == 2)) = lv') (kk : zc Γ k n ws lv' (pc + 1) st) : zc Γ k n ws lv pc (.ref x :: st) := by
  obtain ⟨p, l, e, R, s, m, args, below, meth, c, Q, D, A, k0, n0, nL⟩ := Γ
  obtain ⟨hx, hb, hml, hown, hts, hK, rfl, rfl, hA⟩ := F
  intro H locs ls hP hD hS hh
  exact lv_astore_n hx hb d0 hi hh hn hl (fun ls hl => kk H locs ls hP hD hS hl)
theorem z_istore (F : zLF Γ cI cZ) {i : Nat} {x : Int32} {lv' : List (Nat × Value)} (d0 : decode cL_law pc = .ok (.istore i, 2)) (hn : i < 18) (hl : (i, Value.int x) :: lv.filter (fun q => !(q.1 == i) && !(q.1 + 1 == i && q.2.category == 2)) = lv') (kk : zc Γ k n ws lv' (pc + 2) st) : zc Γ k n ws lv pc (.int x :: st) := by
  obtain ⟨p, l, e, R, s, m, args, below, meth, c, Q, D, A, k0, n0, nL⟩ := Γ
  obtain ⟨hx, hb, hml, hown, hts, hK, rfl, rfl, hA⟩ := F
  intro H locs ls hP hD hS hh
  exact lv_istore hx hb d0 hh hn hl (fun ls hl => kk H locs ls hP hD hS hl)
theorem z_new (F : zLF Γ cI cZ) {C : String} {T : u_T} {N ci idx : Nat} (hin0 : ∀ w ∈ u_ws C T N, w ∈ WS) (ty : Nat → FieldType) (hty : ∀ k, k < N → parseFieldDescriptor (T k).2.2.1 = some (ty k)) (hcl : Cond.classLink RL idx C ∈ WS) (hinst : Cond.instantiable C N ∈ WS) (hini : Cond.initialized C ∈ WS) (hc : vwCl[ci]? = some (C, T, N)) {fs : List Value} (hfs : ∀ j, j < N → defaultValue (ty j) = vp_V fs j) (h1 : k + 1 ≤ 119) (h2 : n + N ≤ 2739) (d0 : decode cL_law pc = .ok (.new idx, 3)) (kk : ∀ q, zc Γ (k + 1) (n + N) (ws ++ [(q, .inr (ci, fs))]) lv (pc + 3) (.ref q :: st)) : zc Γ k n ws lv pc st := by
  obtain ⟨p, l, e, R, s, m, args, below, meth, c, Q, D, A, k0, n0, nL⟩ := Γ
  obtain ⟨hx, hb, hml, hown, hts, hK, rfl, rfl, hA⟩ := F
  intro H locs ls hP hD hS hh
  exact va_new hx hb hts hin0 ty hty hown (hts _ hcl) (hts _ hinst) (hts _ hini) hK.zK.1 hP hD hS hA hc hfs h1 h2 d0 (fun q H1 hP1 hD1 hS1 => kk q H1 locs ls hP1 hD1 hS1 hh)
theorem z_ctor (F : zLF Γ cI cZ) {y : MethodName} {cy : ByteArray} {mL idx ci q mc ms : Nat} {rm2 : Room} {fs0 : List Value} {W0 : (Nat → Nat) → va_W} (hi : Cond.instanceMethod y ∈ WS) (hini : Cond.initialized y.cls ∈ WS) (hco : Cond.code y cy mL none ∈ WS) (hl : Cond.methodLink RL idx y ∈ WS) (hy : y.name = "<init>") (hd2 : y.cls ≠ "java/lang/invoke/MethodHandle" ∧ y.cls ≠ "java/lang/invoke/VarHandle" ∧ (parseMethodDescriptor y.desc).map (fun d => d.parameters.length) = some 0) (hM : ∀ l D, zCt l y cy mL rm2 D cI cZ ci fs0 W0 mc ms) (hR : rm2.cells = mc ∧ rm2.slots = ms ∧ rm2.frames + 1 ≤ 11 ∧ 8 + (mL + 11) + rm2.locals ≤ 400) (hW : (st.map fun v => v.category).sum ≤ 8) (h1 : k + mc ≤ 119) (h2 : n + ms ≤ 2739) (d0 : decode cL_law pc = .ok (.invokespecial idx, 3)) (kk : ∀ ad, ad 0 = q → zc Γ (k + mc) (n + ms) (ws ++ W0 ad) lv (pc + 3) st) : zc Γ k n (ws ++ [(q, .inr (ci, fs0))]) lv pc (.ref q :: st) := by
  obtain ⟨p, l, e, R, s, m, args, below, meth, c, Q, D, A, k0, n0, nL⟩ := Γ
  obtain ⟨hx, hb, hml, hown, hts, hKJ, rfl, rfl, hA⟩ := F
  intro H locs ls hP hD hS hh
  have hg : GoodIn WS (Cond.code y cy mL none :: WS) := WS_sub (fun _ h => h) (fun w hw => by
    rcases List.mem_cons.mp hw with rfl | hw
    · exact hco
    · exact hw)
  have hx0 : (ws ++ [(q, (.inr (ci, fs0) : va_E))])[ws.length]? = some (q, .inr (ci, fs0)) := by
    rw [List.getElem?_append_right (Nat.le_refl _), Nat.sub_self]; rfl
  have hAq : ∀ x, zAC q H.size x → A x := fun x hx9 => by
    rcases hx9 with rfl | hx9
    · exact hD.2 _ _ hx0
    · exact hA x (Nat.le_trans hS.1 hx9)
  have hPc : va_P D vwCl [(q, (.inr (ci, fs0) : va_E))] H := fun i z hz => by
    have hi1 : i < 1 := (List.getElem?_eq_some_iff.mp hz).1
    rw [show i = 0 by omega] at hz
    cases hz
    exact hP _ _ hx0
  refine va_callv (va_runI (As := []) (rest := st) ⟨hx, hb, hml, hown, hts⟩ (hM l D q H.size) (cwI 0 hts hg rfl hR.1 hR.2.1 (hts _ hini) (hts _ hl) (hts _ hi) hy hd2 ⟨hR.2.2.1, hR.2.2.2⟩) ⟨fun a U g mk z => ⟨z.1, z.2.1, z.2.2.1, zK.same (u := U) (U := U.calling g mk a) rfl z.2.2.2⟩, fun U hU hW => ⟨rfl, by rw [hU], by rw [hU]; exact hPc, zK.warm hW hKJ.zK⟩⟩ rfl rfl hh.1 rfl (lv_room hW) d0 ⟨h1, h2⟩) hS (fun x _ h => hAq x h) hAq (fun ad t H1 locs1 ht hvm hw hB hz1 hk1 hS1 => ?_)
  obtain ⟨hB1, hB2⟩ := hB
  rw [ht] at hB1
  obtain ⟨hP9, hD9⟩ := zjoinC hP hD hk1 hAq hB1 hB2
  exact kk ad hw H1 locs1 ls hP9 hD9 hS1 hh
theorem z_bipush (F : zLF Γ cI cZ) {v : Int} (hv : (Int8.ofInt v).toInt32 = zI v) (d0 : decode cL_law pc = .ok (.bipush v, 2)) (kk : zc Γ k n ws lv (pc + 2) (.int (zI v) :: st)) : zc Γ k n ws lv pc st := by
  obtain ⟨p, l, e, R, s, m, args, below, meth, c, Q, D, A, k0, n0, nL⟩ := Γ
  obtain ⟨hx, hb, hml, hown, hts, hK, rfl, rfl, hA⟩ := F
  intro H locs ls hP hD hS hh
  exact lv_bipush hx hb d0 hv (kk H locs ls hP hD hS hh)
theorem z_astorew (F : zLF Γ cI cZ) {i : Nat} {x : Nat} {lv' : List (Nat × Value)} (d0 : decode cL_law pc = .ok (.astore i, 2)) (hn : i < 18) (hl : (i, Value.ref x) :: lv.filter (fun q => !(q.1 == i) && !(q.1 + 1 == i && q.2.category == 2)) = lv') (kk : zc Γ k n ws lv' (pc + 2) st) : zc Γ k n ws lv pc (.ref x :: st) := by
  obtain ⟨p, l, e, R, s, m, args, below, meth, c, Q, D, A, k0, n0, nL⟩ := Γ
  obtain ⟨hx, hb, hml, hown, hts, hK, rfl, rfl, hA⟩ := F
  intro H locs ls hP hD hS hh
  exact lv_astore hx hb d0 hh hn hl (fun ls hl => kk H locs ls hP hD hS hl)
theorem z_newI (F : zLF Γ cI cZ) {N : Nat} {v : Int} (harr : Cond.arrayClass .int ∈ WS) (hv : ¬ zI v < 0) (hN2 : (zI v).toNatClampNeg = N) (hby : N * 4 ≤ 536870912) (h1 : k + 1 ≤ 119) (h2 : n + N ≤ 2739) (d0 : decode cL_law pc = .ok (.newarray .int, 2)) (kk : ∀ q, zc Γ (k + 1) (n + N) (ws ++ [(q, .inl (cI, N, .inl (zA (fun _ => 0))))]) lv (pc + 2) (.ref q :: st)) : zc Γ k n ws lv pc (.int (zI v) :: st) := by
  obtain ⟨p, l, e, R, s, m, args, below, meth, c, Q, D, A, k0, n0, nL⟩ := Γ
  obtain ⟨hx, hb, hml, hown, hts, hKJ, rfl, rfl, hA⟩ := F
  obtain ⟨⟨hK, hN⟩, -⟩ := hKJ
  intro H locs ls hP hD hS hh
  have hby2 : N * componentBytes .int ≤ 536870912 := Nat.le_trans (Nat.mul_le_mul_left N (show componentBytes .int ≤ 4 by decide)) hby
  refine va_newa (atype := .int) (ty := .int) (a0 := (N, .inl (zA (fun _ => 0)))) hx hb (hts _ harr) rfl hK hP hD hS hA (fun cA => rfl) hv hN2 hby2 h1 h2 d0 (fun q cA H1 hK1 hP1 hD1 hS1 => ?_)
  have e1 := (hK1.2 2 (cA, .int) rfl).2
  have e2 := (hK.2 0 (cI, .int) rfl).2
  have e3 : cA = cI := Option.some.inj (Eq.trans (Eq.symm e1) e2)
  rw [e3] at hP1 hD1
  exact kk q H1 locs ls hP1 hD1 hS1 hh
end RowsS
theorem lz_cl8 : Cond.classLink RL 7 RX8 ∈ WS := WS_in 25 (by decide +kernel) (by decide +kernel)
theorem lz_in8 : Cond.initialized RX8 ∈ WS := WS_in 8 (by decide +kernel) (by decide +kernel)
theorem lz_ml8 : Cond.methodLink RL 21 yX8_init ∈ WS := WS_in 27 (by decide +kernel) (by decide +kernel)
theorem lz_im8 : Cond.instanceMethod yX8_init ∈ WS := WS_in 28 (by decide +kernel) (by decide +kernel)
theorem lz_co8 : Cond.code yX8_init cX8_init 1 none ∈ WS := WS_in 29 (by decide +kernel) (by decide +kernel)
theorem lz_ai : Cond.arrayClass .int ∈ WS := WS_in 46 (by decide +kernel) (by decide +kernel)
set_option maxRecDepth 100000 in
theorem wL_same (cI cZ : ClassId) (ad : Nat → Nat) (S S' : zSt) : (wL cI cZ ad S).map Prod.fst = (wL cI cZ ad S').map Prod.fst := rfl
set_option maxRecDepth 100000 in
theorem law_body {Γ : zG} {cI cZ : ClassId} {ads : Nat → Nat} {b L : Nat} {xs : Nat → Int32} (hL : L ≤ 260) (F : zLF Γ cI cZ) (X : zLX Γ ads cI cZ b L xs) : zc Γ 0 0 [] [(0, .ref b)] 0 [] := by
  refine z_new F (fs := [.null, .null, .null, .null, .null, .null, .null]) inWX8 tyX8 tyX8_ok lz_cl8 inst_8 lz_in8 (ci := 8) rfl fsX8_0 (Nat.le_of_ble_eq_true rfl) (Nat.le_of_ble_eq_true rfl) dL_law_0 (fun q1 => ?_)
  refine z_dup F rfl dL_law_3 ?_
  refine z_ctor F (W0 := w0X8 cI cZ) lz_im8 lz_in8 lz_co8 lz_ml8 rfl ⟨by decide, by decide, by decide +kernel⟩ (fun l D => c_X8_init) ⟨rfl, rfl, Nat.le_of_ble_eq_true rfl, Nat.le_of_ble_eq_true rfl⟩ (Nat.le_of_ble_eq_true rfl) (Nat.le_of_ble_eq_true rfl) (Nat.le_of_ble_eq_true rfl) dL_law_4 (fun ad e1 => ?_)
  subst e1
  refine z_astore F (lv' := [(1, .ref (ad 0)), (0, .ref b)]) dL_law_7 rfl (by decide) rfl ?_
  refine z_bipush F bp_12 dL_law_8 ?_
  refine z_newI F (N := 12) lz_ai (by decide) (by decide) (by decide) (Nat.le_of_ble_eq_true rfl) (Nat.le_of_ble_eq_true rfl) dL_law_10 (fun q2 => ?_)
  refine z_astore F (lv' := [(2, .ref q2), (1, .ref (ad 0)), (0, .ref b)]) dL_law_12 rfl (by decide) rfl ?_
  refine z_bipush F bp_60 dL_law_13 ?_
  refine z_newI F (N := 60) lz_ai (by decide) (by decide) (by decide) (Nat.le_of_ble_eq_true rfl) (Nat.le_of_ble_eq_true rfl) dL_law_15 (fun q3 => ?_)
  refine z_astore F (lv' := [(3, .ref q3), (2, .ref q2), (1, .ref (ad 0)), (0, .ref b)]) dL_law_17 rfl (by decide) rfl ?_
  refine z_bipush F bp_60 dL_law_18 ?_
  refine z_newI F (N := 60) lz_ai (by decide) (by decide) (by decide) (Nat.le_of_ble_eq_true rfl) (Nat.le_of_ble_eq_true rfl) dL_law_20 (fun q4 => ?_)
  refine z_astorew F (lv' := [(4, .ref q4), (3, .ref q3), (2, .ref q2), (1, .ref (ad 0)), (0, .ref b)]) dL_law_22 (by decide) rfl ?_
  refine z_bipush F bp_60 dL_law_24 ?_
  refine z_newI F (N := 60) lz_ai (by decide) (by decide) (by decide) (Nat.le_of_ble_eq_true rfl) (Nat.le_of_ble_eq_true rfl) dL_law_26 (fun q5 => ?_)
  refine z_astorew F (lv' := [(5, .ref q5), (4, .ref q4), (3, .ref q3), (2, .ref q2), (1, .ref (ad 0)), (0, .ref b)]) dL_law_28 (by decide) rfl ?_
  obtain ⟨a9, ha9⟩ : ∃ a9 : Nat → Nat, a9 = fun k => if k < 38 then ad k else if k = 38 then q2 else if k = 39 then q3 else if k = 40 then q4 else q5 := ⟨_, rfl⟩
  obtain ⟨p, l, e, R, s, m, args, below, meth, c, Q, D, A, k0, n0, nL⟩ := Γ
  obtain ⟨hx, hb, hml, hown, hts, hKJ, rfl, rfl, hA⟩ := F
  intro H locs ls hP hD hS hh
  have hP2 : va_P D vwCl (wL cI cZ a9 zS0) H := by subst ha9; exact hP.sub [0, 1, 2, 3, 4, 5, 6, 7, 8, 9, 10, 11, 12, 13, 14, 15, 16, 17, 18, 19, 20, 21, 22, 23, 24, 25, 26, 27, 28, 29, 30, 31, 32, 33, 34, 35, 36, 37, 38, 39, 40, 41] rfl
  have hD2 : va_D A (wL cI cZ a9 zS0) := by subst ha9; exact hD.sub [0, 1, 2, 3, 4, 5, 6, 7, 8, 9, 10, 11, 12, 13, 14, 15, 16, 17, 18, 19, 20, 21, 22, 23, 24, 25, 26, 27, 28, 29, 30, 31, 32, 33, 34, 35, 36, 37, 38, 39, 40, 41] (by decide) rfl
  have hh2 : lv_has ls 18 [(0, .ref b), (1, .ref (a9 0)), (2, .ref (a9 38)), (3, .ref (a9 39)), (4, .ref (a9 40)), (5, .ref (a9 41))] := by subst ha9; exact lv_sub hh [5, 4, 3, 2, 1, 0] rfl
  have hDa : ∀ S, va_D A (wL cI cZ a9 S) := fun S => zD_same (D := D) (wL_same cI cZ a9) hD2
  have F2 : zF (p, l, e, room_1, s, m, args, below, meth, c, Q, D, A, 42, 2149, 18) (wL cI cZ a9) cI cZ cL_law room_1 18 RL := ⟨hx, hb, hml, hown, hts, hKJ.zK, hDa, rfl, Nat.le_of_ble_eq_true rfl, Nat.le_of_ble_eq_true rfl, rfl⟩
  obtain ⟨n, C, r, e9, hI⟩ := q_A (cel9 L xs)
  rw [← zS0_e] at e9
  have e8 := g_L_A (k9 := 0) (n9 := 0) hL F2 X (S := zS0) e9 (fun _ _ _ _ => law_loop hL 55 _ 42 2149 0 n 0 C r z0f z0f z0f F2 X ⟨rfl, rfl⟩ ⟨by decide, by decide⟩ hI (Int.le_refl 0) (Int.le_refl 0) (by decide))
  exact e8 (zS0_G bsL) H locs ls hP2 hS hh2
theorem whole_start {p : Program} {e : Env} {s : State} {m : MethodId} {below : List Frame} {meth : Method} {c : Code} (l : Launch) (hflags : l.flags = flags0) {b L : Nat} {xs : Nat → Int32} (hL : L ≤ 260) (C0 : lw_At p s m meth c b L xs) : W p l e room_1 s m #[Value.ref b] below meth c s.heap [] 0 0 (lw_Z below #[Value.ref b] s) (entryFrame m ([Value.ref b] : List Value).toArray 18) := by
  obtain ⟨hx, hb, hr, hml, hown, hts, hX, hbl, hlocks, hgv⟩ := C0
  obtain ⟨D, cI, cZ, ads, hKJ, hT⟩ := worldK hts hgv
  have hst : l.stackTraces = false := by
    show (!l.flags.contains noTraceFlag) = false
    rw [hflags]
    decide
  have F : zLF (p, l, e, room_1, s, m, #[Value.ref b], below, meth, c, lw_Z below #[Value.ref b] s, D, (fun q : Nat => s.heap.size ≤ q), 0, 0, 18) cI cZ := ⟨hx, hb, hml, hown, fun w hw => hts w (WS_tbl w hw), hKJ, rfl, rfl, fun _ h => h⟩
  have X : zLX (p, l, e, room_1, s, m, #[Value.ref b], below, meth, c, lw_Z below #[Value.ref b] s, D, (fun q : Nat => s.heap.size ≤ q), 0, 0, 18) ads cI cZ b L xs := ⟨hst, hT, hKJ, hX, hbl, rfl, rfl, rfl, hr, hlocks⟩
  have hl := lv_entry [.ref b] (n := 18) (Nat.le_of_ble_eq_true rfl)
  rw [lg_entry_eq]
  exact law_body hL F X s.heap [] _ (fun k q h => by simp at h) ⟨fun i j p q h => by simp at h, fun k q h => by simp at h⟩ va_S.rf hl
