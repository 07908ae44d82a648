/-! THE CLAIM OUT OF ONE WALK OF THE LAW'S BODY. Your part is whole_start (and what it stands on); all else here is the same for every law, but numbers. -/
def R_law : String := "GlossedPageLaw"
def lw_P (b : Addr) (xs : List Int32) (args : Array Value) (s : State) : Prop := args = #[.ref b] ∧ s.IntsAt b xs ∧ xs.length ≤ 4096 ∧ (Jvm.Cond.and given_1 narrow_1).before args s = true
def lw_Q (_ : Array Value) (s : State) (o : Outcome) (t : State) : Prop := o = .returned (some (.int 1)) ∧ Framed s o t [] 1111 11679
def lw_Z (below : List Frame) (a : Array Value) (s : State) : State → Prop := fun t => ∃ o, t.status = .running ∧ Ended t below o ∧ lw_Q a s o t
/-- the law's own end, with 1 on the stack, nothing written that was there before, its room as the claim has it -/
theorem lw_ret {p : Program} {l : Launch} {e : Env} {s : State} {m : MethodId} {below : List Frame} {meth : Method} {c : Code} {b : Nat} (hx : p.tables.exec = Jvm.exec) (hb : c.code = code) (hr : meth.sig.returnType = ret) (hlocks : meth.locks = false) {pc : Nat} {H : Heap} {ls : Array Slot} (hdg : decode code pc = .ok (.ireturn, 1)) : W p l e room_1 s m #[Value.ref b] below meth c H [] 1111 11679 (lw_Z below #[Value.ref b] s) (F0 m pc ls [.int 1]) := by
  intro T hT X
  obtain ⟨fs, hret, hrun, hended, hW, hframe⟩ := X.leave (v := some (.int 1)) (hlocks := hlocks) (fun h => by rw [hr] at h; cases h)
  have hmeth' : T.vm.method? m = some meth := X.method'
  refine ⟨T.setFrames fs, ?_, .returned (some (.int 1)), hrun, hended, rfl, ⟨_, rfl⟩, hW, hframe⟩
  jvm_step X.here [X.here.top, hx, hb, hdg, hmeth', hr, ret, narrow_b1]
  (try refine ⟨rfl, ?_⟩); (try refine ⟨rfl, ?_⟩)
  first | (intro acts; rw [hret _ acts rfl rfl rfl]) | rw [hret _ _ rfl rfl rfl]
  exact Steps.refl _
/-- what holds at the law's entry: the machine, the code, the tables' words (any of lw_tbl by 'hts w (by decide +kernel)'), the script of L ints xs at the cell b, what the Statement gives of the start (any of its parts by flat_of_before) -/
def lw_At (p : Program) (s : State) (m : MethodId) (meth : Method) (c : Code) (b L : Nat) (xs : Nat → Int32) : Prop :=
  p.tables.exec = Jvm.exec ∧ c.code = code ∧ meth.sig.returnType = ret ∧ c.maxLocals = 7 ∧ s.vm.findClass R_law = some m.cls ∧ (∀ w ∈ lw_tbl, w.before #[Value.ref b] s = true) ∧ va_X b L xs s s.heap ∧ b < s.heap.size ∧ meth.locks = false ∧ (Jvm.Cond.and given_1 narrow_1).before #[Value.ref b] s = true
/-! the law's world: the class's, the row 'out', the reference's -/
theorem zI_ofN {n : Nat} (h : n < 2147483648) : Int32.ofNat n = zI (n : Int) := by
  apply Int32.toInt_inj.mp
  rw [zI_toInt ⟨by omega, by omega⟩]
  exact nI_toInt (by omega)
def zpC (S : zSt) : zSt := (fun q => S.1 (2 * q), fun q => S.2 (2 * q))
def zpM (S : zSt) : zSt := (fun q => S.1 (2 * q + 1), fun q => S.2 (2 * q + 1))
def zjn (P M : zSt) : zSt := (fun q => if q % 2 = 0 then P.1 (q / 2) else M.1 (q / 2), fun q => if q % 2 = 0 then P.2 (q / 2) else M.2 (q / 2))
theorem zpC_j (P M : zSt) : zpC (zjn P M) = P := by
  refine Prod.ext (funext fun q => ?_) (funext fun q => ?_)
  · show (if 2 * q % 2 = 0 then P.1 (2 * q / 2) else M.1 (2 * q / 2)) = P.1 q
    rw [if_pos (by omega), show 2 * q / 2 = q by omega]
  · show (if 2 * q % 2 = 0 then P.2 (2 * q / 2) else M.2 (2 * q / 2)) = P.2 q
    rw [if_pos (by omega), show 2 * q / 2 = q by omega]
theorem zpM_j (P M : zSt) : zpM (zjn P M) = M := by
  refine Prod.ext (funext fun q => ?_) (funext fun q => ?_)
  · show (if (2 * q + 1) % 2 = 0 then P.1 ((2 * q + 1) / 2) else M.1 ((2 * q + 1) / 2)) = M.1 q
    rw [if_neg (by omega), show (2 * q + 1) / 2 = q by omega]
  · show (if (2 * q + 1) % 2 = 0 then P.2 ((2 * q + 1) / 2) else M.2 ((2 * q + 1) / 2)) = M.2 q
    rw [if_neg (by omega), show (2 * q + 1) / 2 = q by omega]
def wL (cI cZ cJ : ClassId) (ad : Nat → Nat) (o : Nat) (am : Nat → Nat) (S : zSt) : va_W := wW cI cZ cJ ad o (zpC S) ++ wM cI cZ am (zpM S)
theorem wL_j (cI cZ cJ : ClassId) (ad : Nat → Nat) (o : Nat) (am : Nat → Nat) (P M : zSt) : wL cI cZ cJ ad o am (zjn P M) = wW cI cZ cJ ad o P ++ wM cI cZ am M := by unfold wL; rw [zpC_j, zpM_j]
def ad39 (ad : Nat → Nat) (o : Nat) : Nat → Nat := fun k => if k < 38 then ad k else o
set_option maxRecDepth 100000 in
theorem wW_ix (cI cZ cJ : ClassId) (ad : Nat → Nat) (o : Nat) (S : zSt) : (wW cI cZ cJ ad o S).map Prod.fst = (List.range 39).map (ad39 ad o) := rfl
/-- what the law's place has for good, beside zF -/
def zLX (Γ : zG) (ads : Nat → Nat) (cI cZ cJ : ClassId) (b L : Nat) (xs : Nat → Int32) : Prop := match Γ with
  | (_, l, _, _, s, _, args, below, meth, _, Q, D, A, _, _, _) => l.stackTraces = false ∧ zT ads A s ∧ zKJ D cI cZ cJ s ∧ va_X b L xs s s.heap ∧ b < s.heap.size ∧ Q = lw_Z below #[Value.ref b] s ∧ args = #[Value.ref b] ∧ A = (fun q : Nat => s.heap.size ≤ q) ∧ meth.sig.returnType = ret ∧ meth.locks = false
theorem zLX_up {Γ : zG} {ads : Nat → Nat} {cI cZ cJ : ClassId} {b L : Nat} {xs : Nat → Int32} (h : zLX Γ ads cI cZ cJ b L xs) (k n : Nat) : zLX (zup Γ k n) ads cI cZ cJ b L xs := by
  obtain ⟨p, l, e, R, s, m, args, below, meth, c, Q, D, A, k0, n0, nL⟩ := Γ
  exact h
def sx (xs : Nat → Int32) (i : Int) : Int := (xs i.toNat).toInt
theorem sx_in (xs : Nat → Int32) (i : Int) : inR (sx xs i) := inR_of _
theorem sx_z (xs : Nat → Int32) (i : Int) : zI (sx xs i) = xs i.toNat := zI_of _
section RowsL
variable {Γ : zG} {cI cZ cJ : ClassId} {ad : Nat → Nat} {o : Nat} {am ads : Nat → Nat} {b L : Nat} {xs : Nat → Int32} {cc : ByteArray} {nL' : Nat} {own : String} {w : zSt → va_W} {G : zSt → Prop} {S : zSt} {lv : List (Nat × Value)} {pc : Nat} {st : List Value}
theorem k_lret (F : zF Γ w cI cZ cL_law room_1 nL' own) (X : zLX Γ ads cI cZ cJ b L xs) (hd : decode cL_law pc = .ok (.ireturn, 1)) : zk Γ w G S lv pc [.int (zI 1)] := by
  obtain ⟨p, l, e, R, s, m, args, below, meth, c, Q, D, A, k0, n0, nL⟩ := Γ
  obtain ⟨hx, hb, hml, hown, hts, ⟨hK, hN⟩, hD, rfl, hk0, hn0, rfl⟩ := F
  obtain ⟨hst, hT, hKJ, hX, hbl, rfl, rfl, rfl, hr, hlk⟩ := X
  intro hG H locs ls hP hS hh
  refine va_forget hS.2.2 (W.widen (k := 1111) (n := 11679) hk0 hn0 ?_)
  rw [show zI 1 = (1 : Int32) by decide]
  exact lw_ret hx hb hr hlk hd
theorem k_slen (F : zF Γ w cI cZ cc room_1 nL' own) (X : zLX Γ ads cI cZ cJ b L xs) (hL : L ≤ 4096) (hd : decode cc pc = .ok (.arraylength, 1)) (kk : zk Γ w G S lv (pc + 1) (.int (zI (L : Int)) :: st)) : zk Γ w G S lv pc (.ref b :: st) := by
  obtain ⟨p, l, e, R, s, m, args, below, meth, c, Q, D, A, k0, n0, nL⟩ := Γ
  obtain ⟨hx, hb, hml, hown, hts, ⟨hK, hN⟩, hD, rfl, hk0, hn0, rfl⟩ := F
  obtain ⟨hst, hT, hKJ, hX, hbl, rfl, rfl, rfl, hr, hlk⟩ := X
  intro hG H locs ls hP hS hh
  refine va_slen hx hb hX hbl (Nat.not_le.mpr hbl) hS hd ?_
  rw [zI_ofN (by omega)]
  exact kk hG H locs ls hP hS hh
theorem k_sld (F : zF Γ w cI cZ cc room_1 nL' own) (X : zLX Γ ads cI cZ cJ b L xs) {i : Int} (hi : 0 ≤ i ∧ i < L) (hL : L ≤ 4096) (hd : decode cc pc = .ok (.iaload, 1)) (kk : zk Γ w G S lv (pc + 1) (.int (zI (sx xs i)) :: st)) : zk Γ w G S lv pc (.int (zI i) :: .ref b :: st) := by
  obtain ⟨p, l, e, R, s, m, args, below, meth, c, Q, D, A, k0, n0, nL⟩ := Γ
  obtain ⟨hx, hb, hml, hown, hts, ⟨hK, hN⟩, hD, rfl, hk0, hn0, rfl⟩ := F
  obtain ⟨hst, hT, hKJ, hX, hbl, rfl, rfl, rfl, hr, hlk⟩ := X
  intro hG H locs ls hP hS hh
  have hi9 : inR i := ⟨by omega, by omega⟩
  refine va_sld hx hb hX hbl (Nat.not_le.mpr hbl) hS (zvp_in hi9 hi) hd ?_
  rw [zI_clamp hi9, ← sx_z xs i]
  exact kk hG H locs ls hP hS hh
/-- script[i + j] -/
theorem k_rd (F : zF Γ w cI cZ cc room_1 nL' own) (X : zLX Γ ads cI cZ cJ b L xs) {i : Int} (j : Int) (a0 a4 : Nat) (h0 : lv[a0]? = some (0, .ref b)) (h4 : lv[a4]? = some (4, .int (zI i))) (hi : 0 ≤ i + j ∧ i + j < L) (hL : L ≤ 4096) (d0 : decode cc pc = .ok (.aload_n 0, 1)) (d1 : decode cc (pc + 1) = .ok (.iload 4, 2)) (d2 : decode cc (pc + 3) = .ok (.iconst j, 1)) (d3 : decode cc (pc + 4) = .ok (.iadd, 1)) (d4 : decode cc (pc + 5) = .ok (.iaload, 1)) (kk : zk Γ w G S lv (pc + 6) (.int (zI (sx xs (i + j))) :: st)) : zk Γ w G S lv pc st := by
  refine k_aload_n F d0 rfl a0 h0 ?_
  refine k_iload F d1 a4 h4 ?_
  refine k_iconst F d2 ?_
  refine k_iadd (R := Unit) (r := ()) (K := fun y => if y = i + j then some () else none) F d3 (by unfold zar; rw [if_pos (⟨by omega, by omega⟩ : inR (i + j))]; exact if_pos rfl) (fun y ry ey => ?_)
  have ey : y = i + j := by
    by_cases q : y = i + j
    · exact q
    · rw [if_neg q] at ey; cases ey
  subst ey
  exact k_sld F X hi hL d4 kk
theorem k_rdb (F : zF Γ w cI cZ cc room_1 nL' own) (X : zLX Γ ads cI cZ cJ b L xs) {i : Int} (j : Int) (hj : (Int8.ofInt j).toInt32 = zI j) (a0 a4 : Nat) (h0 : lv[a0]? = some (0, .ref b)) (h4 : lv[a4]? = some (4, .int (zI i))) (hi : 0 ≤ i + j ∧ i + j < L) (hL : L ≤ 4096) (d0 : decode cc pc = .ok (.aload_n 0, 1)) (d1 : decode cc (pc + 1) = .ok (.iload 4, 2)) (d2 : decode cc (pc + 3) = .ok (.bipush j, 2)) (d3 : decode cc (pc + 5) = .ok (.iadd, 1)) (d4 : decode cc (pc + 6) = .ok (.iaload, 1)) (kk : zk Γ w G S lv (pc + 7) (.int (zI (sx xs (i + j))) :: st)) : zk Γ w G S lv pc st := by
  refine k_aload_n F d0 rfl a0 h0 ?_
  refine k_iload F d1 a4 h4 ?_
  refine k_bipush F d2 hj ?_
  refine k_iadd (R := Unit) (r := ()) (K := fun y => if y = i + j then some () else none) F d3 (by unfold zar; rw [if_pos (⟨by omega, by omega⟩ : inR (i + j))]; exact if_pos rfl) (fun y ry ey => ?_)
  have ey : y = i + j := by
    by_cases q : y = i + j
    · exact q
    · rw [if_neg q] at ey; cases ey
  subst ey
  exact k_sld F X hi hL d4 kk
/-- is it not 0 -/
theorem k_nz (F : zF Γ w cI cZ cc room_1 nL' own) {v : Int} {t1 t2 : Nat} (hv : inR v) (d0 : decode cc pc = .ok (.ifCond .eq 7, 3)) (d1 : decode cc (pc + 3) = .ok (.iconst 1, 1)) (d2 : decode cc (pc + 3 + 1) = .ok (.goto 4, 3)) (e1 : (pc : Int) + 7 = t1) (e2 : ((pc + 3 + 1 : Nat) : Int) + 4 = t2) (d3 : decode cc t1 = .ok (.iconst 0, 1)) (e3 : t1 + 1 = t2) (kk : zk Γ w G S lv t2 (.int (zI (if v = 0 then 0 else 1)) :: st)) : zk Γ w G S lv pc (.int (zI v) :: st) := by
  by_cases q : v = 0
  · rw [if_pos q] at kk
    refine k_if_eq (R := Unit) (r := ()) (A := some ()) (B := none) F hv d0 e1 (if_pos q) (fun _ => ?_) (fun z => by cases z)
    refine k_iconst F d3 ?_
    rw [e3]; exact kk
  · rw [if_neg q] at kk
    refine k_if_eq (R := Unit) (r := ()) (A := none) (B := some ()) F hv d0 e1 (if_neg q) (fun z => by cases z) (fun _ => ?_)
    refine k_iconst F d1 ?_
    exact k_goto F d2 e2 kk
theorem k_lcmp0 (F : zF Γ w cI cZ cc room_1 nL' own) {x y : Int} (hxy : x = y) (hd : decode cc pc = .ok (.lcmp, 1)) (kk : zk Γ w G S lv (pc + 1) (.int (zI 0) :: st)) : zk Γ w G S lv pc (.long (lI y) :: .long (lI x) :: st) := by
  obtain ⟨p, l, e, R, s, m, args, below, meth, c, Q, D, A, k0, n0, nL⟩ := Γ
  obtain ⟨hx, hb, hml, hown, hts, ⟨hK, hN⟩, hD, rfl, hk0, hn0, rfl⟩ := F
  subst hxy
  intro hG H locs ls hP hS hh
  refine W.lcmp hx hb hd ?_
  rw [show lg_cmp (lI x) (lI x) = zI 0 by simp [lg_cmp]; decide]
  exact kk hG H locs ls hP hS hh
set_option maxRecDepth 100000 in
theorem k_lald (F : zF Γ (wL cI cZ cJ ad o am) cI cZ cc room_1 nL' own) (X : zLX Γ ads cI cZ cJ b L xs) {P M : zSt} {v : Int} (hv : P.1 1000 = v) (hd : decode cc pc = .ok (.laload, 1)) (kk : zk Γ (wL cI cZ cJ ad o am) G (zjn P M) lv (pc + 1) (.long (lI v) :: st)) : zk Γ (wL cI cZ cJ ad o am) G (zjn P M) lv pc (.int (zI 0) :: .ref o :: st) := by
  obtain ⟨p, l, e, R, s, m, args, below, meth, c, Q, D, A, k0, n0, nL⟩ := Γ
  obtain ⟨hx, hb, hml, hown, hts, ⟨hK, hN⟩, hD, rfl, hk0, hn0, rfl⟩ := F
  obtain ⟨hst, hT, hKJ, hX, hbl, rfl, rfl, rfl, hr, hlk⟩ := X
  subst hv
  intro hG H locs ls hP hS hh
  have hP2 := hP
  rw [wL_j] at hP2
  exact va_lald hx hb hKJ.1 hP2 38 2 (f := fun _ => lI (P.1 1000)) rfl rfl (zvp_in (by decide) (by decide)) hd (kk hG H locs ls hP hS hh)
theorem k_callL (F : zF Γ (wL cI cZ cJ ad o am) cI cZ cc room_1 nL' own) (X : zLX Γ ads cI cZ cJ b L xs) {k n : Nat} (hkn : zKN Γ k n) (hk : k + 1 ≤ 1111 ∧ n + 6 ≤ 11679) {y : MethodName} {cy : ByteArray} {mL np idx fr2 lo2 : Nat} {hh : List (Nat × Nat × Nat × Nat)} {As : List Value} {P M : zSt} {r : zRx} {code : Int} {S' : zSt} {PG : Prop}
    (hc : Cond.static y ∈ WS ∧ Cond.initialized y.cls ∈ WS ∧ Cond.codeWith y cy mL (some .int) hh ∈ WS ∧ (y.cls ≠ "java/lang/invoke/MethodHandle" ∧ y.cls ≠ "java/lang/invoke/VarHandle" ∧ (parseMethodDescriptor y.desc).map (fun d => d.parameters.length) = some np)) (hl : Cond.methodLink own idx y ∈ WS)
    (hM : ∀ (l : Launch) (D : va_G) (A : Nat → Prop), l.stackTraces = false → (∀ S, va_D A (wW cI cZ cJ ad o S)) → zMw l y cy mL hh fr2 lo2 D cI cZ cJ ads A (wW cI cZ cJ ad o) As P r code S' PG)
    (hR : fr2 + 1 ≤ 11 ∧ 8 + (mL + 11) + lo2 ≤ 418) (hn : As.length = np) {st0 : List Value} (hst0 : st0 = As.reverse ++ st) (hW : (st.map fun v => v.category).sum ≤ 8) (hd : decode cc pc = .ok (.invokestatic idx, 3))
    (kk : PG → zk (zup Γ (k + 1) (n + 6)) (wL cI cZ cJ ad o am) (fun _ => True) (zjn S' M) lv (pc + 3) (.int (zI code) :: st)) : zk Γ (wL cI cZ cJ ad o am) (fun _ => True) (zjn P M) lv pc st0 := by
  obtain ⟨p, l, e, R, s, m, args, below, meth, c, Q, D, A, k0, n0, nL⟩ := Γ
  obtain ⟨hx, hb, hml, hown, hts, ⟨hK, hN⟩, hD, rfl, hk0, hn0, rfl⟩ := F
  obtain ⟨hst, hT, hKJ, hX, hbl, rfl, rfl, rfl, hr, hlk⟩ := X
  obtain ⟨rfl, rfl⟩ := hkn
  obtain ⟨c1, c2, c3, c4⟩ := hc
  have hg : GoodIn WS (va_wsS own idx y (Cond.codeWith y cy mL (some .int) hh :: WS)) := WS_sub (fun _ h => h) (fun w hw => by
    simp only [va_wsS, List.mem_append, List.mem_cons, List.not_mem_nil, or_false] at hw
    rcases hw with (rfl | rfl | rfl) | rfl | hw
    · exact hl
    · exact c1
    · exact c2
    · exact c3
    · exact hw)
  have hDW : ∀ S, va_D (ZC (ad39 ad o) 39) (wW cI cZ cJ ad o S) := fun S => by
    have h := hD (zjn S M)
    rw [wL_j] at h
    exact (zpre_D (wW_ix cI cZ cJ ad o S) h).1
  have hDP := hD (zjn P M)
  rw [wL_j] at hDP
  obtain ⟨-, hsubA, hexA⟩ := zpre_D (wW_ix cI cZ cJ ad o P) hDP
  intro hG H locs ls hP hS hh2
  rw [wL_j] at hP
  have hPC := zpre_Q hP
  have hM1 := hM l D (ZC (ad39 ad o) 39) hst hDW
  have q1 : zmc r ≤ 1 := by cases r <;> exact Nat.le_of_ble_eq_true rfl
  have q2 : zms r ≤ 6 := by cases r <;> exact Nat.le_of_ble_eq_true rfl
  subst hst0
  refine va_calli (vx_runSW (As := As) (rest := st) ⟨hx, hb, hml, hown, hts⟩ hM1 (vx_cwSW np hts hg rfl (by cases r <;> rfl) (by cases r <;> rfl) c4 ⟨hR.1, hR.2⟩) ⟨fun a U g mk q => ⟨q.1, q.2.1, zKJ.same (u := U) (U := U.calling g mk a) rfl q.2.2.1, zT.same (u := U) (U := U.calling g mk a) rfl rfl q.2.2.2⟩, fun U hU hW => ⟨rfl, by rw [hU]; exact hPC, zKJ.warm hW hKJ, (zT.go hW (by rw [hU]; exact hS.2.1) hT).narrow hsubA⟩⟩ rfl hn hh2.1 rfl (lv_room hW) hd ⟨by show k0 + zmc r ≤ 1111; omega, by show n0 + zms r ≤ 11679; omega⟩) hS (fun q _ h => hsubA q h) hsubA (fun r0 u t H1 locs1 ht hvm hw hB hz1 hk1 hS1 => ?_)
  obtain ⟨rfl, hPG⟩ := hw
  rw [ht] at hB
  refine W.widen (k := k0 + 1) (n := n0 + 6) (by omega) (by omega) ?_
  exact kk hPG trivial H1 locs1 ls (by rw [wL_j]; exact zpre_P hP hexA hk1 hB) hS1 hh2
theorem k_callM (F : zF Γ (wL cI cZ cJ ad o am) cI cZ cc room_1 nL' own) {y : MethodName} {cy : ByteArray} {mL np idx : Nat} {rm2 : Room} {As : List Value} {P M M' : zSt} {x : Int} {ty : FieldType} (hc : zCal RX9 y cy mL (some ty) np) (hl : Cond.methodLink own idx y ∈ WS)
    (hM : ∀ (l : Launch) (D : va_G) (A : Nat → Prop), (∀ S, va_D A (wM cI cZ am S)) → zMi l y cy mL ty rm2 D cI cZ A (wM cI cZ am) (RG bsM) (.ref (am 0) :: As) M x M')
    (hR : rm2.cells = 0 ∧ rm2.slots = 0 ∧ rm2.frames + 1 ≤ 11 ∧ 8 + (mL + 11) + rm2.locals ≤ 418) (hn : As.length = np) {st0 : List Value} (hst : st0 = As.reverse ++ .ref (am 0) :: st) (hW : (st.map fun v => v.category).sum ≤ 8) (hd : decode cc pc = .ok (.invokevirtual idx, 3))
    (kk : inR x → RG bsM M' → (ty = .boolean → x = 0 ∨ x = 1) → zk Γ (wL cI cZ cJ ad o am) (fun _ => True) (zjn P M') lv (pc + 3) (.int (zI x) :: st)) : zk Γ (wL cI cZ cJ ad o am) (fun _ => True) (zjn P M) lv pc st0 := by
  obtain ⟨p, l, e, R, s, m, args, below, meth, c, Q, D, A, k0, n0, nL⟩ := Γ
  obtain ⟨hx, hb, hml, hown, hts, ⟨hK, hN⟩, hD, rfl, hk0, hn0, rfl⟩ := F
  obtain ⟨c1, c2, c3, c4, c5, c6, c7⟩ := hc
  have hg : GoodIn WS (wsV own idx RX9 y (Cond.code y cy mL (some ty) :: WS)) := WS_sub (fun _ h => h) (fun w hw => by
    simp only [wsV, List.mem_append, List.mem_cons, List.not_mem_nil, or_false] at hw
    rcases hw with (rfl | rfl | rfl | rfl) | rfl | hw
    · exact hl
    · exact c1
    · exact c2
    · exact c3
    · exact c4
    · exact hw)
  have hDW : ∀ S, va_D (ZC am 27) (wM cI cZ am S) := fun S => by
    have h := hD (zjn P S)
    rw [wL_j] at h
    exact (zsuf_D (wM_ix cI cZ am S) h).1
  have hDP := hD (zjn P M)
  rw [wL_j] at hDP
  obtain ⟨-, hsubA, hexA⟩ := zsuf_D (wM_ix cI cZ am M) hDP
  intro hG H locs ls hP hS hh2
  rw [wL_j] at hP
  have hPM := zsuf_Q hP
  have hM1 := hM l D (ZC am 27) hDW
  subst hst
  refine va_calli (va_runV (As := As) (rest := st) ⟨hx, hb, hml, hown, hts⟩ hM1 (cwV np hts hg rfl hR.1 hR.2.1 ⟨c5, c6.1, c6.2, c7⟩ ⟨hR.2.2.1, hR.2.2.2⟩) ⟨zblind, (obM_0 cI cZ am).recv (S := M) hK hPM, fun U hU hW => ⟨rfl, by rw [hU]; exact hPM, zK.warm hW ⟨hK, hN⟩⟩⟩ rfl hn hh2.1 rfl (lv_room hW) hd ⟨hk0, hn0⟩) hS (fun q _ h => hsubA q h) hsubA (fun r0 u t H1 locs1 ht hvm hw hB hz1 hk1 hS1 => ?_)
  obtain ⟨rfl, hx1, hG1, h01⟩ := hw
  rw [ht] at hB
  exact kk hx1 hG1 h01 trivial H1 locs1 ls (by rw [wL_j]; exact zsuf_P hP hexA hk1 hB) hS1 hh2
theorem k_callC (F : zF Γ (wL cI cZ cJ ad o am) cI cZ cc room_1 nL' own) {y : MethodName} {cy : ByteArray} {mL np idx : Nat} {rm2 : Room} {As : List Value} {C C' M : zSt} {v x : Int} {ty : FieldType} (hc : zCal RX8 y cy mL (some ty) np) (hl : Cond.methodLink own idx y ∈ WS)
    (hM : ∀ (l : Launch) (D : va_G) (A : Nat → Prop), (∀ S, va_D A (wC cI cZ ad S)) → zMi l y cy mL ty rm2 D cI cZ A (wC cI cZ ad) (RG bsC) (.ref (ad 0) :: As) C x C')
    (hR : rm2.cells = 0 ∧ rm2.slots = 0 ∧ rm2.frames + 1 ≤ 11 ∧ 8 + (mL + 11) + rm2.locals ≤ 418) (hn : As.length = np) {st0 : List Value} (hst : st0 = As.reverse ++ .ref (ad 0) :: st) (hW : (st.map fun v => v.category).sum ≤ 8) (hd : decode cc pc = .ok (.invokevirtual idx, 3))
    (kk : inR x → RG bsC C' → (ty = .boolean → x = 0 ∨ x = 1) → zk Γ (wL cI cZ cJ ad o am) (fun _ => True) (zjn (zmx C' v) M) lv (pc + 3) (.int (zI x) :: st)) : zk Γ (wL cI cZ cJ ad o am) (fun _ => True) (zjn (zmx C v) M) lv pc st0 := by
  obtain ⟨p, l, e, R, s, m, args, below, meth, c, Q, D, A, k0, n0, nL⟩ := Γ
  obtain ⟨hx, hb, hml, hown, hts, ⟨hK, hN⟩, hD, rfl, hk0, hn0, rfl⟩ := F
  obtain ⟨c1, c2, c3, c4, c5, c6, c7⟩ := hc
  have hg : GoodIn WS (wsV own idx RX8 y (Cond.code y cy mL (some ty) :: WS)) := WS_sub (fun _ h => h) (fun w hw => by
    simp only [wsV, List.mem_append, List.mem_cons, List.not_mem_nil, or_false] at hw
    rcases hw with (rfl | rfl | rfl | rfl) | rfl | hw
    · exact hl
    · exact c1
    · exact c2
    · exact c3
    · exact c4
    · exact hw)
  have hDW : ∀ S, va_D (ZC ad 38) (wC cI cZ ad S) := fun S => by
    have h := hD (zjn (zmx S v) M)
    rw [wL_j, wW_zmx, List.append_assoc] at h
    exact (zpre_D (wC_ix cI cZ ad S) h).1
  have hDP := hD (zjn (zmx C v) M)
  rw [wL_j, wW_zmx, List.append_assoc] at hDP
  obtain ⟨-, hsubA, hexA⟩ := zpre_D (wC_ix cI cZ ad C) hDP
  intro hG H locs ls hP hS hh2
  rw [wL_j, wW_zmx, List.append_assoc] at hP
  have hPM := zpre_Q hP
  have hM1 := hM l D (ZC ad 38) hDW
  subst hst
  refine va_calli (va_runV (As := As) (rest := st) ⟨hx, hb, hml, hown, hts⟩ hM1 (cwV np hts hg rfl hR.1 hR.2.1 ⟨c5, c6.1, c6.2, c7⟩ ⟨hR.2.2.1, hR.2.2.2⟩) ⟨zblind, (obC_0 cI cZ ad).recv (S := C) hK hPM, fun U hU hW => ⟨rfl, by rw [hU]; exact hPM, zK.warm hW ⟨hK, hN⟩⟩⟩ rfl hn hh2.1 rfl (lv_room hW) hd ⟨hk0, hn0⟩) hS (fun q _ h => hsubA q h) hsubA (fun r0 u t H1 locs1 ht hvm hw hB hz1 hk1 hS1 => ?_)
  obtain ⟨rfl, hx1, hG1, h01⟩ := hw
  rw [ht] at hB
  exact kk hx1 hG1 h01 trivial H1 locs1 ls (by rw [wL_j, wW_zmx, List.append_assoc]; exact zpre_P hP hexA hk1 hB) hS1 hh2
end RowsL
