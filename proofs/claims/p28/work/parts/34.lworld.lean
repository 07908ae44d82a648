/-! THE CLAIM OUT OF ONE WALK OF THE LAW'S BODY. Your part is whole_start (and what it stands on); all else here is the same for every law, but numbers. -/
def R_law : String := "GlossedPageLaw"
def lw_P (b : Addr) (xs : List Int32) (args : Array Value) (s : State) : Prop := args = #[.ref b] ∧ s.IntsAt b xs ∧ xs.length ≤ 260 ∧ (Jvm.Cond.and given_1 narrow_1).before args s = true
def lw_Q (_ : Array Value) (s : State) (o : Outcome) (t : State) : Prop := o = .returned (some (.int 1)) ∧ Framed s o t [] 119 2739
def lw_Z (below : List Frame) (a : Array Value) (s : State) : State → Prop := fun t => ∃ o, t.status = .running ∧ Ended t below o ∧ lw_Q a s o t
/-- the law's own end, with 1 on the stack, nothing written that was there before, its room as the claim has it -/
theorem lw_ret {p : Program} {l : Launch} {e : Env} {s : State} {m : MethodId} {below : List Frame} {meth : Method} {c : Code} {b : Nat} (hx : p.tables.exec = Jvm.exec) (hb : c.code = code) (hr : meth.sig.returnType = ret) (hlocks : meth.locks = false) {pc : Nat} {H : Heap} {ls : Array Slot} (hdg : decode code pc = .ok (.ireturn, 1)) : W p l e room_1 s m #[Value.ref b] below meth c H [] 119 2739 (lw_Z below #[Value.ref b] s) (F0 m pc ls [.int 1]) := by
  intro T hT X
  obtain ⟨fs, hret, hrun, hended, hW, hframe⟩ := X.leave (v := some (.int 1)) (hlocks := hlocks) (fun h => by rw [hr] at h; cases h)
  have hmeth' : T.vm.method? m = some meth := X.method'
  refine ⟨T.setFrames fs, ?_, .returned (some (.int 1)), hrun, hended, rfl, ⟨_, rfl⟩, hW, hframe⟩
  jvm_step X.here [X.here.top, hx, hb, hdg, hmeth', hr, ret, narrow_b1]
  (try refine ⟨rfl, ?_⟩); (try refine ⟨rfl, ?_⟩)
  first | (intro acts; rw [hret _ acts rfl rfl rfl]) | rw [hret _ _ rfl rfl rfl]
  exact Steps.refl _
/-- what holds at the law's entry: the machine, the code, the tables' words (any of lw_tbl by 'hts w (by decide +kernel)'), the script of L ints xs at the cell b, what the Statement gives of the start (any of its parts by flat_of_before) -/
def lw_At (p : Program) (s : State) (m : MethodId) (meth : Method) (c : Code) (b L : Nat) (xs : Nat → Int32) : Prop :=
  p.tables.exec = Jvm.exec ∧ c.code = code ∧ meth.sig.returnType = ret ∧ c.maxLocals = 18 ∧ s.vm.findClass R_law = some m.cls ∧ (∀ w ∈ lw_tbl, w.before #[Value.ref b] s = true) ∧ va_X b L xs s s.heap ∧ b < s.heap.size ∧ meth.locks = false ∧ (Jvm.Cond.and given_1 narrow_1).before #[Value.ref b] s = true
theorem calw_comment : Cond.static yL_comment ∈ WS ∧ Cond.initialized yL_comment.cls ∈ WS ∧ Cond.codeWith yL_comment cL_comment 4 (some .int) [(0, 13, 14, 13)] ∈ WS ∧ (yL_comment.cls ≠ "java/lang/invoke/MethodHandle" ∧ yL_comment.cls ≠ "java/lang/invoke/VarHandle" ∧ (parseMethodDescriptor yL_comment.desc).map (fun d => d.parameters.length) = some 3) := ⟨wm_296, wm_297, wm_298, by decide, by decide, by decide +kernel⟩
theorem calw_emend : Cond.static yL_emend ∈ WS ∧ Cond.initialized yL_emend.cls ∈ WS ∧ Cond.codeWith yL_emend cL_emend 4 (some .int) [(0, 7, 8, 19), (0, 7, 13, 13)] ∈ WS ∧ (yL_emend.cls ≠ "java/lang/invoke/MethodHandle" ∧ yL_emend.cls ≠ "java/lang/invoke/VarHandle" ∧ (parseMethodDescriptor yL_emend.desc).map (fun d => d.parameters.length) = some 3) := ⟨wm_303, wm_297, wm_304, by decide, by decide, by decide +kernel⟩
/-! the law's world: the class's, and its own rows: row, words, places, lost -/
def zpC (S : zSt) : zSt := (fun q => S.1 (2 * q), fun q => S.2 (2 * q))
def zpM (S : zSt) : zSt := (fun q => S.1 (2 * q + 1), fun q => S.2 (2 * q + 1))
def zjn (P M : zSt) : zSt := (fun q => if q % 2 = 0 then P.1 (q / 2) else M.1 (q / 2), fun q => if q % 2 = 0 then P.2 (q / 2) else M.2 (q / 2))
theorem zpC_j (P M : zSt) : zpC (zjn P M) = P := by
  refine Prod.ext (funext fun q => ?_) (funext fun q => ?_)
  · show (if 2 * q % 2 = 0 then P.1 (2 * q / 2) else M.1 (2 * q / 2)) = P.1 q
    rw [if_pos (by omega), show 2 * q / 2 = q by omega]
  · show (if 2 * q % 2 = 0 then P.2 (2 * q / 2) else M.2 (2 * q / 2)) = P.2 q
    rw [if_pos (by omega), show 2 * q / 2 = q by omega]
theorem zpM_j (P M : zSt) : zpM (zjn P M) = M := by
  refine Prod.ext (funext fun q => ?_) (funext fun q => ?_)
  · show (if (2 * q + 1) % 2 = 0 then P.1 ((2 * q + 1) / 2) else M.1 ((2 * q + 1) / 2)) = M.1 q
    rw [if_neg (by omega), show (2 * q + 1) / 2 = q by omega]
  · show (if (2 * q + 1) % 2 = 0 then P.2 ((2 * q + 1) / 2) else M.2 ((2 * q + 1) / 2)) = M.2 q
    rw [if_neg (by omega), show (2 * q + 1) / 2 = q by omega]
def wE (cI : ClassId) (ad : Nat → Nat) (S : zSt) : va_W := [(ad 38, .inl (cI, 12, .inl (zA (S.2 1)))), (ad 39, .inl (cI, 60, .inl (zA (S.2 3)))), (ad 40, .inl (cI, 60, .inl (zA (S.2 5)))), (ad 41, .inl (cI, 60, .inl (zA (S.2 7))))]
def wL (cI cZ : ClassId) (ad : Nat → Nat) (S : zSt) : va_W := wC cI cZ ad (zpC S) ++ wE cI ad S
def bsL : List Nat := [32]
theorem wE_j (cI : ClassId) (ad : Nat → Nat) (P S : zSt) : wE cI ad (zjn P (zpM S)) = wE cI ad S := rfl
theorem wL_j (cI cZ : ClassId) (ad : Nat → Nat) (P S : zSt) : wL cI cZ ad (zjn P (zpM S)) = wC cI cZ ad P ++ wE cI ad S := by
  unfold wL
  rw [zpC_j, wE_j]
theorem RG_C {S : zSt} (h : RG bsL S) : RG bsC (zpC S) := ⟨fun k => h.1 _, fun k j => h.2.1 _ j, fun k hk j => h.2.2 (2 * k) (by
  have e : k = 16 := List.mem_singleton.mp hk
  subst e
  exact List.mem_singleton.mpr rfl) j⟩
theorem RG_J {P S : zSt} (hP : RG bsC P) (h : RG bsL S) : RG bsL (zjn P (zpM S)) := by
  refine ⟨fun k => ?_, fun k j => ?_, fun k hk j => ?_⟩
  · show inR (if k % 2 = 0 then P.1 (k / 2) else (zpM S).1 (k / 2))
    split
    · exact hP.1 _
    · exact h.1 _
  · show inR ((if k % 2 = 0 then P.2 (k / 2) else (zpM S).2 (k / 2)) j)
    split
    · exact hP.2.1 _ j
    · exact h.2.1 _ j
  · have e : k = 32 := List.mem_singleton.mp hk
    subst e
    exact hP.2.2 16 (List.mem_singleton.mpr rfl) j
/-- what the law's place has for good, beside zF -/
def zLX (Γ : zG) (ads : Nat → Nat) (cI cZ : ClassId) (b L : Nat) (xs : Nat → Int32) : Prop := match Γ with
  | (_, l, _, _, s, _, args, below, meth, _, Q, D, A, _, _, _) => l.stackTraces = false ∧ zT ads A s ∧ zKJ D cI cZ s ∧ va_X b L xs s s.heap ∧ b < s.heap.size ∧ Q = lw_Z below #[Value.ref b] s ∧ args = #[Value.ref b] ∧ A = (fun q : Nat => s.heap.size ≤ q) ∧ meth.sig.returnType = ret ∧ meth.locks = false
theorem zLX_up {Γ : zG} {ads : Nat → Nat} {cI cZ : ClassId} {b L : Nat} {xs : Nat → Int32} (h : zLX Γ ads cI cZ b L xs) (k n : Nat) : zLX (zup Γ k n) ads cI cZ b L xs := by
  obtain ⟨p, l, e, R, s, m, args, below, meth, c, Q, D, A, k0, n0, nL⟩ := Γ
  exact h
/-- a call of the class that returns; a call of a wrapper -/
def zby {R : Type} (x : Option zRx) (S : zSt) (K : Int → zSt → Option R) : Option R := match x with
  | some (.inl q) => K q.1 (zjn q.2 (zpM S))
  | _ => none
theorem zby_e {R : Type} {x : Option zRx} {S : zSt} {K : Int → zSt → Option R} {r : R} (h : zby x S K = some r) : ∃ q : zRes, x = some (.inl q) ∧ K q.1 (zjn q.2 (zpM S)) = some r := by
  match x, h with
  | some (.inl q), h => exact ⟨q, rfl, h⟩
def zok (hs : List String) (r : zRx) : Bool := match r with
  | .inl _ => true
  | .inr q => decide (q.1 ∈ hs)
def zbw {R : Type} (hs : List String) (b0 : Int) (x : Option zRx) (S : zSt) (K : Int → zSt → Option R) : Option R := match x with
  | none => none
  | some r => if 0 ≤ b0 ∧ zok hs r = true then K (zcd r) (zjn (zrs r) (zpM S)) else none
theorem zbw_e {R : Type} {hs : List String} {b0 : Int} {x : Option zRx} {S : zSt} {K : Int → zSt → Option R} {r : R} (h : zbw hs b0 x S K = some r) : ∃ q : zRx, x = some q ∧ 0 ≤ b0 ∧ (∀ E C', q = .inr (E, C') → E ∈ hs) ∧ K (zcd q) (zjn (zrs q) (zpM S)) = some r := by
  match x, h with
  | some q, h =>
    have h : (if 0 ≤ b0 ∧ zok hs q = true then K (zcd q) (zjn (zrs q) (zpM S)) else none) = some r := h
    by_cases c : 0 ≤ b0 ∧ zok hs q = true
    · rw [if_pos c] at h
      refine ⟨q, rfl, c.1, fun E C' e => ?_, h⟩
      subst e
      exact of_decide_eq_true c.2
    · rw [if_neg c] at h; cases h
section RowsL
variable {Γ : zG} {cI cZ : ClassId} {ad ads : Nat → Nat} {b L : Nat} {xs : Nat → Int32} {cc : ByteArray} {nL' : Nat} {own : String} {w : zSt → va_W} {G : zSt → Prop} {S : zSt} {lv : List (Nat × Value)} {pc : Nat} {st : List Value}
theorem k_lret (F : zF Γ w cI cZ cL_law room_1 nL' own) (X : zLX Γ ads cI cZ b L xs) (hd : decode cL_law pc = .ok (.ireturn, 1)) : zk Γ w G S lv pc [.int (zI 1)] := by
  obtain ⟨p, l, e, R, s, m, args, below, meth, c, Q, D, A, k0, n0, nL⟩ := Γ
  obtain ⟨hx, hb, hml, hown, hts, ⟨hK, hN⟩, hD, rfl, hk0, hn0, rfl⟩ := F
  obtain ⟨hst, hT, hKJ, hX, hbl, rfl, rfl, rfl, hr, hlk⟩ := X
  intro hG H locs ls hP hS hh
  refine va_forget hS.2.2 (W.widen (k := 119) (n := 2739) hk0 hn0 ?_)
  rw [show zI 1 = (1 : Int32) by decide]
  exact lw_ret hx hb hr hlk hd
theorem k_cell (F : zF Γ w cI cZ cc room_1 nL' own) (X : zLX Γ ads cI cZ b L xs) (hL : L ≤ 260) {R : Type} {r : R} {K : Int → Option R} {k : Int} {idx : Nat} (hl : Cond.methodLink own idx yL_cell ∈ WS) (hW : (st.map fun v => v.category).sum ≤ 8) (hd : decode cc pc = .ok (.invokestatic idx, 3)) (h : zce (cel9 L xs) k K = some r) (kk : ∀ x, inR x → K x = some r → zk Γ w G S lv (pc + 3) (.int (zI x) :: st)) : zk Γ w G S lv pc (.int (zI k) :: .ref b :: st) := by
  obtain ⟨p, l, e, R, s, m, args, below, meth, c, Q, D, A, k0, n0, nL⟩ := Γ
  obtain ⟨hx, hb, hml, hown, hts, ⟨hK, hN⟩, hD, rfl, hk0, hn0, rfl⟩ := F
  obtain ⟨hst, hT, hKJ, hX, hbl, rfl, rfl, rfl, hr, hlk⟩ := X
  unfold zce at h
  by_cases hk : 0 ≤ k ∧ k < 200
  case neg => rw [if_neg hk] at h; cases h
  rw [if_pos hk] at h
  obtain ⟨c1, c3, c4, c5, c6, c7⟩ := cal_L_cell
  have hg : GoodIn WS (Cond.code yL_cell cL_cell 2 (some .int) :: WS) := WS_sub (fun _ h => h) (fun w hw => by
    simp only [List.mem_cons] at hw
    rcases hw with rfl | hw
    · exact c4
    · exact hw)
  intro hG H locs ls hP hS hh
  have hbH : H[b]? = s.heap[b]? := hS.2.1 b hbl (Nat.not_le.mpr hbl)
  refine va_calli (va_runS (As := [.ref b, .int (zI k)]) (rest := st) ⟨hx, hb, hml, hown, hts⟩ (c_L_cell (l := l) (D := D) (cI := cI) (cZ := cZ) (b := b) (L := L) (xs := xs) hL hk) ⟨callB_of 2 hts hg rfl rfl rfl (by rw [c5]; exact hts _ c3) (hts _ hl) ⟨c6.1, c6.2, c7⟩ ⟨Nat.le_of_ble_eq_true rfl, Nat.le_of_ble_eq_true rfl⟩, hts _ c1⟩ ⟨fun a U g mk q => ⟨q.1, va_X.moved (u := U) (U := U.calling g mk a) (Vm.Alike.refl _) q.2.1, q.2.2.1, zK.same (u := U) (U := U.calling g mk a) rfl q.2.2.2⟩, fun U hU hW => ⟨rfl, by rw [hU]; exact va_X.moved hW.alike (hX.kept hbH), by rw [hU]; exact Nat.lt_of_lt_of_le hbl hS.1, zK.warm hW ⟨hK, hN⟩⟩⟩ rfl rfl hh.1 rfl (lv_room hW) hd ⟨hk0, hn0⟩) hS (fun q _ h => h.elim) (fun q h => h.elim) (fun r0 u t H1 locs1 ht hvm hw hB hz1 hk1 hS1 => ?_)
  obtain ⟨rfl, hx1, -, -⟩ := hw
  exact kk _ hx1 h hG H1 locs1 ls (fun k q hq => (hP k q hq).kept (hk1 _ (hP k q hq).lt (fun z => z))) hS1 hh
theorem k_callY (F : zF Γ (wL cI cZ ad) cI cZ cc room_1 nL' own) (X : zLX Γ ads cI cZ b L xs) {R : Type} {r : R} {y : MethodName} {cy : ByteArray} {mL n idx fr2 lo2 : Nat} {As : List Value} {x0 : Option zRx} {K : Int → zSt → Option R} (hc : zCal RX8 y cy mL (some .int) n) (hl : Cond.methodLink own idx y ∈ WS)
    (hM : ∀ (l : Launch) (D : va_G) (A : Nat → Prop), l.stackTraces = false → (∀ S, va_D A (wC cI cZ ad S)) → RG bsC (zpC S) → ∀ r', x0 = some r' → zMr l y cy mL (some .int) fr2 lo2 D cI cZ ads A (wC cI cZ ad) (RG bsC) (.ref (ad 0) :: As) (zpC S) r')
    (hR : fr2 + 1 ≤ 11 ∧ 8 + (mL + 11) + lo2 ≤ 400) (hn : As.length = n) {st0 : List Value} (hst0 : st0 = As.reverse ++ .ref (ad 0) :: st) (hW : (st.map fun v => v.category).sum ≤ 8) (hd : decode cc pc = .ok (.invokevirtual idx, 3)) (h : zby x0 S K = some r)
    (kk : ∀ x S2, inR x → K x S2 = some r → zk Γ (wL cI cZ ad) (RG bsL) S2 lv (pc + 3) (.int (zI x) :: st)) : zk Γ (wL cI cZ ad) (RG bsL) S lv pc st0 := by
  obtain ⟨p, l, e, R, s, m, args, below, meth, c, Q, D, A, k0, n0, nL⟩ := Γ
  obtain ⟨hx, hb, hml, hown, hts, ⟨hK, hN⟩, hD, rfl, hk0, hn0, rfl⟩ := F
  obtain ⟨hst, hT, hKJ, hX, hbl, rfl, rfl, rfl, hr, hlk⟩ := X
  obtain ⟨q, rfl, h2⟩ := zby_e h
  obtain ⟨c1, c2, c3, c4, c5, c6, c7⟩ := hc
  have hg : GoodIn WS (wsV own idx RX8 y (Cond.code y cy mL (some .int) :: WS)) := WS_sub (fun _ h => h) (fun w hw => by
    simp only [wsV, List.mem_append, List.mem_cons, List.not_mem_nil, or_false] at hw
    rcases hw with (rfl | rfl | rfl | rfl) | rfl | hw
    · exact hl
    · exact c1
    · exact c2
    · exact c3
    · exact c4
    · exact hw)
  have hDC : ∀ P, va_D (ZC ad 38) (wC cI cZ ad P) := fun P => by
    have h := hD (zjn P (zpM S))
    rw [wL_j] at h
    exact (zpre_D (wC_ix cI cZ ad P) h).1
  obtain ⟨-, hsubA, hexA⟩ := zpre_D (wC_ix cI cZ ad (zpC S)) (hD S)
  intro hG H locs ls hP hS hh2
  have hP : va_P D vwCl (wC cI cZ ad (zpC S) ++ wE cI ad S) H := hP
  have hPC := zpre_Q hP
  have hM1 := hM l D (ZC ad 38) hst hDC (RG_C hG) _ rfl
  have hpc : ∀ U : State, U.heap = H → s.WarmedH U.vm → zPc D cI cZ ads (ZC ad 38) (wC cI cZ ad) (.ref (ad 0) :: As) (zpC S) (Value.ref (ad 0) :: As).toArray U := fun U hU hW => ⟨rfl, by rw [hU]; exact hPC, zK.warm hW ⟨hK, hN⟩, (zT.go hW (by rw [hU]; exact hS.2.1) hT).narrow hsubA⟩
  subst hst0
  refine va_calli (va_runV (As := As) (rest := st) ⟨hx, hb, hml, hown, hts⟩ hM1 (cwV n hts hg rfl rfl rfl ⟨c5, c6.1, c6.2, c7⟩ ⟨hR.1, hR.2⟩) ⟨zPc.blind, (obC_0 cI cZ ad).recv (S := zpC S) hK hPC, hpc⟩ rfl hn hh2.1 rfl (lv_room hW) hd ⟨hk0, hn0⟩) hS (fun q _ h => hsubA q h) hsubA (fun r0 u t H1 locs1 ht hvm hw hB hz1 hk1 hS1 => ?_)
  obtain ⟨rfl, hx1, hG1, h01⟩ := hw
  rw [ht] at hB
  exact kk _ _ hx1 h2 (RG_J hG1 hG) H1 locs1 ls (by rw [wL_j]; exact zpre_P hP hexA hk1 hB) hS1 hh2
theorem k_callQ (F : zF Γ (wL cI cZ ad) cI cZ cc room_1 nL' own) (X : zLX Γ ads cI cZ b L xs) {k n : Nat} (hkn : zKN Γ k n) (hk : k + 1 ≤ 119 ∧ n + 6 ≤ 2739) {R : Type} {r9 : R} {y : MethodName} {cy : ByteArray} {mL np idx fr2 lo2 : Nat} {hh : List (Nat × Nat × Nat × Nat)} {hs : List String} {b0 : Int} {As : List Value} {x0 : Option zRx} {K : Int → zSt → Option R}
    (hc : Cond.static y ∈ WS ∧ Cond.initialized y.cls ∈ WS ∧ Cond.codeWith y cy mL (some .int) hh ∈ WS ∧ (y.cls ≠ "java/lang/invoke/MethodHandle" ∧ y.cls ≠ "java/lang/invoke/VarHandle" ∧ (parseMethodDescriptor y.desc).map (fun d => d.parameters.length) = some np)) (hl : Cond.methodLink own idx y ∈ WS)
    (hM : ∀ (l : Launch) (D : va_G) (A : Nat → Prop), l.stackTraces = false → (∀ S, va_D A (wC cI cZ ad S)) → RG bsC (zpC S) → 0 ≤ b0 → ∀ r, x0 = some r → (∀ E C', r = .inr (E, C') → E ∈ hs) → zMw l y cy mL hh fr2 lo2 D cI cZ ads A (wC cI cZ ad) As (zpC S) r (zcd r) (zrs r) (inR (zcd r) ∧ RG bsC (zrs r)))
    (hR : fr2 + 1 ≤ 11 ∧ 8 + (mL + 11) + lo2 ≤ 400) (hn : As.length = np) {st0 : List Value} (hst0 : st0 = As.reverse ++ st) (hW : (st.map fun v => v.category).sum ≤ 8) (hd : decode cc pc = .ok (.invokestatic idx, 3)) (h : zbw hs b0 x0 S K = some r9)
    (kk : ∀ x S2, inR x → K x S2 = some r9 → zk (zup Γ (k + 1) (n + 6)) (wL cI cZ ad) (RG bsL) S2 lv (pc + 3) (.int (zI x) :: st)) : zk Γ (wL cI cZ ad) (RG bsL) S lv pc st0 := by
  obtain ⟨p, l, e, R, s, m, args, below, meth, c, Q, D, A, k0, n0, nL⟩ := Γ
  obtain ⟨hx, hb, hml, hown, hts, ⟨hK, hN⟩, hD, rfl, hk0, hn0, rfl⟩ := F
  obtain ⟨hst, hT, hKJ, hX, hbl, rfl, rfl, rfl, hr, hlk⟩ := X
  obtain ⟨rfl, rfl⟩ := hkn
  obtain ⟨r, rfl, h0, hE, h2⟩ := zbw_e h
  obtain ⟨c1, c2, c3, c4⟩ := hc
  have hg : GoodIn WS (va_wsS own idx y (Cond.codeWith y cy mL (some .int) hh :: WS)) := WS_sub (fun _ h => h) (fun w hw => by
    simp only [va_wsS, List.mem_append, List.mem_cons, List.not_mem_nil, or_false] at hw
    rcases hw with (rfl | rfl | rfl) | rfl | hw
    · exact hl
    · exact c1
    · exact c2
    · exact c3
    · exact hw)
  have hDC : ∀ P, va_D (ZC ad 38) (wC cI cZ ad P) := fun P => by
    have h := hD (zjn P (zpM S))
    rw [wL_j] at h
    exact (zpre_D (wC_ix cI cZ ad P) h).1
  obtain ⟨-, hsubA, hexA⟩ := zpre_D (wC_ix cI cZ ad (zpC S)) (hD S)
  intro hG H locs ls hP hS hh2
  have hP : va_P D vwCl (wC cI cZ ad (zpC S) ++ wE cI ad S) H := hP
  have hPC := zpre_Q hP
  have hM1 := hM l D (ZC ad 38) hst hDC (RG_C hG) h0 r rfl hE
  have q1 : zmc r ≤ 1 := by cases r <;> exact Nat.le_of_ble_eq_true rfl
  have q2 : zms r ≤ 6 := by cases r <;> exact Nat.le_of_ble_eq_true rfl
  subst hst0
  refine va_calli (vx_runSW (As := As) (rest := st) ⟨hx, hb, hml, hown, hts⟩ hM1 (vx_cwSW np hts hg rfl (by cases r <;> rfl) (by cases r <;> rfl) c4 ⟨hR.1, hR.2⟩) ⟨fun a U g mk q => ⟨q.1, q.2.1, zKJ.same (u := U) (U := U.calling g mk a) rfl q.2.2.1, zT.same (u := U) (U := U.calling g mk a) rfl rfl q.2.2.2⟩, fun U hU hW => ⟨rfl, by rw [hU]; exact hPC, zKJ.warm hW hKJ, (zT.go hW (by rw [hU]; exact hS.2.1) hT).narrow hsubA⟩⟩ rfl hn hh2.1 rfl (lv_room hW) hd ⟨by show k0 + zmc r ≤ 119; omega, by show n0 + zms r ≤ 2739; omega⟩) hS (fun q _ h => hsubA q h) hsubA (fun r0 u t H1 locs1 ht hvm hw hB hz1 hk1 hS1 => ?_)
  obtain ⟨rfl, hx1, hG1⟩ := hw
  rw [ht] at hB
  refine W.widen (k := k0 + 1) (n := n0 + 6) (by omega) (by omega) ?_
  exact kk _ _ hx1 h2 (RG_J hG1 hG) H1 locs1 ls (by rw [wL_j]; exact zpre_P hP hexA hk1 hB) hS1 hh2
end RowsL
set_option maxRecDepth 100000 in
theorem aL_1 (cI cZ : ClassId) (ad : Nat → Nat) : ∀ S, (wL cI cZ ad S)[38]? = some (ad 38, .inl (cI, 12, .inl (zA (S.2 1)))) := fun _ => rfl
set_option maxRecDepth 100000 in
theorem sL_1 (cI cZ : ClassId) (ad : Nat → Nat) : ∀ S i v, 0 ≤ i → (wL cI cZ ad S).set 38 (ad 38, .inl (cI, 12, .inl (upd (zA (S.2 1)) i.toNat (zI v)))) = wL cI cZ ad (zput S 1 i v) := fun S i v h => by rw [zA_put h]; rfl
set_option maxRecDepth 100000 in
theorem aL_3 (cI cZ : ClassId) (ad : Nat → Nat) : ∀ S, (wL cI cZ ad S)[39]? = some (ad 39, .inl (cI, 60, .inl (zA (S.2 3)))) := fun _ => rfl
set_option maxRecDepth 100000 in
theorem sL_3 (cI cZ : ClassId) (ad : Nat → Nat) : ∀ S i v, 0 ≤ i → (wL cI cZ ad S).set 39 (ad 39, .inl (cI, 60, .inl (upd (zA (S.2 3)) i.toNat (zI v)))) = wL cI cZ ad (zput S 3 i v) := fun S i v h => by rw [zA_put h]; rfl
set_option maxRecDepth 100000 in
theorem aL_5 (cI cZ : ClassId) (ad : Nat → Nat) : ∀ S, (wL cI cZ ad S)[40]? = some (ad 40, .inl (cI, 60, .inl (zA (S.2 5)))) := fun _ => rfl
set_option maxRecDepth 100000 in
theorem sL_5 (cI cZ : ClassId) (ad : Nat → Nat) : ∀ S i v, 0 ≤ i → (wL cI cZ ad S).set 40 (ad 40, .inl (cI, 60, .inl (upd (zA (S.2 5)) i.toNat (zI v)))) = wL cI cZ ad (zput S 5 i v) := fun S i v h => by rw [zA_put h]; rfl
set_option maxRecDepth 100000 in
theorem aL_7 (cI cZ : ClassId) (ad : Nat → Nat) : ∀ S, (wL cI cZ ad S)[41]? = some (ad 41, .inl (cI, 60, .inl (zA (S.2 7)))) := fun _ => rfl
set_option maxRecDepth 100000 in
theorem sL_7 (cI cZ : ClassId) (ad : Nat → Nat) : ∀ S i v, 0 ≤ i → (wL cI cZ ad S).set 41 (ad 41, .inl (cI, 60, .inl (upd (zA (S.2 7)) i.toNat (zI v)))) = wL cI cZ ad (zput S 7 i v) := fun S i v h => by rw [zA_put h]; rfl
