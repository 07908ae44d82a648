/-! CONTRACTS, CALLS, ENDS -/
def zMi (l : Launch) (y : MethodName) (cy : ByteArray) (mL : Nat) (ty : FieldType) (rm : Room) (D : va_G) (cI cZ : ClassId) (A : Nat → Prop) (w : zSt → va_W) (G : zSt → Prop) (av : List Value) (S : zSt) (x : Int) (S' : zSt) : Prop :=
  Met l y (.code y cy mL (some ty) :: WS) rm (va_Pc av (fun U => va_P D vwCl (w S) U.heap ∧ zK D cI cZ U)) (va_Qi (S := Unit) (fun r _ => r = zI x ∧ inR x ∧ G S' ∧ (ty = .boolean → x = 0 ∨ x = 1)) (fun _ t => va_P D vwCl (w S') t.heap) A) 0 0 A
def zMv (l : Launch) (y : MethodName) (cy : ByteArray) (mL : Nat) (rm : Room) (D : va_G) (cI cZ : ClassId) (A : Nat → Prop) (w : zSt → va_W) (G : zSt → Prop) (av : List Value) (S : zSt) (S' : zSt) : Prop :=
  Met l y (.code y cy mL none :: WS) rm (va_Pc av (fun U => va_P D vwCl (w S) U.heap ∧ zK D cI cZ U)) (va_Qv (S := Unit) (fun _ => G S') (fun _ t => va_P D vwCl (w S') t.heap) A) 0 0 A
/-- how the place ends: with an int, with nothing -/
def zQi (Γ : zG) (w : zSt → va_W) (G : zSt → Prop) (ty : FieldType) (x : Int) (S' : zSt) : Prop :=
  match Γ with
  | (_, _, _, _, s, _, args, below, meth, _, Q, D, A, k, n, _) => k = 0 ∧ n = 0 ∧ Q = MQ below (va_Qi (S := Unit) (fun r _ => r = zI x ∧ inR x ∧ G S' ∧ (ty = .boolean → x = 0 ∨ x = 1)) (fun _ t => va_P D vwCl (w S') t.heap) A) args s 0 0 A ∧ meth.sig.returnType = some ty ∧ meth.locks = false
def zQv (Γ : zG) (w : zSt → va_W) (G : zSt → Prop) (S' : zSt) : Prop :=
  match Γ with
  | (_, _, _, _, s, _, args, below, meth, _, Q, D, A, k, n, _) => k = 0 ∧ n = 0 ∧ Q = MQ below (va_Qv (S := Unit) (fun _ => G S') (fun _ t => va_P D vwCl (w S') t.heap) A) args s 0 0 A ∧ meth.sig.returnType = none ∧ meth.locks = false
section Ends
variable {Γ : zG} {w : zSt → va_W} {cI cZ : ClassId} {cc : ByteArray} {rm : Room} {nL' : Nat} {own : String} {G : zSt → Prop} {S : zSt} {lv : List (Nat × Value)} {pc : Nat} {st : List Value}
theorem k_iret (F : zF Γ w cI cZ cc rm nL' own) {x v : Int} {S' : zSt} (hQ : zQi Γ w G .int x S') (hv : inR v) (hd : decode cc pc = .ok (.ireturn, 1)) (h : some (v, S) = some (x, S')) : zk Γ w G S lv pc [.int (zI v)] := by
  obtain ⟨p, l, e, R, s, m, args, below, meth, c, Q, D, A, k0, n0, nL⟩ := Γ
  obtain ⟨hx, hb, hml, hown, hts, ⟨hK, hN⟩, hD, rfl, hk0, hn0, rfl⟩ := F
  obtain ⟨rfl, rfl, rfl, hr, hlk⟩ := hQ
  cases h
  intro hG H locs ls hP hS hh
  exact W.iret hx hb hr (fun t ht hW => ⟨⟨_, (), rfl, ⟨rfl, hv, hG, fun q => by cases q⟩, by show va_P D vwCl (w S) t.heap; rw [ht]; exact hP⟩, hS.F ht⟩) hS.2.2 hd hlk
theorem k_zret (F : zF Γ w cI cZ cc rm nL' own) {x v : Int} {S' : zSt} (hQ : zQi Γ w G .boolean x S') (hv : v = 0 ∨ v = 1) (hd : decode cc pc = .ok (.ireturn, 1)) (h : some (v, S) = some (x, S')) : zk Γ w G S lv pc [.int (zI v)] := by
  obtain ⟨p, l, e, R, s, m, args, below, meth, c, Q, D, A, k0, n0, nL⟩ := Γ
  obtain ⟨hx, hb, hml, hown, hts, ⟨hK, hN⟩, hD, rfl, hk0, hn0, rfl⟩ := F
  obtain ⟨rfl, rfl, rfl, hr, hlk⟩ := hQ
  cases h
  intro hG H locs ls hP hS hh
  exact W.zret hx hb hr (z01_narrow hv) (fun t ht hW => ⟨⟨_, (), rfl, ⟨rfl, by rcases hv with rfl | rfl <;> decide, hG, fun _ => hv⟩, by show va_P D vwCl (w S) t.heap; rw [ht]; exact hP⟩, hS.F ht⟩) hS.2.2 hd hlk
theorem k_vret (F : zF Γ w cI cZ cc rm nL' own) {x : Int} {S' : zSt} (hQ : zQv Γ w G S') (hd : decode cc pc = .ok (.return_, 1)) (h : some ((0 : Int), S) = some (x, S')) : zk Γ w G S lv pc [] := by
  obtain ⟨p, l, e, R, s, m, args, below, meth, c, Q, D, A, k0, n0, nL⟩ := Γ
  obtain ⟨hx, hb, hml, hown, hts, ⟨hK, hN⟩, hD, rfl, hk0, hn0, rfl⟩ := F
  obtain ⟨rfl, rfl, rfl, hr, hlk⟩ := hQ
  cases h
  intro hG H locs ls hP hS hh
  exact W.vret hx hb hr (fun t ht hW => ⟨⟨(), rfl, hG, by show va_P D vwCl (w S) t.heap; rw [ht]; exact hP⟩, hS.F ht⟩) hS.2.2 hd hlk
end Ends

theorem k_start_i {l : Launch} {y : MethodName} {cc : ByteArray} {maxL : Nat} {ty : FieldType} {rm : Room} {D : va_G} {cI cZ : ClassId} {A : Nat → Prop} {w : zSt → va_W} {G : zSt → Prop} {av : List Value} {S : zSt} {x : Int} {S' : zSt} (hy : plainName y.cls = true) (hD : ∀ S, va_D A (w S)) (hG : G S) (hlen : (lg_sl av).length ≤ maxL)
    (body : ∀ Γ : zG, zF Γ w cI cZ cc rm maxL y.cls → zQi Γ w G ty x S' → zk Γ w G S (lv_args 0 av) 0 []) : zMi l y cc maxL ty rm D cI cZ A w G av S x S' := by
  refine Met.ofW (cc := cc) (maxL := maxL) (ret := (some ty)) hy rfl ?_
  intro p e s m args below meth c s₁ B hml hv
  obtain ⟨rfl, hP, hK⟩ := hv
  have hts := atoms_spec (ws := .code y cc maxL (some ty) :: WS) B.pre
  have hown : s.vm.findClass y.cls = some m.cls := findClass_of_methodNamed B.named
  have hl := lv_entry av (n := maxL) hlen
  rw [lg_entry_eq]
  exact body (p, l, e, _, s, m, _, below, meth, c, _, D, A, 0, 0, maxL) ⟨B.exec, B.bytes, hml, hown, fun w hw => hts w (List.mem_cons_of_mem _ hw), hK, hD, rfl, Nat.zero_le _, Nat.zero_le _, rfl⟩ ⟨rfl, rfl, rfl, B.returns, B.notSynchronized⟩ hG s.heap [] _ hP va_S.rf hl
theorem k_start_v {l : Launch} {y : MethodName} {cc : ByteArray} {maxL : Nat} {rm : Room} {D : va_G} {cI cZ : ClassId} {A : Nat → Prop} {w : zSt → va_W} {G : zSt → Prop} {av : List Value} {S : zSt} {S' : zSt} (hy : plainName y.cls = true) (hD : ∀ S, va_D A (w S)) (hG : G S) (hlen : (lg_sl av).length ≤ maxL)
    (body : ∀ Γ : zG, zF Γ w cI cZ cc rm maxL y.cls → zQv Γ w G S' → zk Γ w G S (lv_args 0 av) 0 []) : zMv l y cc maxL rm D cI cZ A w G av S S' := by
  refine Met.ofW (cc := cc) (maxL := maxL) (ret := none) hy rfl ?_
  intro p e s m args below meth c s₁ B hml hv
  obtain ⟨rfl, hP, hK⟩ := hv
  have hts := atoms_spec (ws := .code y cc maxL none :: WS) B.pre
  have hown : s.vm.findClass y.cls = some m.cls := findClass_of_methodNamed B.named
  have hl := lv_entry av (n := maxL) hlen
  rw [lg_entry_eq]
  exact body (p, l, e, _, s, m, _, below, meth, c, _, D, A, 0, 0, maxL) ⟨B.exec, B.bytes, hml, hown, fun w hw => hts w (List.mem_cons_of_mem _ hw), hK, hD, rfl, Nat.zero_le _, Nat.zero_le _, rfl⟩ ⟨rfl, rfl, rfl, B.returns, B.notSynchronized⟩ hG s.heap [] _ hP va_S.rf hl
/-- a callee's own words -/
def zCal (C : String) (y : MethodName) (cy : ByteArray) (mL : Nat) (ret : Option FieldType) (n : Nat) : Prop :=
  Cond.instanceMethod y ∈ WS ∧ Cond.selects C y y ∈ WS ∧ Cond.initialized C ∈ WS ∧ Cond.code y cy mL ret ∈ WS ∧ y.cls = C ∧ (y.cls ≠ "java/lang/invoke/MethodHandle" ∧ y.cls ≠ "java/lang/invoke/VarHandle") ∧ (parseMethodDescriptor y.desc).map (fun d => d.parameters.length) = some n
def zCas (C : String) (y : MethodName) (cy : ByteArray) (mL : Nat) (ret : Option FieldType) (n : Nat) : Prop :=
  Cond.static y ∈ WS ∧ Cond.initialized C ∈ WS ∧ Cond.code y cy mL ret ∈ WS ∧ y.cls = C ∧ (y.cls ≠ "java/lang/invoke/MethodHandle" ∧ y.cls ≠ "java/lang/invoke/VarHandle") ∧ (parseMethodDescriptor y.desc).map (fun d => d.parameters.length) = some n
/-- an object of the world: its place, its class -/
def zOb (w : zSt → va_W) (a : Nat) (C : String) : Prop := ∃ (q0 ci : Nat) (q : vw_C) (fs : zSt → List Value), (∀ S, (w S)[q0]? = some (a, .inr (ci, fs S))) ∧ vwCl[ci]? = some q ∧ q.1 = C
theorem zOb.recv {w : zSt → va_W} {a : Nat} {C : String} (h : zOb w a C) {D : va_G} {tys : List (ClassId × FieldType)} {s : State} {H : Heap} {S : zSt} (hK : va_K D vwCl tys s) (hP : va_P D vwCl (w S) H) : ∃ cell : Cell, H[a]? = some cell ∧ cell.vm.isStatics = false ∧ s.vm.findClass C = some cell.cls := by
  obtain ⟨q0, ci, q, fs, h1, h2, rfl⟩ := h
  exact va_recv hK hP h2 (h1 S)
theorem zblind {av : List Value} {D : va_G} {cI cZ : ClassId} {ws : va_W} : FrameBlind (va_Pc av (fun U => va_P D vwCl ws U.heap ∧ zK D cI cZ U)) := fun a U g mk q => ⟨q.1, q.2.1, zK.same (u := U) (U := U.calling g mk a) rfl q.2.2⟩
section Calls
variable {Γ : zG} {w : zSt → va_W} {cI cZ : ClassId} {cc : ByteArray} {rm : Room} {nL' : Nat} {own : String} {G : zSt → Prop} {S : zSt} {lv : List (Nat × Value)} {pc : Nat} {st : List Value}
theorem k_callVi (F : zF Γ w cI cZ cc rm nL' own) {R : Type} {r : R} {y : MethodName} {cy : ByteArray} {mL n idx : Nat} {rm2 : Room} {As : List Value} {K : Int → zSt → Option R} {x0 : Option zRes} {ty : FieldType} {C : String} {a : Nat} (hc : zCal C y cy mL (some ty) n) (hl : Cond.methodLink own idx y ∈ WS) (ho : zOb w a C)
    (hM : ∀ (l : Launch) (D : va_G) (A : Nat → Prop), (∀ S, va_D A (w S)) → G S → ∀ x S', x0 = some (x, S') → zMi l y cy mL ty rm2 D cI cZ A w G (.ref a :: As) S x S')
    (hR : rm2.cells = 0 ∧ rm2.slots = 0 ∧ rm2.frames + 1 ≤ rm.frames ∧ 8 + (mL + 11) + rm2.locals ≤ rm.locals) (hn : As.length = n) {st0 : List Value} (hst : st0 = As.reverse ++ .ref a :: st) (hW : (st.map fun v => v.category).sum ≤ 8) (hd : decode cc pc = .ok (.invokevirtual idx, 3)) (h : zbd x0 K = some r) (kk : ∀ x S, inR x → (ty = .boolean → x = 0 ∨ x = 1) → K x S = some r → zk Γ w G S lv (pc + 3) (.int (zI x) :: st)) : zk Γ w G S lv pc st0 := by
  obtain ⟨p, l, e, R, s, m, args, below, meth, c, Q, D, A, k0, n0, nL⟩ := Γ
  obtain ⟨hx, hb, hml, hown, hts, ⟨hK, hN⟩, hD, rfl, hk0, hn0, rfl⟩ := F
  intro hG H locs ls hP hS hh
  obtain ⟨x, S', h1, h2⟩ := zbd_e h
  obtain ⟨c1, c2, c3, c4, c5, c6, c7⟩ := hc
  have hg : GoodIn WS (wsV own idx C y (Cond.code y cy mL (some ty) :: WS)) := WS_sub (fun _ h => h) (fun w hw => by
    simp only [wsV, List.mem_append, List.mem_cons, List.not_mem_nil, or_false] at hw
    rcases hw with (rfl | rfl | rfl | rfl) | rfl | hw
    · exact hl
    · exact c1
    · exact c2
    · exact c3
    · exact c4
    · exact hw)
  subst hst
  refine va_calli (va_runV (As := As) (rest := st) ⟨hx, hb, hml, hown, hts⟩ (hM l D A hD hG x S' h1) (cwV n hts hg rfl hR.1 hR.2.1 ⟨c5, c6.1, c6.2, c7⟩ ⟨hR.2.2.1, hR.2.2.2⟩) ⟨zblind, ho.recv hK hP, fun U hU hW => ⟨rfl, by rw [hU]; exact hP, zK.warm hW ⟨hK, hN⟩⟩⟩ rfl hn hh.1 rfl (lv_room hW) hd ⟨hk0, hn0⟩) hS (fun q _ h => h) (fun q h => h) (fun r0 u t H1 locs1 ht hvm hw hB hz1 hk1 hS1 => ?_)
  obtain ⟨rfl, hx1, hG1, h01⟩ := hw
  rw [ht] at hB
  exact kk x S' hx1 h01 h2 hG1 H1 locs1 ls hB hS1 hh
theorem k_callSi (F : zF Γ w cI cZ cc rm nL' own) {R : Type} {r : R} {y : MethodName} {cy : ByteArray} {mL n idx : Nat} {rm2 : Room} {As : List Value} {K : Int → zSt → Option R} {x0 : Option zRes} {ty : FieldType} {C : String} (hc : zCas C y cy mL (some ty) n) (hl : Cond.methodLink own idx y ∈ WS)
    (hM : ∀ (l : Launch) (D : va_G) (A : Nat → Prop), (∀ S, va_D A (w S)) → G S → ∀ x S', x0 = some (x, S') → zMi l y cy mL ty rm2 D cI cZ A w G As S x S')
    (hR : rm2.cells = 0 ∧ rm2.slots = 0 ∧ rm2.frames + 1 ≤ rm.frames ∧ 8 + (mL + 11) + rm2.locals ≤ rm.locals) (hn : As.length = n) {st0 : List Value} (hst : st0 = As.reverse ++ st) (hW : (st.map fun v => v.category).sum ≤ 8) (hd : decode cc pc = .ok (.invokestatic idx, 3)) (h : zbd x0 K = some r) (kk : ∀ x S, inR x → (ty = .boolean → x = 0 ∨ x = 1) → K x S = some r → zk Γ w G S lv (pc + 3) (.int (zI x) :: st)) : zk Γ w G S lv pc st0 := by
  obtain ⟨p, l, e, R, s, m, args, below, meth, c, Q, D, A, k0, n0, nL⟩ := Γ
  obtain ⟨hx, hb, hml, hown, hts, ⟨hK, hN⟩, hD, rfl, hk0, hn0, rfl⟩ := F
  intro hG H locs ls hP hS hh
  obtain ⟨x, S', h1, h2⟩ := zbd_e h
  obtain ⟨c1, c3, c4, c5, c6, c7⟩ := hc
  have hg : GoodIn WS (Cond.code y cy mL (some ty) :: WS) := WS_sub (fun _ h => h) (fun w hw => by
    simp only [List.mem_cons] at hw
    rcases hw with rfl | hw
    · exact c4
    · exact hw)
  subst hst
  refine va_calli (va_runS (As := As) (rest := st) ⟨hx, hb, hml, hown, hts⟩ (hM l D A hD hG x S' h1) ⟨callB_of n hts hg rfl hR.1 hR.2.1 (by rw [c5]; exact hts _ c3) (hts _ hl) ⟨c6.1, c6.2, c7⟩ ⟨hR.2.2.1, hR.2.2.2⟩, hts _ c1⟩ ⟨zblind, fun U hU hW => ⟨rfl, by rw [hU]; exact hP, zK.warm hW ⟨hK, hN⟩⟩⟩ rfl hn hh.1 rfl (lv_room hW) hd ⟨hk0, hn0⟩) hS (fun q _ h => h) (fun q h => h) (fun r0 u t H1 locs1 ht hvm hw hB hz1 hk1 hS1 => ?_)
  obtain ⟨rfl, hx1, hG1, h01⟩ := hw
  rw [ht] at hB
  exact kk x S' hx1 h01 h2 hG1 H1 locs1 ls hB hS1 hh
theorem k_callNi (F : zF Γ w cI cZ cc rm nL' own) {R : Type} {r : R} {y : MethodName} {cy : ByteArray} {mL n idx : Nat} {rm2 : Room} {As : List Value} {K : Int → zSt → Option R} {x0 : Option zRes} {ty : FieldType} {C host : String} (hc : zCas C y cy mL (some ty) n) (hl : (own, idx, y, host) ∈ NWt)
    (hM : ∀ (l : Launch) (D : va_G) (A : Nat → Prop), (∀ S, va_D A (w S)) → G S → ∀ x S', x0 = some (x, S') → zMi l y cy mL ty rm2 D cI cZ A w G As S x S')
    (hR : rm2.cells = 0 ∧ rm2.slots = 0 ∧ rm2.frames + 1 ≤ rm.frames ∧ 8 + (mL + 11) + rm2.locals ≤ rm.locals) (hn : As.length = n) {st0 : List Value} (hst : st0 = As.reverse ++ st) (hW : (st.map fun v => v.category).sum ≤ 8) (hd : decode cc pc = .ok (.invokestatic idx, 3)) (h : zbd x0 K = some r) (kk : ∀ x S, inR x → (ty = .boolean → x = 0 ∨ x = 1) → K x S = some r → zk Γ w G S lv (pc + 3) (.int (zI x) :: st)) : zk Γ w G S lv pc st0 := by
  obtain ⟨p, l, e, R, s, m, args, below, meth, c, Q, D, A, k0, n0, nL⟩ := Γ
  obtain ⟨hx, hb, hml, hown, hts, ⟨hK, hN⟩, hD, rfl, hk0, hn0, rfl⟩ := F
  intro hG H locs ls hP hS hh
  obtain ⟨x, S', h1, h2⟩ := zbd_e h
  obtain ⟨c1, c3, c4, c5, c6, c7⟩ := hc
  have hg : GoodIn WS (Cond.code y cy mL (some ty) :: WS) := WS_sub (fun _ h => h) (fun w hw => by
    simp only [List.mem_cons] at hw
    rcases hw with rfl | hw
    · exact c4
    · exact hw)
  have hlN : va_Nw (.methodLinkNest own idx y host) s := hN _ hl
  subst hst
  refine va_calli (va_runSN (As := As) (rest := st) ⟨hx, hb, hml, hown, hts⟩ (hM l D A hD hG x S' h1) ⟨va_cnB n hts hg rfl hR.1 hR.2.1 hlN (by rw [c5]; exact hts _ c3) ⟨c6.1, c6.2, c7⟩ ⟨hR.2.2.1, hR.2.2.2⟩, hts _ c1, trivial⟩ ⟨zblind, fun U hU hW => ⟨rfl, by rw [hU]; exact hP, zK.warm hW ⟨hK, hN⟩⟩⟩ rfl hn hh.1 rfl (lv_room hW) hd ⟨hk0, hn0⟩) hS (fun q _ h => h) (fun q h => h) (fun r0 u t H1 locs1 ht hvm hw hB hz1 hk1 hS1 => ?_)
  obtain ⟨rfl, hx1, hG1, h01⟩ := hw
  rw [ht] at hB
  exact kk x S' hx1 h01 h2 hG1 H1 locs1 ls hB hS1 hh
theorem k_callVv (F : zF Γ w cI cZ cc rm nL' own) {R : Type} {r : R} {y : MethodName} {cy : ByteArray} {mL n idx : Nat} {rm2 : Room} {As : List Value} {K : Int → zSt → Option R} {x0 : Option zRes} {C : String} {a : Nat} (hc : zCal C y cy mL none n) (hl : Cond.methodLink own idx y ∈ WS) (ho : zOb w a C)
    (hM : ∀ (l : Launch) (D : va_G) (A : Nat → Prop), (∀ S, va_D A (w S)) → G S → ∀ x S', x0 = some (x, S') → zMv l y cy mL rm2 D cI cZ A w G (.ref a :: As) S S')
    (hR : rm2.cells = 0 ∧ rm2.slots = 0 ∧ rm2.frames + 1 ≤ rm.frames ∧ 8 + (mL + 11) + rm2.locals ≤ rm.locals) (hn : As.length = n) {st0 : List Value} (hst : st0 = As.reverse ++ .ref a :: st) (hW : (st.map fun v => v.category).sum ≤ 8) (hd : decode cc pc = .ok (.invokevirtual idx, 3)) (h : zbd x0 K = some r) (kk : ∀ x S, K x S = some r → zk Γ w G S lv (pc + 3) (st)) : zk Γ w G S lv pc st0 := by
  obtain ⟨p, l, e, R, s, m, args, below, meth, c, Q, D, A, k0, n0, nL⟩ := Γ
  obtain ⟨hx, hb, hml, hown, hts, ⟨hK, hN⟩, hD, rfl, hk0, hn0, rfl⟩ := F
  intro hG H locs ls hP hS hh
  obtain ⟨x, S', h1, h2⟩ := zbd_e h
  obtain ⟨c1, c2, c3, c4, c5, c6, c7⟩ := hc
  have hg : GoodIn WS (wsV own idx C y (Cond.code y cy mL none :: WS)) := WS_sub (fun _ h => h) (fun w hw => by
    simp only [wsV, List.mem_append, List.mem_cons, List.not_mem_nil, or_false] at hw
    rcases hw with (rfl | rfl | rfl | rfl) | rfl | hw
    · exact hl
    · exact c1
    · exact c2
    · exact c3
    · exact c4
    · exact hw)
  subst hst
  refine va_callv (va_runV (As := As) (rest := st) ⟨hx, hb, hml, hown, hts⟩ (hM l D A hD hG x S' h1) (cwV n hts hg rfl hR.1 hR.2.1 ⟨c5, c6.1, c6.2, c7⟩ ⟨hR.2.2.1, hR.2.2.2⟩) ⟨zblind, ho.recv hK hP, fun U hU hW => ⟨rfl, by rw [hU]; exact hP, zK.warm hW ⟨hK, hN⟩⟩⟩ rfl hn hh.1 rfl (lv_room hW) hd ⟨hk0, hn0⟩) hS (fun q _ h => h) (fun q h => h) (fun u t H1 locs1 ht hvm hw hB hz1 hk1 hS1 => ?_)
  rw [ht] at hB
  exact kk x S' h2 hw H1 locs1 ls hB hS1 hh
theorem k_callSv (F : zF Γ w cI cZ cc rm nL' own) {R : Type} {r : R} {y : MethodName} {cy : ByteArray} {mL n idx : Nat} {rm2 : Room} {As : List Value} {K : Int → zSt → Option R} {x0 : Option zRes} {C : String} (hc : zCas C y cy mL none n) (hl : Cond.methodLink own idx y ∈ WS)
    (hM : ∀ (l : Launch) (D : va_G) (A : Nat → Prop), (∀ S, va_D A (w S)) → G S → ∀ x S', x0 = some (x, S') → zMv l y cy mL rm2 D cI cZ A w G As S S')
    (hR : rm2.cells = 0 ∧ rm2.slots = 0 ∧ rm2.frames + 1 ≤ rm.frames ∧ 8 + (mL + 11) + rm2.locals ≤ rm.locals) (hn : As.length = n) {st0 : List Value} (hst : st0 = As.reverse ++ st) (hW : (st.map fun v => v.category).sum ≤ 8) (hd : decode cc pc = .ok (.invokestatic idx, 3)) (h : zbd x0 K = some r) (kk : ∀ x S, K x S = some r → zk Γ w G S lv (pc + 3) (st)) : zk Γ w G S lv pc st0 := by
  obtain ⟨p, l, e, R, s, m, args, below, meth, c, Q, D, A, k0, n0, nL⟩ := Γ
  obtain ⟨hx, hb, hml, hown, hts, ⟨hK, hN⟩, hD, rfl, hk0, hn0, rfl⟩ := F
  intro hG H locs ls hP hS hh
  obtain ⟨x, S', h1, h2⟩ := zbd_e h
  obtain ⟨c1, c3, c4, c5, c6, c7⟩ := hc
  have hg : GoodIn WS (Cond.code y cy mL none :: WS) := WS_sub (fun _ h => h) (fun w hw => by
    simp only [List.mem_cons] at hw
    rcases hw with rfl | hw
    · exact c4
    · exact hw)
  subst hst
  refine va_callv (va_runS (As := As) (rest := st) ⟨hx, hb, hml, hown, hts⟩ (hM l D A hD hG x S' h1) ⟨callB_of n hts hg rfl hR.1 hR.2.1 (by rw [c5]; exact hts _ c3) (hts _ hl) ⟨c6.1, c6.2, c7⟩ ⟨hR.2.2.1, hR.2.2.2⟩, hts _ c1⟩ ⟨zblind, fun U hU hW => ⟨rfl, by rw [hU]; exact hP, zK.warm hW ⟨hK, hN⟩⟩⟩ rfl hn hh.1 rfl (lv_room hW) hd ⟨hk0, hn0⟩) hS (fun q _ h => h) (fun q h => h) (fun u t H1 locs1 ht hvm hw hB hz1 hk1 hS1 => ?_)
  rw [ht] at hB
  exact kk x S' h2 hw H1 locs1 ls hB hS1 hh
theorem k_callNv (F : zF Γ w cI cZ cc rm nL' own) {R : Type} {r : R} {y : MethodName} {cy : ByteArray} {mL n idx : Nat} {rm2 : Room} {As : List Value} {K : Int → zSt → Option R} {x0 : Option zRes} {C host : String} (hc : zCas C y cy mL none n) (hl : (own, idx, y, host) ∈ NWt)
    (hM : ∀ (l : Launch) (D : va_G) (A : Nat → Prop), (∀ S, va_D A (w S)) → G S → ∀ x S', x0 = some (x, S') → zMv l y cy mL rm2 D cI cZ A w G As S S')
    (hR : rm2.cells = 0 ∧ rm2.slots = 0 ∧ rm2.frames + 1 ≤ rm.frames ∧ 8 + (mL + 11) + rm2.locals ≤ rm.locals) (hn : As.length = n) {st0 : List Value} (hst : st0 = As.reverse ++ st) (hW : (st.map fun v => v.category).sum ≤ 8) (hd : decode cc pc = .ok (.invokestatic idx, 3)) (h : zbd x0 K = some r) (kk : ∀ x S, K x S = some r → zk Γ w G S lv (pc + 3) (st)) : zk Γ w G S lv pc st0 := by
  obtain ⟨p, l, e, R, s, m, args, below, meth, c, Q, D, A, k0, n0, nL⟩ := Γ
  obtain ⟨hx, hb, hml, hown, hts, ⟨hK, hN⟩, hD, rfl, hk0, hn0, rfl⟩ := F
  intro hG H locs ls hP hS hh
  obtain ⟨x, S', h1, h2⟩ := zbd_e h
  obtain ⟨c1, c3, c4, c5, c6, c7⟩ := hc
  have hg : GoodIn WS (Cond.code y cy mL none :: WS) := WS_sub (fun _ h => h) (fun w hw => by
    simp only [List.mem_cons] at hw
    rcases hw with rfl | hw
    · exact c4
    · exact hw)
  have hlN : va_Nw (.methodLinkNest own idx y host) s := hN _ hl
  subst hst
  refine va_callv (va_runSN (As := As) (rest := st) ⟨hx, hb, hml, hown, hts⟩ (hM l D A hD hG x S' h1) ⟨va_cnB n hts hg rfl hR.1 hR.2.1 hlN (by rw [c5]; exact hts _ c3) ⟨c6.1, c6.2, c7⟩ ⟨hR.2.2.1, hR.2.2.2⟩, hts _ c1, trivial⟩ ⟨zblind, fun U hU hW => ⟨rfl, by rw [hU]; exact hP, zK.warm hW ⟨hK, hN⟩⟩⟩ rfl hn hh.1 rfl (lv_room hW) hd ⟨hk0, hn0⟩) hS (fun q _ h => h) (fun q h => h) (fun u t H1 locs1 ht hvm hw hB hz1 hk1 hS1 => ?_)
  rw [ht] at hB
  exact kk x S' h2 hw H1 locs1 ls hB hS1 hh
end Calls
