/-! THE LAW'S OWN METHODS: cuts of a world, calls that may throw and are caught, cell, up -/
def ZC (ad : Nat → Nat) (n : Nat) : Nat → Prop := fun q => ∃ k, k < n ∧ q = ad k
theorem zix {w1 : va_W} {ad : Nat → Nat} {n : Nat} (hm : w1.map Prod.fst = (List.range n).map ad) {k : Nat} {q : Nat × va_E} (h : w1[k]? = some q) : q.1 = ad k ∧ k < n := by
  have e1 : (w1.map Prod.fst)[k]? = some q.1 := by rw [List.getElem?_map, h]; rfl
  rw [hm, List.getElem?_map] at e1
  by_cases hk : k < n
  · rw [List.getElem?_range hk] at e1
    exact ⟨(Option.some.inj e1).symm, hk⟩
  · rw [List.getElem?_eq_none (by simp; omega)] at e1
    cases e1
theorem zxi {w1 : va_W} {ad : Nat → Nat} {n : Nat} (hm : w1.map Prod.fst = (List.range n).map ad) {k : Nat} (h : k < n) : ∃ q, w1[k]? = some q ∧ q.1 = ad k := by
  have e1 : (w1.map Prod.fst)[k]? = some (ad k) := by rw [hm, List.getElem?_map, List.getElem?_range h]; rfl
  rw [List.getElem?_map] at e1
  cases hq : w1[k]? with
  | none => rw [hq] at e1; cases e1
  | some q => rw [hq] at e1; exact ⟨q, rfl, Option.some.inj e1⟩
theorem zpre_D {A : Nat → Prop} {w1 ex : va_W} {ad : Nat → Nat} {n : Nat} (hm : w1.map Prod.fst = (List.range n).map ad) (hD : va_D A (w1 ++ ex)) : va_D (ZC ad n) w1 ∧ (∀ q, ZC ad n q → A q) ∧ ∀ (k : Nat) (x : Nat × va_E), ex[k]? = some x → ¬ ZC ad n x.1 := by
  have up : ∀ {k : Nat} {q : Nat × va_E}, w1[k]? = some q → (w1 ++ ex)[k]? = some q := fun {k q} h => by
    rw [List.getElem?_append_left (List.getElem?_eq_some_iff.mp h).1]; exact h
  refine ⟨⟨fun i j p q hp hq e => hD.1 i j p q (up hp) (up hq) e, fun k q hq => ?_⟩, fun q hq => ?_, fun k x hx hz => ?_⟩
  · obtain ⟨e1, e2⟩ := zix hm hq
    exact ⟨k, e2, e1⟩
  · obtain ⟨k, hk, rfl⟩ := hq
    obtain ⟨q, h1, h2⟩ := zxi hm hk
    rw [← h2]
    exact hD.2 k q (up h1)
  · obtain ⟨k2, hk, he⟩ := hz
    obtain ⟨q, h1, h2⟩ := zxi hm hk
    have h3 : (w1 ++ ex)[w1.length + k]? = some x := by rw [List.getElem?_append_right (Nat.le_add_right _ _), Nat.add_sub_cancel_left]; exact hx
    have h4 := hD.1 k2 (w1.length + k) q x (up h1) h3 (h2.trans he.symm)
    have := (List.getElem?_eq_some_iff.mp h1).1
    omega
theorem zpre_P {D : va_G} {w1 w2 ex : va_W} {ad : Nat → Nat} {n : Nat} {H H1 : Heap} (hP : va_P D vwCl (w1 ++ ex) H) (hx : ∀ (k : Nat) (x : Nat × va_E), ex[k]? = some x → ¬ ZC ad n x.1) (hk : ∀ q : Nat, q < H.size → ¬ ZC ad n q → H1[q]? = H[q]?) (hP1 : va_P D vwCl w2 H1) : va_P D vwCl (w2 ++ ex) H1 :=
  va_P.app hP1 (fun k x h => by
    have h3 : (w1 ++ ex)[w1.length + k]? = some x := by rw [List.getElem?_append_right (Nat.le_add_right _ _), Nat.add_sub_cancel_left]; exact h
    have h4 := hP _ _ h3
    exact h4.kept (hk _ h4.lt (hx k x h)))
theorem zpre_Q {D : va_G} {w1 ex : va_W} {H : Heap} (hP : va_P D vwCl (w1 ++ ex) H) : va_P D vwCl w1 H := fun k q h => hP k q (by rw [List.getElem?_append_left (List.getElem?_eq_some_iff.mp h).1]; exact h)
set_option maxRecDepth 100000 in
theorem wC_ix (cI cZ : ClassId) (ad : Nat → Nat) (S : zSt) : (wC cI cZ ad S).map Prod.fst = (List.range 38).map ad := rfl
theorem zT.narrow {ads : Nat → Nat} {A B : Nat → Prop} {U : State} (h : zT ads A U) (hAB : ∀ q, B q → A q) : zT ads B U := ⟨h.1.narrow hAB, h.2.1.narrow hAB, h.2.2⟩
def zNCP : List (String × String) := [("java/lang/IllegalStateException", "java/lang/IndexOutOfBoundsException")]
def zKJ (D : va_G) (cI cZ : ClassId) (U : State) : Prop := zK D cI cZ U ∧ ∀ q ∈ zNCP, va_Nc q.1 q.2 U
theorem zKJ.same {D : va_G} {cI cZ : ClassId} {u U : State} (h : u.vm = U.vm) (k : zKJ D cI cZ u) : zKJ D cI cZ U := ⟨zK.same (u := u) (U := U) h k.1, fun q hq => (k.2 q hq).moved (by rw [h]; exact Vm.Alike.refl U.vm)⟩
theorem zKJ.warm {D : va_G} {cI cZ : ClassId} {s U : State} (hW : s.WarmedH U.vm) (k : zKJ D cI cZ s) : zKJ D cI cZ U := ⟨zK.warm hW k.1, fun q hq => (k.2 q hq).moved hW.alike⟩
theorem zKJ.zK {D : va_G} {cI cZ : ClassId} {U : State} (k : zKJ D cI cZ U) : zK D cI cZ U := k.1
def zmc (r : zRx) : Nat := match r with | .inl _ => 0 | .inr _ => 1
def zms (r : zRx) : Nat := match r with | .inl _ => 0 | .inr _ => 6
def zrs (r : zRx) : zSt := match r with | .inl q => q.2 | .inr q => q.2
def zcd (r : zRx) : Int := match r with | .inl q => q.1 | .inr q => if q.1 = "java/lang/IllegalStateException" then -1003 else -1001
theorem zcd_I (S : zSt) : zcd (.inr ("java/lang/IllegalStateException", S)) = -1003 := by
  show (if "java/lang/IllegalStateException" = "java/lang/IllegalStateException" then (-1003 : Int) else -1001) = -1003
  exact if_pos rfl
theorem zcd_O (S : zSt) : zcd (.inr ("java/lang/IndexOutOfBoundsException", S)) = -1001 := by
  show (if "java/lang/IndexOutOfBoundsException" = "java/lang/IllegalStateException" then (-1003 : Int) else -1001) = -1001
  exact if_neg (by decide)
def zMw (l : Launch) (y : MethodName) (cy : ByteArray) (mL : Nat) (hh : List (Nat × Nat × Nat × Nat)) (fr lo : Nat) (D : va_G) (cI cZ : ClassId) (ads : Nat → Nat) (A : Nat → Prop) (w : zSt → va_W) (av : List Value) (S : zSt) (r : zRx) (code : Int) (S' : zSt) (PG : Prop) : Prop :=
  Met l y (.codeWith y cy mL (some .int) hh :: WS) (zroom fr lo r) (va_Pc av (fun U => va_P D vwCl (w S) U.heap ∧ zKJ D cI cZ U ∧ zT ads A U)) (va_Qi (S := Unit) (fun x _ => x = zI code ∧ PG) (fun _ t => va_P D vwCl (w S') t.heap) A) (zmc r) (zms r) A
def zup (Γ : zG) (k n : Nat) : zG := match Γ with
  | (p, l, e, R, s, m, args, below, meth, c, Q, D, A, _, _, nL) => (p, l, e, R, s, m, args, below, meth, c, Q, D, A, k, n, nL)
theorem zF.up {Γ : zG} {w : zSt → va_W} {cI cZ : ClassId} {cc : ByteArray} {rm : Room} {nL' : Nat} {own : String} (F : zF Γ w cI cZ cc rm nL' own) {k n : Nat} (hk : k ≤ rm.cells) (hn : n ≤ rm.slots) : zF (zup Γ k n) w cI cZ cc rm nL' own := by
  obtain ⟨p, l, e, R, s, m, args, below, meth, c, Q, D, A, k0, n0, nL⟩ := Γ
  exact ⟨F.1, F.2.1, F.2.2.1, F.2.2.2.1, F.2.2.2.2.1, F.2.2.2.2.2.1, F.2.2.2.2.2.2.1, F.2.2.2.2.2.2.2.1, hk, hn, F.2.2.2.2.2.2.2.2.2.2⟩
def zKN (Γ : zG) (k n : Nat) : Prop := match Γ with
  | (_, _, _, _, _, _, _, _, _, _, _, _, _, k0, n0, _) => k0 = k ∧ n0 = n
theorem zKN_up (Γ : zG) (k n : Nat) : zKN (zup Γ k n) k n := by
  obtain ⟨p, l, e, R, s, m, args, below, meth, c, Q, D, A, k0, n0, nL⟩ := Γ
  exact ⟨rfl, rfl⟩
def zWX (Γ : zG) (ads : Nat → Nat) (cI cZ : ClassId) (hh : List (Nat × Nat × Nat × Nat)) : Prop := match Γ with
  | (_, l, _, _, s, _, _, _, _, c, _, D, A, _, _, _) => l.stackTraces = false ∧ zT ads A s ∧ zKJ D cI cZ s ∧ c.exceptionTable.toList = tableOf hh
def zQw (Γ : zG) (w : zSt → va_W) (code : Int) (S' : zSt) (mc ms : Nat) (PG : Prop) : Prop := match Γ with
  | (_, _, _, _, s, _, args, below, meth, _, Q, D, A, _, _, _) => Q = MQ below (va_Qi (S := Unit) (fun x _ => x = zI code ∧ PG) (fun _ t => va_P D vwCl (w S') t.heap) A) args s mc ms A ∧ meth.sig.returnType = some .int ∧ meth.locks = false
theorem zQw_up {Γ : zG} {w : zSt → va_W} {code : Int} {S' : zSt} {mc ms : Nat} {PG : Prop} (h : zQw Γ w code S' mc ms PG) (k n : Nat) : zQw (zup Γ k n) w code S' mc ms PG := by
  obtain ⟨p, l, e, R, s, m, args, below, meth, c, Q, D, A, k0, n0, nL⟩ := Γ
  exact h
theorem Met.ofWH {l : Launch} {y : MethodName} {ws ws' : List Cond} {rm : Room} {Pc : Array Value → State → Prop} {Qc : Array Value → State → Outcome → State → Prop} {mc ms : Nat} {free : Addr → Prop} {cc : ByteArray} {maxL : Nat} {ret : Option FieldType} {hh : List (Nat × Nat × Nat × Nat)}
    (hy : plainName y.cls = true) (hw : ws = Cond.codeWith y cc maxL ret hh :: ws')
    (body : ∀ p e s m args below meth c s₁, BodyLoose p l y (headSpec ws rm) cc maxL ret e s m args below meth c s₁ → c.maxLocals = maxL → Pc args s →
      W p l e (headSpec ws rm).room s m args below meth c s.heap [] 0 0 (MQ below Qc args s mc ms free) (entryFrame m args maxL)) : Met l y ws rm Pc Qc mc ms free := by
  refine MetFree.of_bodyS (code := cc) (maxLocals := maxL) (ret := ret) hy ?_ ?_
  · intro args s m h hn
    obtain ⟨m9, meth, c, hn9, h1, h2, h3, h4, -, h5, h6, -⟩ := Cond.codeWith_spec (atoms_spec (ws := ws) h _ (by rw [hw]; exact List.mem_cons_self))
    cases hn.symm.trans hn9
    exact ⟨meth, c, h1, h2, h3, h4, h5, h6⟩
  · intro p e s m args below meth c s₁ B hml hP _
    have hh0 : s₁.heap = s.heap := by rw [B.state]; rfl
    obtain ⟨t, a1, o, b1, b2, b3⟩ := body p e s m args below meth c s₁ B hml hP s₁ hh0 (Stand.of_body B)
    exact ⟨t, o, a1, b1, b2, ⟨b3.1, b3.2⟩⟩
theorem k_startW {l : Launch} {y : MethodName} {cc : ByteArray} {maxL : Nat} {hh : List (Nat × Nat × Nat × Nat)} {fr lo : Nat} {D : va_G} {cI cZ : ClassId} {ads : Nat → Nat} {A : Nat → Prop} {w : zSt → va_W} {G : zSt → Prop} {av : List Value} {S : zSt} {r : zRx} {code : Int} {S' : zSt} {PG : Prop} (hy : plainName y.cls = true) (hst : l.stackTraces = false) (hD : ∀ S, va_D A (w S)) (hG : G S) (hlen : (lg_sl av).length ≤ maxL)
    (body : ∀ Γ : zG, zF Γ w cI cZ cc (zroom fr lo r) maxL y.cls → zWX Γ ads cI cZ hh → zKN Γ 0 0 → zQw Γ w code S' (zmc r) (zms r) PG → zk Γ w G S (lv_args 0 av) 0 []) : zMw l y cc maxL hh fr lo D cI cZ ads A w av S r code S' PG := by
  refine Met.ofWH (cc := cc) (maxL := maxL) (ret := some .int) (hh := hh) hy rfl ?_
  intro p e s m args below meth c s₁ B hml hv
  obtain ⟨rfl, hP, hK, hT⟩ := hv
  have hts := atoms_spec (ws := .codeWith y cc maxL (some .int) hh :: WS) B.pre
  have hown : s.vm.findClass y.cls = some m.cls := findClass_of_methodNamed B.named
  have hl := lv_entry av (n := maxL) hlen
  rw [lg_entry_eq]
  exact body (p, l, e, _, s, m, _, below, meth, c, _, D, A, 0, 0, maxL) ⟨B.exec, B.bytes, hml, hown, fun w hw => hts w (List.mem_cons_of_mem _ hw), hK.zK, hD, rfl, Nat.zero_le _, Nat.zero_le _, rfl⟩ ⟨hst, hT, hK, vx_table (x := y) B (hts _ List.mem_cons_self)⟩ ⟨rfl, rfl⟩ ⟨rfl, B.returns, B.notSynchronized⟩ hG s.heap [] _ hP va_S.rf hl
section RowsW
variable {Γ : zG} {w : zSt → va_W} {cI cZ : ClassId} {ad : Nat → Nat} {cc : ByteArray} {fr lo nL' : Nat} {own : String} {G : zSt → Prop} {S : zSt} {lv : List (Nat × Value)} {pc : Nat} {st : List Value} {ads : Nat → Nat} {r : zRx} {hh : List (Nat × Nat × Nat × Nat)} {rm : Room}
theorem k_iretW (F : zF Γ w cI cZ cc rm nL' own) {code v : Int} {S' : zSt} {mc ms : Nat} {PG : Prop} (hQ : zQw Γ w code S' mc ms PG) (hPG : G S → PG) (hkn : zKN Γ mc ms) (hv : v = code) (hS9 : S = S') (hd : decode cc pc = .ok (.ireturn, 1)) : zk Γ w G S lv pc [.int (zI v)] := by
  obtain ⟨p, l, e, R, s, m, args, below, meth, c, Q, D, A, k0, n0, nL⟩ := Γ
  obtain ⟨hx, hb, hml, hown, hts, ⟨hK, hN⟩, hD, rfl, hk0, hn0, rfl⟩ := F
  obtain ⟨rfl, hr, hlk⟩ := hQ
  obtain ⟨rfl, rfl⟩ := hkn
  subst hv
  subst hS9
  intro hG H locs ls hP hS hh
  exact W.iret hx hb hr (fun t ht hW => ⟨⟨_, (), rfl, ⟨rfl, hPG hG⟩, by show va_P D vwCl (w S) t.heap; rw [ht]; exact hP⟩, hS.F ht⟩) hS.2.2 hd hlk
theorem k_callW (F : zF Γ w cI cZ cc (zroom fr lo r) nL' own) (X : zWX Γ ads cI cZ hh) (hkn : zKN Γ 0 0) {a : Nat} {y : MethodName} {cy : ByteArray} {mL n idx fr2 lo2 : Nat} {As : List Value} (hc : zCal RX8 y cy mL (some .int) n) (ho : zOb w a RX8) (hl : Cond.methodLink own idx y ∈ WS)
    (hM : ∀ (l : Launch) (D : va_G) (A : Nat → Prop), l.stackTraces = false → (∀ S, va_D A (w S)) → G S → zMr l y cy mL (some .int) fr2 lo2 D cI cZ ads A w G (.ref a :: As) S r)
    (hR : fr2 + 1 ≤ fr ∧ 8 + (mL + 11) + lo2 ≤ lo) (hn : As.length = n) {st0 : List Value} (hst0 : st0 = As.reverse ++ .ref a :: st) (hW : (st.map fun v => v.category).sum ≤ 8) (hd : decode cc pc = .ok (.invokevirtual idx, 3))
    (kk : ∀ x C', r = .inl (x, C') → inR x → zk Γ w G C' lv (pc + 3) (.int (zI x) :: st))
    (kx : ∀ E C', r = .inr (E, C') → ∃ pre x suf, tableOf hh = pre ++ x :: suf ∧ (∀ z ∈ pre, z.catchType ≠ 0 ∧ ∃ nm : String, Cond.classLink own z.catchType nm ∈ WS ∧ (E, nm) ∈ zNCP) ∧ covers x pc = true ∧ x.catchType ≠ 0 ∧ Cond.classLink own x.catchType E ∈ WS ∧ E ∈ zCAS ∧ ∀ q9 : Nat, zk (zup Γ 1 6) w G C' lv x.handlerPc [.ref q9]) : zk Γ w G S lv pc st0 := by
  obtain ⟨p, l, e, R, s, m, args, below, meth, c, Q, D, A, k0, n0, nL⟩ := Γ
  obtain ⟨hx, hb, hml, hown, hts, ⟨hK, hN⟩, hD, rfl, hk0, hn0, rfl⟩ := F
  obtain ⟨hst, hT, hKJ, htab⟩ := X
  obtain ⟨rfl, rfl⟩ := hkn
  obtain ⟨c1, c2, c3, c4, c5, c6, c7⟩ := hc
  have hg : GoodIn WS (wsV own idx RX8 y (Cond.code y cy mL (some .int) :: WS)) := WS_sub (fun _ h => h) (fun w hw => by
    simp only [wsV, List.mem_append, List.mem_cons, List.not_mem_nil, or_false] at hw
    rcases hw with (rfl | rfl | rfl | rfl) | rfl | hw
    · exact hl
    · exact c1
    · exact c2
    · exact c3
    · exact c4
    · exact hw)
  intro hG H locs ls hP hS hh2
  have hpc : ∀ U : State, U.heap = H → s.WarmedH U.vm → zPc D cI cZ ads A w (.ref a :: As) S (Value.ref a :: As).toArray U := fun U hU hW => ⟨rfl, by rw [hU]; exact hP, zK.warm hW ⟨hK, hN⟩, zT.go hW (by rw [hU]; exact hS.2.1) hT⟩
  have hM1 := hM l D A hst hD hG
  subst hst0
  cases r with
  | inl q =>
    refine va_calli (va_runV (As := As) (rest := st) ⟨hx, hb, hml, hown, hts⟩ hM1 (cwV n hts hg rfl rfl rfl ⟨c5, c6.1, c6.2, c7⟩ ⟨hR.1, hR.2⟩) ⟨zPc.blind, ho.recv (S := S) hK hP, hpc⟩ rfl hn hh2.1 rfl (lv_room hW) hd ⟨Nat.zero_le _, Nat.zero_le _⟩) hS (fun q _ h => h) (fun q h => h) (fun r0 u t H1 locs1 ht hvm hw hB hz1 hk1 hS1 => ?_)
    obtain ⟨rfl, hx1, hG1, h01⟩ := hw
    rw [ht] at hB
    exact kk q.1 q.2 rfl hx1 hG1 H1 locs1 ls hB hS1 hh2
  | inr q =>
    refine vx_callv (vx_runV (As := As) (rest := st) ⟨hx, hb, hml, hown, hts⟩ hM1 (cwV n hts hg rfl rfl rfl ⟨c5, c6.1, c6.2, c7⟩ ⟨hR.1, hR.2⟩) ⟨zPc.blind, ho.recv (S := S) hK hP, hpc⟩ rfl hn hh2.1 rfl (lv_room hW) hd ⟨Nat.le_refl 1, Nat.le_refl 6⟩) hS (fun q _ h => h) (fun q h => h) (fun q _ h => h) (fun E ce q9 u t H1 locs1 ht hvm hw hB hz1 hk1 hS1 hce hcv hcl => ?_) (fun u t H1 locs1 ht hvm hw hB hz1 hk1 hS1 => hw.elim)
    rw [ht] at hB
    obtain ⟨rfl, hB⟩ := hB
    obtain ⟨pre, x, suf, e1, e2, e3, e4, e5, e6, e7⟩ := kx q.1 q.2 rfl
    exact vx_catch hown pre x suf (htab.trans e1) (fun z hz => Or.inr ⟨(e2 z hz).1, (e2 z hz).2.choose, hts _ (e2 z hz).2.choose_spec.1, hKJ.2 _ (e2 z hz).2.choose_spec.2⟩) e3 e4 (hts _ e5) (va_Nw.use rfl (hT.2.2.2.1 _ e6)) hce hcv hcl (e7 q9 hw H1 locs1 ls hB hS1 hh2)
theorem k_pop (F : zF Γ w cI cZ cc rm nL' own) {v : Value} (hv : v.category = 1) (hd : decode cc pc = .ok (.pop, 1)) (kk : zk Γ w G S lv (pc + 1) st) : zk Γ w G S lv pc (v :: st) := by
  obtain ⟨p, l, e, R, s, m, args, below, meth, c, Q, D, A, k0, n0, nL⟩ := Γ
  obtain ⟨hx, hb, hml, hown, hts, ⟨hK, hN⟩, hD, rfl, hk0, hn0, rfl⟩ := F
  intro hG H locs ls hP hS hh
  exact lv_pop hx hb hd hv (kk hG H locs ls hP hS hh)
end RowsW
/-! division of any number, by what is above 0; a sum of any two -/
def zdq {R : Type} (a b : Int) (K : Int → Option R) : Option R := if 0 < b then K (zI a / zI b).toInt else none
theorem zdq_e {R : Type} {a b : Int} {K : Int → Option R} {r : R} (h : zdq a b K = some r) : 0 < b ∧ K (zI a / zI b).toInt = some r := by
  unfold zdq at h
  by_cases c : 0 < b
  · rw [if_pos c] at h; exact ⟨c, h⟩
  · rw [if_neg c] at h; cases h
def zwa (a b : Int) : Int := (zI a + zI b).toInt
def zu (x : Int32) (k : Int32) : Int32 := (x.toUInt32 >>> (k.toUInt32 &&& Int32.toUInt32 31)).toInt32
theorem zu_nn (x : Int32) : 0 ≤ (zu x 2).toInt := by
  have e0 : ((2 : Int32).toUInt32 &&& Int32.toUInt32 31) = 2 := by decide
  have e1 : (x.toUInt32 >>> (2 : UInt32)).toNat < 2 ^ 31 := by
    rw [UInt32.toNat_shiftRight]
    have h1 : x.toUInt32.toNat < 2 ^ 32 := UInt32.toNat_lt _
    show x.toUInt32.toNat >>> 2 < 2 ^ 31
    rw [Nat.shiftRight_eq_div_pow]
    omega
  have e2 : zu x 2 = nI (x.toUInt32 >>> (2 : UInt32)).toNat := by
    unfold zu
    rw [e0]
    generalize x.toUInt32 >>> (2 : UInt32) = y
    apply Int32.toBitVec_inj.1
    show y.toBitVec = BitVec.ofNat 32 y.toBitVec.toNat
    simp
  rw [e2, nI_toInt e1]
  omega
/-- (v >>> 2) % n -/
def upv (a n : Int) : Int := (zu (zI a) 2).toInt % n
theorem upv_in {a n : Int} (h : 0 < n) : 0 ≤ upv a n ∧ upv a n < n := ⟨Int.emod_nonneg _ (by omega), Int.emod_lt_of_pos _ h⟩
def m_L_up (S : zSt) (a n : Int) : Option zRes := if 0 < n then some (upv a n, S) else none
def sx (xs : Nat → Int32) (i : Int) : Int := (xs i.toNat).toInt
theorem sx_in (xs : Nat → Int32) (i : Int) : inR (sx xs i) := inR_of _
theorem sx_z (xs : Nat → Int32) (i : Int) : zI (sx xs i) = xs i.toNat := zI_of _
/-- the cell k of a script -/
def cel9 (L : Nat) (xs : Nat → Int32) (k : Int) : Int := if (L : Int) = 0 then 0 else zwa (sx xs (k % (L : Int))) (31 * k)
def zce {R : Type} (cel : Int → Int) (k : Int) (K : Int → Option R) : Option R := if 0 ≤ k ∧ k < 200 then K (cel k) else none
theorem zI_ofN {n : Nat} (h : n < 2147483648) : Int32.ofNat n = zI (n : Int) := by
  apply Int32.toInt_inj.mp
  rw [zI_toInt ⟨by omega, by omega⟩]
  exact nI_toInt (by omega)
def zSX (Γ : zG) (b L : Nat) (xs : Nat → Int32) : Prop := match Γ with
  | (_, _, _, _, s, _, _, _, _, _, _, _, A, _, _, _) => va_X b L xs s s.heap ∧ b < s.heap.size ∧ ¬ A b
section RowsS
variable {Γ : zG} {w : zSt → va_W} {cI cZ : ClassId} {cc : ByteArray} {nL' : Nat} {own : String} {G : zSt → Prop} {S : zSt} {lv : List (Nat × Value)} {pc : Nat} {st : List Value} {rm : Room} {b L : Nat} {xs : Nat → Int32}
theorem k_idivq (F : zF Γ w cI cZ cc rm nL' own) {R : Type} {r : R} {a b : Int} {K : Int → Option R} (hb9 : inR b) (hd : decode cc pc = .ok (.idiv, 1)) (h : zdq a b K = some r) (kk : ∀ x, inR x → K x = some r → zk Γ w G S lv (pc + 1) (.int (zI x) :: st)) : zk Γ w G S lv pc (.int (zI b) :: .int (zI a) :: st) := by
  obtain ⟨p, l, e, R, s, m, args, below, meth, c, Q, D, A, k0, n0, nL⟩ := Γ
  obtain ⟨hx, hb, hml, hown, hts, ⟨hK, hN⟩, hD, rfl, hk0, hn0, rfl⟩ := F
  obtain ⟨h1, h2⟩ := zdq_e h
  intro hG H locs ls hP hS hh
  refine lv_idiv hx hb hd (fun q => ?_) ?_
  · rw [zI_zero, zI_eq hb9 inR_0] at q; omega
  rw [← zI_of (zI a / zI b)]
  exact kk _ (inR_of _) h2 hG H locs ls hP hS hh
theorem k_iaddw (F : zF Γ w cI cZ cc rm nL' own) {a b : Int} (hd : decode cc pc = .ok (.iadd, 1)) (kk : zk Γ w G S lv (pc + 1) (.int (zI (zwa a b)) :: st)) : zk Γ w G S lv pc (.int (zI b) :: .int (zI a) :: st) := by
  obtain ⟨p, l, e, R, s, m, args, below, meth, c, Q, D, A, k0, n0, nL⟩ := Γ
  obtain ⟨hx, hb, hml, hown, hts, ⟨hK, hN⟩, hD, rfl, hk0, hn0, rfl⟩ := F
  intro hG H locs ls hP hS hh
  refine lv_iadd hx hb hd ?_
  rw [← zI_of (zI a + zI b)]
  exact kk hG H locs ls hP hS hh
theorem k_ushr2 (F : zF Γ w cI cZ cc rm nL' own) {a : Int} (hd : decode cc pc = .ok (.iushr, 1)) (kk : zk Γ w G S lv (pc + 1) (.int (zI (zu (zI a) 2).toInt) :: st)) : zk Γ w G S lv pc (.int (zI 2) :: .int (zI a) :: st) := by
  obtain ⟨p, l, e, R, s, m, args, below, meth, c, Q, D, A, k0, n0, nL⟩ := Γ
  obtain ⟨hx, hb, hml, hown, hts, ⟨hK, hN⟩, hD, rfl, hk0, hn0, rfl⟩ := F
  intro hG H locs ls hP hS hh
  refine lv_iushr (v := zu (zI a) 2) hx hb hd rfl ?_
  rw [← zI_of (zu (zI a) 2)]
  exact kk hG H locs ls hP hS hh
theorem k_slen (F : zF Γ w cI cZ cc rm nL' own) (X : zSX Γ b L xs) (hL : L ≤ 260) (hd : decode cc pc = .ok (.arraylength, 1)) (kk : zk Γ w G S lv (pc + 1) (.int (zI (L : Int)) :: st)) : zk Γ w G S lv pc (.ref b :: st) := by
  obtain ⟨p, l, e, R, s, m, args, below, meth, c, Q, D, A, k0, n0, nL⟩ := Γ
  obtain ⟨hx, hb, hml, hown, hts, ⟨hK, hN⟩, hD, rfl, hk0, hn0, rfl⟩ := F
  obtain ⟨hX, hbl, hbA⟩ := X
  intro hG H locs ls hP hS hh
  refine va_slen hx hb hX hbl hbA hS hd ?_
  rw [zI_ofN (by omega)]
  exact kk hG H locs ls hP hS hh
theorem k_sld (F : zF Γ w cI cZ cc rm nL' own) (X : zSX Γ b L xs) {i : Int} (hi : 0 ≤ i ∧ i < L) (hL : L ≤ 260) (hd : decode cc pc = .ok (.iaload, 1)) (kk : zk Γ w G S lv (pc + 1) (.int (zI (sx xs i)) :: st)) : zk Γ w G S lv pc (.int (zI i) :: .ref b :: st) := by
  obtain ⟨p, l, e, R, s, m, args, below, meth, c, Q, D, A, k0, n0, nL⟩ := Γ
  obtain ⟨hx, hb, hml, hown, hts, ⟨hK, hN⟩, hD, rfl, hk0, hn0, rfl⟩ := F
  obtain ⟨hX, hbl, hbA⟩ := X
  intro hG H locs ls hP hS hh
  have hi9 : inR i := ⟨by omega, by omega⟩
  refine va_sld hx hb hX hbl hbA hS (zvp_in hi9 hi) hd ?_
  rw [zI_clamp hi9, ← sx_z xs i]
  exact kk hG H locs ls hP hS hh
end RowsS
theorem c_L_up {l : Launch} {D : va_G} {A : Nat → Prop} {cI cZ : ClassId} {w : zSt → va_W} {G : zSt → Prop} (hD : ∀ S, va_D A (w S)) {S : zSt} (hG : G S) {a1 : Int} (ra1 : inR a1) {a2 : Int} (ra2 : inR a2) {x : Int} {S' : zSt} (h : m_L_up S a1 a2 = some (x, S')) : zMi l yL_up cL_up 2 .int { frames := 0, cells := 0, slots := 0, locals := 0 } D cI cZ A w G [.int (zI a1), .int (zI a2)] S x S' := by
  unfold m_L_up at h
  by_cases c : 0 < a2
  case neg => rw [if_neg c] at h; cases h
  rw [if_pos c] at h
  refine k_start_i (by decide +kernel) hD hG (Nat.le_of_ble_eq_true rfl) (fun Γ F hQ => ?_)
  refine k_sub [0, 1] (lv' := [(0, .int (zI a1)), (1, .int (zI a2))]) rfl ?_
  refine k_iload_n F dL_up_0 rfl 0 rfl ?_
  refine k_iconst F dL_up_1 ?_
  refine k_ushr2 F dL_up_2 ?_
  refine k_iload_n F dL_up_3 rfl 1 rfl ?_
  refine k_irem (R := zRes) (r := (x, S')) (K := fun y => some (y, S)) F (inR_of _) ra2 dL_up_4 (by unfold zrm; rw [if_pos ⟨zu_nn _, c⟩]; exact h) (fun y ry h2 => ?_)
  exact k_iret F hQ ry dL_up_5 h2
def cLq (L : Nat) (xs : Nat → Int32) (k : Int) (D : va_G) : Array Value → State → Outcome → State → Prop := va_Qi (S := Unit) (fun v _ => v = zI (cel9 L xs k) ∧ inR (cel9 L xs k) ∧ True ∧ ((FieldType.int : FieldType) = .boolean → cel9 L xs k = 0 ∨ cel9 L xs k = 1)) (fun _ t => va_P D vwCl ([] : va_W) t.heap) (fun _ => False)
theorem c_L_cell {l : Launch} {D : va_G} {cI cZ : ClassId} {b L : Nat} {xs : Nat → Int32} (hL : L ≤ 260) {k : Int} (hk : 0 ≤ k ∧ k < 200) : Met l yL_cell (.code yL_cell cL_cell 2 (some .int) :: WS) { frames := 0, cells := 0, slots := 0, locals := 0 } (va_Pc [.ref b, .int (zI k)] (fun U => va_X b L xs U U.heap ∧ b < U.heap.size ∧ zK D cI cZ U)) (cLq L xs k D) 0 0 (fun _ => False) := by
  refine Met.ofW (cc := cL_cell) (maxL := 2) (ret := some .int) (by decide +kernel) rfl ?_
  intro p e s m args below meth c s₁ B hml hv
  obtain ⟨rfl, hX, hbl, hK⟩ := hv
  have hts := atoms_spec (ws := .code yL_cell cL_cell 2 (some .int) :: WS) B.pre
  have hown : s.vm.findClass yL_cell.cls = some m.cls := findClass_of_methodNamed B.named
  have hl := lv_entry [.ref b, .int (zI k)] (n := 2) (Nat.le_of_ble_eq_true rfl)
  rw [lg_entry_eq]
  obtain ⟨Γ, hΓ⟩ : ∃ Γ : zG, Γ = (p, l, e, _, s, m, _, below, meth, c, _, D, (fun _ : Nat => False), 0, 0, 2) := ⟨(p, l, e, (headSpec (.code yL_cell cL_cell 2 (some .int) :: WS) { frames := 0, cells := 0, slots := 0, locals := 0 }).room, s, m, #[Value.ref b, .int (zI k)], below, meth, c, MQ below (cLq L xs k D) #[Value.ref b, .int (zI k)] s 0 0 (fun _ => False), D, (fun _ : Nat => False), 0, 0, 2), rfl⟩
  have F : zF Γ (fun _ => ([] : va_W)) cI cZ cL_cell { frames := 0, cells := 0, slots := 0, locals := 0 } 2 RL := by
    rw [hΓ]
    exact ⟨B.exec, B.bytes, hml, hown, fun w hw => hts w (List.mem_cons_of_mem _ hw), hK, fun _ => ⟨fun i j p q h => by simp at h, fun k q h => by simp at h⟩, rfl, Nat.zero_le _, Nat.zero_le _, rfl⟩
  have X : zSX Γ b L xs := by
    rw [hΓ]
    exact ⟨hX, hbl, fun h => h⟩
  have hQ : zQi Γ (fun _ => ([] : va_W)) (fun _ => True) .int (cel9 L xs k) zS0 := by
    rw [hΓ]
    exact ⟨rfl, rfl, rfl, B.returns, B.notSynchronized⟩
  suffices hz : zk Γ (fun _ => ([] : va_W)) (fun _ => True) zS0 [(0, .ref b), (1, .int (zI k))] 0 [] by
    rw [hΓ] at hz
    exact hz trivial s.heap [] _ (fun k q h => by simp at h) va_S.rf (lv_sub hl [0, 1] rfl)
  clear hΓ
  have hk9 : inR k := ⟨by omega, by omega⟩
  refine k_aload_n F dL_cell_0 rfl 0 rfl ?_
  refine k_slen F X hL dL_cell_1 ?_
  by_cases c : (L : Int) = 0
  · refine k_if_ne (R := Unit) (r := ()) (A := none) (B := some ()) F ⟨by omega, by omega⟩ (tgt := 9) dL_cell_2 (by decide) (if_pos c) (fun z => by cases z) (fun _ => ?_)
    refine k_iconst F dL_cell_5 ?_
    refine k_goto F (tgt := 20) dL_cell_6 (by decide) ?_
    exact k_iret F hQ inR_0 dL_cell_20 (by unfold cel9; rw [if_pos c])
  · refine k_if_ne (R := Unit) (r := ()) (A := some ()) (B := none) F ⟨by omega, by omega⟩ (tgt := 9) dL_cell_2 (by decide) (if_neg c) (fun _ => ?_) (fun z => by cases z)
    refine k_aload_n F dL_cell_9 rfl 0 rfl ?_
    refine k_iload_n F dL_cell_10 rfl 1 rfl ?_
    refine k_aload_n F dL_cell_11 rfl 0 rfl ?_
    refine k_slen F X hL dL_cell_12 ?_
    refine k_irem (R := Unit) (r := ()) (K := fun y => if y = k % (L : Int) then some () else none) F hk9 ⟨by omega, by omega⟩ dL_cell_13 (by unfold zrm; rw [if_pos ⟨hk.1, by omega⟩]; exact if_pos rfl) (fun y ry ey => ?_)
    have ey : y = k % (L : Int) := by
      by_cases q : y = k % (L : Int)
      · exact q
      · rw [if_neg q] at ey; cases ey
    subst ey
    refine k_sld F X ⟨Int.emod_nonneg _ c, Int.emod_lt_of_pos _ (by omega)⟩ hL dL_cell_14 ?_
    refine k_bipush F dL_cell_15 bp_31 ?_
    refine k_iload_n F dL_cell_17 rfl 1 rfl ?_
    refine k_imul (R := Unit) (r := ()) (K := fun y => if y = 31 * k then some () else none) F dL_cell_18 (by unfold zar; rw [if_pos (⟨by omega, by omega⟩ : inR (31 * k))]; exact if_pos rfl) (fun y ry2 ey => ?_)
    have ey : y = 31 * k := by
      by_cases q : y = 31 * k
      · exact q
      · rw [if_neg q] at ey; cases ey
    subst ey
    refine k_iaddw F dL_cell_19 ?_
    exact k_iret F hQ (inR_of _) dL_cell_20 (by unfold cel9; rw [if_neg c])
set_option maxRecDepth 100000 in
theorem c_L_comment {l : Launch} {D : va_G} {A : Nat → Prop} {cI cZ : ClassId} {ad ads : Nat → Nat} (hst : l.stackTraces = false) (hD : ∀ S, va_D A (wC cI cZ ad S)) {C : zSt} (hGC : RG bsC C) {a1 : Int} (ra1 : inR a1) {a2 : Int} (ra2 : inR a2) (h0 : 0 ≤ a1) {r : zRx} (h : m_X8_comment C 0 0 4 a1 a2 1 (a1 % 2) = some r) (hE : ∀ E C', r = .inr (E, C') → E ∈ (["java/lang/IllegalStateException"] : List String)) : zMw l yL_comment cL_comment 4 [(0, 13, 14, 13)] 8 141 D cI cZ ads A (wC cI cZ ad) [.ref (ad 0), .int (zI a1), .int (zI a2)] C r (zcd r) (zrs r) (inR (zcd r) ∧ RG bsC (zrs r)) := by
  refine k_startW (by decide +kernel) hst hD hGC (Nat.le_of_ble_eq_true rfl) (fun Γ F X hkn hQ => ?_)
  have F : zF Γ (wC cI cZ ad) cI cZ cL_comment (zroom 8 141 r) 4 RL := F
  refine k_sub [0, 1, 2] (lv' := [(0, .ref (ad 0)), (1, .int (zI a1)), (2, .int (zI a2))]) rfl ?_
  refine k_aload_n F dL_comment_0 rfl 0 rfl ?_
  refine k_iconst F dL_comment_1 ?_
  refine k_iconst F dL_comment_2 ?_
  refine k_iconst F dL_comment_3 ?_
  refine k_iload_n F dL_comment_4 rfl 1 rfl ?_
  refine k_iload_n F dL_comment_5 rfl 2 rfl ?_
  refine k_iconst F dL_comment_6 ?_
  refine k_iload_n F dL_comment_7 rfl 1 rfl ?_
  refine k_iconst F dL_comment_8 ?_
  refine k_irem (R := Unit) (r := ()) (K := fun y => if y = a1 % 2 then some () else none) F ra1 (by decide) dL_comment_9 (by unfold zrm; rw [if_pos ⟨h0, by decide⟩]; exact if_pos rfl) (fun y ry ey => ?_)
  have ey : y = a1 % 2 := by
    by_cases q : y = a1 % 2
    · exact q
    · rw [if_neg q] at ey; cases ey
  subst ey
  refine k_callW F X hkn cal_X8_comment (obC_0 cI cZ ad) wm_292 (fun l D A hst hD hG => c_X8_comment hst hD hG iR_0 iR_0 iR_4 ra1 ra2 iR_1 ry h) ⟨Nat.le_of_ble_eq_true rfl, Nat.le_of_ble_eq_true rfl⟩ rfl rfl (Nat.le_of_ble_eq_true rfl) dL_comment_10 (fun x C' e rx => ?_) (fun E C' e => ?_)
  · subst e
    exact k_iretW F hQ (fun hG => ⟨rx, hG⟩) hkn rfl rfl dL_comment_13
  · have hm := hE E C' e
    subst e
    rcases List.mem_cons.mp hm with rfl | hm
    · refine ⟨[], ⟨0, 13, 14, 13⟩, [], rfl, (fun z hz => by cases hz), by decide, by decide, wm_290, by decide, fun q9 => ?_⟩
      have F2 := F.up (k := 1) (n := 6) (Nat.le_refl 1) (Nat.le_refl 6)
      refine k_at (pc' := 14) rfl ?_
      refine k_astore_n F2 dL_comment_14 rfl (by decide) (lv' := [(3, .ref q9), (0, .ref (ad 0)), (1, .int (zI a1)), (2, .int (zI a2))]) rfl ?_
      refine k_sipush F2 dL_comment_15 sp_m1003 ?_
      exact k_iretW F2 (zQw_up hQ 1 6) (fun hG => ⟨by rw [zcd_I]; decide, hG⟩) (zKN_up Γ 1 6) (zcd_I _).symm rfl dL_comment_18
    exact absurd hm List.not_mem_nil
set_option maxRecDepth 100000 in
theorem c_L_emend {l : Launch} {D : va_G} {A : Nat → Prop} {cI cZ : ClassId} {ad ads : Nat → Nat} (hst : l.stackTraces = false) (hD : ∀ S, va_D A (wC cI cZ ad S)) {C : zSt} (hGC : RG bsC C) {a1 : Int} (ra1 : inR a1) {a2 : Int} (ra2 : inR a2) (h0 : (0 : Int) ≤ 0) {r : zRx} (h : m_X8_emend C 0 a1 a2 = some r) (hE : ∀ E C', r = .inr (E, C') → E ∈ (["java/lang/IndexOutOfBoundsException", "java/lang/IllegalStateException"] : List String)) : zMw l yL_emend cL_emend 4 [(0, 7, 8, 19), (0, 7, 13, 13)] 8 160 D cI cZ ads A (wC cI cZ ad) [.ref (ad 0), .int (zI a1), .int (zI a2)] C r (zcd r) (zrs r) (inR (zcd r) ∧ RG bsC (zrs r)) := by
  refine k_startW (by decide +kernel) hst hD hGC (Nat.le_of_ble_eq_true rfl) (fun Γ F X hkn hQ => ?_)
  have F : zF Γ (wC cI cZ ad) cI cZ cL_emend (zroom 8 160 r) 4 RL := F
  refine k_sub [0, 1, 2] (lv' := [(0, .ref (ad 0)), (1, .int (zI a1)), (2, .int (zI a2))]) rfl ?_
  refine k_aload_n F dL_emend_0 rfl 0 rfl ?_
  refine k_iconst F dL_emend_1 ?_
  refine k_iload_n F dL_emend_2 rfl 1 rfl ?_
  refine k_iload_n F dL_emend_3 rfl 2 rfl ?_
  refine k_callW F X hkn cal_X8_emend (obC_0 cI cZ ad) wm_299 (fun l D A hst hD hG => c_X8_emend hst hD hG iR_0 ra1 ra2 h) ⟨Nat.le_of_ble_eq_true rfl, Nat.le_of_ble_eq_true rfl⟩ rfl rfl (Nat.le_of_ble_eq_true rfl) dL_emend_4 (fun x C' e rx => ?_) (fun E C' e => ?_)
  · subst e
    exact k_iretW F hQ (fun hG => ⟨rx, hG⟩) hkn rfl rfl dL_emend_7
  · have hm := hE E C' e
    subst e
    rcases List.mem_cons.mp hm with rfl | hm
    · refine ⟨[], ⟨0, 7, 8, 19⟩, [⟨0, 7, 13, 13⟩], rfl, (fun z hz => by cases hz), by decide, by decide, wm_291, by decide, fun q9 => ?_⟩
      have F2 := F.up (k := 1) (n := 6) (Nat.le_refl 1) (Nat.le_refl 6)
      refine k_at (pc' := 8) rfl ?_
      refine k_astore_n F2 dL_emend_8 rfl (by decide) (lv' := [(3, .ref q9), (0, .ref (ad 0)), (1, .int (zI a1)), (2, .int (zI a2))]) rfl ?_
      refine k_sipush F2 dL_emend_9 sp_m1001 ?_
      exact k_iretW F2 (zQw_up hQ 1 6) (fun hG => ⟨by rw [zcd_O]; decide, hG⟩) (zKN_up Γ 1 6) (zcd_O _).symm rfl dL_emend_12
    rcases List.mem_cons.mp hm with rfl | hm
    · refine ⟨[⟨0, 7, 8, 19⟩], ⟨0, 7, 13, 13⟩, [], rfl, (fun z hz => by
        simp only [List.mem_cons, List.not_mem_nil, or_false] at hz
        subst hz
        exact ⟨by decide, _, wm_291, by decide⟩), by decide, by decide, wm_290, by decide, fun q9 => ?_⟩
      have F2 := F.up (k := 1) (n := 6) (Nat.le_refl 1) (Nat.le_refl 6)
      refine k_at (pc' := 13) rfl ?_
      refine k_astore_n F2 dL_emend_13 rfl (by decide) (lv' := [(3, .ref q9), (0, .ref (ad 0)), (1, .int (zI a1)), (2, .int (zI a2))]) rfl ?_
      refine k_sipush F2 dL_emend_14 sp_m1003 ?_
      exact k_iretW F2 (zQw_up hQ 1 6) (fun hG => ⟨by rw [zcd_I]; decide, hG⟩) (zKN_up Γ 1 6) (zcd_I _).symm rfl dL_emend_17
    exact absurd hm List.not_mem_nil
