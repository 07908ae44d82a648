/-! THE LAW'S WRAPPERS: a call that may throw, its answer laid into out, or the place of the exception returned -/
def lI (x : Int) : Int64 := Int64.ofInt x
theorem lI_of {x : Int} (h : inR x) : (zI x).toInt64 = lI x := by
  rw [← Int64.ofInt_int32ToInt, zI_toInt h]; rfl
def zmx (C : zSt) (v : Int) : zSt := (fun q => if q = 1000 then v else C.1 q, C.2)
def wW (cI cZ cJ : ClassId) (ad : Nat → Nat) (o : Nat) (S : zSt) : va_W := wC cI cZ ad S ++ [(o, .inl (cJ, 1, .inr (.inl (fun _ => lI (S.1 1000)))))]
theorem wW_zmx (cI cZ cJ : ClassId) (ad : Nat → Nat) (o : Nat) (C : zSt) (v : Int) : wW cI cZ cJ ad o (zmx C v) = wC cI cZ ad C ++ [(o, .inl (cJ, 1, .inr (.inl (fun _ => lI v))))] := rfl
def ZC (ad : Nat → Nat) (n : Nat) : Nat → Prop := fun q => ∃ k, k < n ∧ q = ad k
def zNCP : List (String × String) := [("java/lang/IllegalStateException", "java/lang/IllegalArgumentException"), ("java/lang/IndexOutOfBoundsException", "java/lang/IllegalArgumentException"), ("java/lang/IllegalArgumentException", "java/lang/IllegalStateException"), ("java/lang/IndexOutOfBoundsException", "java/lang/IllegalStateException"), ("java/lang/IllegalArgumentException", "java/lang/IndexOutOfBoundsException"), ("java/lang/IllegalStateException", "java/lang/IndexOutOfBoundsException")]
theorem zix {w1 : va_W} {ad : Nat → Nat} {n : Nat} (hm : w1.map Prod.fst = (List.range n).map ad) {k : Nat} {q : Nat × va_E} (h : w1[k]? = some q) : q.1 = ad k ∧ k < n := by
  have e1 : (w1.map Prod.fst)[k]? = some q.1 := by rw [List.getElem?_map, h]; rfl
  rw [hm, List.getElem?_map] at e1
  by_cases hk : k < n
  · rw [List.getElem?_range hk] at e1
    exact ⟨(Option.some.inj e1).symm, hk⟩
  · rw [List.getElem?_eq_none (by simp; omega)] at e1
    cases e1
theorem zxi {w1 : va_W} {ad : Nat → Nat} {n : Nat} (hm : w1.map Prod.fst = (List.range n).map ad) {k : Nat} (h : k < n) : ∃ q, w1[k]? = some q ∧ q.1 = ad k := by
  have e1 : (w1.map Prod.fst)[k]? = some (ad k) := by rw [hm, List.getElem?_map, List.getElem?_range h]; rfl
  rw [List.getElem?_map] at e1
  cases hq : w1[k]? with
  | none => rw [hq] at e1; cases e1
  | some q => rw [hq] at e1; exact ⟨q, rfl, Option.some.inj e1⟩
theorem zpre_D {A : Nat → Prop} {w1 ex : va_W} {ad : Nat → Nat} {n : Nat} (hm : w1.map Prod.fst = (List.range n).map ad) (hD : va_D A (w1 ++ ex)) : va_D (ZC ad n) w1 ∧ (∀ q, ZC ad n q → A q) ∧ ∀ (k : Nat) (x : Nat × va_E), ex[k]? = some x → ¬ ZC ad n x.1 := by
  have up : ∀ {k : Nat} {q : Nat × va_E}, w1[k]? = some q → (w1 ++ ex)[k]? = some q := fun {k q} h => by
    rw [List.getElem?_append_left (List.getElem?_eq_some_iff.mp h).1]; exact h
  refine ⟨⟨fun i j p q hp hq e => hD.1 i j p q (up hp) (up hq) e, fun k q hq => ?_⟩, fun q hq => ?_, fun k x hx hz => ?_⟩
  · obtain ⟨e1, e2⟩ := zix hm hq
    exact ⟨k, e2, e1⟩
  · obtain ⟨k, hk, rfl⟩ := hq
    obtain ⟨q, h1, h2⟩ := zxi hm hk
    rw [← h2]
    exact hD.2 k q (up h1)
  · obtain ⟨k2, hk, he⟩ := hz
    obtain ⟨q, h1, h2⟩ := zxi hm hk
    have h3 : (w1 ++ ex)[w1.length + k]? = some x := by rw [List.getElem?_append_right (Nat.le_add_right _ _), Nat.add_sub_cancel_left]; exact hx
    have h4 := hD.1 k2 (w1.length + k) q x (up h1) h3 (h2.trans he.symm)
    have := (List.getElem?_eq_some_iff.mp h1).1
    omega
theorem zpre_P {D : va_G} {w1 w2 ex : va_W} {ad : Nat → Nat} {n : Nat} {H H1 : Heap} (hP : va_P D vwCl (w1 ++ ex) H) (hx : ∀ (k : Nat) (x : Nat × va_E), ex[k]? = some x → ¬ ZC ad n x.1) (hk : ∀ q : Nat, q < H.size → ¬ ZC ad n q → H1[q]? = H[q]?) (hP1 : va_P D vwCl w2 H1) : va_P D vwCl (w2 ++ ex) H1 :=
  va_P.app hP1 (fun k x h => by
    have h3 : (w1 ++ ex)[w1.length + k]? = some x := by rw [List.getElem?_append_right (Nat.le_add_right _ _), Nat.add_sub_cancel_left]; exact h
    have h4 := hP _ _ h3
    exact h4.kept (hk _ h4.lt (hx k x h)))
theorem zpre_Q {D : va_G} {w1 ex : va_W} {H : Heap} (hP : va_P D vwCl (w1 ++ ex) H) : va_P D vwCl w1 H := fun k q h => hP k q (by rw [List.getElem?_append_left (List.getElem?_eq_some_iff.mp h).1]; exact h)
theorem zsuf_D {A : Nat → Prop} {w1 ex : va_W} {ad : Nat → Nat} {n : Nat} (hm : w1.map Prod.fst = (List.range n).map ad) (hD : va_D A (ex ++ w1)) : va_D (ZC ad n) w1 ∧ (∀ q, ZC ad n q → A q) ∧ ∀ (k : Nat) (x : Nat × va_E), ex[k]? = some x → ¬ ZC ad n x.1 := by
  have up : ∀ {k : Nat} {q : Nat × va_E}, w1[k]? = some q → (ex ++ w1)[ex.length + k]? = some q := fun {k q} h => by
    rw [List.getElem?_append_right (Nat.le_add_right _ _), Nat.add_sub_cancel_left]; exact h
  refine ⟨⟨fun i j p q hp hq e => by have := hD.1 _ _ p q (up hp) (up hq) e; omega, fun k q hq => ?_⟩, fun q hq => ?_, fun k x hx hz => ?_⟩
  · obtain ⟨e1, e2⟩ := zix hm hq
    exact ⟨k, e2, e1⟩
  · obtain ⟨k, hk, rfl⟩ := hq
    obtain ⟨q, h1, h2⟩ := zxi hm hk
    rw [← h2]
    exact hD.2 _ q (up h1)
  · obtain ⟨k2, hk, he⟩ := hz
    obtain ⟨q, h1, h2⟩ := zxi hm hk
    have hl := (List.getElem?_eq_some_iff.mp hx).1
    have h3 : (ex ++ w1)[k]? = some x := by rw [List.getElem?_append_left hl]; exact hx
    have h4 := hD.1 _ k q x (up h1) h3 (h2.trans he.symm)
    omega
theorem zsuf_P {D : va_G} {w1 w2 ex : va_W} {ad : Nat → Nat} {n : Nat} {H H1 : Heap} (hP : va_P D vwCl (ex ++ w1) H) (hx : ∀ (k : Nat) (x : Nat × va_E), ex[k]? = some x → ¬ ZC ad n x.1) (hk : ∀ q : Nat, q < H.size → ¬ ZC ad n q → H1[q]? = H[q]?) (hP1 : va_P D vwCl w2 H1) : va_P D vwCl (ex ++ w2) H1 :=
  va_P.app (fun k x h => by
    have h3 : (ex ++ w1)[k]? = some x := by rw [List.getElem?_append_left (List.getElem?_eq_some_iff.mp h).1]; exact h
    have h4 := hP _ _ h3
    exact h4.kept (hk _ h4.lt (hx k x h))) hP1
theorem zsuf_Q {D : va_G} {w1 ex : va_W} {H : Heap} (hP : va_P D vwCl (ex ++ w1) H) : va_P D vwCl w1 H := fun k q h => hP (ex.length + k) q (by rw [List.getElem?_append_right (Nat.le_add_right _ _), Nat.add_sub_cancel_left]; exact h)
set_option maxRecDepth 100000 in
theorem wC_ix (cI cZ : ClassId) (ad : Nat → Nat) (S : zSt) : (wC cI cZ ad S).map Prod.fst = (List.range 38).map ad := rfl
set_option maxRecDepth 100000 in
theorem wM_ix (cI cZ : ClassId) (ad : Nat → Nat) (S : zSt) : (wM cI cZ ad S).map Prod.fst = (List.range 27).map ad := rfl
theorem zT.narrow {ads : Nat → Nat} {A B : Nat → Prop} {U : State} (h : zT ads A U) (hAB : ∀ q, B q → A q) : zT ads B U := ⟨h.1.narrow hAB, h.2.1.narrow hAB, h.2.2⟩
theorem zarr1 {c : ClassId} {f g : Nat → Int64} (h : f 0 = g 0) : vp_cell c (1, .inr (.inl f)) = vp_cell c (1, .inr (.inl g)) := by
  rw [vp_cell_l, vp_cell_l]
  unfold arrV
  congr 2
  funext j
  have : j.val = 0 := by omega
  show Value.long (f j.val) = Value.long (g j.val)
  rw [this, h]
def zKJ (D : va_G) (cI cZ cJ : ClassId) (U : State) : Prop := va_K D vwCl [(cI, .int), (cZ, .boolean), (cJ, .long)] U ∧ zN U ∧ ∀ q ∈ zNCP, va_Nc q.1 q.2 U
theorem zKJ.same {D : va_G} {cI cZ cJ : ClassId} {u U : State} (h : u.vm = U.vm) (k : zKJ D cI cZ cJ u) : zKJ D cI cZ cJ U := ⟨va_K.moved (by rw [h]; exact Vm.Alike.refl U.vm) k.1, fun q hq => va_Nw.same rfl h (k.2.1 q hq), fun q hq => (k.2.2 q hq).moved (by rw [h]; exact Vm.Alike.refl U.vm)⟩
theorem zKJ.warm {D : va_G} {cI cZ cJ : ClassId} {s U : State} (hW : s.WarmedH U.vm) (k : zKJ D cI cZ cJ s) : zKJ D cI cZ cJ U := ⟨va_K.moved hW.alike k.1, fun q hq => va_Nw.warmM hW (k.2.1 q hq), fun q hq => (k.2.2 q hq).moved hW.alike⟩
theorem zKJ.zK {D : va_G} {cI cZ cJ : ClassId} {U : State} (k : zKJ D cI cZ cJ U) : zK D cI cZ U := ⟨k.1.sub [0, 1] rfl, k.2.1⟩
def zmc (r : zRx) : Nat := match r with | .inl _ => 0 | .inr _ => 1
def zms (r : zRx) : Nat := match r with | .inl _ => 0 | .inr _ => 6
def zcode (hs : List String) (r : zRx) : Int := match r with | .inl _ => 0 | .inr q => ((hs.idxOf q.1 : Nat) : Int) + 1
def zrs (r : zRx) : zSt := match r with | .inl q => q.2 | .inr q => q.2
def zst9 (r : zRx) (v : Int) : zSt := match r with | .inl q => zmx q.2 q.1 | .inr q => zmx q.2 v
def zMw (l : Launch) (y : MethodName) (cy : ByteArray) (mL : Nat) (hh : List (Nat × Nat × Nat × Nat)) (fr lo : Nat) (D : va_G) (cI cZ cJ : ClassId) (ads : Nat → Nat) (A : Nat → Prop) (w : zSt → va_W) (av : List Value) (S : zSt) (r : zRx) (code : Int) (S' : zSt) (PG : Prop) : Prop :=
  Met l y (.codeWith y cy mL (some .int) hh :: WS) (zroom fr lo r) (va_Pc av (fun U => va_P D vwCl (w S) U.heap ∧ zKJ D cI cZ cJ U ∧ zT ads A U)) (va_Qi (S := Unit) (fun x _ => x = zI code ∧ PG) (fun _ t => va_P D vwCl (w S') t.heap) A) (zmc r) (zms r) A
def zup (Γ : zG) (k n : Nat) : zG := match Γ with
  | (p, l, e, R, s, m, args, below, meth, c, Q, D, A, _, _, nL) => (p, l, e, R, s, m, args, below, meth, c, Q, D, A, k, n, nL)
theorem zF.up {Γ : zG} {w : zSt → va_W} {cI cZ : ClassId} {cc : ByteArray} {rm : Room} {nL' : Nat} {own : String} (F : zF Γ w cI cZ cc rm nL' own) {k n : Nat} (hk : k ≤ rm.cells) (hn : n ≤ rm.slots) : zF (zup Γ k n) w cI cZ cc rm nL' own := by
  obtain ⟨p, l, e, R, s, m, args, below, meth, c, Q, D, A, k0, n0, nL⟩ := Γ
  exact ⟨F.1, F.2.1, F.2.2.1, F.2.2.2.1, F.2.2.2.2.1, F.2.2.2.2.2.1, F.2.2.2.2.2.2.1, F.2.2.2.2.2.2.2.1, hk, hn, F.2.2.2.2.2.2.2.2.2.2⟩
def zKN (Γ : zG) (k n : Nat) : Prop := match Γ with
  | (_, _, _, _, _, _, _, _, _, _, _, _, _, k0, n0, _) => k0 = k ∧ n0 = n
theorem zKN_up (Γ : zG) (k n : Nat) : zKN (zup Γ k n) k n := by
  obtain ⟨p, l, e, R, s, m, args, below, meth, c, Q, D, A, k0, n0, nL⟩ := Γ
  exact ⟨rfl, rfl⟩
def zWX (Γ : zG) (ads : Nat → Nat) (cI cZ cJ : ClassId) (hh : List (Nat × Nat × Nat × Nat)) : Prop := match Γ with
  | (_, l, _, _, s, _, _, _, _, c, _, D, A, _, _, _) => l.stackTraces = false ∧ zT ads A s ∧ zKJ D cI cZ cJ s ∧ c.exceptionTable.toList = tableOf hh
def zQw (Γ : zG) (w : zSt → va_W) (code : Int) (S' : zSt) (mc ms : Nat) (PG : Prop) : Prop := match Γ with
  | (_, _, _, _, s, _, args, below, meth, _, Q, D, A, _, _, _) => Q = MQ below (va_Qi (S := Unit) (fun x _ => x = zI code ∧ PG) (fun _ t => va_P D vwCl (w S') t.heap) A) args s mc ms A ∧ meth.sig.returnType = some .int ∧ meth.locks = false
theorem zQw_up {Γ : zG} {w : zSt → va_W} {code : Int} {S' : zSt} {mc ms : Nat} {PG : Prop} (h : zQw Γ w code S' mc ms PG) (k n : Nat) : zQw (zup Γ k n) w code S' mc ms PG := by
  obtain ⟨p, l, e, R, s, m, args, below, meth, c, Q, D, A, k0, n0, nL⟩ := Γ
  exact h
theorem Met.ofWH {l : Launch} {y : MethodName} {ws ws' : List Cond} {rm : Room} {Pc : Array Value → State → Prop} {Qc : Array Value → State → Outcome → State → Prop} {mc ms : Nat} {free : Addr → Prop} {cc : ByteArray} {maxL : Nat} {ret : Option FieldType} {hh : List (Nat × Nat × Nat × Nat)}
    (hy : plainName y.cls = true) (hw : ws = Cond.codeWith y cc maxL ret hh :: ws')
    (body : ∀ p e s m args below meth c s₁, BodyLoose p l y (headSpec ws rm) cc maxL ret e s m args below meth c s₁ → c.maxLocals = maxL → Pc args s →
      W p l e (headSpec ws rm).room s m args below meth c s.heap [] 0 0 (MQ below Qc args s mc ms free) (entryFrame m args maxL)) : Met l y ws rm Pc Qc mc ms free := by
  refine MetFree.of_bodyS (code := cc) (maxLocals := maxL) (ret := ret) hy ?_ ?_
  · intro args s m h hn
    obtain ⟨m9, meth, c, hn9, h1, h2, h3, h4, -, h5, h6, -⟩ := Cond.codeWith_spec (atoms_spec (ws := ws) h _ (by rw [hw]; exact List.mem_cons_self))
    cases hn.symm.trans hn9
    exact ⟨meth, c, h1, h2, h3, h4, h5, h6⟩
  · intro p e s m args below meth c s₁ B hml hP _
    have hh0 : s₁.heap = s.heap := by rw [B.state]; rfl
    obtain ⟨t, a1, o, b1, b2, b3⟩ := body p e s m args below meth c s₁ B hml hP s₁ hh0 (Stand.of_body B)
    exact ⟨t, o, a1, b1, b2, ⟨b3.1, b3.2⟩⟩
theorem k_startW {l : Launch} {y : MethodName} {cc : ByteArray} {maxL : Nat} {hh : List (Nat × Nat × Nat × Nat)} {fr lo : Nat} {D : va_G} {cI cZ cJ : ClassId} {ads : Nat → Nat} {A : Nat → Prop} {w : zSt → va_W} {av : List Value} {S : zSt} {r : zRx} {code : Int} {S' : zSt} {PG : Prop} (hy : plainName y.cls = true) (hst : l.stackTraces = false) (hD : ∀ S, va_D A (w S)) (hlen : (lg_sl av).length ≤ maxL)
    (body : ∀ Γ : zG, zF Γ w cI cZ cc (zroom fr lo r) maxL y.cls → zWX Γ ads cI cZ cJ hh → zKN Γ 0 0 → zQw Γ w code S' (zmc r) (zms r) PG → zk Γ w (fun _ => True) S (lv_args 0 av) 0 []) : zMw l y cc maxL hh fr lo D cI cZ cJ ads A w av S r code S' PG := by
  refine Met.ofWH (cc := cc) (maxL := maxL) (ret := some .int) (hh := hh) hy rfl ?_
  intro p e s m args below meth c s₁ B hml hv
  obtain ⟨rfl, hP, hK, hT⟩ := hv
  have hts := atoms_spec (ws := .codeWith y cc maxL (some .int) hh :: WS) B.pre
  have hown : s.vm.findClass y.cls = some m.cls := findClass_of_methodNamed B.named
  have hl := lv_entry av (n := maxL) hlen
  rw [lg_entry_eq]
  exact body (p, l, e, _, s, m, _, below, meth, c, _, D, A, 0, 0, maxL) ⟨B.exec, B.bytes, hml, hown, fun w hw => hts w (List.mem_cons_of_mem _ hw), hK.zK, hD, rfl, Nat.zero_le _, Nat.zero_le _, rfl⟩ ⟨hst, hT, hK, vx_table (x := y) B (hts _ List.mem_cons_self)⟩ ⟨rfl, rfl⟩ ⟨rfl, B.returns, B.notSynchronized⟩ trivial s.heap [] _ hP va_S.rf hl
section RowsW
variable {Γ : zG} {w : zSt → va_W} {cI cZ cJ : ClassId} {ad : Nat → Nat} {o : Nat} {cc : ByteArray} {fr lo nL' : Nat} {own : String} {G : zSt → Prop} {S : zSt} {lv : List (Nat × Value)} {pc : Nat} {st : List Value} {ads : Nat → Nat} {r : zRx} {hh : List (Nat × Nat × Nat × Nat)} {rm : Room}
theorem k_iretW (F : zF Γ w cI cZ cc rm nL' own) {code v : Int} {S' : zSt} {mc ms : Nat} {PG : Prop} (hQ : zQw Γ w code S' mc ms PG) (hPG : PG) (hkn : zKN Γ mc ms) (hv : v = code) (hS9 : S = S') (hd : decode cc pc = .ok (.ireturn, 1)) : zk Γ w (fun _ => True) S lv pc [.int (zI v)] := by
  obtain ⟨p, l, e, R, s, m, args, below, meth, c, Q, D, A, k0, n0, nL⟩ := Γ
  obtain ⟨hx, hb, hml, hown, hts, ⟨hK, hN⟩, hD, rfl, hk0, hn0, rfl⟩ := F
  obtain ⟨rfl, hr, hlk⟩ := hQ
  obtain ⟨rfl, rfl⟩ := hkn
  subst hv
  subst hS9
  intro hG H locs ls hP hS hh
  exact W.iret hx hb hr (fun t ht hW => ⟨⟨_, (), rfl, ⟨rfl, hPG⟩, by show va_P D vwCl (w S) t.heap; rw [ht]; exact hP⟩, hS.F ht⟩) hS.2.2 hd hlk
theorem k_i2l (F : zF Γ w cI cZ cc rm nL' own) {x : Int} (hx9 : inR x) (hd : decode cc pc = .ok (.i2l, 1)) (kk : zk Γ w G S lv (pc + 1) (.long (lI x) :: st)) : zk Γ w G S lv pc (.int (zI x) :: st) := by
  obtain ⟨p, l, e, R, s, m, args, below, meth, c, Q, D, A, k0, n0, nL⟩ := Γ
  obtain ⟨hx, hb, hml, hown, hts, ⟨hK, hN⟩, hD, rfl, hk0, hn0, rfl⟩ := F
  intro hG H locs ls hP hS hh
  exact lv_i2l hx hb hd (lI_of hx9) (kk hG H locs ls hP hS hh)
theorem k_lconst (F : zF Γ w cI cZ cc rm nL' own) {n : Fin 2} {x : Int} (hd : decode cc pc = .ok (.lconst n, 1)) (hx9 : Int64.ofNat (n : Nat) = lI x) (kk : zk Γ w G S lv (pc + 1) (.long (lI x) :: st)) : zk Γ w G S lv pc st := by
  obtain ⟨p, l, e, R, s, m, args, below, meth, c, Q, D, A, k0, n0, nL⟩ := Γ
  obtain ⟨hx, hb, hml, hown, hts, ⟨hK, hN⟩, hD, rfl, hk0, hn0, rfl⟩ := F
  intro hG H locs ls hP hS hh
  exact lv_lconst hx hb hd hx9 (kk hG H locs ls hP hS hh)
set_option maxRecDepth 100000 in
theorem k_lastW (F : zF Γ (wW cI cZ cJ ad o) cI cZ cc rm nL' own) (X : zWX Γ ads cI cZ cJ hh) {C : zSt} {v x : Int} (hd : decode cc pc = .ok (.lastore, 1)) (kk : zk Γ (wW cI cZ cJ ad o) (fun _ => True) (zmx C x) lv (pc + 1) st) : zk Γ (wW cI cZ cJ ad o) (fun _ => True) (zmx C v) lv pc (.long (lI x) :: .int (zI 0) :: .ref o :: st) := by
  obtain ⟨p, l, e, R, s, m, args, below, meth, c, Q, D, A, k0, n0, nL⟩ := Γ
  obtain ⟨hx, hb, hml, hown, hts, ⟨hK, hN⟩, hD, rfl, hk0, hn0, rfl⟩ := F
  obtain ⟨hst, hT, hKJ, htab⟩ := X
  intro hG H locs ls hP hS hh
  refine va_last hx hb hKJ.1 hP (hD (zmx C v)) hS 38 2 rfl rfl (zvp_in (by decide) (by decide)) hd (fun H1 locs1 hP1 hD1 hS1 => ?_)
  refine kk trivial H1 locs1 ls (fun k q hq => ?_) hS1 hh
  by_cases hk : k = 38
  · subst hk
    cases hq
    have h2 := hP1 38 _ rfl
    exact Eq.trans h2 (congrArg some (zarr1 rfl))
  · refine hP1 k q ?_
    rw [List.getElem?_set_ne (fun z => hk z.symm)]
    rw [wW_zmx] at hq ⊢
    by_cases hl : k < 38
    · rw [List.getElem?_append_left (by exact hl)] at hq ⊢
      exact hq
    · rw [List.getElem?_eq_none (by show 38 + 1 ≤ k; omega)] at hq
      cases hq
theorem k_callW (F : zF Γ (wW cI cZ cJ ad o) cI cZ cc (zroom fr lo r) nL' own) (X : zWX Γ ads cI cZ cJ hh) (hkn : zKN Γ 0 0) {y : MethodName} {cy : ByteArray} {mL n idx fr2 lo2 : Nat} {ty : FieldType} {As : List Value} {C : zSt} {v : Int} (hc : zCal RX8 y cy mL (some ty) n) (hl : Cond.methodLink own idx y ∈ WS) (hGC : RG bsC C)
    (hM : ∀ (l : Launch) (D : va_G) (A : Nat → Prop), l.stackTraces = false → (∀ S, va_D A (wC cI cZ ad S)) → zMr l y cy mL (some ty) fr2 lo2 D cI cZ ads A (wC cI cZ ad) (RG bsC) (.ref (ad 0) :: As) C r)
    (hR : fr2 + 1 ≤ fr ∧ 8 + (mL + 11) + lo2 ≤ lo) (hn : As.length = n) {st0 : List Value} (hst0 : st0 = As.reverse ++ .ref (ad 0) :: st) (hW : (st.map fun v => v.category).sum ≤ 8) (hd : decode cc pc = .ok (.invokevirtual idx, 3))
    (kk : ∀ x C', r = .inl (x, C') → inR x → RG bsC C' → (ty = .boolean → x = 0 ∨ x = 1) → zk Γ (wW cI cZ cJ ad o) (fun _ => True) (zmx C' v) lv (pc + 3) (.int (zI x) :: st))
    (kx : ∀ E C', r = .inr (E, C') → RG bsC C' → ∃ pre x suf, tableOf hh = pre ++ x :: suf ∧ (∀ z ∈ pre, z.catchType ≠ 0 ∧ ∃ nm : String, Cond.classLink own z.catchType nm ∈ WS ∧ (E, nm) ∈ zNCP) ∧ covers x pc = true ∧ x.catchType ≠ 0 ∧ Cond.classLink own x.catchType E ∈ WS ∧ E ∈ zCAS ∧ ∀ q9 : Nat, zk (zup Γ 1 6) (wW cI cZ cJ ad o) (fun _ => True) (zmx C' v) lv x.handlerPc [.ref q9]) : zk Γ (wW cI cZ cJ ad o) (fun _ => True) (zmx C v) lv pc st0 := by
  obtain ⟨p, l, e, R, s, m, args, below, meth, c, Q, D, A, k0, n0, nL⟩ := Γ
  obtain ⟨hx, hb, hml, hown, hts, ⟨hK, hN⟩, hD, rfl, hk0, hn0, rfl⟩ := F
  obtain ⟨hst, hT, hKJ, htab⟩ := X
  obtain ⟨rfl, rfl⟩ := hkn
  obtain ⟨c1, c2, c3, c4, c5, c6, c7⟩ := hc
  have hg : GoodIn WS (wsV own idx RX8 y (Cond.code y cy mL (some ty) :: WS)) := WS_sub (fun _ h => h) (fun w hw => by
    simp only [wsV, List.mem_append, List.mem_cons, List.not_mem_nil, or_false] at hw
    rcases hw with (rfl | rfl | rfl | rfl) | rfl | hw
    · exact hl
    · exact c1
    · exact c2
    · exact c3
    · exact c4
    · exact hw)
  have hDC : ∀ S, va_D (ZC ad 38) (wC cI cZ ad S) := fun S => (zpre_D (wC_ix cI cZ ad S) (hD S)).1
  obtain ⟨-, hsubA, hexA⟩ := zpre_D (wC_ix cI cZ ad (zmx C v)) (hD (zmx C v))
  intro hG H locs ls hP hS hh2
  rw [wW_zmx] at hP
  have hexA : ∀ (k : Nat) (x : Nat × va_E), ([(o, (.inl (cJ, 1, .inr (.inl (fun _ => lI v))) : va_E))] : va_W)[k]? = some x → ¬ ZC ad 38 x.1 := hexA
  have hPC := zpre_Q hP
  have hpc : ∀ U : State, U.heap = H → s.WarmedH U.vm → zPc D cI cZ ads (ZC ad 38) (wC cI cZ ad) (.ref (ad 0) :: As) C (Value.ref (ad 0) :: As).toArray U := fun U hU hW => ⟨rfl, by rw [hU]; exact hPC, zK.warm hW ⟨hK, hN⟩, (zT.go hW (by rw [hU]; exact hS.2.1) hT).narrow hsubA⟩
  have hM1 := hM l D (ZC ad 38) hst hDC
  subst hst0
  cases r with
  | inl q =>
    refine va_calli (va_runV (As := As) (rest := st) ⟨hx, hb, hml, hown, hts⟩ hM1 (cwV n hts hg rfl rfl rfl ⟨c5, c6.1, c6.2, c7⟩ ⟨hR.1, hR.2⟩) ⟨zPc.blind, (obC_0 cI cZ ad).recv (S := C) hK hPC, hpc⟩ rfl hn hh2.1 rfl (lv_room hW) hd ⟨Nat.zero_le _, Nat.zero_le _⟩) hS (fun q _ h => hsubA q h) hsubA (fun r0 u t H1 locs1 ht hvm hw hB hz1 hk1 hS1 => ?_)
    obtain ⟨rfl, hx1, hG1, h01⟩ := hw
    rw [ht] at hB
    exact kk q.1 q.2 rfl hx1 hG1 h01 trivial H1 locs1 ls (by rw [wW_zmx]; exact zpre_P hP hexA hk1 hB) hS1 hh2
  | inr q =>
    refine vx_callv (vx_runV (As := As) (rest := st) ⟨hx, hb, hml, hown, hts⟩ hM1 (cwV n hts hg rfl rfl rfl ⟨c5, c6.1, c6.2, c7⟩ ⟨hR.1, hR.2⟩) ⟨zPc.blind, (obC_0 cI cZ ad).recv (S := C) hK hPC, hpc⟩ rfl hn hh2.1 rfl (lv_room hW) hd ⟨Nat.le_refl 1, Nat.le_refl 6⟩) hS (fun q _ h => hsubA q h) hsubA (fun q _ h => hsubA q h) (fun E ce q9 u t H1 locs1 ht hvm hw hB hz1 hk1 hS1 hce hcv hcl => ?_) (fun u t H1 locs1 ht hvm hw hB hz1 hk1 hS1 => hw.elim)
    rw [ht] at hB
    obtain ⟨rfl, hB⟩ := hB
    obtain ⟨pre, x, suf, e1, e2, e3, e4, e5, e6, e7⟩ := kx q.1 q.2 rfl hw
    exact vx_catch hown pre x suf (htab.trans e1) (fun z hz => Or.inr ⟨(e2 z hz).1, (e2 z hz).2.choose, hts _ (e2 z hz).2.choose_spec.1, hKJ.2.2 _ (e2 z hz).2.choose_spec.2⟩) e3 e4 (hts _ e5) (va_Nw.use rfl (hT.2.2.2.1 _ e6)) hce hcv hcl (e7 q9 trivial H1 locs1 ls (by rw [wW_zmx]; exact zpre_P hP hexA hk1 hB) hS1 hh2)
end RowsW
