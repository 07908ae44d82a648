/-! CONSTRUCTORS -/
def zAC (h0 sz : Nat) : Nat → Prop := fun q => q = h0 ∨ sz ≤ q
def zc (Γ : zG) (k n : Nat) (ws : va_W) (lv : List (Nat × Value)) (pc : Nat) (st : List Value) : Prop :=
  match Γ with
  | (p, l, e, R, s, m, args, below, meth, c, Q, D, A, _, _, nL) => ∀ (H : Heap) (locs : List Loc) (ls : Array Slot), va_P D vwCl ws H → va_D A ws → va_S A s.heap H locs → lv_has ls nL lv → W p l e R s m args below meth c H locs k n Q (F0 m pc ls st)
def zCF (Γ : zG) (cI cZ : ClassId) (cc : ByteArray) (rm : Room) (nL' : Nat) (own : String) : Prop :=
  match Γ with
  | (p, _, _, R, s, m, args, _, meth, c, _, D, A, _, _, nL) => p.tables.exec = Jvm.exec ∧ c.code = cc ∧ c.maxLocals = nL ∧ s.vm.findClass own = some m.cls ∧ (∀ w ∈ WS, w.before args s = true) ∧ zK D cI cZ s ∧ R = rm ∧ nL = nL' ∧ (∀ q, s.heap.size ≤ q → A q) ∧ meth.name = "<init>"
def zCt (l : Launch) (y : MethodName) (cy : ByteArray) (mL : Nat) (rm : Room) (D : va_G) (cI cZ : ClassId) (ci : Nat) (fs0 : List Value) (W0 : (Nat → Nat) → va_W) (mc ms : Nat) : Prop :=
  ∀ (h0 sz : Nat), Met l y (.code y cy mL none :: WS) rm (va_Pc [.ref h0] (fun U => U.heap.size = sz ∧ va_P D vwCl [(h0, .inr (ci, fs0))] U.heap ∧ zK D cI cZ U)) (va_Qv (S := Nat → Nat) (fun ad => ad 0 = h0) (fun ad t => va_P D vwCl (W0 ad) t.heap ∧ va_D (zAC h0 sz) (W0 ad)) (zAC h0 sz)) mc ms (zAC h0 sz)
def zCQ (Γ : zG) (h0 : Nat) (W0 : (Nat → Nat) → va_W) (mc ms : Nat) : Prop :=
  match Γ with
  | (_, _, _, _, s, _, args, below, meth, _, Q, D, A, _, _, _) => Q = MQ below (va_Qv (S := Nat → Nat) (fun ad => ad 0 = h0) (fun ad t => va_P D vwCl (W0 ad) t.heap ∧ va_D (zAC h0 s.heap.size) (W0 ad)) (zAC h0 s.heap.size)) args s mc ms (zAC h0 s.heap.size) ∧ meth.sig.returnType = none ∧ meth.locks = false ∧ A = zAC h0 s.heap.size
theorem c_start {l : Launch} {y : MethodName} {cc : ByteArray} {maxL : Nat} {rm : Room} {D : va_G} {cI cZ : ClassId} {ci : Nat} {fs0 : List Value} {W0 : (Nat → Nat) → va_W} {mc ms : Nat} (hy : plainName y.cls = true) (hn : y.name = "<init>") (hlen : 1 ≤ maxL)
    (body : ∀ (Γ : zG) (h0 : Nat), zCF Γ cI cZ cc rm maxL y.cls → zCQ Γ h0 W0 mc ms → zc Γ 0 0 [(h0, .inr (ci, fs0))] [(0, .ref h0)] 0 []) : zCt l y cc maxL rm D cI cZ ci fs0 W0 mc ms := by
  intro h0 sz
  refine Met.ofW (cc := cc) (maxL := maxL) (ret := none) hy rfl ?_
  intro p e s m args below meth c s₁ B hml hv
  obtain ⟨rfl, rfl, hP, hK⟩ := hv
  have hts := atoms_spec (ws := .code y cc maxL none :: WS) B.pre
  have hown : s.vm.findClass y.cls = some m.cls := findClass_of_methodNamed B.named
  have hin : meth.name = "<init>" := (name_of_methodNamed B.named B.method).1.trans hn
  have hl := lv_entry [.ref h0] (n := maxL) hlen
  rw [lg_entry_eq]
  refine body (p, l, e, _, s, m, _, below, meth, c, _, D, zAC h0 s.heap.size, 0, 0, maxL) h0 ⟨B.exec, B.bytes, hml, hown, fun w hw => hts w (List.mem_cons_of_mem _ hw), hK, rfl, rfl, fun q h => Or.inr h, hin⟩ ⟨rfl, B.returns, B.notSynchronized, rfl⟩ s.heap [] _ hP ⟨fun i j p q hp hq _ => ?_, fun k q hq => ?_⟩ va_S.rf hl
  · have h1 : i < 1 := (List.getElem?_eq_some_iff.mp hp).1
    have h2 : j < 1 := (List.getElem?_eq_some_iff.mp hq).1
    omega
  · have h1 : k < 1 := (List.getElem?_eq_some_iff.mp hq).1
    rw [show k = 0 by omega] at hq
    cases hq
    exact Or.inl rfl
theorem zjoinC {D : va_G} {A : Nat → Prop} {ws w1 : va_W} {x : Nat × va_E} {H H1 : Heap} (hP : va_P D vwCl (ws ++ [x]) H) (hD : va_D A (ws ++ [x])) (hk : ∀ q : Nat, q < H.size → ¬ zAC x.1 H.size q → H1[q]? = H[q]?) (hF : ∀ q, zAC x.1 H.size q → A q) (hP1 : va_P D vwCl w1 H1) (hD1 : va_D (zAC x.1 H.size) w1) : va_P D vwCl (ws ++ w1) H1 ∧ va_D A (ws ++ w1) := by
  have up : ∀ {k : Nat} {q : Nat × va_E}, ws[k]? = some q → (ws ++ [x])[k]? = some q := fun {k q} h => by
    rw [List.getElem?_append_left (List.getElem?_eq_some_iff.mp h).1]; exact h
  have hx : (ws ++ [x])[ws.length]? = some x := by
    rw [List.getElem?_append_right (Nat.le_refl _), Nat.sub_self]; rfl
  have apart : ∀ {k : Nat} {q : Nat × va_E}, ws[k]? = some q → q.1 < H.size ∧ ¬ zAC x.1 H.size q.1 := by
    intro k q h
    have hl := (hP k q (up h)).lt
    refine ⟨hl, fun z => ?_⟩
    rcases z with z | z
    · have e := hD.1 k ws.length q x (up h) hx z
      have := (List.getElem?_eq_some_iff.mp h).1
      omega
    · omega
  refine ⟨va_P.app (fun k q hq => ?_) hP1, va_D.app ⟨fun i j p q hp hq e => hD.1 i j p q (up hp) (up hq) e, fun k q hq => hD.2 k q (up hq)⟩ (hD1.weaken (fun k q _ h => hF q.1 h)) (fun i j a b ha hb hab => ?_)⟩
  · obtain ⟨g1, g2⟩ := apart hq
    exact (hP k q (up hq)).kept (hk q.1 g1 g2)
  · exact (apart ha).2 (by rw [hab]; exact hD1.2 j b hb)
section RowsC
variable {Γ : zG} {cI cZ : ClassId} {cc : ByteArray} {rm : Room} {nL' : Nat} {own : String} {k n : Nat} {ws : va_W} {lv : List (Nat × Value)} {pc : Nat} {st : List Value}
theorem c_oi (F : zCF Γ cI cZ cc rm nL' own) {idx h0 j : Nat} (hl : Cond.methodLink own idx objectInit ∈ WS) (hi : Cond.instanceMethod objectInit ∈ WS) (hc : Cond.code objectInit ⟨#[0xb1]⟩ 1 none ∈ WS) (hlv : lv[j]? = some (0, .ref h0)) (hfr : 1 ≤ rm.frames) (hlo : 12 ≤ rm.locals) (d0 : decode cc pc = .ok (.aload_n 0, 1)) (d1 : decode cc (pc + 1) = .ok (.invokespecial idx, 3)) (kk : zc Γ (k) (n) (ws) lv (pc + 1 + 3) ([])) : zc Γ (k) (n) (ws) lv (pc) ([]) := by
  obtain ⟨p, l, e, R, s, m, args, below, meth, c, Q, D, A, k0, n0, nL⟩ := Γ
  obtain ⟨hx, hb, hml, hown, hts, ⟨hK, hN⟩, rfl, rfl, hA, hin⟩ := F
  intro H locs ls hP hD hS hh
  refine lv_aload_n hx hb d0 rfl (lv_at hh j hlv) ?_
  refine W.objInit hx hb hown (hts _ hl) (hts _ hi) (hts _ hc) rfl (by rw [hml]; exact hh.1) rfl d1 hfr hlo ?_
  exact kk H locs ls hP hD hS hh
theorem c_aload0 (F : zCF Γ cI cZ cc rm nL' own) {h0 j : Nat} (hlv : lv[j]? = some (0, .ref h0)) (d0 : decode cc pc = .ok (.aload_n 0, 1)) (kk : zc Γ (k) (n) (ws) lv (pc + 1) (.ref h0 :: st)) : zc Γ (k) (n) (ws) lv (pc) (st) := by
  obtain ⟨p, l, e, R, s, m, args, below, meth, c, Q, D, A, k0, n0, nL⟩ := Γ
  obtain ⟨hx, hb, hml, hown, hts, ⟨hK, hN⟩, rfl, rfl, hA, hin⟩ := F
  intro H locs ls hP hD hS hh
  exact lv_aload_n hx hb d0 rfl (lv_at hh j hlv) (kk H locs ls hP hD hS hh)
theorem c_bipush (F : zCF Γ cI cZ cc rm nL' own) {v : Int} (hv : (Int8.ofInt v).toInt32 = zI v) (d0 : decode cc pc = .ok (.bipush v, 2)) (kk : zc Γ (k) (n) (ws) lv (pc + 2) (.int (zI v) :: st)) : zc Γ (k) (n) (ws) lv (pc) (st) := by
  obtain ⟨p, l, e, R, s, m, args, below, meth, c, Q, D, A, k0, n0, nL⟩ := Γ
  obtain ⟨hx, hb, hml, hown, hts, ⟨hK, hN⟩, rfl, rfl, hA, hin⟩ := F
  intro H locs ls hP hD hS hh
  exact lv_bipush hx hb d0 hv (kk H locs ls hP hD hS hh)
theorem c_sipush (F : zCF Γ cI cZ cc rm nL' own) {v : Int} (hv : (Int16.ofInt v).toInt32 = zI v) (d0 : decode cc pc = .ok (.sipush v, 3)) (kk : zc Γ (k) (n) (ws) lv (pc + 3) (.int (zI v) :: st)) : zc Γ (k) (n) (ws) lv (pc) (st) := by
  obtain ⟨p, l, e, R, s, m, args, below, meth, c, Q, D, A, k0, n0, nL⟩ := Γ
  obtain ⟨hx, hb, hml, hown, hts, ⟨hK, hN⟩, rfl, rfl, hA, hin⟩ := F
  intro H locs ls hP hD hS hh
  exact lv_sipush hx hb d0 hv (kk H locs ls hP hD hS hh)
theorem c_dup (F : zCF Γ cI cZ cc rm nL' own) {v : Value} (hv : v.category = 1) (d0 : decode cc pc = .ok (.dup, 1)) (kk : zc Γ (k) (n) (ws) lv (pc + 1) (v :: v :: st)) : zc Γ (k) (n) (ws) lv (pc) (v :: st) := by
  obtain ⟨p, l, e, R, s, m, args, below, meth, c, Q, D, A, k0, n0, nL⟩ := Γ
  obtain ⟨hx, hb, hml, hown, hts, ⟨hK, hN⟩, rfl, rfl, hA, hin⟩ := F
  intro H locs ls hP hD hS hh
  exact lv_dup hx hb d0 hv (kk H locs ls hP hD hS hh)
theorem c_newI (F : zCF Γ cI cZ cc rm nL' own) {N : Nat} {v : Int} (harr : Cond.arrayClass .int ∈ WS) (hv : ¬ zI v < 0) (hN2 : (zI v).toNatClampNeg = N) (hby : N * 4 ≤ 536870912) (hc : k + 1 ≤ rm.cells) (hs : n + N ≤ rm.slots) (d0 : decode cc pc = .ok (.newarray .int, 2)) (kk : ∀ q, zc Γ (k + 1) (n + N) (ws ++ [(q, .inl (cI, N, .inl (zA (fun _ => 0))))]) lv (pc + 2) (.ref q :: st)) : zc Γ (k) (n) (ws) lv (pc) (.int (zI v) :: st) := by
  obtain ⟨p, l, e, R, s, m, args, below, meth, c, Q, D, A, k0, n0, nL⟩ := Γ
  obtain ⟨hx, hb, hml, hown, hts, ⟨hK, hN⟩, rfl, rfl, hA, hin⟩ := F
  intro H locs ls hP hD hS hh
  have hby2 : N * componentBytes .int ≤ 536870912 := Nat.le_trans (Nat.mul_le_mul_left N (show componentBytes .int ≤ 4 by decide)) hby
  refine va_newa (atype := .int) (ty := .int) (a0 := (N, .inl (zA (fun _ => 0)))) hx hb (hts _ harr) rfl hK hP hD hS hA (fun cA => rfl) hv hN2 hby2 hc hs d0 (fun q cA H1 hK1 hP1 hD1 hS1 => ?_)
  have e1 := (hK1.2 2 (cA, .int) rfl).2
  have e2 := (hK.2 0 (cI, .int) rfl).2
  have e3 : cA = cI := Option.some.inj (Eq.trans (Eq.symm e1) e2)
  rw [e3] at hP1 hD1
  exact kk q H1 locs ls hP1 hD1 hS1 hh
theorem c_newZ (F : zCF Γ cI cZ cc rm nL' own) {N : Nat} {v : Int} (harr : Cond.arrayClass .boolean ∈ WS) (hv : ¬ zI v < 0) (hN2 : (zI v).toNatClampNeg = N) (hby : N * 4 ≤ 536870912) (hc : k + 1 ≤ rm.cells) (hs : n + N ≤ rm.slots) (d0 : decode cc pc = .ok (.newarray .boolean, 2)) (kk : ∀ q, zc Γ (k + 1) (n + N) (ws ++ [(q, .inl (cZ, N, .inl (zA (fun _ => 0))))]) lv (pc + 2) (.ref q :: st)) : zc Γ (k) (n) (ws) lv (pc) (.int (zI v) :: st) := by
  obtain ⟨p, l, e, R, s, m, args, below, meth, c, Q, D, A, k0, n0, nL⟩ := Γ
  obtain ⟨hx, hb, hml, hown, hts, ⟨hK, hN⟩, rfl, rfl, hA, hin⟩ := F
  intro H locs ls hP hD hS hh
  have hby2 : N * componentBytes .boolean ≤ 536870912 := Nat.le_trans (Nat.mul_le_mul_left N (show componentBytes .boolean ≤ 4 by decide)) hby
  refine va_newa (atype := .boolean) (ty := .boolean) (a0 := (N, .inl (zA (fun _ => 0)))) hx hb (hts _ harr) rfl hK hP hD hS hA (fun cA => rfl) hv hN2 hby2 hc hs d0 (fun q cA H1 hK1 hP1 hD1 hS1 => ?_)
  have e1 := (hK1.2 2 (cA, .boolean) rfl).2
  have e2 := (hK.2 1 (cZ, .boolean) rfl).2
  have e3 : cA = cZ := Option.some.inj (Eq.trans (Eq.symm e1) e2)
  rw [e3] at hP1 hD1
  exact kk q H1 locs ls hP1 hD1 hS1 hh
theorem c_putR (F : zCF Γ cI cZ cc rm nL' own) {C : String} {T : u_T} {N ci idx a v : Nat} (q0 kf : Nat) {fs : List Value} (hin0 : ∀ w ∈ u_ws C T N, w ∈ WS) (he : ws[q0]? = some (a, .inr (ci, fs))) (hc : vwCl[ci]? = some (C, T, N)) (hk : kf < N) (hlink : (Cond.fieldLink own idx (T kf).1 (T kf).2.1 (T kf).2.2.1) ∈ WS) (ty0 : Nat → FieldType) (hty : ∀ k, k < N → parseFieldDescriptor (T k).2.2.1 = some (ty0 k)) (hnm : ∀ a, a < N → ∀ b, b < N → a ≠ b → (T a).2.1 ≠ (T b).2.1) (hfin : (T kf).2.2.2 = true) (hdecl : (T kf).1 = own) {ty : FieldType} (hI : parseFieldDescriptor (T kf).2.2.1 = some ty) (hn1 : narrow ty (.ref v) = .ref v) (hf : fits ty (.ref v) = true) (hl : kf < fs.length) {ws2 : va_W} (hw : ws.set q0 (a, .inr (ci, fs.set kf (.ref v))) = ws2) (d0 : decode cc pc = .ok (.putfield idx, 3)) (kk : zc Γ (k) (n) (ws2) lv (pc + 3) (st)) : zc Γ (k) (n) (ws) lv (pc) (.ref v :: .ref a :: st) := by
  obtain ⟨p, l, e, R, s, m, args, below, meth, c, Q, D, A, k0, n0, nL⟩ := Γ
  obtain ⟨hx, hb, hml, hown, hts, ⟨hK, hN⟩, rfl, rfl, hA, hin⟩ := F
  intro H locs ls hP hD hS hh
  subst hw
  exact va_putF hx hb hts hin0 ty0 hty hnm hown hK hP hD hS q0 he hc kf hk (hts _ hlink) (fun _ h9 => h9) hfin hin hdecl hI hn1 hf hl d0 (fun H1 locs1 hP1 hD1 hS1 => kk H1 locs1 ls hP1 hD1 hS1 hh)
theorem c_new (F : zCF Γ cI cZ cc rm nL' own) {C : String} {T : u_T} {N ci idx : Nat} (hin0 : ∀ w ∈ u_ws C T N, w ∈ WS) (ty : Nat → FieldType) (hty : ∀ k, k < N → parseFieldDescriptor (T k).2.2.1 = some (ty k)) (hcl : Cond.classLink own idx C ∈ WS) (hinst : Cond.instantiable C N ∈ WS) (hini : Cond.initialized C ∈ WS) (hc : vwCl[ci]? = some (C, T, N)) {fs : List Value} (hfs : ∀ j, j < N → defaultValue (ty j) = vp_V fs j) (h1 : k + 1 ≤ rm.cells) (h2 : n + N ≤ rm.slots) (d0 : decode cc pc = .ok (.new idx, 3)) (kk : ∀ q, zc Γ (k + 1) (n + N) (ws ++ [(q, .inr (ci, fs))]) lv (pc + 3) (.ref q :: st)) : zc Γ (k) (n) (ws) lv (pc) (st) := by
  obtain ⟨p, l, e, R, s, m, args, below, meth, c, Q, D, A, k0, n0, nL⟩ := Γ
  obtain ⟨hx, hb, hml, hown, hts, ⟨hK, hN⟩, rfl, rfl, hA, hin⟩ := F
  intro H locs ls hP hD hS hh
  exact va_new hx hb hts hin0 ty hty hown (hts _ hcl) (hts _ hinst) (hts _ hini) hK hP hD hS hA hc hfs h1 h2 d0 (fun q H1 hP1 hD1 hS1 => kk q H1 locs ls hP1 hD1 hS1 hh)
theorem c_ctor (F : zCF Γ cI cZ cc rm nL' own) {y : MethodName} {cy : ByteArray} {mL idx ci q mc ms : Nat} {host : String} {rm2 : Room} {fs0 : List Value} {W0 : (Nat → Nat) → va_W} (hi : Cond.instanceMethod y ∈ WS) (hini : Cond.initialized y.cls ∈ WS) (hco : Cond.code y cy mL none ∈ WS) (hl : (own, idx, y, host) ∈ NWt) (hy : y.name = "<init>") (hd2 : y.cls ≠ "java/lang/invoke/MethodHandle" ∧ y.cls ≠ "java/lang/invoke/VarHandle" ∧ (parseMethodDescriptor y.desc).map (fun d => d.parameters.length) = some 0) (hM : ∀ l D, zCt l y cy mL rm2 D cI cZ ci fs0 W0 mc ms) (hR : rm2.cells = mc ∧ rm2.slots = ms ∧ rm2.frames + 1 ≤ rm.frames ∧ 8 + (mL + 11) + rm2.locals ≤ rm.locals) (hW : (st.map fun v => v.category).sum ≤ 8) (h1 : k + mc ≤ rm.cells) (h2 : n + ms ≤ rm.slots) (d0 : decode cc pc = .ok (.invokespecial idx, 3)) (kk : ∀ ad, ad 0 = q → zc Γ (k + mc) (n + ms) (ws ++ W0 ad) lv (pc + 3) (st)) : zc Γ (k) (n) (ws ++ [(q, .inr (ci, fs0))]) lv (pc) (.ref q :: st) := by
  obtain ⟨p, l, e, R, s, m, args, below, meth, c, Q, D, A, k0, n0, nL⟩ := Γ
  obtain ⟨hx, hb, hml, hown, hts, ⟨hK, hN⟩, rfl, rfl, hA, hin⟩ := F
  intro H locs ls hP hD hS hh
  have hg : GoodIn WS (Cond.code y cy mL none :: WS) := WS_sub (fun _ h => h) (fun w hw => by
    rcases List.mem_cons.mp hw with rfl | hw
    · exact hco
    · exact hw)
  have hlN : va_Nw (.methodLinkNest own idx y host) s := hN _ hl
  have hx0 : (ws ++ [(q, (.inr (ci, fs0) : va_E))])[ws.length]? = some (q, .inr (ci, fs0)) := by
    rw [List.getElem?_append_right (Nat.le_refl _), Nat.sub_self]; rfl
  have hAq : ∀ x, zAC q H.size x → A x := fun x hx9 => by
    rcases hx9 with rfl | hx9
    · exact hD.2 _ _ hx0
    · exact hA x (Nat.le_trans hS.1 hx9)
  have hPc : va_P D vwCl [(q, (.inr (ci, fs0) : va_E))] H := fun i z hz => by
    have hi1 : i < 1 := (List.getElem?_eq_some_iff.mp hz).1
    rw [show i = 0 by omega] at hz
    cases hz
    exact hP _ _ hx0
  refine va_callv (va_runIN (As := []) (rest := st) ⟨hx, hb, hml, hown, hts⟩ (hM l D q H.size) ⟨va_cnB 0 hts hg rfl hR.1 hR.2.1 hlN (hts _ hini) hd2 ⟨hR.2.2.1, hR.2.2.2⟩, hy, hts _ hi⟩ ⟨fun a U g mk z => ⟨z.1, z.2.1, z.2.2.1, zK.same (u := U) (U := U.calling g mk a) rfl z.2.2.2⟩, fun U hU hW => ⟨rfl, by rw [hU], by rw [hU]; exact hPc, zK.warm hW ⟨hK, hN⟩⟩⟩ rfl rfl hh.1 rfl (lv_room hW) d0 ⟨h1, h2⟩) hS (fun x _ h => hAq x h) hAq (fun ad t H1 locs1 ht hvm hw hB hz1 hk1 hS1 => ?_)
  obtain ⟨hB1, hB2⟩ := hB
  rw [ht] at hB1
  obtain ⟨hP9, hD9⟩ := zjoinC hP hD hk1 hAq hB1 hB2
  exact kk ad hw H1 locs1 ls hP9 hD9 hS1 hh
theorem c_ret (F : zCF Γ cI cZ cc rm nL' own) {h0 mc ms : Nat} {W0 : (Nat → Nat) → va_W} (hQ : zCQ Γ h0 W0 mc ms) (ad : Nat → Nat) (h9 : ad 0 = h0) (hw : ws = W0 ad) (d0 : decode cc pc = .ok (.return_, 1)) : zc Γ mc ms ws lv pc [] := by
  obtain ⟨p, l, e, R, s, m, args, below, meth, c, Q, D, A, k0, n0, nL⟩ := Γ
  obtain ⟨hx, hb, hml, hown, hts, ⟨hK, hN⟩, rfl, rfl, hA, hin⟩ := F
  intro H locs ls hP hD hS hh
  obtain ⟨rfl, hr, hlk, rfl⟩ := hQ
  subst hw
  exact W.vret hx hb hr (fun t ht hW => ⟨⟨ad, rfl, h9, by show va_P D vwCl (W0 ad) t.heap; rw [ht]; exact hP, hD⟩, hS.F ht⟩) hS.2.2 d0 hlk
end RowsC
def w0X4 (cI cZ : ClassId) (ad : Nat → Nat) : va_W := [(ad 0, .inr (4, [.ref (ad 1), .int (zI 0)])), (ad 1, .inl (cI, 12, .inl (zA (fun _ => 0))))]
theorem fsX4_0 : ∀ j, j < 2 → defaultValue (tyX4 j) = vp_V [.null, .int (zI 0)] j := by
  intro j hj
  match j, hj with
  | 0, _ => rfl
  | 1, _ => rfl
  | q + 2, h => exact absurd h (by omega)
set_option maxRecDepth 100000 in
theorem c_X4_init {l : Launch} {D : va_G} {cI cZ : ClassId} : zCt l yX4_init cX4_init 1 { frames := 1, cells := 1, slots := 12, locals := 12 } D cI cZ 4 [.null, .int (zI 0)] (w0X4 cI cZ) 1 12 := by
  refine c_start (by decide +kernel) rfl (Nat.le_of_ble_eq_true rfl) (fun Γ h0 F hQ => ?_)
  have F : zCF Γ cI cZ cX4_init { frames := 1, cells := 1, slots := 12, locals := 12 } 1 RX4 := F
  refine c_oi F (j := 0) wm_19 wm_15 wm_16 rfl (Nat.le_of_ble_eq_true rfl) (Nat.le_of_ble_eq_true rfl) dX4_init_0 dX4_init_1 ?_
  refine c_aload0 F (j := 0) rfl dX4_init_4 ?_
  refine c_bipush F bp_12 dX4_init_5 ?_
  refine c_newI F (N := 12) wm_17 (by decide) (by decide) (by decide) (Nat.le_of_ble_eq_true rfl) (Nat.le_of_ble_eq_true rfl) dX4_init_7 (fun q1 => ?_)
  refine c_putR F 0 0 inWX4 rfl rfl (by decide) wm_20 tyX4 tyX4_ok nmX4 rfl rfl (tyX4_ok 0 (by decide)) rfl rfl (Nat.le_of_ble_eq_true rfl) (ws2 := [(h0, .inr (4, [.ref q1, .int (zI 0)])), (q1, .inl (cI, 12, .inl (zA (fun _ => 0))))]) rfl dX4_init_9 ?_
  exact c_ret F hQ (fun k => ([h0, q1] : List Nat).getD k 0) rfl rfl dX4_init_12
def w0X7 (cI cZ : ClassId) (ad : Nat → Nat) : va_W := [(ad 0, .inr (7, [.ref (ad 1), .ref (ad 2), .ref (ad 3), .int (zI 0)])), (ad 1, .inl (cI, 240, .inl (zA (fun _ => 0)))), (ad 2, .inl (cI, 20, .inl (zA (fun _ => 0)))), (ad 3, .inl (cI, 13, .inl (zA (fun _ => 0))))]
theorem fsX7_0 : ∀ j, j < 4 → defaultValue (tyX7 j) = vp_V [.null, .null, .null, .int (zI 0)] j := by
  intro j hj
  match j, hj with
  | 0, _ => rfl
  | 1, _ => rfl
  | 2, _ => rfl
  | 3, _ => rfl
  | q + 4, h => exact absurd h (by omega)
set_option maxRecDepth 100000 in
theorem c_X7_init {l : Launch} {D : va_G} {cI cZ : ClassId} : zCt l yX7_init cX7_init 1 { frames := 1, cells := 3, slots := 273, locals := 12 } D cI cZ 7 [.null, .null, .null, .int (zI 0)] (w0X7 cI cZ) 3 273 := by
  refine c_start (by decide +kernel) rfl (Nat.le_of_ble_eq_true rfl) (fun Γ h0 F hQ => ?_)
  have F : zCF Γ cI cZ cX7_init { frames := 1, cells := 3, slots := 273, locals := 12 } 1 RX7 := F
  refine c_oi F (j := 0) wm_21 wm_15 wm_16 rfl (Nat.le_of_ble_eq_true rfl) (Nat.le_of_ble_eq_true rfl) dX7_init_0 dX7_init_1 ?_
  refine c_aload0 F (j := 0) rfl dX7_init_4 ?_
  refine c_sipush F sp_240 dX7_init_5 ?_
  refine c_newI F (N := 240) wm_17 (by decide) (by decide) (by decide) (Nat.le_of_ble_eq_true rfl) (Nat.le_of_ble_eq_true rfl) dX7_init_8 (fun q1 => ?_)
  refine c_putR F 0 0 inWX7 rfl rfl (by decide) wm_22 tyX7 tyX7_ok nmX7 rfl rfl (tyX7_ok 0 (by decide)) rfl rfl (Nat.le_of_ble_eq_true rfl) (ws2 := [(h0, .inr (7, [.ref q1, .null, .null, .int (zI 0)])), (q1, .inl (cI, 240, .inl (zA (fun _ => 0))))]) rfl dX7_init_10 ?_
  refine c_aload0 F (j := 0) rfl dX7_init_13 ?_
  refine c_bipush F bp_20 dX7_init_14 ?_
  refine c_newI F (N := 20) wm_17 (by decide) (by decide) (by decide) (Nat.le_of_ble_eq_true rfl) (Nat.le_of_ble_eq_true rfl) dX7_init_16 (fun q2 => ?_)
  refine c_putR F 0 1 inWX7 rfl rfl (by decide) wm_23 tyX7 tyX7_ok nmX7 rfl rfl (tyX7_ok 1 (by decide)) rfl rfl (Nat.le_of_ble_eq_true rfl) (ws2 := [(h0, .inr (7, [.ref q1, .ref q2, .null, .int (zI 0)])), (q1, .inl (cI, 240, .inl (zA (fun _ => 0)))), (q2, .inl (cI, 20, .inl (zA (fun _ => 0))))]) rfl dX7_init_18 ?_
  refine c_aload0 F (j := 0) rfl dX7_init_21 ?_
  refine c_bipush F bp_13 dX7_init_22 ?_
  refine c_newI F (N := 13) wm_17 (by decide) (by decide) (by decide) (Nat.le_of_ble_eq_true rfl) (Nat.le_of_ble_eq_true rfl) dX7_init_24 (fun q3 => ?_)
  refine c_putR F 0 2 inWX7 rfl rfl (by decide) wm_24 tyX7 tyX7_ok nmX7 rfl rfl (tyX7_ok 2 (by decide)) rfl rfl (Nat.le_of_ble_eq_true rfl) (ws2 := [(h0, .inr (7, [.ref q1, .ref q2, .ref q3, .int (zI 0)])), (q1, .inl (cI, 240, .inl (zA (fun _ => 0)))), (q2, .inl (cI, 20, .inl (zA (fun _ => 0)))), (q3, .inl (cI, 13, .inl (zA (fun _ => 0))))]) rfl dX7_init_26 ?_
  exact c_ret F hQ (fun k => ([h0, q1, q2, q3] : List Nat).getD k 0) rfl rfl dX7_init_29
def w0X0 (cI cZ : ClassId) (ad : Nat → Nat) : va_W := [(ad 0, .inr (0, [.ref (ad 1), .ref (ad 2), .ref (ad 3), .int (zI 0)])), (ad 1, .inl (cI, 12, .inl (zA (fun _ => 0)))), (ad 2, .inl (cI, 12, .inl (zA (fun _ => 0)))), (ad 3, .inl (cI, 12, .inl (zA (fun _ => 0))))]
theorem fsX0_0 : ∀ j, j < 4 → defaultValue (tyX0 j) = vp_V [.null, .null, .null, .int (zI 0)] j := by
  intro j hj
  match j, hj with
  | 0, _ => rfl
  | 1, _ => rfl
  | 2, _ => rfl
  | 3, _ => rfl
  | q + 4, h => exact absurd h (by omega)
set_option maxRecDepth 100000 in
theorem c_X0_init {l : Launch} {D : va_G} {cI cZ : ClassId} : zCt l yX0_init cX0_init 1 { frames := 1, cells := 3, slots := 36, locals := 12 } D cI cZ 0 [.null, .null, .null, .int (zI 0)] (w0X0 cI cZ) 3 36 := by
  refine c_start (by decide +kernel) rfl (Nat.le_of_ble_eq_true rfl) (fun Γ h0 F hQ => ?_)
  have F : zCF Γ cI cZ cX0_init { frames := 1, cells := 3, slots := 36, locals := 12 } 1 RX0 := F
  refine c_oi F (j := 0) wm_14 wm_15 wm_16 rfl (Nat.le_of_ble_eq_true rfl) (Nat.le_of_ble_eq_true rfl) dX0_init_0 dX0_init_1 ?_
  refine c_aload0 F (j := 0) rfl dX0_init_4 ?_
  refine c_bipush F bp_12 dX0_init_5 ?_
  refine c_newI F (N := 12) wm_17 (by decide) (by decide) (by decide) (Nat.le_of_ble_eq_true rfl) (Nat.le_of_ble_eq_true rfl) dX0_init_7 (fun q1 => ?_)
  refine c_putR F 0 0 inWX0 rfl rfl (by decide) wm_25 tyX0 tyX0_ok nmX0 rfl rfl (tyX0_ok 0 (by decide)) rfl rfl (Nat.le_of_ble_eq_true rfl) (ws2 := [(h0, .inr (0, [.ref q1, .null, .null, .int (zI 0)])), (q1, .inl (cI, 12, .inl (zA (fun _ => 0))))]) rfl dX0_init_9 ?_
  refine c_aload0 F (j := 0) rfl dX0_init_12 ?_
  refine c_bipush F bp_12 dX0_init_13 ?_
  refine c_newI F (N := 12) wm_17 (by decide) (by decide) (by decide) (Nat.le_of_ble_eq_true rfl) (Nat.le_of_ble_eq_true rfl) dX0_init_15 (fun q2 => ?_)
  refine c_putR F 0 1 inWX0 rfl rfl (by decide) wm_26 tyX0 tyX0_ok nmX0 rfl rfl (tyX0_ok 1 (by decide)) rfl rfl (Nat.le_of_ble_eq_true rfl) (ws2 := [(h0, .inr (0, [.ref q1, .ref q2, .null, .int (zI 0)])), (q1, .inl (cI, 12, .inl (zA (fun _ => 0)))), (q2, .inl (cI, 12, .inl (zA (fun _ => 0))))]) rfl dX0_init_17 ?_
  refine c_aload0 F (j := 0) rfl dX0_init_20 ?_
  refine c_bipush F bp_12 dX0_init_21 ?_
  refine c_newI F (N := 12) wm_17 (by decide) (by decide) (by decide) (Nat.le_of_ble_eq_true rfl) (Nat.le_of_ble_eq_true rfl) dX0_init_23 (fun q3 => ?_)
  refine c_putR F 0 2 inWX0 rfl rfl (by decide) wm_27 tyX0 tyX0_ok nmX0 rfl rfl (tyX0_ok 2 (by decide)) rfl rfl (Nat.le_of_ble_eq_true rfl) (ws2 := [(h0, .inr (0, [.ref q1, .ref q2, .ref q3, .int (zI 0)])), (q1, .inl (cI, 12, .inl (zA (fun _ => 0)))), (q2, .inl (cI, 12, .inl (zA (fun _ => 0)))), (q3, .inl (cI, 12, .inl (zA (fun _ => 0))))]) rfl dX0_init_25 ?_
  exact c_ret F hQ (fun k => ([h0, q1, q2, q3] : List Nat).getD k 0) rfl rfl dX0_init_28
def w0X1 (cI cZ : ClassId) (ad : Nat → Nat) : va_W := [(ad 0, .inr (1, [.ref (ad 1), .ref (ad 2), .ref (ad 3), .ref (ad 4), .ref (ad 5), .ref (ad 6), .ref (ad 7), .ref (ad 8), .ref (ad 9), .ref (ad 10), .ref (ad 11), .int (zI 0)])), (ad 1, .inl (cI, 60, .inl (zA (fun _ => 0)))), (ad 2, .inl (cI, 60, .inl (zA (fun _ => 0)))), (ad 3, .inl (cI, 60, .inl (zA (fun _ => 0)))), (ad 4, .inl (cI, 60, .inl (zA (fun _ => 0)))), (ad 5, .inl (cI, 60, .inl (zA (fun _ => 0)))), (ad 6, .inl (cI, 60, .inl (zA (fun _ => 0)))), (ad 7, .inl (cI, 60, .inl (zA (fun _ => 0)))), (ad 8, .inl (cI, 60, .inl (zA (fun _ => 0)))), (ad 9, .inl (cI, 60, .inl (zA (fun _ => 0)))), (ad 10, .inl (cZ, 60, .inl (zA (fun _ => 0)))), (ad 11, .inl (cI, 60, .inl (zA (fun _ => 0))))]
theorem fsX1_0 : ∀ j, j < 12 → defaultValue (tyX1 j) = vp_V [.null, .null, .null, .null, .null, .null, .null, .null, .null, .null, .null, .int (zI 0)] j := by
  intro j hj
  match j, hj with
  | 0, _ => rfl
  | 1, _ => rfl
  | 2, _ => rfl
  | 3, _ => rfl
  | 4, _ => rfl
  | 5, _ => rfl
  | 6, _ => rfl
  | 7, _ => rfl
  | 8, _ => rfl
  | 9, _ => rfl
  | 10, _ => rfl
  | 11, _ => rfl
  | q + 12, h => exact absurd h (by omega)
set_option maxRecDepth 100000 in
theorem c_X1_init {l : Launch} {D : va_G} {cI cZ : ClassId} : zCt l yX1_init cX1_init 1 { frames := 1, cells := 11, slots := 660, locals := 12 } D cI cZ 1 [.null, .null, .null, .null, .null, .null, .null, .null, .null, .null, .null, .int (zI 0)] (w0X1 cI cZ) 11 660 := by
  refine c_start (by decide +kernel) rfl (Nat.le_of_ble_eq_true rfl) (fun Γ h0 F hQ => ?_)
  have F : zCF Γ cI cZ cX1_init { frames := 1, cells := 11, slots := 660, locals := 12 } 1 RX1 := F
  refine c_oi F (j := 0) wm_28 wm_15 wm_16 rfl (Nat.le_of_ble_eq_true rfl) (Nat.le_of_ble_eq_true rfl) dX1_init_0 dX1_init_1 ?_
  refine c_aload0 F (j := 0) rfl dX1_init_4 ?_
  refine c_bipush F bp_60 dX1_init_5 ?_
  refine c_newI F (N := 60) wm_17 (by decide) (by decide) (by decide) (Nat.le_of_ble_eq_true rfl) (Nat.le_of_ble_eq_true rfl) dX1_init_7 (fun q1 => ?_)
  refine c_putR F 0 0 inWX1 rfl rfl (by decide) wm_29 tyX1 tyX1_ok nmX1 rfl rfl (tyX1_ok 0 (by decide)) rfl rfl (Nat.le_of_ble_eq_true rfl) (ws2 := [(h0, .inr (1, [.ref q1, .null, .null, .null, .null, .null, .null, .null, .null, .null, .null, .int (zI 0)])), (q1, .inl (cI, 60, .inl (zA (fun _ => 0))))]) rfl dX1_init_9 ?_
  refine c_aload0 F (j := 0) rfl dX1_init_12 ?_
  refine c_bipush F bp_60 dX1_init_13 ?_
  refine c_newI F (N := 60) wm_17 (by decide) (by decide) (by decide) (Nat.le_of_ble_eq_true rfl) (Nat.le_of_ble_eq_true rfl) dX1_init_15 (fun q2 => ?_)
  refine c_putR F 0 1 inWX1 rfl rfl (by decide) wm_30 tyX1 tyX1_ok nmX1 rfl rfl (tyX1_ok 1 (by decide)) rfl rfl (Nat.le_of_ble_eq_true rfl) (ws2 := [(h0, .inr (1, [.ref q1, .ref q2, .null, .null, .null, .null, .null, .null, .null, .null, .null, .int (zI 0)])), (q1, .inl (cI, 60, .inl (zA (fun _ => 0)))), (q2, .inl (cI, 60, .inl (zA (fun _ => 0))))]) rfl dX1_init_17 ?_
  refine c_aload0 F (j := 0) rfl dX1_init_20 ?_
  refine c_bipush F bp_60 dX1_init_21 ?_
  refine c_newI F (N := 60) wm_17 (by decide) (by decide) (by decide) (Nat.le_of_ble_eq_true rfl) (Nat.le_of_ble_eq_true rfl) dX1_init_23 (fun q3 => ?_)
  refine c_putR F 0 2 inWX1 rfl rfl (by decide) wm_31 tyX1 tyX1_ok nmX1 rfl rfl (tyX1_ok 2 (by decide)) rfl rfl (Nat.le_of_ble_eq_true rfl) (ws2 := [(h0, .inr (1, [.ref q1, .ref q2, .ref q3, .null, .null, .null, .null, .null, .null, .null, .null, .int (zI 0)])), (q1, .inl (cI, 60, .inl (zA (fun _ => 0)))), (q2, .inl (cI, 60, .inl (zA (fun _ => 0)))), (q3, .inl (cI, 60, .inl (zA (fun _ => 0))))]) rfl dX1_init_25 ?_
  refine c_aload0 F (j := 0) rfl dX1_init_28 ?_
  refine c_bipush F bp_60 dX1_init_29 ?_
  refine c_newI F (N := 60) wm_17 (by decide) (by decide) (by decide) (Nat.le_of_ble_eq_true rfl) (Nat.le_of_ble_eq_true rfl) dX1_init_31 (fun q4 => ?_)
  refine c_putR F 0 3 inWX1 rfl rfl (by decide) wm_32 tyX1 tyX1_ok nmX1 rfl rfl (tyX1_ok 3 (by decide)) rfl rfl (Nat.le_of_ble_eq_true rfl) (ws2 := [(h0, .inr (1, [.ref q1, .ref q2, .ref q3, .ref q4, .null, .null, .null, .null, .null, .null, .null, .int (zI 0)])), (q1, .inl (cI, 60, .inl (zA (fun _ => 0)))), (q2, .inl (cI, 60, .inl (zA (fun _ => 0)))), (q3, .inl (cI, 60, .inl (zA (fun _ => 0)))), (q4, .inl (cI, 60, .inl (zA (fun _ => 0))))]) rfl dX1_init_33 ?_
  refine c_aload0 F (j := 0) rfl dX1_init_36 ?_
  refine c_bipush F bp_60 dX1_init_37 ?_
  refine c_newI F (N := 60) wm_17 (by decide) (by decide) (by decide) (Nat.le_of_ble_eq_true rfl) (Nat.le_of_ble_eq_true rfl) dX1_init_39 (fun q5 => ?_)
  refine c_putR F 0 4 inWX1 rfl rfl (by decide) wm_33 tyX1 tyX1_ok nmX1 rfl rfl (tyX1_ok 4 (by decide)) rfl rfl (Nat.le_of_ble_eq_true rfl) (ws2 := [(h0, .inr (1, [.ref q1, .ref q2, .ref q3, .ref q4, .ref q5, .null, .null, .null, .null, .null, .null, .int (zI 0)])), (q1, .inl (cI, 60, .inl (zA (fun _ => 0)))), (q2, .inl (cI, 60, .inl (zA (fun _ => 0)))), (q3, .inl (cI, 60, .inl (zA (fun _ => 0)))), (q4, .inl (cI, 60, .inl (zA (fun _ => 0)))), (q5, .inl (cI, 60, .inl (zA (fun _ => 0))))]) rfl dX1_init_41 ?_
  refine c_aload0 F (j := 0) rfl dX1_init_44 ?_
  refine c_bipush F bp_60 dX1_init_45 ?_
  refine c_newI F (N := 60) wm_17 (by decide) (by decide) (by decide) (Nat.le_of_ble_eq_true rfl) (Nat.le_of_ble_eq_true rfl) dX1_init_47 (fun q6 => ?_)
  refine c_putR F 0 5 inWX1 rfl rfl (by decide) wm_34 tyX1 tyX1_ok nmX1 rfl rfl (tyX1_ok 5 (by decide)) rfl rfl (Nat.le_of_ble_eq_true rfl) (ws2 := [(h0, .inr (1, [.ref q1, .ref q2, .ref q3, .ref q4, .ref q5, .ref q6, .null, .null, .null, .null, .null, .int (zI 0)])), (q1, .inl (cI, 60, .inl (zA (fun _ => 0)))), (q2, .inl (cI, 60, .inl (zA (fun _ => 0)))), (q3, .inl (cI, 60, .inl (zA (fun _ => 0)))), (q4, .inl (cI, 60, .inl (zA (fun _ => 0)))), (q5, .inl (cI, 60, .inl (zA (fun _ => 0)))), (q6, .inl (cI, 60, .inl (zA (fun _ => 0))))]) rfl dX1_init_49 ?_
  refine c_aload0 F (j := 0) rfl dX1_init_52 ?_
  refine c_bipush F bp_60 dX1_init_53 ?_
  refine c_newI F (N := 60) wm_17 (by decide) (by decide) (by decide) (Nat.le_of_ble_eq_true rfl) (Nat.le_of_ble_eq_true rfl) dX1_init_55 (fun q7 => ?_)
  refine c_putR F 0 6 inWX1 rfl rfl (by decide) wm_35 tyX1 tyX1_ok nmX1 rfl rfl (tyX1_ok 6 (by decide)) rfl rfl (Nat.le_of_ble_eq_true rfl) (ws2 := [(h0, .inr (1, [.ref q1, .ref q2, .ref q3, .ref q4, .ref q5, .ref q6, .ref q7, .null, .null, .null, .null, .int (zI 0)])), (q1, .inl (cI, 60, .inl (zA (fun _ => 0)))), (q2, .inl (cI, 60, .inl (zA (fun _ => 0)))), (q3, .inl (cI, 60, .inl (zA (fun _ => 0)))), (q4, .inl (cI, 60, .inl (zA (fun _ => 0)))), (q5, .inl (cI, 60, .inl (zA (fun _ => 0)))), (q6, .inl (cI, 60, .inl (zA (fun _ => 0)))), (q7, .inl (cI, 60, .inl (zA (fun _ => 0))))]) rfl dX1_init_57 ?_
  refine c_aload0 F (j := 0) rfl dX1_init_60 ?_
  refine c_bipush F bp_60 dX1_init_61 ?_
  refine c_newI F (N := 60) wm_17 (by decide) (by decide) (by decide) (Nat.le_of_ble_eq_true rfl) (Nat.le_of_ble_eq_true rfl) dX1_init_63 (fun q8 => ?_)
  refine c_putR F 0 7 inWX1 rfl rfl (by decide) wm_36 tyX1 tyX1_ok nmX1 rfl rfl (tyX1_ok 7 (by decide)) rfl rfl (Nat.le_of_ble_eq_true rfl) (ws2 := [(h0, .inr (1, [.ref q1, .ref q2, .ref q3, .ref q4, .ref q5, .ref q6, .ref q7, .ref q8, .null, .null, .null, .int (zI 0)])), (q1, .inl (cI, 60, .inl (zA (fun _ => 0)))), (q2, .inl (cI, 60, .inl (zA (fun _ => 0)))), (q3, .inl (cI, 60, .inl (zA (fun _ => 0)))), (q4, .inl (cI, 60, .inl (zA (fun _ => 0)))), (q5, .inl (cI, 60, .inl (zA (fun _ => 0)))), (q6, .inl (cI, 60, .inl (zA (fun _ => 0)))), (q7, .inl (cI, 60, .inl (zA (fun _ => 0)))), (q8, .inl (cI, 60, .inl (zA (fun _ => 0))))]) rfl dX1_init_65 ?_
  refine c_aload0 F (j := 0) rfl dX1_init_68 ?_
  refine c_bipush F bp_60 dX1_init_69 ?_
  refine c_newI F (N := 60) wm_17 (by decide) (by decide) (by decide) (Nat.le_of_ble_eq_true rfl) (Nat.le_of_ble_eq_true rfl) dX1_init_71 (fun q9 => ?_)
  refine c_putR F 0 8 inWX1 rfl rfl (by decide) wm_37 tyX1 tyX1_ok nmX1 rfl rfl (tyX1_ok 8 (by decide)) rfl rfl (Nat.le_of_ble_eq_true rfl) (ws2 := [(h0, .inr (1, [.ref q1, .ref q2, .ref q3, .ref q4, .ref q5, .ref q6, .ref q7, .ref q8, .ref q9, .null, .null, .int (zI 0)])), (q1, .inl (cI, 60, .inl (zA (fun _ => 0)))), (q2, .inl (cI, 60, .inl (zA (fun _ => 0)))), (q3, .inl (cI, 60, .inl (zA (fun _ => 0)))), (q4, .inl (cI, 60, .inl (zA (fun _ => 0)))), (q5, .inl (cI, 60, .inl (zA (fun _ => 0)))), (q6, .inl (cI, 60, .inl (zA (fun _ => 0)))), (q7, .inl (cI, 60, .inl (zA (fun _ => 0)))), (q8, .inl (cI, 60, .inl (zA (fun _ => 0)))), (q9, .inl (cI, 60, .inl (zA (fun _ => 0))))]) rfl dX1_init_73 ?_
  refine c_aload0 F (j := 0) rfl dX1_init_76 ?_
  refine c_bipush F bp_60 dX1_init_77 ?_
  refine c_newZ F (N := 60) wm_18 (by decide) (by decide) (by decide) (Nat.le_of_ble_eq_true rfl) (Nat.le_of_ble_eq_true rfl) dX1_init_79 (fun q10 => ?_)
  refine c_putR F 0 9 inWX1 rfl rfl (by decide) wm_38 tyX1 tyX1_ok nmX1 rfl rfl (tyX1_ok 9 (by decide)) rfl rfl (Nat.le_of_ble_eq_true rfl) (ws2 := [(h0, .inr (1, [.ref q1, .ref q2, .ref q3, .ref q4, .ref q5, .ref q6, .ref q7, .ref q8, .ref q9, .ref q10, .null, .int (zI 0)])), (q1, .inl (cI, 60, .inl (zA (fun _ => 0)))), (q2, .inl (cI, 60, .inl (zA (fun _ => 0)))), (q3, .inl (cI, 60, .inl (zA (fun _ => 0)))), (q4, .inl (cI, 60, .inl (zA (fun _ => 0)))), (q5, .inl (cI, 60, .inl (zA (fun _ => 0)))), (q6, .inl (cI, 60, .inl (zA (fun _ => 0)))), (q7, .inl (cI, 60, .inl (zA (fun _ => 0)))), (q8, .inl (cI, 60, .inl (zA (fun _ => 0)))), (q9, .inl (cI, 60, .inl (zA (fun _ => 0)))), (q10, .inl (cZ, 60, .inl (zA (fun _ => 0))))]) rfl dX1_init_81 ?_
  refine c_aload0 F (j := 0) rfl dX1_init_84 ?_
  refine c_bipush F bp_60 dX1_init_85 ?_
  refine c_newI F (N := 60) wm_17 (by decide) (by decide) (by decide) (Nat.le_of_ble_eq_true rfl) (Nat.le_of_ble_eq_true rfl) dX1_init_87 (fun q11 => ?_)
  refine c_putR F 0 10 inWX1 rfl rfl (by decide) wm_39 tyX1 tyX1_ok nmX1 rfl rfl (tyX1_ok 10 (by decide)) rfl rfl (Nat.le_of_ble_eq_true rfl) (ws2 := [(h0, .inr (1, [.ref q1, .ref q2, .ref q3, .ref q4, .ref q5, .ref q6, .ref q7, .ref q8, .ref q9, .ref q10, .ref q11, .int (zI 0)])), (q1, .inl (cI, 60, .inl (zA (fun _ => 0)))), (q2, .inl (cI, 60, .inl (zA (fun _ => 0)))), (q3, .inl (cI, 60, .inl (zA (fun _ => 0)))), (q4, .inl (cI, 60, .inl (zA (fun _ => 0)))), (q5, .inl (cI, 60, .inl (zA (fun _ => 0)))), (q6, .inl (cI, 60, .inl (zA (fun _ => 0)))), (q7, .inl (cI, 60, .inl (zA (fun _ => 0)))), (q8, .inl (cI, 60, .inl (zA (fun _ => 0)))), (q9, .inl (cI, 60, .inl (zA (fun _ => 0)))), (q10, .inl (cZ, 60, .inl (zA (fun _ => 0)))), (q11, .inl (cI, 60, .inl (zA (fun _ => 0))))]) rfl dX1_init_89 ?_
  exact c_ret F hQ (fun k => ([h0, q1, q2, q3, q4, q5, q6, q7, q8, q9, q10, q11] : List Nat).getD k 0) rfl rfl dX1_init_92
def w0X5 (cI cZ : ClassId) (ad : Nat → Nat) : va_W := [(ad 0, .inr (5, [.ref (ad 1), .ref (ad 2), .ref (ad 3), .ref (ad 4), .int (zI 0)])), (ad 1, .inl (cI, 10, .inl (zA (fun _ => 0)))), (ad 2, .inl (cI, 10, .inl (zA (fun _ => 0)))), (ad 3, .inl (cI, 6, .inl (zA (fun _ => 0)))), (ad 4, .inl (cI, 6, .inl (zA (fun _ => 0))))]
theorem fsX5_0 : ∀ j, j < 5 → defaultValue (tyX5 j) = vp_V [.null, .null, .null, .null, .int (zI 0)] j := by
  intro j hj
  match j, hj with
  | 0, _ => rfl
  | 1, _ => rfl
  | 2, _ => rfl
  | 3, _ => rfl
  | 4, _ => rfl
  | q + 5, h => exact absurd h (by omega)
set_option maxRecDepth 100000 in
theorem c_X5_init {l : Launch} {D : va_G} {cI cZ : ClassId} : zCt l yX5_init cX5_init 1 { frames := 1, cells := 4, slots := 32, locals := 12 } D cI cZ 5 [.null, .null, .null, .null, .int (zI 0)] (w0X5 cI cZ) 4 32 := by
  refine c_start (by decide +kernel) rfl (Nat.le_of_ble_eq_true rfl) (fun Γ h0 F hQ => ?_)
  have F : zCF Γ cI cZ cX5_init { frames := 1, cells := 4, slots := 32, locals := 12 } 1 RX5 := F
  refine c_oi F (j := 0) wm_40 wm_15 wm_16 rfl (Nat.le_of_ble_eq_true rfl) (Nat.le_of_ble_eq_true rfl) dX5_init_0 dX5_init_1 ?_
  refine c_aload0 F (j := 0) rfl dX5_init_4 ?_
  refine c_bipush F bp_10 dX5_init_5 ?_
  refine c_newI F (N := 10) wm_17 (by decide) (by decide) (by decide) (Nat.le_of_ble_eq_true rfl) (Nat.le_of_ble_eq_true rfl) dX5_init_7 (fun q1 => ?_)
  refine c_putR F 0 0 inWX5 rfl rfl (by decide) wm_41 tyX5 tyX5_ok nmX5 rfl rfl (tyX5_ok 0 (by decide)) rfl rfl (Nat.le_of_ble_eq_true rfl) (ws2 := [(h0, .inr (5, [.ref q1, .null, .null, .null, .int (zI 0)])), (q1, .inl (cI, 10, .inl (zA (fun _ => 0))))]) rfl dX5_init_9 ?_
  refine c_aload0 F (j := 0) rfl dX5_init_12 ?_
  refine c_bipush F bp_10 dX5_init_13 ?_
  refine c_newI F (N := 10) wm_17 (by decide) (by decide) (by decide) (Nat.le_of_ble_eq_true rfl) (Nat.le_of_ble_eq_true rfl) dX5_init_15 (fun q2 => ?_)
  refine c_putR F 0 1 inWX5 rfl rfl (by decide) wm_42 tyX5 tyX5_ok nmX5 rfl rfl (tyX5_ok 1 (by decide)) rfl rfl (Nat.le_of_ble_eq_true rfl) (ws2 := [(h0, .inr (5, [.ref q1, .ref q2, .null, .null, .int (zI 0)])), (q1, .inl (cI, 10, .inl (zA (fun _ => 0)))), (q2, .inl (cI, 10, .inl (zA (fun _ => 0))))]) rfl dX5_init_17 ?_
  refine c_aload0 F (j := 0) rfl dX5_init_20 ?_
  refine c_bipush F bp_6 dX5_init_21 ?_
  refine c_newI F (N := 6) wm_17 (by decide) (by decide) (by decide) (Nat.le_of_ble_eq_true rfl) (Nat.le_of_ble_eq_true rfl) dX5_init_23 (fun q3 => ?_)
  refine c_putR F 0 2 inWX5 rfl rfl (by decide) wm_43 tyX5 tyX5_ok nmX5 rfl rfl (tyX5_ok 2 (by decide)) rfl rfl (Nat.le_of_ble_eq_true rfl) (ws2 := [(h0, .inr (5, [.ref q1, .ref q2, .ref q3, .null, .int (zI 0)])), (q1, .inl (cI, 10, .inl (zA (fun _ => 0)))), (q2, .inl (cI, 10, .inl (zA (fun _ => 0)))), (q3, .inl (cI, 6, .inl (zA (fun _ => 0))))]) rfl dX5_init_25 ?_
  refine c_aload0 F (j := 0) rfl dX5_init_28 ?_
  refine c_bipush F bp_6 dX5_init_29 ?_
  refine c_newI F (N := 6) wm_17 (by decide) (by decide) (by decide) (Nat.le_of_ble_eq_true rfl) (Nat.le_of_ble_eq_true rfl) dX5_init_31 (fun q4 => ?_)
  refine c_putR F 0 3 inWX5 rfl rfl (by decide) wm_44 tyX5 tyX5_ok nmX5 rfl rfl (tyX5_ok 3 (by decide)) rfl rfl (Nat.le_of_ble_eq_true rfl) (ws2 := [(h0, .inr (5, [.ref q1, .ref q2, .ref q3, .ref q4, .int (zI 0)])), (q1, .inl (cI, 10, .inl (zA (fun _ => 0)))), (q2, .inl (cI, 10, .inl (zA (fun _ => 0)))), (q3, .inl (cI, 6, .inl (zA (fun _ => 0)))), (q4, .inl (cI, 6, .inl (zA (fun _ => 0))))]) rfl dX5_init_33 ?_
  exact c_ret F hQ (fun k => ([h0, q1, q2, q3, q4] : List Nat).getD k 0) rfl rfl dX5_init_36
def w0X3 (cI cZ : ClassId) (ad : Nat → Nat) : va_W := [(ad 0, .inr (3, [.ref (ad 1), .int (zI 0)])), (ad 1, .inl (cI, 240, .inl (zA (fun _ => 0))))]
theorem fsX3_0 : ∀ j, j < 2 → defaultValue (tyX3 j) = vp_V [.null, .int (zI 0)] j := by
  intro j hj
  match j, hj with
  | 0, _ => rfl
  | 1, _ => rfl
  | q + 2, h => exact absurd h (by omega)
set_option maxRecDepth 100000 in
theorem c_X3_init {l : Launch} {D : va_G} {cI cZ : ClassId} : zCt l yX3_init cX3_init 1 { frames := 1, cells := 1, slots := 240, locals := 12 } D cI cZ 3 [.null, .int (zI 0)] (w0X3 cI cZ) 1 240 := by
  refine c_start (by decide +kernel) rfl (Nat.le_of_ble_eq_true rfl) (fun Γ h0 F hQ => ?_)
  have F : zCF Γ cI cZ cX3_init { frames := 1, cells := 1, slots := 240, locals := 12 } 1 RX3 := F
  refine c_oi F (j := 0) wm_45 wm_15 wm_16 rfl (Nat.le_of_ble_eq_true rfl) (Nat.le_of_ble_eq_true rfl) dX3_init_0 dX3_init_1 ?_
  refine c_aload0 F (j := 0) rfl dX3_init_4 ?_
  refine c_sipush F sp_240 dX3_init_5 ?_
  refine c_newI F (N := 240) wm_17 (by decide) (by decide) (by decide) (Nat.le_of_ble_eq_true rfl) (Nat.le_of_ble_eq_true rfl) dX3_init_8 (fun q1 => ?_)
  refine c_putR F 0 0 inWX3 rfl rfl (by decide) wm_46 tyX3 tyX3_ok nmX3 rfl rfl (tyX3_ok 0 (by decide)) rfl rfl (Nat.le_of_ble_eq_true rfl) (ws2 := [(h0, .inr (3, [.ref q1, .int (zI 0)])), (q1, .inl (cI, 240, .inl (zA (fun _ => 0))))]) rfl dX3_init_10 ?_
  exact c_ret F hQ (fun k => ([h0, q1] : List Nat).getD k 0) rfl rfl dX3_init_13
def w0X6 (cI cZ : ClassId) (ad : Nat → Nat) : va_W := [(ad 0, .inr (6, [.ref (ad 1), .ref (ad 3), .ref (ad 5), .int (zI 0), .int (zI 0)])), (ad 1, .inr (3, [.ref (ad 2), .int (zI 0)])), (ad 2, .inl (cI, 240, .inl (zA (fun _ => 0)))), (ad 3, .inr (3, [.ref (ad 4), .int (zI 0)])), (ad 4, .inl (cI, 240, .inl (zA (fun _ => 0)))), (ad 5, .inl (cI, 240, .inl (zA (fun _ => 0))))]
theorem fsX6_0 : ∀ j, j < 5 → defaultValue (tyX6 j) = vp_V [.null, .null, .null, .int (zI 0), .int (zI 0)] j := by
  intro j hj
  match j, hj with
  | 0, _ => rfl
  | 1, _ => rfl
  | 2, _ => rfl
  | 3, _ => rfl
  | 4, _ => rfl
  | q + 5, h => exact absurd h (by omega)
set_option maxRecDepth 100000 in
theorem c_X6_init {l : Launch} {D : va_G} {cI cZ : ClassId} : zCt l yX6_init cX6_init 1 { frames := 2, cells := 5, slots := 724, locals := 32 } D cI cZ 6 [.null, .null, .null, .int (zI 0), .int (zI 0)] (w0X6 cI cZ) 5 724 := by
  refine c_start (by decide +kernel) rfl (Nat.le_of_ble_eq_true rfl) (fun Γ h0 F hQ => ?_)
  have F : zCF Γ cI cZ cX6_init { frames := 2, cells := 5, slots := 724, locals := 32 } 1 RX6 := F
  refine c_oi F (j := 0) wm_47 wm_15 wm_16 rfl (Nat.le_of_ble_eq_true rfl) (Nat.le_of_ble_eq_true rfl) dX6_init_0 dX6_init_1 ?_
  refine c_aload0 F (j := 0) rfl dX6_init_4 ?_
  refine c_new F (fs := [.null, .int (zI 0)]) inWX3 tyX3 tyX3_ok wm_48 wm_49 wm_50 (ci := 3) rfl (fsX3_0) (Nat.le_of_ble_eq_true rfl) (Nat.le_of_ble_eq_true rfl) dX6_init_5 (fun q1 => ?_)
  refine c_dup F rfl dX6_init_8 ?_
  refine c_ctor F (W0 := w0X3 cI cZ) wm_51 wm_50 wm_52 nw_X6_11 rfl ⟨by decide, by decide, by decide +kernel⟩ (fun l D => c_X3_init) ⟨rfl, rfl, Nat.le_of_ble_eq_true rfl, Nat.le_of_ble_eq_true rfl⟩ (Nat.le_of_ble_eq_true rfl) (Nat.le_of_ble_eq_true rfl) (Nat.le_of_ble_eq_true rfl) dX6_init_9 (fun ad1 e1 => ?_)
  subst e1
  refine c_putR F 0 0 inWX6 rfl rfl (by decide) wm_53 tyX6 tyX6_ok nmX6 rfl rfl (tyX6_ok 0 (by decide)) rfl rfl (Nat.le_of_ble_eq_true rfl) (ws2 := [(h0, .inr (6, [.ref (ad1 0), .null, .null, .int (zI 0), .int (zI 0)])), (ad1 0, .inr (3, [.ref (ad1 1), .int (zI 0)])), (ad1 1, .inl (cI, 240, .inl (zA (fun _ => 0))))]) rfl dX6_init_12 ?_
  refine c_aload0 F (j := 0) rfl dX6_init_15 ?_
  refine c_new F (fs := [.null, .int (zI 0)]) inWX3 tyX3 tyX3_ok wm_48 wm_49 wm_50 (ci := 3) rfl (fsX3_0) (Nat.le_of_ble_eq_true rfl) (Nat.le_of_ble_eq_true rfl) dX6_init_16 (fun q2 => ?_)
  refine c_dup F rfl dX6_init_19 ?_
  refine c_ctor F (W0 := w0X3 cI cZ) wm_51 wm_50 wm_52 nw_X6_11 rfl ⟨by decide, by decide, by decide +kernel⟩ (fun l D => c_X3_init) ⟨rfl, rfl, Nat.le_of_ble_eq_true rfl, Nat.le_of_ble_eq_true rfl⟩ (Nat.le_of_ble_eq_true rfl) (Nat.le_of_ble_eq_true rfl) (Nat.le_of_ble_eq_true rfl) dX6_init_20 (fun ad2 e2 => ?_)
  subst e2
  refine c_putR F 0 1 inWX6 rfl rfl (by decide) wm_54 tyX6 tyX6_ok nmX6 rfl rfl (tyX6_ok 1 (by decide)) rfl rfl (Nat.le_of_ble_eq_true rfl) (ws2 := [(h0, .inr (6, [.ref (ad1 0), .ref (ad2 0), .null, .int (zI 0), .int (zI 0)])), (ad1 0, .inr (3, [.ref (ad1 1), .int (zI 0)])), (ad1 1, .inl (cI, 240, .inl (zA (fun _ => 0)))), (ad2 0, .inr (3, [.ref (ad2 1), .int (zI 0)])), (ad2 1, .inl (cI, 240, .inl (zA (fun _ => 0))))]) rfl dX6_init_23 ?_
  refine c_aload0 F (j := 0) rfl dX6_init_26 ?_
  refine c_sipush F sp_240 dX6_init_27 ?_
  refine c_newI F (N := 240) wm_17 (by decide) (by decide) (by decide) (Nat.le_of_ble_eq_true rfl) (Nat.le_of_ble_eq_true rfl) dX6_init_30 (fun q3 => ?_)
  refine c_putR F 0 2 inWX6 rfl rfl (by decide) wm_55 tyX6 tyX6_ok nmX6 rfl rfl (tyX6_ok 2 (by decide)) rfl rfl (Nat.le_of_ble_eq_true rfl) (ws2 := [(h0, .inr (6, [.ref (ad1 0), .ref (ad2 0), .ref q3, .int (zI 0), .int (zI 0)])), (ad1 0, .inr (3, [.ref (ad1 1), .int (zI 0)])), (ad1 1, .inl (cI, 240, .inl (zA (fun _ => 0)))), (ad2 0, .inr (3, [.ref (ad2 1), .int (zI 0)])), (ad2 1, .inl (cI, 240, .inl (zA (fun _ => 0)))), (q3, .inl (cI, 240, .inl (zA (fun _ => 0))))]) rfl dX6_init_32 ?_
  exact c_ret F hQ (fun k => ([h0, ad1 0, ad1 1, ad2 0, ad2 1, q3] : List Nat).getD k 0) rfl rfl dX6_init_35
def w0X2 (cI cZ : ClassId) (ad : Nat → Nat) : va_W := [(ad 0, .inr (2, [.ref (ad 1), .ref (ad 2), .ref (ad 3), .int (zI 0), .int (zI 0)])), (ad 1, .inl (cI, 160, .inl (zA (fun _ => 0)))), (ad 2, .inl (cI, 8, .inl (zA (fun _ => 0)))), (ad 3, .inl (cI, 8, .inl (zA (fun _ => 0))))]
theorem fsX2_0 : ∀ j, j < 5 → defaultValue (tyX2 j) = vp_V [.null, .null, .null, .int (zI 0), .int (zI 0)] j := by
  intro j hj
  match j, hj with
  | 0, _ => rfl
  | 1, _ => rfl
  | 2, _ => rfl
  | 3, _ => rfl
  | 4, _ => rfl
  | q + 5, h => exact absurd h (by omega)
set_option maxRecDepth 100000 in
theorem c_X2_init {l : Launch} {D : va_G} {cI cZ : ClassId} : zCt l yX2_init cX2_init 1 { frames := 1, cells := 3, slots := 176, locals := 12 } D cI cZ 2 [.null, .null, .null, .int (zI 0), .int (zI 0)] (w0X2 cI cZ) 3 176 := by
  refine c_start (by decide +kernel) rfl (Nat.le_of_ble_eq_true rfl) (fun Γ h0 F hQ => ?_)
  have F : zCF Γ cI cZ cX2_init { frames := 1, cells := 3, slots := 176, locals := 12 } 1 RX2 := F
  refine c_oi F (j := 0) wm_56 wm_15 wm_16 rfl (Nat.le_of_ble_eq_true rfl) (Nat.le_of_ble_eq_true rfl) dX2_init_0 dX2_init_1 ?_
  refine c_aload0 F (j := 0) rfl dX2_init_4 ?_
  refine c_sipush F sp_160 dX2_init_5 ?_
  refine c_newI F (N := 160) wm_17 (by decide) (by decide) (by decide) (Nat.le_of_ble_eq_true rfl) (Nat.le_of_ble_eq_true rfl) dX2_init_8 (fun q1 => ?_)
  refine c_putR F 0 0 inWX2 rfl rfl (by decide) wm_57 tyX2 tyX2_ok nmX2 rfl rfl (tyX2_ok 0 (by decide)) rfl rfl (Nat.le_of_ble_eq_true rfl) (ws2 := [(h0, .inr (2, [.ref q1, .null, .null, .int (zI 0), .int (zI 0)])), (q1, .inl (cI, 160, .inl (zA (fun _ => 0))))]) rfl dX2_init_10 ?_
  refine c_aload0 F (j := 0) rfl dX2_init_13 ?_
  refine c_bipush F bp_8 dX2_init_14 ?_
  refine c_newI F (N := 8) wm_17 (by decide) (by decide) (by decide) (Nat.le_of_ble_eq_true rfl) (Nat.le_of_ble_eq_true rfl) dX2_init_16 (fun q2 => ?_)
  refine c_putR F 0 1 inWX2 rfl rfl (by decide) wm_58 tyX2 tyX2_ok nmX2 rfl rfl (tyX2_ok 1 (by decide)) rfl rfl (Nat.le_of_ble_eq_true rfl) (ws2 := [(h0, .inr (2, [.ref q1, .ref q2, .null, .int (zI 0), .int (zI 0)])), (q1, .inl (cI, 160, .inl (zA (fun _ => 0)))), (q2, .inl (cI, 8, .inl (zA (fun _ => 0))))]) rfl dX2_init_18 ?_
  refine c_aload0 F (j := 0) rfl dX2_init_21 ?_
  refine c_bipush F bp_8 dX2_init_22 ?_
  refine c_newI F (N := 8) wm_17 (by decide) (by decide) (by decide) (Nat.le_of_ble_eq_true rfl) (Nat.le_of_ble_eq_true rfl) dX2_init_24 (fun q3 => ?_)
  refine c_putR F 0 2 inWX2 rfl rfl (by decide) wm_59 tyX2 tyX2_ok nmX2 rfl rfl (tyX2_ok 2 (by decide)) rfl rfl (Nat.le_of_ble_eq_true rfl) (ws2 := [(h0, .inr (2, [.ref q1, .ref q2, .ref q3, .int (zI 0), .int (zI 0)])), (q1, .inl (cI, 160, .inl (zA (fun _ => 0)))), (q2, .inl (cI, 8, .inl (zA (fun _ => 0)))), (q3, .inl (cI, 8, .inl (zA (fun _ => 0))))]) rfl dX2_init_26 ?_
  exact c_ret F hQ (fun k => ([h0, q1, q2, q3] : List Nat).getD k 0) rfl rfl dX2_init_29
def w0X8 (cI cZ : ClassId) (ad : Nat → Nat) : va_W := [(ad 0, .inr (8, [.ref (ad 1), .ref (ad 3), .ref (ad 7), .ref (ad 11), .ref (ad 23), .ref (ad 28), .ref (ad 34)])), (ad 1, .inr (4, [.ref (ad 2), .int (zI 0)])), (ad 2, .inl (cI, 12, .inl (zA (fun _ => 0)))), (ad 3, .inr (7, [.ref (ad 4), .ref (ad 5), .ref (ad 6), .int (zI 0)])), (ad 4, .inl (cI, 240, .inl (zA (fun _ => 0)))), (ad 5, .inl (cI, 20, .inl (zA (fun _ => 0)))), (ad 6, .inl (cI, 13, .inl (zA (fun _ => 0)))), (ad 7, .inr (0, [.ref (ad 8), .ref (ad 9), .ref (ad 10), .int (zI 0)])), (ad 8, .inl (cI, 12, .inl (zA (fun _ => 0)))), (ad 9, .inl (cI, 12, .inl (zA (fun _ => 0)))), (ad 10, .inl (cI, 12, .inl (zA (fun _ => 0)))), (ad 11, .inr (1, [.ref (ad 12), .ref (ad 13), .ref (ad 14), .ref (ad 15), .ref (ad 16), .ref (ad 17), .ref (ad 18), .ref (ad 19), .ref (ad 20), .ref (ad 21), .ref (ad 22), .int (zI 0)])), (ad 12, .inl (cI, 60, .inl (zA (fun _ => 0)))), (ad 13, .inl (cI, 60, .inl (zA (fun _ => 0)))), (ad 14, .inl (cI, 60, .inl (zA (fun _ => 0)))), (ad 15, .inl (cI, 60, .inl (zA (fun _ => 0)))), (ad 16, .inl (cI, 60, .inl (zA (fun _ => 0)))), (ad 17, .inl (cI, 60, .inl (zA (fun _ => 0)))), (ad 18, .inl (cI, 60, .inl (zA (fun _ => 0)))), (ad 19, .inl (cI, 60, .inl (zA (fun _ => 0)))), (ad 20, .inl (cI, 60, .inl (zA (fun _ => 0)))), (ad 21, .inl (cZ, 60, .inl (zA (fun _ => 0)))), (ad 22, .inl (cI, 60, .inl (zA (fun _ => 0)))), (ad 23, .inr (5, [.ref (ad 24), .ref (ad 25), .ref (ad 26), .ref (ad 27), .int (zI 0)])), (ad 24, .inl (cI, 10, .inl (zA (fun _ => 0)))), (ad 25, .inl (cI, 10, .inl (zA (fun _ => 0)))), (ad 26, .inl (cI, 6, .inl (zA (fun _ => 0)))), (ad 27, .inl (cI, 6, .inl (zA (fun _ => 0)))), (ad 28, .inr (6, [.ref (ad 29), .ref (ad 31), .ref (ad 33), .int (zI 0), .int (zI 0)])), (ad 29, .inr (3, [.ref (ad 30), .int (zI 0)])), (ad 30, .inl (cI, 240, .inl (zA (fun _ => 0)))), (ad 31, .inr (3, [.ref (ad 32), .int (zI 0)])), (ad 32, .inl (cI, 240, .inl (zA (fun _ => 0)))), (ad 33, .inl (cI, 240, .inl (zA (fun _ => 0)))), (ad 34, .inr (2, [.ref (ad 35), .ref (ad 36), .ref (ad 37), .int (zI 0), .int (zI 0)])), (ad 35, .inl (cI, 160, .inl (zA (fun _ => 0)))), (ad 36, .inl (cI, 8, .inl (zA (fun _ => 0)))), (ad 37, .inl (cI, 8, .inl (zA (fun _ => 0))))]
theorem fsX8_0 : ∀ j, j < 7 → defaultValue (tyX8 j) = vp_V [.null, .null, .null, .null, .null, .null, .null] j := by
  intro j hj
  match j, hj with
  | 0, _ => rfl
  | 1, _ => rfl
  | 2, _ => rfl
  | 3, _ => rfl
  | 4, _ => rfl
  | 5, _ => rfl
  | 6, _ => rfl
  | q + 7, h => exact absurd h (by omega)
set_option maxRecDepth 100000 in
theorem c_X8_init {l : Launch} {D : va_G} {cI cZ : ClassId} : zCt l yX8_init cX8_init 1 { frames := 3, cells := 37, slots := 1950, locals := 52 } D cI cZ 8 [.null, .null, .null, .null, .null, .null, .null] (w0X8 cI cZ) 37 1950 := by
  refine c_start (by decide +kernel) rfl (Nat.le_of_ble_eq_true rfl) (fun Γ h0 F hQ => ?_)
  have F : zCF Γ cI cZ cX8_init { frames := 3, cells := 37, slots := 1950, locals := 52 } 1 RX8 := F
  refine c_oi F (j := 0) wm_60 wm_15 wm_16 rfl (Nat.le_of_ble_eq_true rfl) (Nat.le_of_ble_eq_true rfl) dX8_init_0 dX8_init_1 ?_
  refine c_aload0 F (j := 0) rfl dX8_init_4 ?_
  refine c_new F (fs := [.null, .int (zI 0)]) inWX4 tyX4 tyX4_ok wm_61 wm_62 wm_63 (ci := 4) rfl (fsX4_0) (Nat.le_of_ble_eq_true rfl) (Nat.le_of_ble_eq_true rfl) dX8_init_5 (fun q1 => ?_)
  refine c_dup F rfl dX8_init_8 ?_
  refine c_ctor F (W0 := w0X4 cI cZ) wm_64 wm_63 wm_65 nw_X8_11 rfl ⟨by decide, by decide, by decide +kernel⟩ (fun l D => c_X4_init) ⟨rfl, rfl, Nat.le_of_ble_eq_true rfl, Nat.le_of_ble_eq_true rfl⟩ (Nat.le_of_ble_eq_true rfl) (Nat.le_of_ble_eq_true rfl) (Nat.le_of_ble_eq_true rfl) dX8_init_9 (fun ad1 e1 => ?_)
  subst e1
  refine c_putR F 0 0 inWX8 rfl rfl (by decide) wm_66 tyX8 tyX8_ok nmX8 rfl rfl (tyX8_ok 0 (by decide)) rfl rfl (Nat.le_of_ble_eq_true rfl) (ws2 := [(h0, .inr (8, [.ref (ad1 0), .null, .null, .null, .null, .null, .null])), (ad1 0, .inr (4, [.ref (ad1 1), .int (zI 0)])), (ad1 1, .inl (cI, 12, .inl (zA (fun _ => 0))))]) rfl dX8_init_12 ?_
  refine c_aload0 F (j := 0) rfl dX8_init_15 ?_
  refine c_new F (fs := [.null, .null, .null, .int (zI 0)]) inWX7 tyX7 tyX7_ok wm_67 wm_68 wm_69 (ci := 7) rfl (fsX7_0) (Nat.le_of_ble_eq_true rfl) (Nat.le_of_ble_eq_true rfl) dX8_init_16 (fun q2 => ?_)
  refine c_dup F rfl dX8_init_19 ?_
  refine c_ctor F (W0 := w0X7 cI cZ) wm_70 wm_69 wm_71 nw_X8_18 rfl ⟨by decide, by decide, by decide +kernel⟩ (fun l D => c_X7_init) ⟨rfl, rfl, Nat.le_of_ble_eq_true rfl, Nat.le_of_ble_eq_true rfl⟩ (Nat.le_of_ble_eq_true rfl) (Nat.le_of_ble_eq_true rfl) (Nat.le_of_ble_eq_true rfl) dX8_init_20 (fun ad2 e2 => ?_)
  subst e2
  refine c_putR F 0 1 inWX8 rfl rfl (by decide) wm_72 tyX8 tyX8_ok nmX8 rfl rfl (tyX8_ok 1 (by decide)) rfl rfl (Nat.le_of_ble_eq_true rfl) (ws2 := [(h0, .inr (8, [.ref (ad1 0), .ref (ad2 0), .null, .null, .null, .null, .null])), (ad1 0, .inr (4, [.ref (ad1 1), .int (zI 0)])), (ad1 1, .inl (cI, 12, .inl (zA (fun _ => 0)))), (ad2 0, .inr (7, [.ref (ad2 1), .ref (ad2 2), .ref (ad2 3), .int (zI 0)])), (ad2 1, .inl (cI, 240, .inl (zA (fun _ => 0)))), (ad2 2, .inl (cI, 20, .inl (zA (fun _ => 0)))), (ad2 3, .inl (cI, 13, .inl (zA (fun _ => 0))))]) rfl dX8_init_23 ?_
  refine c_aload0 F (j := 0) rfl dX8_init_26 ?_
  refine c_new F (fs := [.null, .null, .null, .int (zI 0)]) inWX0 tyX0 tyX0_ok wm_73 wm_74 wm_75 (ci := 0) rfl (fsX0_0) (Nat.le_of_ble_eq_true rfl) (Nat.le_of_ble_eq_true rfl) dX8_init_27 (fun q3 => ?_)
  refine c_dup F rfl dX8_init_30 ?_
  refine c_ctor F (W0 := w0X0 cI cZ) wm_76 wm_75 wm_77 nw_X8_25 rfl ⟨by decide, by decide, by decide +kernel⟩ (fun l D => c_X0_init) ⟨rfl, rfl, Nat.le_of_ble_eq_true rfl, Nat.le_of_ble_eq_true rfl⟩ (Nat.le_of_ble_eq_true rfl) (Nat.le_of_ble_eq_true rfl) (Nat.le_of_ble_eq_true rfl) dX8_init_31 (fun ad3 e3 => ?_)
  subst e3
  refine c_putR F 0 2 inWX8 rfl rfl (by decide) wm_78 tyX8 tyX8_ok nmX8 rfl rfl (tyX8_ok 2 (by decide)) rfl rfl (Nat.le_of_ble_eq_true rfl) (ws2 := [(h0, .inr (8, [.ref (ad1 0), .ref (ad2 0), .ref (ad3 0), .null, .null, .null, .null])), (ad1 0, .inr (4, [.ref (ad1 1), .int (zI 0)])), (ad1 1, .inl (cI, 12, .inl (zA (fun _ => 0)))), (ad2 0, .inr (7, [.ref (ad2 1), .ref (ad2 2), .ref (ad2 3), .int (zI 0)])), (ad2 1, .inl (cI, 240, .inl (zA (fun _ => 0)))), (ad2 2, .inl (cI, 20, .inl (zA (fun _ => 0)))), (ad2 3, .inl (cI, 13, .inl (zA (fun _ => 0)))), (ad3 0, .inr (0, [.ref (ad3 1), .ref (ad3 2), .ref (ad3 3), .int (zI 0)])), (ad3 1, .inl (cI, 12, .inl (zA (fun _ => 0)))), (ad3 2, .inl (cI, 12, .inl (zA (fun _ => 0)))), (ad3 3, .inl (cI, 12, .inl (zA (fun _ => 0))))]) rfl dX8_init_34 ?_
  refine c_aload0 F (j := 0) rfl dX8_init_37 ?_
  refine c_new F (fs := [.null, .null, .null, .null, .null, .null, .null, .null, .null, .null, .null, .int (zI 0)]) inWX1 tyX1 tyX1_ok wm_79 wm_80 wm_81 (ci := 1) rfl (fsX1_0) (Nat.le_of_ble_eq_true rfl) (Nat.le_of_ble_eq_true rfl) dX8_init_38 (fun q4 => ?_)
  refine c_dup F rfl dX8_init_41 ?_
  refine c_ctor F (W0 := w0X1 cI cZ) wm_82 wm_81 wm_83 nw_X8_32 rfl ⟨by decide, by decide, by decide +kernel⟩ (fun l D => c_X1_init) ⟨rfl, rfl, Nat.le_of_ble_eq_true rfl, Nat.le_of_ble_eq_true rfl⟩ (Nat.le_of_ble_eq_true rfl) (Nat.le_of_ble_eq_true rfl) (Nat.le_of_ble_eq_true rfl) dX8_init_42 (fun ad4 e4 => ?_)
  subst e4
  refine c_putR F 0 3 inWX8 rfl rfl (by decide) wm_84 tyX8 tyX8_ok nmX8 rfl rfl (tyX8_ok 3 (by decide)) rfl rfl (Nat.le_of_ble_eq_true rfl) (ws2 := [(h0, .inr (8, [.ref (ad1 0), .ref (ad2 0), .ref (ad3 0), .ref (ad4 0), .null, .null, .null])), (ad1 0, .inr (4, [.ref (ad1 1), .int (zI 0)])), (ad1 1, .inl (cI, 12, .inl (zA (fun _ => 0)))), (ad2 0, .inr (7, [.ref (ad2 1), .ref (ad2 2), .ref (ad2 3), .int (zI 0)])), (ad2 1, .inl (cI, 240, .inl (zA (fun _ => 0)))), (ad2 2, .inl (cI, 20, .inl (zA (fun _ => 0)))), (ad2 3, .inl (cI, 13, .inl (zA (fun _ => 0)))), (ad3 0, .inr (0, [.ref (ad3 1), .ref (ad3 2), .ref (ad3 3), .int (zI 0)])), (ad3 1, .inl (cI, 12, .inl (zA (fun _ => 0)))), (ad3 2, .inl (cI, 12, .inl (zA (fun _ => 0)))), (ad3 3, .inl (cI, 12, .inl (zA (fun _ => 0)))), (ad4 0, .inr (1, [.ref (ad4 1), .ref (ad4 2), .ref (ad4 3), .ref (ad4 4), .ref (ad4 5), .ref (ad4 6), .ref (ad4 7), .ref (ad4 8), .ref (ad4 9), .ref (ad4 10), .ref (ad4 11), .int (zI 0)])), (ad4 1, .inl (cI, 60, .inl (zA (fun _ => 0)))), (ad4 2, .inl (cI, 60, .inl (zA (fun _ => 0)))), (ad4 3, .inl (cI, 60, .inl (zA (fun _ => 0)))), (ad4 4, .inl (cI, 60, .inl (zA (fun _ => 0)))), (ad4 5, .inl (cI, 60, .inl (zA (fun _ => 0)))), (ad4 6, .inl (cI, 60, .inl (zA (fun _ => 0)))), (ad4 7, .inl (cI, 60, .inl (zA (fun _ => 0)))), (ad4 8, .inl (cI, 60, .inl (zA (fun _ => 0)))), (ad4 9, .inl (cI, 60, .inl (zA (fun _ => 0)))), (ad4 10, .inl (cZ, 60, .inl (zA (fun _ => 0)))), (ad4 11, .inl (cI, 60, .inl (zA (fun _ => 0))))]) rfl dX8_init_45 ?_
  refine c_aload0 F (j := 0) rfl dX8_init_48 ?_
  refine c_new F (fs := [.null, .null, .null, .null, .int (zI 0)]) inWX5 tyX5 tyX5_ok wm_85 wm_86 wm_87 (ci := 5) rfl (fsX5_0) (Nat.le_of_ble_eq_true rfl) (Nat.le_of_ble_eq_true rfl) dX8_init_49 (fun q5 => ?_)
  refine c_dup F rfl dX8_init_52 ?_
  refine c_ctor F (W0 := w0X5 cI cZ) wm_88 wm_87 wm_89 nw_X8_39 rfl ⟨by decide, by decide, by decide +kernel⟩ (fun l D => c_X5_init) ⟨rfl, rfl, Nat.le_of_ble_eq_true rfl, Nat.le_of_ble_eq_true rfl⟩ (Nat.le_of_ble_eq_true rfl) (Nat.le_of_ble_eq_true rfl) (Nat.le_of_ble_eq_true rfl) dX8_init_53 (fun ad5 e5 => ?_)
  subst e5
  refine c_putR F 0 4 inWX8 rfl rfl (by decide) wm_90 tyX8 tyX8_ok nmX8 rfl rfl (tyX8_ok 4 (by decide)) rfl rfl (Nat.le_of_ble_eq_true rfl) (ws2 := [(h0, .inr (8, [.ref (ad1 0), .ref (ad2 0), .ref (ad3 0), .ref (ad4 0), .ref (ad5 0), .null, .null])), (ad1 0, .inr (4, [.ref (ad1 1), .int (zI 0)])), (ad1 1, .inl (cI, 12, .inl (zA (fun _ => 0)))), (ad2 0, .inr (7, [.ref (ad2 1), .ref (ad2 2), .ref (ad2 3), .int (zI 0)])), (ad2 1, .inl (cI, 240, .inl (zA (fun _ => 0)))), (ad2 2, .inl (cI, 20, .inl (zA (fun _ => 0)))), (ad2 3, .inl (cI, 13, .inl (zA (fun _ => 0)))), (ad3 0, .inr (0, [.ref (ad3 1), .ref (ad3 2), .ref (ad3 3), .int (zI 0)])), (ad3 1, .inl (cI, 12, .inl (zA (fun _ => 0)))), (ad3 2, .inl (cI, 12, .inl (zA (fun _ => 0)))), (ad3 3, .inl (cI, 12, .inl (zA (fun _ => 0)))), (ad4 0, .inr (1, [.ref (ad4 1), .ref (ad4 2), .ref (ad4 3), .ref (ad4 4), .ref (ad4 5), .ref (ad4 6), .ref (ad4 7), .ref (ad4 8), .ref (ad4 9), .ref (ad4 10), .ref (ad4 11), .int (zI 0)])), (ad4 1, .inl (cI, 60, .inl (zA (fun _ => 0)))), (ad4 2, .inl (cI, 60, .inl (zA (fun _ => 0)))), (ad4 3, .inl (cI, 60, .inl (zA (fun _ => 0)))), (ad4 4, .inl (cI, 60, .inl (zA (fun _ => 0)))), (ad4 5, .inl (cI, 60, .inl (zA (fun _ => 0)))), (ad4 6, .inl (cI, 60, .inl (zA (fun _ => 0)))), (ad4 7, .inl (cI, 60, .inl (zA (fun _ => 0)))), (ad4 8, .inl (cI, 60, .inl (zA (fun _ => 0)))), (ad4 9, .inl (cI, 60, .inl (zA (fun _ => 0)))), (ad4 10, .inl (cZ, 60, .inl (zA (fun _ => 0)))), (ad4 11, .inl (cI, 60, .inl (zA (fun _ => 0)))), (ad5 0, .inr (5, [.ref (ad5 1), .ref (ad5 2), .ref (ad5 3), .ref (ad5 4), .int (zI 0)])), (ad5 1, .inl (cI, 10, .inl (zA (fun _ => 0)))), (ad5 2, .inl (cI, 10, .inl (zA (fun _ => 0)))), (ad5 3, .inl (cI, 6, .inl (zA (fun _ => 0)))), (ad5 4, .inl (cI, 6, .inl (zA (fun _ => 0))))]) rfl dX8_init_56 ?_
  refine c_aload0 F (j := 0) rfl dX8_init_59 ?_
  refine c_new F (fs := [.null, .null, .null, .int (zI 0), .int (zI 0)]) inWX6 tyX6 tyX6_ok wm_91 wm_92 wm_93 (ci := 6) rfl (fsX6_0) (Nat.le_of_ble_eq_true rfl) (Nat.le_of_ble_eq_true rfl) dX8_init_60 (fun q6 => ?_)
  refine c_dup F rfl dX8_init_63 ?_
  refine c_ctor F (W0 := w0X6 cI cZ) wm_94 wm_93 wm_95 nw_X8_46 rfl ⟨by decide, by decide, by decide +kernel⟩ (fun l D => c_X6_init) ⟨rfl, rfl, Nat.le_of_ble_eq_true rfl, Nat.le_of_ble_eq_true rfl⟩ (Nat.le_of_ble_eq_true rfl) (Nat.le_of_ble_eq_true rfl) (Nat.le_of_ble_eq_true rfl) dX8_init_64 (fun ad6 e6 => ?_)
  subst e6
  refine c_putR F 0 5 inWX8 rfl rfl (by decide) wm_96 tyX8 tyX8_ok nmX8 rfl rfl (tyX8_ok 5 (by decide)) rfl rfl (Nat.le_of_ble_eq_true rfl) (ws2 := [(h0, .inr (8, [.ref (ad1 0), .ref (ad2 0), .ref (ad3 0), .ref (ad4 0), .ref (ad5 0), .ref (ad6 0), .null])), (ad1 0, .inr (4, [.ref (ad1 1), .int (zI 0)])), (ad1 1, .inl (cI, 12, .inl (zA (fun _ => 0)))), (ad2 0, .inr (7, [.ref (ad2 1), .ref (ad2 2), .ref (ad2 3), .int (zI 0)])), (ad2 1, .inl (cI, 240, .inl (zA (fun _ => 0)))), (ad2 2, .inl (cI, 20, .inl (zA (fun _ => 0)))), (ad2 3, .inl (cI, 13, .inl (zA (fun _ => 0)))), (ad3 0, .inr (0, [.ref (ad3 1), .ref (ad3 2), .ref (ad3 3), .int (zI 0)])), (ad3 1, .inl (cI, 12, .inl (zA (fun _ => 0)))), (ad3 2, .inl (cI, 12, .inl (zA (fun _ => 0)))), (ad3 3, .inl (cI, 12, .inl (zA (fun _ => 0)))), (ad4 0, .inr (1, [.ref (ad4 1), .ref (ad4 2), .ref (ad4 3), .ref (ad4 4), .ref (ad4 5), .ref (ad4 6), .ref (ad4 7), .ref (ad4 8), .ref (ad4 9), .ref (ad4 10), .ref (ad4 11), .int (zI 0)])), (ad4 1, .inl (cI, 60, .inl (zA (fun _ => 0)))), (ad4 2, .inl (cI, 60, .inl (zA (fun _ => 0)))), (ad4 3, .inl (cI, 60, .inl (zA (fun _ => 0)))), (ad4 4, .inl (cI, 60, .inl (zA (fun _ => 0)))), (ad4 5, .inl (cI, 60, .inl (zA (fun _ => 0)))), (ad4 6, .inl (cI, 60, .inl (zA (fun _ => 0)))), (ad4 7, .inl (cI, 60, .inl (zA (fun _ => 0)))), (ad4 8, .inl (cI, 60, .inl (zA (fun _ => 0)))), (ad4 9, .inl (cI, 60, .inl (zA (fun _ => 0)))), (ad4 10, .inl (cZ, 60, .inl (zA (fun _ => 0)))), (ad4 11, .inl (cI, 60, .inl (zA (fun _ => 0)))), (ad5 0, .inr (5, [.ref (ad5 1), .ref (ad5 2), .ref (ad5 3), .ref (ad5 4), .int (zI 0)])), (ad5 1, .inl (cI, 10, .inl (zA (fun _ => 0)))), (ad5 2, .inl (cI, 10, .inl (zA (fun _ => 0)))), (ad5 3, .inl (cI, 6, .inl (zA (fun _ => 0)))), (ad5 4, .inl (cI, 6, .inl (zA (fun _ => 0)))), (ad6 0, .inr (6, [.ref (ad6 1), .ref (ad6 3), .ref (ad6 5), .int (zI 0), .int (zI 0)])), (ad6 1, .inr (3, [.ref (ad6 2), .int (zI 0)])), (ad6 2, .inl (cI, 240, .inl (zA (fun _ => 0)))), (ad6 3, .inr (3, [.ref (ad6 4), .int (zI 0)])), (ad6 4, .inl (cI, 240, .inl (zA (fun _ => 0)))), (ad6 5, .inl (cI, 240, .inl (zA (fun _ => 0))))]) rfl dX8_init_67 ?_
  refine c_aload0 F (j := 0) rfl dX8_init_70 ?_
  refine c_new F (fs := [.null, .null, .null, .int (zI 0), .int (zI 0)]) inWX2 tyX2 tyX2_ok wm_97 wm_98 wm_99 (ci := 2) rfl (fsX2_0) (Nat.le_of_ble_eq_true rfl) (Nat.le_of_ble_eq_true rfl) dX8_init_71 (fun q7 => ?_)
  refine c_dup F rfl dX8_init_74 ?_
  refine c_ctor F (W0 := w0X2 cI cZ) wm_100 wm_99 wm_101 nw_X8_53 rfl ⟨by decide, by decide, by decide +kernel⟩ (fun l D => c_X2_init) ⟨rfl, rfl, Nat.le_of_ble_eq_true rfl, Nat.le_of_ble_eq_true rfl⟩ (Nat.le_of_ble_eq_true rfl) (Nat.le_of_ble_eq_true rfl) (Nat.le_of_ble_eq_true rfl) dX8_init_75 (fun ad7 e7 => ?_)
  subst e7
  refine c_putR F 0 6 inWX8 rfl rfl (by decide) wm_102 tyX8 tyX8_ok nmX8 rfl rfl (tyX8_ok 6 (by decide)) rfl rfl (Nat.le_of_ble_eq_true rfl) (ws2 := [(h0, .inr (8, [.ref (ad1 0), .ref (ad2 0), .ref (ad3 0), .ref (ad4 0), .ref (ad5 0), .ref (ad6 0), .ref (ad7 0)])), (ad1 0, .inr (4, [.ref (ad1 1), .int (zI 0)])), (ad1 1, .inl (cI, 12, .inl (zA (fun _ => 0)))), (ad2 0, .inr (7, [.ref (ad2 1), .ref (ad2 2), .ref (ad2 3), .int (zI 0)])), (ad2 1, .inl (cI, 240, .inl (zA (fun _ => 0)))), (ad2 2, .inl (cI, 20, .inl (zA (fun _ => 0)))), (ad2 3, .inl (cI, 13, .inl (zA (fun _ => 0)))), (ad3 0, .inr (0, [.ref (ad3 1), .ref (ad3 2), .ref (ad3 3), .int (zI 0)])), (ad3 1, .inl (cI, 12, .inl (zA (fun _ => 0)))), (ad3 2, .inl (cI, 12, .inl (zA (fun _ => 0)))), (ad3 3, .inl (cI, 12, .inl (zA (fun _ => 0)))), (ad4 0, .inr (1, [.ref (ad4 1), .ref (ad4 2), .ref (ad4 3), .ref (ad4 4), .ref (ad4 5), .ref (ad4 6), .ref (ad4 7), .ref (ad4 8), .ref (ad4 9), .ref (ad4 10), .ref (ad4 11), .int (zI 0)])), (ad4 1, .inl (cI, 60, .inl (zA (fun _ => 0)))), (ad4 2, .inl (cI, 60, .inl (zA (fun _ => 0)))), (ad4 3, .inl (cI, 60, .inl (zA (fun _ => 0)))), (ad4 4, .inl (cI, 60, .inl (zA (fun _ => 0)))), (ad4 5, .inl (cI, 60, .inl (zA (fun _ => 0)))), (ad4 6, .inl (cI, 60, .inl (zA (fun _ => 0)))), (ad4 7, .inl (cI, 60, .inl (zA (fun _ => 0)))), (ad4 8, .inl (cI, 60, .inl (zA (fun _ => 0)))), (ad4 9, .inl (cI, 60, .inl (zA (fun _ => 0)))), (ad4 10, .inl (cZ, 60, .inl (zA (fun _ => 0)))), (ad4 11, .inl (cI, 60, .inl (zA (fun _ => 0)))), (ad5 0, .inr (5, [.ref (ad5 1), .ref (ad5 2), .ref (ad5 3), .ref (ad5 4), .int (zI 0)])), (ad5 1, .inl (cI, 10, .inl (zA (fun _ => 0)))), (ad5 2, .inl (cI, 10, .inl (zA (fun _ => 0)))), (ad5 3, .inl (cI, 6, .inl (zA (fun _ => 0)))), (ad5 4, .inl (cI, 6, .inl (zA (fun _ => 0)))), (ad6 0, .inr (6, [.ref (ad6 1), .ref (ad6 3), .ref (ad6 5), .int (zI 0), .int (zI 0)])), (ad6 1, .inr (3, [.ref (ad6 2), .int (zI 0)])), (ad6 2, .inl (cI, 240, .inl (zA (fun _ => 0)))), (ad6 3, .inr (3, [.ref (ad6 4), .int (zI 0)])), (ad6 4, .inl (cI, 240, .inl (zA (fun _ => 0)))), (ad6 5, .inl (cI, 240, .inl (zA (fun _ => 0)))), (ad7 0, .inr (2, [.ref (ad7 1), .ref (ad7 2), .ref (ad7 3), .int (zI 0), .int (zI 0)])), (ad7 1, .inl (cI, 160, .inl (zA (fun _ => 0)))), (ad7 2, .inl (cI, 8, .inl (zA (fun _ => 0)))), (ad7 3, .inl (cI, 8, .inl (zA (fun _ => 0))))]) rfl dX8_init_78 ?_
  exact c_ret F hQ (fun k => ([h0, ad1 0, ad1 1, ad2 0, ad2 1, ad2 2, ad2 3, ad3 0, ad3 1, ad3 2, ad3 3, ad4 0, ad4 1, ad4 2, ad4 3, ad4 4, ad4 5, ad4 6, ad4 7, ad4 8, ad4 9, ad4 10, ad4 11, ad5 0, ad5 1, ad5 2, ad5 3, ad5 4, ad6 0, ad6 1, ad6 2, ad6 3, ad6 4, ad6 5, ad7 0, ad7 1, ad7 2, ad7 3] : List Nat).getD k 0) rfl rfl dX8_init_81
def zS0 : zSt := (fun _ => 0, fun _ _ => 0)
theorem zS0_G (bs : List Nat) : RG bs zS0 := ⟨fun _ => by show inR 0; decide, fun _ _ => by show inR 0; decide, fun _ _ _ => Or.inl rfl⟩
theorem zD_same {D : va_G} {A : Nat → Prop} {w : zSt → va_W} (h : ∀ S S', (w S).map Prod.fst = (w S').map Prod.fst) {S S' : zSt} (hd : va_D A (w S)) : va_D A (w S') := by
  have key : ∀ {i : Nat} {p : Nat × va_E}, (w S')[i]? = some p → ∃ q, (w S)[i]? = some q ∧ q.1 = p.1 := by
    intro i p hp
    have e1 : ((w S').map Prod.fst)[i]? = some p.1 := by rw [List.getElem?_map, hp]; rfl
    rw [h S' S, List.getElem?_map] at e1
    cases hq : (w S)[i]? with
    | none => rw [hq] at e1; cases e1
    | some q => rw [hq] at e1; exact ⟨q, rfl, Option.some.inj e1⟩
  refine ⟨fun i j p q hp hq e => ?_, fun k q hq => ?_⟩
  · obtain ⟨p2, h1, h2⟩ := key hp
    obtain ⟨q2, h3, h4⟩ := key hq
    exact hd.1 i j p2 q2 h1 h3 (by rw [h2, h4]; exact e)
  · obtain ⟨q2, h3, h4⟩ := key hq
    rw [← h4]
    exact hd.2 k q2 h3
set_option maxRecDepth 100000 in
theorem wC_same (cI cZ : ClassId) (ad : Nat → Nat) (S S' : zSt) : (wC cI cZ ad S).map Prod.fst = (wC cI cZ ad S').map Prod.fst := rfl
