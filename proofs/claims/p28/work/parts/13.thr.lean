/-! METHODS THAT THROW -/
def zCAS : List String := ["java/lang/IllegalArgumentException", "java/lang/IllegalStateException", "java/lang/IndexOutOfBoundsException"]
def zDEC : List MethodName := [⟨"java/lang/Throwable", "<init>", "(Ljava/lang/String;)V"⟩, ⟨"java/lang/Exception", "<init>", "(Ljava/lang/String;)V"⟩, ⟨"java/lang/RuntimeException", "<init>", "(Ljava/lang/String;)V"⟩, ⟨"java/lang/Throwable", "<init>", "()V"⟩, ⟨"java/lang/Exception", "<init>", "()V"⟩, ⟨"java/lang/RuntimeException", "<init>", "()V"⟩]
def zSTR : List (Nat × String) := [(68, "the pad is full"), (84, "the pad is empty"), (87, "no more units"), (101, "no such unit or place"), (115, "the only word of the unit"), (127, "no such place"), (134, "no more authors"), (152, "the unit has no such word"), (285, "an argument is out of its range"), (290, "no such unit"), (293, "no such author"), (296, "no such comment"), (299, "no more comments")]
def zNMS : List String := ["java/lang/RuntimeException", "java/lang/Exception"]
/-- what a throw needs of the world's rest: Throwable's statics, the strings, words that no list may hold -/
def zT (ads : Nat → Nat) (A : Nat → Prop) (U : State) : Prop := vx_Zq Bundle.tN "UNASSIGNED_STACK" Bundle.steD A U U.heap ∧ vx_Zq Bundle.tN "SUPPRESSED_SENTINEL" Bundle.listD A U U.heap ∧ (∀ q ∈ zSTR, vk_R RX8 q.1 q.2 (ads q.1) U) ∧ (∀ q ∈ zCAS, va_Nw (.castable q q) U) ∧ ∀ y ∈ zDEC, va_Nw (.declares y) U
theorem zT.go {ads : Nat → Nat} {A : Nat → Prop} {s U : State} (hW : s.WarmedH U.vm) (hq : ∀ a : Nat, a < s.heap.size → ¬ A a → U.heap[a]? = s.heap[a]?) (h : zT ads A s) : zT ads A U :=
  ⟨(vx_Zq.moved hW.alike h.1).kept hq, (vx_Zq.moved hW.alike h.2.1).kept hq, fun q hm => vk_R.warm hW (h.2.2.1 q hm), fun q hm => va_Nw.warmC hW (h.2.2.2.1 q hm), fun y hm => va_Nw.warmD hW (h.2.2.2.2 y hm)⟩
theorem zT.same {ads : Nat → Nat} {A : Nat → Prop} {u U : State} (hv : U.vm = u.vm) (hh : U.heap = u.heap) (h : zT ads A u) : zT ads A U := by
  have ha : u.vm.Alike U.vm := by rw [hv]; exact Vm.Alike.refl u.vm
  refine ⟨?_, ?_, fun q hm => vk_R.same hv (h.2.2.1 q hm), fun q hm => va_Nw.same rfl hv.symm (h.2.2.2.1 q hm), fun y hm => va_Nw.same rfl hv.symm (h.2.2.2.2 y hm)⟩
  · rw [hh]; exact vx_Zq.moved ha h.1
  · rw [hh]; exact vx_Zq.moved ha h.2.1
abbrev zRx : Type := zRes ⊕ (String × zSt)
def zroom (fr lo : Nat) (r : zRx) : Room := { frames := fr, cells := (match r with | .inl _ => 0 | .inr _ => 1), slots := (match r with | .inl _ => 0 | .inr _ => 6), locals := lo }
def zPc (D : va_G) (cI cZ : ClassId) (ads : Nat → Nat) (A : Nat → Prop) (w : zSt → va_W) (av : List Value) (S : zSt) : Array Value → State → Prop := va_Pc av (fun U => va_P D vwCl (w S) U.heap ∧ zK D cI cZ U ∧ zT ads A U)
theorem zPc.blind {D : va_G} {cI cZ : ClassId} {ads : Nat → Nat} {A : Nat → Prop} {w : zSt → va_W} {av : List Value} {S : zSt} : FrameBlind (zPc D cI cZ ads A w av S) := fun a U g mk q => ⟨q.1, q.2.1, zK.same (u := U) (U := U.calling g mk a) rfl q.2.2.1, zT.same (u := U) (U := U.calling g mk a) rfl rfl q.2.2.2⟩
def zMr (l : Launch) (y : MethodName) (cy : ByteArray) (mL : Nat) (ret : Option FieldType) (fr lo : Nat) (D : va_G) (cI cZ : ClassId) (ads : Nat → Nat) (A : Nat → Prop) (w : zSt → va_W) (G : zSt → Prop) (av : List Value) (S : zSt) (r : zRx) : Prop :=
  match r with
  | .inl q => (match ret with
    | some ty => Met l y (.code y cy mL (some ty) :: WS) (zroom fr lo (.inl q)) (zPc D cI cZ ads A w av S) (va_Qi (S := Unit) (fun v _ => v = zI q.1 ∧ inR q.1 ∧ G q.2 ∧ (ty = .boolean → q.1 = 0 ∨ q.1 = 1)) (fun _ t => va_P D vwCl (w q.2) t.heap) A) 0 0 A
    | none => Met l y (.code y cy mL none :: WS) (zroom fr lo (.inl q)) (zPc D cI cZ ads A w av S) (va_Qv (S := Unit) (fun _ => G q.2) (fun _ t => va_P D vwCl (w q.2) t.heap) A) 0 0 A)
  | .inr q => vx_Met l y (.code y cy mL ret :: WS) (zroom fr lo (.inr q)) (zPc D cI cZ ads A w av S) (va_Qv (S := Unit) (fun _ => False) (fun _ _ => True) A) (vx_X (fun _ : Unit => G q.2) (fun E _ t => E = q.1 ∧ va_P D vwCl (w q.2) t.heap) A) 1 6 A
def zX (Γ : zG) (ads : Nat → Nat) : Prop :=
  match Γ with
  | (_, l, _, _, s, _, _, _, _, _, _, _, A, _, _, _) => l.stackTraces = false ∧ zT ads A s
def zQx (Γ : zG) (w : zSt → va_W) (G : zSt → Prop) (E : String) (S' : zSt) : Prop :=
  match Γ with
  | (_, _, _, _, s, _, args, below, meth, c, Q, D, A, k, n, _) => k = 0 ∧ n = 0 ∧ Q = vx_MQ below (va_Qv (S := Unit) (fun _ => False) (fun _ _ => True) A) (vx_X (fun _ : Unit => G S') (fun E' _ t => E' = E ∧ va_P D vwCl (w S') t.heap) A) args s 1 6 A ∧ (∀ x ∈ c.exceptionTable.toList, False) ∧ meth.locks = false
def zQr (Γ : zG) (w : zSt → va_W) (G : zSt → Prop) (ret : Option FieldType) (r : zRx) : Prop :=
  match r, ret with
  | .inl q, some ty => zQi Γ w G ty q.1 q.2
  | .inl q, none => zQv Γ w G q.2
  | .inr q, _ => zQx Γ w G q.1 q.2
theorem k_startX {l : Launch} {y : MethodName} {cc : ByteArray} {maxL : Nat} {ret : Option FieldType} {fr lo : Nat} {D : va_G} {cI cZ : ClassId} {ads : Nat → Nat} {A : Nat → Prop} {w : zSt → va_W} {G : zSt → Prop} {av : List Value} {S : zSt} {r : zRx} (hy : plainName y.cls = true) (hst : l.stackTraces = false) (hD : ∀ S, va_D A (w S)) (hG : G S) (hlen : (lg_sl av).length ≤ maxL)
    (body : ∀ Γ : zG, zF Γ w cI cZ cc (zroom fr lo r) maxL y.cls → zX Γ ads → zQr Γ w G ret r → zk Γ w G S (lv_args 0 av) 0 []) : zMr l y cc maxL ret fr lo D cI cZ ads A w G av S r := by
  cases r with
  | inl q =>
    cases ret with
    | some ty =>
      refine Met.ofW (cc := cc) (maxL := maxL) (ret := some ty) hy rfl ?_
      intro p e s m args below meth c s₁ B hml hv
      obtain ⟨rfl, hP, hK, hT⟩ := hv
      have hts := atoms_spec (ws := .code y cc maxL (some ty) :: WS) B.pre
      have hown : s.vm.findClass y.cls = some m.cls := findClass_of_methodNamed B.named
      have hl := lv_entry av (n := maxL) hlen
      rw [lg_entry_eq]
      exact body (p, l, e, _, s, m, _, below, meth, c, _, D, A, 0, 0, maxL) ⟨B.exec, B.bytes, hml, hown, fun w hw => hts w (List.mem_cons_of_mem _ hw), hK, hD, rfl, Nat.zero_le _, Nat.zero_le _, rfl⟩ ⟨hst, hT⟩ ⟨rfl, rfl, rfl, B.returns, B.notSynchronized⟩ hG s.heap [] _ hP va_S.rf hl
    | none =>
      refine Met.ofW (cc := cc) (maxL := maxL) (ret := none) hy rfl ?_
      intro p e s m args below meth c s₁ B hml hv
      obtain ⟨rfl, hP, hK, hT⟩ := hv
      have hts := atoms_spec (ws := .code y cc maxL none :: WS) B.pre
      have hown : s.vm.findClass y.cls = some m.cls := findClass_of_methodNamed B.named
      have hl := lv_entry av (n := maxL) hlen
      rw [lg_entry_eq]
      exact body (p, l, e, _, s, m, _, below, meth, c, _, D, A, 0, 0, maxL) ⟨B.exec, B.bytes, hml, hown, fun w hw => hts w (List.mem_cons_of_mem _ hw), hK, hD, rfl, Nat.zero_le _, Nat.zero_le _, rfl⟩ ⟨hst, hT⟩ ⟨rfl, rfl, rfl, B.returns, B.notSynchronized⟩ hG s.heap [] _ hP va_S.rf hl
  | inr q =>
    refine vx_ofW (cc := cc) (maxL := maxL) (ret := ret) hy rfl ?_
    intro p e s m args below meth c s₁ B hml htab hv
    obtain ⟨rfl, hP, hK, hT⟩ := hv
    have hts := atoms_spec (ws := .code y cc maxL ret :: WS) B.pre
    have hown : s.vm.findClass y.cls = some m.cls := findClass_of_methodNamed B.named
    have hl := lv_entry av (n := maxL) hlen
    rw [lg_entry_eq]
    exact body (p, l, e, _, s, m, _, below, meth, c, _, D, A, 0, 0, maxL) ⟨B.exec, B.bytes, hml, hown, fun w hw => hts w (List.mem_cons_of_mem _ hw), hK, hD, rfl, Nat.zero_le _, Nat.zero_le _, rfl⟩ ⟨hst, hT⟩ (by cases ret <;> exact ⟨rfl, rfl, rfl, htab, B.notSynchronized⟩) hG s.heap [] _ hP va_S.rf hl
theorem k_ldcw {Γ : zG} {w : zSt → va_W} {cI cZ : ClassId} {cc : ByteArray} {rm : Room} {nL' : Nat} {own : String} {G : zSt → Prop} {S : zSt} {lv : List (Nat × Value)} {pc : Nat} {st : List Value} (F : zF Γ w cI cZ cc rm nL' own) {n : Int} {idx : Nat} {v : Int32} (hc : Cond.constant own idx v ∈ WS) (hv : v = zI n) (hd : decode cc pc = .ok (.ldc_w idx, 3)) (kk : zk Γ w G S lv (pc + 3) (.int (zI n) :: st)) : zk Γ w G S lv pc st := by
  obtain ⟨p, l, e, R, s, m, args, below, meth, c, Q, D, A, k0, n0, nL⟩ := Γ
  obtain ⟨hx, hb, hml, hown, hts, ⟨hK, hN⟩, hD, rfl, hk0, hn0, rfl⟩ := F
  intro hG H locs ls hP hS hh
  subst hv
  exact lv_ldcw hx hb hown (hts _ hc) hd (kk hG H locs ls hP hS hh)
def zThr (ik ic : Nat) (E : String) : Prop := Cond.classLink RX8 ik E ∈ WS ∧ Cond.initialized E ∈ WS ∧ (∀ w ∈ (vx_atS RX8 ic E zNMS).filter goodWord, w ∈ WS) ∧ (∀ w ∈ (vx_atS RX8 ic E zNMS).filter (fun w => !goodWord w), w ∈ zCAS.map (fun q => Cond.castable q q) ++ zDEC.map Cond.declares) ∧ (∀ w ∈ Cond.classLink RX8 ik E :: Cond.initialized E :: vx_atS RX8 ic E zNMS, vx_ot w = true) ∧ Bundle.fit E = true ∧ ∀ n ∈ zNMS, Bundle.fit n = true
theorem zthr_IAE0 : ∀ w ∈ (vx_atS RX8 287 "java/lang/IllegalArgumentException" zNMS).filter goodWord, w ∈ lw_tbl := by decide +kernel
theorem zthr_IAE : zThr 283 287 "java/lang/IllegalArgumentException" := ⟨wm_8, wm_9, fun w h => List.mem_filter.mpr ⟨zthr_IAE0 w h, (List.mem_filter.mp h).2⟩, by decide +kernel, by decide +kernel, by decide +kernel, by decide +kernel⟩
theorem zthr_ISE0 : ∀ w ∈ (vx_atS RX8 70 "java/lang/IllegalStateException" zNMS).filter goodWord, w ∈ lw_tbl := by decide +kernel
theorem zthr_ISE : zThr 66 70 "java/lang/IllegalStateException" := ⟨wm_10, wm_11, fun w h => List.mem_filter.mpr ⟨zthr_ISE0 w h, (List.mem_filter.mp h).2⟩, by decide +kernel, by decide +kernel, by decide +kernel, by decide +kernel⟩
theorem zthr_IOB0 : ∀ w ∈ (vx_atS RX8 103 "java/lang/IndexOutOfBoundsException" zNMS).filter goodWord, w ∈ lw_tbl := by decide +kernel
theorem zthr_IOB : zThr 99 103 "java/lang/IndexOutOfBoundsException" := ⟨wm_12, wm_13, fun w h => List.mem_filter.mpr ⟨zthr_IOB0 w h, (List.mem_filter.mp h).2⟩, by decide +kernel, by decide +kernel, by decide +kernel, by decide +kernel⟩
def zbx {R : Type} (x : Option zRx) (k : Int → zSt → Option (R ⊕ (String × zSt))) : Option (R ⊕ (String × zSt)) := match x with
  | none => none
  | some (.inl q) => k q.1 q.2
  | some (.inr e) => some (.inr e)
theorem zbx_e {R : Type} {x : Option zRx} {k : Int → zSt → Option (R ⊕ (String × zSt))} {r : R ⊕ (String × zSt)} (h : zbx x k = some r) : (∃ q : zRes, x = some (.inl q) ∧ k q.1 q.2 = some r) ∨ ∃ e, x = some (.inr e) ∧ r = .inr e := by
  match x, h with
  | some (.inl q), h => exact Or.inl ⟨q, rfl, h⟩
  | some (.inr e), h => exact Or.inr ⟨e, rfl, (Option.some.inj h).symm⟩
section RowsX
variable {Γ : zG} {w : zSt → va_W} {cI cZ : ClassId} {cc : ByteArray} {fr lo nL' : Nat} {own : String} {G : zSt → Prop} {S : zSt} {lv : List (Nat × Value)} {pc : Nat} {st : List Value} {ads : Nat → Nat} {ret : Option FieldType} {r : zRx}
theorem k_iretX (F : zF Γ w cI cZ cc (zroom fr lo r) nL' own) {v : Int} (hQ : zQr Γ w G (some .int) r) (hv : inR v) (hd : decode cc pc = .ok (.ireturn, 1)) (h : some (Sum.inl (v, S)) = some r) : zk Γ w G S lv pc [.int (zI v)] := by
  cases h
  exact k_iret F hQ hv hd rfl
theorem k_zretX (F : zF Γ w cI cZ cc (zroom fr lo r) nL' own) {v : Int} (hQ : zQr Γ w G (some .boolean) r) (hv : v = 0 ∨ v = 1) (hd : decode cc pc = .ok (.ireturn, 1)) (h : some (Sum.inl (v, S)) = some r) : zk Γ w G S lv pc [.int (zI v)] := by
  cases h
  exact k_zret F hQ hv hd rfl
theorem k_vretX (F : zF Γ w cI cZ cc (zroom fr lo r) nL' own) (hQ : zQr Γ w G none r) (hd : decode cc pc = .ok (.return_, 1)) (h : some (Sum.inl ((0 : Int), S)) = some r) : zk Γ w G S lv pc [] := by
  cases h
  exact k_vret (x := 0) F hQ hd rfl
theorem k_throwS (F : zF Γ w cI cZ cc (zroom fr lo r) nL' RX8) (X : zX Γ ads) (hQ : zQr Γ w G ret r) {E text : String} {ik is ic : Nat} (ht : zThr ik ic E) (hs : (is, text) ∈ zSTR) (hfr : 5 < fr) (hlo : (st.map fun v => v.category).sum + 82 ≤ lo)
    (d0 : decode cc pc = .ok (.new ik, 3)) (d3 : decode cc (pc + 3) = .ok (.dup, 1)) (d4 : decode cc (pc + 4) = .ok (.ldc is, 2)) (d6 : decode cc (pc + 6) = .ok (.invokespecial ic, 3)) (d9 : decode cc (pc + 9) = .ok (.athrow, 1)) (h : some (Sum.inr (E, S)) = some r) : zk Γ w G S lv pc st := by
  cases h
  obtain ⟨p, l, e, R, s, m, args, below, meth, c, Q, D, A, k0, n0, nL⟩ := Γ
  obtain ⟨hx, hb, hml, hown, hts, ⟨hK, hN⟩, hD, rfl, hk0, hn0, rfl⟩ := F
  have hQ : zQx (p, l, e, zroom fr lo (Sum.inr (E, S)), s, m, args, below, meth, c, Q, D, A, k0, n0, nL) w G E S := by cases ret <;> exact hQ
  obtain ⟨rfl, rfl, rfl, htab, hlk⟩ := hQ
  obtain ⟨hst, hU, hNN, hSt, hCa, hDe⟩ := X
  obtain ⟨t1, t2, t3, t4, t5, t6, t7⟩ := ht
  intro hG H locs ls hP hS hh
  have hat : ∀ w ∈ vx_atS RX8 ic E zNMS, w.before args s = true := vx_hat (fun w h => hts w (t3 w h)) t4 (fun w hw => by
    rcases List.mem_append.mp hw with hw | hw
    · obtain ⟨q, hq, rfl⟩ := List.mem_map.mp hw
      exact va_Nw.use rfl (hCa q hq)
    · obtain ⟨q, hq, rfl⟩ := List.mem_map.mp hw
      exact va_Nw.use rfl (hDe q hq))
  refine vx_throwS (names := zNMS) (text := text) hx hb hst hown t6 t7 (hts _ t1) (hts _ t2) (hSt _ hs) hat t5 hU hNN hS (hh.1.trans hml.symm) d0 d3 d4 d6 d9 (fun x hx => (htab x hx).elim) hfr (by exact hlo) (Nat.le_refl 1) (Nat.le_refl 6) hlk (fun t hvm hz hk => ?_) hS.2.2 (Nat.le_refl 1) (Nat.le_refl 6)
  refine ⟨(), hG, ⟨rfl, fun k q hq => (hP k q hq).kept (hk _ (hP k q hq).lt)⟩, Nat.le_trans hS.1 hz, fun q h1 h2 => ?_⟩
  rw [hk q (Nat.lt_of_lt_of_le h1 hS.1)]
  exact hS.2.1 q h1 h2
theorem k_throwW (F : zF Γ w cI cZ cc (zroom fr lo r) nL' RX8) (X : zX Γ ads) (hQ : zQr Γ w G ret r) {E text : String} {ik is ic : Nat} (ht : zThr ik ic E) (hs : (is, text) ∈ zSTR) (hfr : 5 < fr) (hlo : (st.map fun v => v.category).sum + 82 ≤ lo)
    (d0 : decode cc pc = .ok (.new ik, 3)) (d3 : decode cc (pc + 3) = .ok (.dup, 1)) (d4 : decode cc (pc + 4) = .ok (.ldc_w is, 3)) (d6 : decode cc (pc + 7) = .ok (.invokespecial ic, 3)) (d9 : decode cc (pc + 10) = .ok (.athrow, 1)) (h : some (Sum.inr (E, S)) = some r) : zk Γ w G S lv pc st := by
  cases h
  obtain ⟨p, l, e, R, s, m, args, below, meth, c, Q, D, A, k0, n0, nL⟩ := Γ
  obtain ⟨hx, hb, hml, hown, hts, ⟨hK, hN⟩, hD, rfl, hk0, hn0, rfl⟩ := F
  have hQ : zQx (p, l, e, zroom fr lo (Sum.inr (E, S)), s, m, args, below, meth, c, Q, D, A, k0, n0, nL) w G E S := by cases ret <;> exact hQ
  obtain ⟨rfl, rfl, rfl, htab, hlk⟩ := hQ
  obtain ⟨hst, hU, hNN, hSt, hCa, hDe⟩ := X
  obtain ⟨t1, t2, t3, t4, t5, t6, t7⟩ := ht
  intro hG H locs ls hP hS hh
  have hat : ∀ w ∈ vx_atS RX8 ic E zNMS, w.before args s = true := vx_hat (fun w h => hts w (t3 w h)) t4 (fun w hw => by
    rcases List.mem_append.mp hw with hw | hw
    · obtain ⟨q, hq, rfl⟩ := List.mem_map.mp hw
      exact va_Nw.use rfl (hCa q hq)
    · obtain ⟨q, hq, rfl⟩ := List.mem_map.mp hw
      exact va_Nw.use rfl (hDe q hq))
  refine vx_throwSW (names := zNMS) (text := text) hx hb hst hown t6 t7 (hts _ t1) (hts _ t2) (hSt _ hs) hat t5 hU hNN hS (hh.1.trans hml.symm) d0 d3 d4 d6 d9 (fun x hx => (htab x hx).elim) hfr (by exact hlo) (Nat.le_refl 1) (Nat.le_refl 6) hlk (fun t hvm hz hk => ?_) hS.2.2 (Nat.le_refl 1) (Nat.le_refl 6)
  refine ⟨(), hG, ⟨rfl, fun k q hq => (hP k q hq).kept (hk _ (hP k q hq).lt)⟩, Nat.le_trans hS.1 hz, fun q h1 h2 => ?_⟩
  rw [hk q (Nat.lt_of_lt_of_le h1 hS.1)]
  exact hS.2.1 q h1 h2
theorem k_callXV (F : zF Γ w cI cZ cc (zroom fr lo r) nL' own) (X : zX Γ ads) (hQ : zQr Γ w G ret r) {y : MethodName} {cy : ByteArray} {mL n idx fr2 lo2 : Nat} {As : List Value} {K : Int → zSt → Option zRx} {x0 : Option zRx} {C : String} {a : Nat} (hc : zCal C y cy mL none n) (hl : Cond.methodLink own idx y ∈ WS) (ho : zOb w a C)
    (hM : ∀ (l : Launch) (D : va_G) (A : Nat → Prop), l.stackTraces = false → (∀ S, va_D A (w S)) → G S → ∀ r', x0 = some r' → zMr l y cy mL none fr2 lo2 D cI cZ ads A w G (.ref a :: As) S r')
    (hR : fr2 + 1 ≤ fr ∧ 8 + (mL + 11) + lo2 ≤ lo) (hn : As.length = n) {st0 : List Value} (hst0 : st0 = As.reverse ++ .ref a :: st) (hW : (st.map fun v => v.category).sum ≤ 8) (hd : decode cc pc = .ok (.invokevirtual idx, 3)) (h : zbx x0 K = some r) (kk : ∀ x S, K x S = some r → zk Γ w G S lv (pc + 3) st) : zk Γ w G S lv pc st0 := by
  obtain ⟨p, l, e, R, s, m, args, below, meth, c, Q, D, A, k0, n0, nL⟩ := Γ
  have X' := X
  obtain ⟨hst, hT⟩ := X
  obtain ⟨c1, c2, c3, c4, c5, c6, c7⟩ := hc
  have hg : GoodIn WS (wsV own idx C y (Cond.code y cy mL none :: WS)) := WS_sub (fun _ h => h) (fun w hw => by
    simp only [wsV, List.mem_append, List.mem_cons, List.not_mem_nil, or_false] at hw
    rcases hw with (rfl | rfl | rfl | rfl) | rfl | hw
    · exact hl
    · exact c1
    · exact c2
    · exact c3
    · exact c4
    · exact hw)
  rcases zbx_e h with ⟨q, h1, h2⟩ | ⟨q, h1, rfl⟩
  · obtain ⟨hx, hb, hml, hown, hts, ⟨hK, hN⟩, hD, rfl, hk0, hn0, rfl⟩ := F
    intro hG H locs ls hP hS hh
    have hpc : ∀ U : State, U.heap = H → s.WarmedH U.vm → zPc D cI cZ ads A w (.ref a :: As) S (Value.ref a :: As).toArray U := fun U hU hW => ⟨rfl, by rw [hU]; exact hP, zK.warm hW ⟨hK, hN⟩, zT.go hW (by rw [hU]; exact hS.2.1) hT⟩
    subst hst0
    refine va_callv (va_runV (As := As) (rest := st) ⟨hx, hb, hml, hown, hts⟩ (hM l D A hst hD hG (.inl q) h1) (cwV n hts hg rfl rfl rfl ⟨c5, c6.1, c6.2, c7⟩ ⟨hR.1, hR.2⟩) ⟨zPc.blind, ho.recv hK hP, hpc⟩ rfl hn hh.1 rfl (lv_room hW) hd ⟨hk0, hn0⟩) hS (fun q _ h => h) (fun q h => h) (fun u t H1 locs1 ht hvm hw hB hz1 hk1 hS1 => ?_)
    rw [ht] at hB
    exact kk q.1 q.2 h2 hw H1 locs1 ls hB hS1 hh
  · have hQ : zQx (p, l, e, R, s, m, args, below, meth, c, Q, D, A, k0, n0, nL) w G q.1 q.2 := by cases ret <;> exact hQ
    obtain ⟨hx, hb, hml, hown, hts, ⟨hK, hN⟩, hD, rfl, hk0, hn0, rfl⟩ := F
    obtain ⟨rfl, rfl, rfl, htab, hlk⟩ := hQ
    intro hG H locs ls hP hS hh
    have hpc : ∀ U : State, U.heap = H → s.WarmedH U.vm → zPc D cI cZ ads A w (.ref a :: As) S (Value.ref a :: As).toArray U := fun U hU hW => ⟨rfl, by rw [hU]; exact hP, zK.warm hW ⟨hK, hN⟩, zT.go hW (by rw [hU]; exact hS.2.1) hT⟩
    subst hst0
    refine vx_callv (vx_runV (As := As) (rest := st) ⟨hx, hb, hml, hown, hts⟩ (hM l D A hst hD hG (.inr q) h1) (cwV n hts hg rfl rfl rfl ⟨c5, c6.1, c6.2, c7⟩ ⟨hR.1, hR.2⟩) ⟨zPc.blind, ho.recv hK hP, hpc⟩ rfl hn hh.1 rfl (lv_room hW) hd ⟨Nat.le_refl 1, Nat.le_refl 6⟩) hS (fun q _ h => h) (fun q h => h) (fun q _ h => h) (fun E ce q9 u t H1 locs1 ht hvm hw hB hz1 hk1 hS1 hce hcv hcl => ?_) (fun u t H1 locs1 ht hvm hw hB hz1 hk1 hS1 => hw.elim)
    rw [ht] at hB
    obtain ⟨rfl, hB⟩ := hB
    exact vx_out (fun x hx => (htab x hx).elim) hlk hce hcv hcl (fun t2 ht2 hv2 => ⟨(), hw, ⟨rfl, by rw [ht2]; exact hB⟩, hS1.F ht2⟩) hS1.2.2 (Nat.le_refl 1) (Nat.le_refl 6)
theorem k_callXS (F : zF Γ w cI cZ cc (zroom fr lo r) nL' own) (X : zX Γ ads) (hQ : zQr Γ w G ret r) {y : MethodName} {cy : ByteArray} {mL n idx fr2 lo2 : Nat} {As : List Value} {K : Int → zSt → Option zRx} {x0 : Option zRx} {C : String} (hc : zCas C y cy mL none n) (hl : Cond.methodLink own idx y ∈ WS)
    (hM : ∀ (l : Launch) (D : va_G) (A : Nat → Prop), l.stackTraces = false → (∀ S, va_D A (w S)) → G S → ∀ r', x0 = some r' → zMr l y cy mL none fr2 lo2 D cI cZ ads A w G As S r')
    (hR : fr2 + 1 ≤ fr ∧ 8 + (mL + 11) + lo2 ≤ lo) (hn : As.length = n) {st0 : List Value} (hst0 : st0 = As.reverse ++ st) (hW : (st.map fun v => v.category).sum ≤ 8) (hd : decode cc pc = .ok (.invokestatic idx, 3)) (h : zbx x0 K = some r) (kk : ∀ x S, K x S = some r → zk Γ w G S lv (pc + 3) st) : zk Γ w G S lv pc st0 := by
  obtain ⟨p, l, e, R, s, m, args, below, meth, c, Q, D, A, k0, n0, nL⟩ := Γ
  have X' := X
  obtain ⟨hst, hT⟩ := X
  obtain ⟨c1, c3, c4, c5, c6, c7⟩ := hc
  have hg : GoodIn WS (Cond.code y cy mL none :: WS) := WS_sub (fun _ h => h) (fun w hw => by
    simp only [List.mem_cons] at hw
    rcases hw with rfl | hw
    · exact c4
    · exact hw)
  rcases zbx_e h with ⟨q, h1, h2⟩ | ⟨q, h1, rfl⟩
  · obtain ⟨hx, hb, hml, hown, hts, ⟨hK, hN⟩, hD, rfl, hk0, hn0, rfl⟩ := F
    intro hG H locs ls hP hS hh
    have hpc : ∀ U : State, U.heap = H → s.WarmedH U.vm → zPc D cI cZ ads A w As S As.toArray U := fun U hU hW => ⟨rfl, by rw [hU]; exact hP, zK.warm hW ⟨hK, hN⟩, zT.go hW (by rw [hU]; exact hS.2.1) hT⟩
    subst hst0
    refine va_callv (va_runS (As := As) (rest := st) ⟨hx, hb, hml, hown, hts⟩ (hM l D A hst hD hG (.inl q) h1) ⟨callB_of n hts hg rfl rfl rfl (by rw [c5]; exact hts _ c3) (hts _ hl) ⟨c6.1, c6.2, c7⟩ ⟨hR.1, hR.2⟩, hts _ c1⟩ ⟨zPc.blind, hpc⟩ rfl hn hh.1 rfl (lv_room hW) hd ⟨hk0, hn0⟩) hS (fun q _ h => h) (fun q h => h) (fun u t H1 locs1 ht hvm hw hB hz1 hk1 hS1 => ?_)
    rw [ht] at hB
    exact kk q.1 q.2 h2 hw H1 locs1 ls hB hS1 hh
  · have hQ : zQx (p, l, e, R, s, m, args, below, meth, c, Q, D, A, k0, n0, nL) w G q.1 q.2 := by cases ret <;> exact hQ
    obtain ⟨hx, hb, hml, hown, hts, ⟨hK, hN⟩, hD, rfl, hk0, hn0, rfl⟩ := F
    obtain ⟨rfl, rfl, rfl, htab, hlk⟩ := hQ
    intro hG H locs ls hP hS hh
    have hpc : ∀ U : State, U.heap = H → s.WarmedH U.vm → zPc D cI cZ ads A w As S As.toArray U := fun U hU hW => ⟨rfl, by rw [hU]; exact hP, zK.warm hW ⟨hK, hN⟩, zT.go hW (by rw [hU]; exact hS.2.1) hT⟩
    subst hst0
    refine vx_callv (vx_runS (As := As) (rest := st) ⟨hx, hb, hml, hown, hts⟩ (hM l D A hst hD hG (.inr q) h1) ⟨callB_of n hts hg rfl rfl rfl (by rw [c5]; exact hts _ c3) (hts _ hl) ⟨c6.1, c6.2, c7⟩ ⟨hR.1, hR.2⟩, hts _ c1⟩ ⟨zPc.blind, hpc⟩ rfl hn hh.1 rfl (lv_room hW) hd ⟨Nat.le_refl 1, Nat.le_refl 6⟩) hS (fun q _ h => h) (fun q h => h) (fun q _ h => h) (fun E ce q9 u t H1 locs1 ht hvm hw hB hz1 hk1 hS1 hce hcv hcl => ?_) (fun u t H1 locs1 ht hvm hw hB hz1 hk1 hS1 => hw.elim)
    rw [ht] at hB
    obtain ⟨rfl, hB⟩ := hB
    exact vx_out (fun x hx => (htab x hx).elim) hlk hce hcv hcl (fun t2 ht2 hv2 => ⟨(), hw, ⟨rfl, by rw [ht2]; exact hB⟩, hS1.F ht2⟩) hS1.2.2 (Nat.le_refl 1) (Nat.le_refl 6)
end RowsX
